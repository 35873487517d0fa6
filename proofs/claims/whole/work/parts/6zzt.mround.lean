/-! ===== round of the reference ===== -/
theorem d8m : ∀ t : Nat, t < 64 → (t : Int).tmod 8 = ((t % 8 : Nat) : Int) := by decide +kernel
theorem d8d : ∀ t : Nat, t < 64 → zw32 ((t : Int).tdiv 8) = ((t / 8 : Nat) : Int) := by decide +kernel
def rC (r : Int) (t q : Nat) : Prop := (t % 8 ≤ q % 8 ∧ q / 8 ≤ t / 8 ∧ t ≠ q) ∧ ((t / 8 : Nat) : Int) ≤ r
def rG (r : Int) (s t q : Nat) : Int := if (t % 8 ≤ q % 8 ∧ q / 8 ≤ t / 8 ∧ t ≠ q) ∧ ((t / 8 : Nat) : Int) ≤ r then max (rT r s q) (ofS ((q % 8 : Nat) : Int) ((q / 8 : Nat) : Int) ((t % 8 : Nat) : Int) ((t / 8 : Nat) : Int) r) else 1000000
theorem rT_s (r : Int) (s t : Nat) : rT r (s + 1) t = mnF (rG r s t) 64 := rfl
theorem rG_hi {r : Int} {s t p : Nat} (h : ¬ rT r s p < 1000000) : 1000000 ≤ rG r s t p := by
  unfold rG
  split
  · omega
  · exact Int.le_refl _
def rI (r : Int) (s p t0 : Nat) (m : zMm) : Prop := (∀ s' t : Nat, s' ≤ s → t < 64 → m 142 (64 * (s' : Int) + (t : Int)) = rT r s' t) ∧ (∀ t : Nat, t < 64 → m 142 (64 * ((s : Int) + 1) + (t : Int)) = mnF (rG r s t) (if t < t0 then p + 1 else p)) ∧ ∀ s' t : Nat, s + 1 < s' → s' ≤ 6 → t < 64 → m 142 (64 * (s' : Int) + (t : Int)) = 1000000
def ofF (x : Nat) (_ : Int) : Prop := x = 142
section
variable {sh : zSh} {pp : zPp} {mm : zMm} {Q : zV → zSh → zPp → zMm → Prop} {f : Int → Int} {G : Int → Option (Int → Int)} {cn : Int → Int} {N D : Nat}
theorem rStep (h : zLy sh pp) {r n : Int} {s p t : Nat} (r0 : 0 ≤ r) (r7 : r ≤ 7) (hs : s < 6) (hp : p < 64) (ht : t < 64) (hQ1 : rC r t p → zS 235 250 [zR 122, zI r, zI n, zI (s : Int), zI (p : Int), zI ((p % 8 : Nat) : Int), zI ((p / 8 : Nat) : Int), zI (t : Int), zU, zU] [] sh pp (zupd mm 142 (64 * ((s : Int) + 1) + (t : Int)) (min (max (mm 142 (64 * (s : Int) + (p : Int))) (ofS ((p % 8 : Nat) : Int) ((p / 8 : Nat) : Int) ((t % 8 : Nat) : Int) ((t / 8 : Nat) : Int) r)) (mm 142 (64 * ((s : Int) + 1) + (t : Int))))) Q) (hQ2 : ¬ rC r t p → zS 235 250 [zR 122, zI r, zI n, zI (s : Int), zI (p : Int), zI ((p % 8 : Nat) : Int), zI ((p / 8 : Nat) : Int), zI (t : Int), zU, zU] [] sh pp mm Q) : zS 235 137 [zR 122, zI r, zI n, zI (s : Int), zI (p : Int), zI ((p % 8 : Nat) : Int), zI ((p / 8 : Nat) : Int), zI (t : Int), zU, zU] [] sh pp mm Q := by
  have k122 := k_122 h
  have k142 := k_142 h
  have l142 := l_142 h
  have p142 := p_122_35 h
  have dz : (8 : Int) ≠ 0 := by decide
  have a1 : p % 8 ≤ 7 := by omega
  have a2 : p / 8 ≤ 7 := by omega
  have a3 : t % 8 ≤ 7 := by omega
  have a4 : t / 8 ≤ 7 := by omega
  unfold rC at hQ1 hQ2
  generalize p % 8 = x at *
  generalize p / 8 = y at *
  generalize hu : t % 8 = u at *
  generalize hv : t / 8 = v at *
  by_cases c1 : (x : Int) < (u : Int)
  · have q := hQ2 (by omega)
    clear hQ1 hQ2
    have m1 : (t : Int).tmod 8 = (u : Int) := by rw [← hu]; exact d8m t ht
    have m2 : zw32 ((t : Int).tdiv 8) = (v : Int) := by rw [← hv]; exact d8d t ht
    simp (disch := assumption) only [rM_round_137, rM_round_139, rM_round_141, rM_round_142, rM_round_144, m1, eq_true c1, true_implies, not_true_eq_false, false_implies, and_true]
    exact q
  · by_cases c2 : (v : Int) < (y : Int)
    · have q := hQ2 (by omega)
      clear hQ1 hQ2
      have m1 : (t : Int).tmod 8 = (u : Int) := by rw [← hu]; exact d8m t ht
      have m2 : zw32 ((t : Int).tdiv 8) = (v : Int) := by rw [← hv]; exact d8d t ht
      simp (disch := assumption) only [rM_round_137, rM_round_139, rM_round_141, rM_round_142, rM_round_144, rM_round_147, rM_round_149, rM_round_151, rM_round_152, rM_round_154, m1, m2, eq_false c1, eq_true c2, true_implies, not_true_eq_false, not_false_eq_true, false_implies, and_true, true_and]
      exact q
    · by_cases c3 : (t : Int) = (p : Int)
      · have q := hQ2 (by omega)
        clear hQ1 hQ2
        have m1 : (t : Int).tmod 8 = (u : Int) := by rw [← hu]; exact d8m t ht
        have m2 : zw32 ((t : Int).tdiv 8) = (v : Int) := by rw [← hv]; exact d8d t ht
        simp (disch := assumption) only [rM_round_137, rM_round_139, rM_round_141, rM_round_142, rM_round_144, rM_round_147, rM_round_149, rM_round_151, rM_round_152, rM_round_154, rM_round_157, rM_round_159, rM_round_161, m1, m2, eq_false c1, eq_false c2, eq_true c3, true_implies, not_true_eq_false, not_false_eq_true, false_implies, and_true, true_and]
        exact q
      · by_cases c4 : r < (v : Int)
        · have q := hQ2 (by omega)
          clear hQ1 hQ2
          have m1 : (t : Int).tmod 8 = (u : Int) := by rw [← hu]; exact d8m t ht
          have m2 : zw32 ((t : Int).tdiv 8) = (v : Int) := by rw [← hv]; exact d8d t ht
          simp (disch := assumption) only [rM_round_137, rM_round_139, rM_round_141, rM_round_142, rM_round_144, rM_round_147, rM_round_149, rM_round_151, rM_round_152, rM_round_154, rM_round_157, rM_round_159, rM_round_161, rM_round_164, rM_round_166, rM_round_168, rM_round_169, rM_round_170, m1, m2, eq_false c1, eq_false c2, eq_false c3, eq_true c4, true_implies, not_true_eq_false, not_false_eq_true, false_implies, and_true, true_and]
          exact q
        · have q := hQ1 (by omega)
          clear hQ1 hQ2
          have ho := fun (Q : zV → zSh → zPp → zMm → Prop) => kM_offAlong (sh := sh) (pp := pp) (mm := mm) (Q := Q) (x := (x : Int)) (y := (y : Int)) (x' := (u : Int)) (y' := (v : Int)) (r := r) (by omega) (by omega) ⟨r0, r7⟩
          generalize ofS (x : Int) (y : Int) (u : Int) (v : Int) r = V at *
          have i0 : 0 ≤ 64 * (s : Int) + (p : Int) := by omega
          have i1 : 64 * (s : Int) + (p : Int) < zLn sh 142 := by omega
          have w1 : zw32 (64 * (s : Int)) = 64 * (s : Int) := by exact zw32_id (by omega) (by omega)
          have w2 : zw32 (64 * (s : Int) + (p : Int)) = 64 * (s : Int) + (p : Int) := by clear w1; exact zw32_id (by omega) (by omega)
          have kb : zKd sh 142 = 20 ∨ zKd sh 142 = 30 := Or.inl k142
          have m1 : (t : Int).tmod 8 = (u : Int) := by rw [← hu]; exact d8m t ht
          have m2 : zw32 ((t : Int).tdiv 8) = (v : Int) := by rw [← hv]; exact d8d t ht
          simp (disch := assumption) only [rM_round_137, rM_round_139, rM_round_141, rM_round_142, rM_round_144, rM_round_147, rM_round_149, rM_round_151, rM_round_152, rM_round_154, rM_round_157, rM_round_159, rM_round_161, rM_round_164, rM_round_166, rM_round_168, rM_round_169, rM_round_170, rM_round_173, rM_round_174, rM_round_177, rM_round_179, rM_round_180, rM_round_181, rM_round_183, rM_round_184, rM_round_185, rM_round_187, rM_round_189, rM_round_191, rM_round_193, rM_round_194, rM_round_196, rM_round_198, rM_round_199, rM_round_200, rM_round_203, kM_greater, ho, m1, m2, w1, w2, p142, eq_false c1, eq_false c2, eq_false c3, eq_false c4, true_implies, not_true_eq_false, not_false_eq_true, false_implies, and_true, true_and, zPush_I]
          clear m1 m2 w1 w2 ho
          generalize max (mm 142 (64 * (s : Int) + (p : Int))) V = Z at *
          by_cases hl : Z < mm 142 (64 * ((s : Int) + 1) + (t : Int))
          · rw [Int.min_eq_left (by omega)] at q
            simp (disch := first | assumption | omega) only [rM_round_206, rM_round_208, rM_round_210, rM_round_211, rM_round_212, rM_round_213, rM_round_214, rM_round_216, rM_round_217, rM_round_219, rM_round_220, rM_round_223, rM_round_225, rM_round_227, rM_round_228, rM_round_231, rM_round_233, rM_round_234, rM_round_237, rM_round_239, rM_round_242, rM_round_243, rM_round_246, rM_round_248, rM_round_249, Bool.false_eq_true, true_implies, false_implies, implies_true, true_and, and_true, not_true_eq_false, not_false_eq_true, zPush_I, zPush_L, zPush_R, zPush_U, Int.reduceLT, Int.reduceLE, Int.reduceEq, Int.reduceNe, Int.reduceAdd, Int.reduceSub, Int.reduceMul, Int.reduceNeg, Int.reduceToNat, Nat.reduceAdd, Nat.reduceMul, Nat.reduceEqDiff, zw32_id, zw64_id, zupd_eq, zupd_na, zupd_ni, zupp_eq, zupp_na, zupp_ni, p142, eq_true hl]
            exact q
          · rw [Int.min_eq_right (by omega)] at q
            simp (disch := first | assumption | omega) only [rM_round_206, rM_round_208, rM_round_210, rM_round_211, rM_round_212, rM_round_213, rM_round_214, rM_round_216, rM_round_217, rM_round_219, rM_round_220, rM_round_223, rM_round_225, rM_round_227, rM_round_228, rM_round_231, rM_round_233, rM_round_234, rM_round_237, rM_round_239, rM_round_242, rM_round_243, rM_round_246, rM_round_248, rM_round_249, Bool.false_eq_true, true_implies, false_implies, implies_true, true_and, and_true, not_true_eq_false, not_false_eq_true, zPush_I, zPush_L, zPush_R, zPush_U, Int.reduceLT, Int.reduceLE, Int.reduceEq, Int.reduceNe, Int.reduceAdd, Int.reduceSub, Int.reduceMul, Int.reduceNeg, Int.reduceToNat, Nat.reduceAdd, Nat.reduceMul, Nat.reduceEqDiff, zw32_id, zw64_id, zupd_eq, zupd_na, zupd_ni, zupp_eq, zupp_na, zupp_ni, p142, eq_false hl]
            exact q
theorem rTo (h : zLy sh pp) {r n : Int} {s p : Nat} (r0 : 0 ≤ r) (r7 : r ≤ 7) (hs : s < 6) (hp : p < 64) (hz : ∀ m', frP ofF mm m' → rI r s (p + 1) 0 m' → zS 235 256 [zR 122, zI r, zI n, zI (s : Int), zI (p : Int), zU, zU, zU, zU, zU] [] sh pp m' Q) : ∀ (d t : Nat) (m1 : zMm), t + d = 64 → frP ofF mm m1 → rI r s p t m1 → zS 235 112 [zR 122, zI r, zI n, zI (s : Int), zI (p : Int), zI ((p % 8 : Nat) : Int), zI ((p / 8 : Nat) : Int), zI (t : Int), zU, zU] [] sh pp m1 Q := by
  have k122 := k_122 h
  have k142 := k_142 h
  have l142 := l_142 h
  have p142 := p_122_35 h
  intro d
  induction d with
  | zero =>
    intro t m1 ht hf hI
    have q := hz m1 hf ⟨hI.1, fun t' ht' => by rw [if_neg (by omega), hI.2.1 t' ht', if_pos (by omega)], hI.2.2⟩
    rw [rM_round_112]
    simp (disch := first | assumption | omega) only [rM_round_114, rM_round_116, Bool.false_eq_true, true_implies, false_implies, implies_true, true_and, and_true, not_true_eq_false, not_false_eq_true, zPush_I, zPush_L, zPush_R, zPush_U, Int.reduceLT, Int.reduceLE, Int.reduceEq, Int.reduceNe, Int.reduceAdd, Int.reduceSub, Int.reduceMul, Int.reduceNeg, Int.reduceToNat, Nat.reduceAdd, Nat.reduceMul, Nat.reduceEqDiff, zw32_id, zw64_id, zupd_eq, zupd_na, zupd_ni, zupp_eq, zupp_na, zupp_ni, eq_false (show ¬ (t : Int) < 64 by omega)]
    exact q
  | succ d ih =>
    intro t m1 ht hf hI
    have ht4 : t < 64 := by omega
    have e0 := hI.1 s p (Nat.le_refl s) hp
    rw [rM_round_112]
    by_cases hl : rT r s p < 1000000
    · simp (disch := first | assumption | omega) only [rM_round_114, rM_round_116, rM_round_119, rM_round_120, rM_round_123, rM_round_125, rM_round_126, rM_round_127, rM_round_129, rM_round_130, rM_round_131, rM_round_134, Bool.false_eq_true, true_implies, false_implies, implies_true, true_and, and_true, not_true_eq_false, not_false_eq_true, zPush_I, zPush_L, zPush_R, zPush_U, Int.reduceLT, Int.reduceLE, Int.reduceEq, Int.reduceNe, Int.reduceAdd, Int.reduceSub, Int.reduceMul, Int.reduceNeg, Int.reduceToNat, Nat.reduceAdd, Nat.reduceMul, Nat.reduceEqDiff, zw32_id, zw64_id, zupd_eq, zupd_na, zupd_ni, zupp_eq, zupp_na, zupp_ni, p142, e0, eq_true (show (t : Int) < 64 by omega), eq_true hl]
      refine rStep h r0 r7 hs hp ht4 (fun hc => ?_) (fun hc => ?_)
      · have n := ih (t + 1) _ (by omega) (frP_up hf (x := 142) (i := 64 * ((s : Int) + 1) + (t : Int)) (v := min (max (m1 142 (64 * (s : Int) + (p : Int))) (ofS ((p % 8 : Nat) : Int) ((p / 8 : Nat) : Int) ((t % 8 : Nat) : Int) ((t / 8 : Nat) : Int) r)) (m1 142 (64 * ((s : Int) + 1) + (t : Int)))) rfl) ⟨fun s' t' a b => by rw [zupd_ni (by omega)]; exact hI.1 s' t' a b, fun t' ht' => ?_, fun s' t' a b c => by rw [zupd_ni (by omega)]; exact hI.2.2 s' t' a b c⟩
        · rw [show ((t + 1 : Nat) : Int) = (t : Int) + 1 by omega] at n
          simp (disch := first | assumption | omega) only [rM_round_250, rM_round_253, Bool.false_eq_true, true_implies, false_implies, implies_true, true_and, and_true, not_true_eq_false, not_false_eq_true, zPush_I, zPush_L, zPush_R, zPush_U, Int.reduceLT, Int.reduceLE, Int.reduceEq, Int.reduceNe, Int.reduceAdd, Int.reduceSub, Int.reduceMul, Int.reduceNeg, Int.reduceToNat, Nat.reduceAdd, Nat.reduceMul, Nat.reduceEqDiff, zw32_id, zw64_id, zupd_eq, zupd_na, zupd_ni, zupp_eq, zupp_na, zupp_ni]
          exact n
        · by_cases e : t' = t
          · subst e
            rw [zupd_eq, if_pos (by omega), e0, hI.2.1 t' ht', if_neg (by omega)]
            show _ = min (mnF (rG r s t') p) (rG r s t' p)
            have eg : rG r s t' p = max (rT r s p) (ofS ((p % 8 : Nat) : Int) ((p / 8 : Nat) : Int) ((t' % 8 : Nat) : Int) ((t' / 8 : Nat) : Int) r) := if_pos hc
            rw [eg, Int.min_comm]
          · rw [zupd_ni (by omega), hI.2.1 t' ht']
            by_cases lt : t' < t
            · rw [if_pos lt, if_pos (by omega)]
            · rw [if_neg lt, if_neg (by omega)]
      · have n := ih (t + 1) m1 (by omega) hf ⟨hI.1, fun t' ht' => ?_, hI.2.2⟩
        · rw [show ((t + 1 : Nat) : Int) = (t : Int) + 1 by omega] at n
          simp (disch := first | assumption | omega) only [rM_round_250, rM_round_253, Bool.false_eq_true, true_implies, false_implies, implies_true, true_and, and_true, not_true_eq_false, not_false_eq_true, zPush_I, zPush_L, zPush_R, zPush_U, Int.reduceLT, Int.reduceLE, Int.reduceEq, Int.reduceNe, Int.reduceAdd, Int.reduceSub, Int.reduceMul, Int.reduceNeg, Int.reduceToNat, Nat.reduceAdd, Nat.reduceMul, Nat.reduceEqDiff, zw32_id, zw64_id, zupd_eq, zupd_na, zupd_ni, zupp_eq, zupp_na, zupp_ni]
          exact n
        · rw [hI.2.1 t' ht']
          by_cases e : t' = t
          · subst e
            rw [if_neg (by omega), if_pos (by omega)]
            show _ = min (mnF (rG r s t') p) (rG r s t' p)
            have eg : rG r s t' p = 1000000 := if_neg hc
            rw [eg, Int.min_eq_left (mnF_M _ _)]
          · by_cases lt : t' < t
            · rw [if_pos lt, if_pos (by omega)]
            · rw [if_neg lt, if_neg (by omega)]
    · have q := hz m1 hf ⟨hI.1, fun t' ht' => by
        rw [if_neg (by omega), hI.2.1 t' ht']
        have e : mnF (rG r s t') (p + 1) = mnF (rG r s t') p := by
          show min (mnF (rG r s t') p) (rG r s t' p) = _
          have z1 := mnF_M (rG r s t') p
          have z2 := rG_hi (t := t') hl
          omega
        rw [e]
        split
        · exact e
        · rfl, hI.2.2⟩
      simp (disch := first | assumption | omega) only [rM_round_114, rM_round_116, rM_round_119, rM_round_120, rM_round_123, rM_round_125, rM_round_126, rM_round_127, rM_round_129, rM_round_130, rM_round_131, rM_round_134, Bool.false_eq_true, true_implies, false_implies, implies_true, true_and, and_true, not_true_eq_false, not_false_eq_true, zPush_I, zPush_L, zPush_R, zPush_U, Int.reduceLT, Int.reduceLE, Int.reduceEq, Int.reduceNe, Int.reduceAdd, Int.reduceSub, Int.reduceMul, Int.reduceNeg, Int.reduceToNat, Nat.reduceAdd, Nat.reduceMul, Nat.reduceEqDiff, zw32_id, zw64_id, zupd_eq, zupd_na, zupd_ni, zupp_eq, zupp_na, zupp_ni, p142, e0, eq_true (show (t : Int) < 64 by omega), eq_false hl]
      exact q
end
