/-! ===== bends of the reference: all lines from a corner ===== -/
theorem mnF_ex {g : Nat → Int} : ∀ n, mnF g n < 1000000 → ∃ q, q < n ∧ mnF g n = g q
  | 0, h => by unfold mnF at h; omega
  | n + 1, h => by
    have e : mnF g (n + 1) = min (mnF g n) (g n) := rfl
    rw [e] at h ⊢
    by_cases hc : mnF g n ≤ g n
    · rw [Int.min_eq_left hc] at h ⊢
      obtain ⟨q, a, b⟩ := mnF_ex n h
      exact ⟨q, by omega, b⟩
    · rw [Int.min_eq_right (by omega)]
      exact ⟨n, by omega, rfl⟩
def beF (x : Nat) (_ : Int) : Prop := x = 141
def bnF (x : Nat) (_ : Int) : Prop := x = 137 ∨ x = 138 ∨ x = 141
def bD (S0 : Nat) (W0 : Int) (i0 : Nat) (S e : Nat) (hx hy : Int) : Prop := S < S0 ∨ (S = S0 ∧ (3 * (hx + 1) + hy + 1 < W0 ∨ (3 * (hx + 1) + hy + 1 = W0 ∧ e < i0)))
section
variable {sh : zSh} {pp : zPp} {mm : zMm} {Q : zV → zSh → zPp → zMm → Prop} {f : Int → Int} {G : Int → Option (Int → Int)} {cn : Int → Int} {N D : Nat}
theorem bFill (h : zLy sh pp) (hm : ∀ k, 0 ≤ k → k < 986 → mm 123 k = f k) (ok : fOk f) (hz : ∀ m', frP beF mm m' → (∀ k : Nat, k < 9 * 2 ^ nE f → m' 141 (k : Int) = if (k : Int) = 4 then 0 else 1000000) → zS 229 44 [zR 122, zU, zU, zU, zU] [] sh pp m' Q) : ∀ (d i : Nat) (m1 : zMm), i + d = 9 * 2 ^ nE f → frP beF mm m1 → (∀ k : Nat, k < i → m1 141 (k : Int) = if (k : Int) = 4 then 0 else 1000000) → zS 229 7 [zR 122, zU, zI (i : Int), zU, zU] [] sh pp m1 Q := by
  have k122 := k_122 h
  have k123 := k_123 h
  have l123 := l_123 h
  have p123 := p_122_0 h
  have k141 := k_141 h
  have l141 := l_141 h
  have p141 := p_122_34 h
  have l := nE_le ok
  have t : 2 ^ nE f ≤ 4096 := by simpa using Nat.pow_le_pow_right (n := 2) (by omega) l
  intro d
  induction d with
  | zero =>
    intro i m1 hi hf hk
    have hm1 : ∀ k, 0 ≤ k → k < 986 → m1 123 k = f k := fun k a b => by rw [hf 123 k (by unfold beF; omega)]; exact hm k a b
    have q := hz m1 hf (fun k hk2 => hk k (by omega))
    rw [rM_bendsFrom_7]
    simp (disch := first | assumption | omega) only [rM_bendsFrom_8, rM_bendsFrom_10, rM_bendsFrom_11, rM_bendsFrom_14, rM_bendsFrom_15, rM_bendsFrom_16, rM_bendsFrom_17, kM_allEdges h hm1 ok, Bool.false_eq_true, true_implies, false_implies, implies_true, true_and, and_true, not_true_eq_false, not_false_eq_true, zPush_I, zPush_L, zPush_R, zPush_U, Int.reduceLT, Int.reduceLE, Int.reduceEq, Int.reduceNe, Int.reduceAdd, Int.reduceSub, Int.reduceMul, Int.reduceNeg, Int.reduceToNat, Nat.reduceAdd, Nat.reduceMul, Nat.reduceEqDiff, zw32_id, zw64_id, zupd_eq, zupd_na, zupd_ni, zupp_eq, zupp_na, zupp_ni, Int.sub_add_cancel, eq_false (show ¬ (i : Int) < 9 * ((2 ^ nE f : Nat) : Int) by omega)]
    exact q
  | succ d ih =>
    intro i m1 hi hf hk
    have hm1 : ∀ k, 0 ≤ k → k < 986 → m1 123 k = f k := fun k a b => by rw [hf 123 k (by unfold beF; omega)]; exact hm k a b
    have n := ih (i + 1) (zupd m1 141 (i : Int) (if (i : Int) = 4 then 0 else 1000000)) (by omega) (frP_up hf rfl) (fun k hk2 => by
      by_cases e : k = i
      · subst e; rw [zupd_eq]
      · rw [zupd_ni (by omega)]; exact hk k (by omega))
    rw [show ((i + 1 : Nat) : Int) = (i : Int) + 1 by omega] at n
    rw [rM_bendsFrom_7]
    by_cases i4 : (i : Int) = 4
    · rw [if_pos i4] at n
      simp (disch := first | assumption | omega) only [rM_bendsFrom_8, rM_bendsFrom_10, rM_bendsFrom_11, rM_bendsFrom_14, rM_bendsFrom_15, rM_bendsFrom_16, rM_bendsFrom_17, rM_bendsFrom_20, rM_bendsFrom_21, rM_bendsFrom_24, rM_bendsFrom_25, rM_bendsFrom_26, rM_bendsFrom_27, rM_bendsFrom_30, rM_bendsFrom_31, rM_bendsFrom_34, rM_bendsFrom_37, rM_bendsFrom_38, rM_bendsFrom_41, kM_allEdges h hm1 ok, Bool.false_eq_true, true_implies, false_implies, implies_true, true_and, and_true, not_true_eq_false, not_false_eq_true, zPush_I, zPush_L, zPush_R, zPush_U, Int.reduceLT, Int.reduceLE, Int.reduceEq, Int.reduceNe, Int.reduceAdd, Int.reduceSub, Int.reduceMul, Int.reduceNeg, Int.reduceToNat, Nat.reduceAdd, Nat.reduceMul, Nat.reduceEqDiff, zw32_id, zw64_id, zupd_eq, zupd_na, zupd_ni, zupp_eq, zupp_na, zupp_ni, p141, Int.sub_add_cancel, eq_true (show (i : Int) < 9 * ((2 ^ nE f : Nat) : Int) by omega), eq_true i4]
      exact n
    · rw [if_neg i4] at n
      simp (disch := first | assumption | omega) only [rM_bendsFrom_8, rM_bendsFrom_10, rM_bendsFrom_11, rM_bendsFrom_14, rM_bendsFrom_15, rM_bendsFrom_16, rM_bendsFrom_17, rM_bendsFrom_20, rM_bendsFrom_21, rM_bendsFrom_24, rM_bendsFrom_25, rM_bendsFrom_26, rM_bendsFrom_27, rM_bendsFrom_30, rM_bendsFrom_31, rM_bendsFrom_34, rM_bendsFrom_37, rM_bendsFrom_38, rM_bendsFrom_41, kM_allEdges h hm1 ok, Bool.false_eq_true, true_implies, false_implies, implies_true, true_and, and_true, not_true_eq_false, not_false_eq_true, zPush_I, zPush_L, zPush_R, zPush_U, Int.reduceLT, Int.reduceLE, Int.reduceEq, Int.reduceNe, Int.reduceAdd, Int.reduceSub, Int.reduceMul, Int.reduceNeg, Int.reduceToNat, Nat.reduceAdd, Nat.reduceMul, Nat.reduceEqDiff, zw32_id, zw64_id, zupd_eq, zupd_na, zupd_ni, zupp_eq, zupp_na, zupp_ni, p141, Int.sub_add_cancel, eq_true (show (i : Int) < 9 * ((2 ^ nE f : Nat) : Int) by omega), eq_false i4]
      exact n
theorem bIn (h : zLy sh pp) (hm : ∀ k, 0 ≤ k → k < 986 → mm 123 k = f k) (ok : fOk f) {c S : Nat} (hc : c < 10) (hS : S < 2 ^ nE f) (hw : mm 137 S = whB f c S) {hx hy : Int} (vx : hV hx) (vy : hV hy) (hz : ∀ m', frP beF mm m' → bInv (fun _ _ => True) f c (rb m') (bD S (3 * (hx + 1) + hy + 1 + 1) 0) → zS 229 131 [zR 122, zU, zI (S : Int), zI (3 * (hx + 1) + hy + 1), zU] [] sh pp m' Q) : ∀ (d i : Nat) (m1 : zMm), i + d = nE f → frP beF mm m1 → bInv (fun _ _ => True) f c (rb m1) (bD S (3 * (hx + 1) + hy + 1) i) → zS 229 65 [zR 122, zU, zI (S : Int), zI (3 * (hx + 1) + hy + 1), zI (i : Int)] [] sh pp m1 Q := by
  have k122 := k_122 h
  have k123 := k_123 h
  have l123 := l_123 h
  have p123 := p_122_0 h
  have k137 := k_137 h
  have l137 := l_137 h
  have p137 := p_122_30 h
  have k141 := k_141 h
  have l141 := l_141 h
  have p141 := p_122_34 h
  have l := nE_le ok
  have t : 2 ^ nE f ≤ 4096 := by simpa using Nat.pow_le_pow_right (n := 2) (by omega) l
  have vx' := vx
  have vy' := vy
  unfold hV at vx' vy'
  have S4 : (S : Int) < 4096 := by omega
  intro d
  induction d with
  | zero =>
    intro i m1 hi hf hI
    have hm1 : ∀ k, 0 ≤ k → k < 986 → m1 123 k = f k := fun k a b => by rw [hf 123 k (by unfold beF; omega)]; exact hm k a b
    have e9 := hm1 983 (by decide) (by decide)
    rw [nE_eq ok] at e9
    have q := hz m1 hf (bInv_wk hI (fun S' e' w' gx gy a1 a2 a3 a4 a5 a6 a7 a8 a9 a10 => by unfold bD at a10 ⊢; omega))
    rw [rM_bendsFrom_65]
    simp (disch := first | assumption | omega) only [rM_bendsFrom_67, rM_bendsFrom_68, rM_bendsFrom_69, rM_bendsFrom_72, rM_many_0, rM_many_1, rM_many_4, rM_many_7, rM_many_8, rM_many_9, rM_many_10, Bool.false_eq_true, true_implies, false_implies, implies_true, true_and, and_true, not_true_eq_false, not_false_eq_true, zPush_I, zPush_L, zPush_R, zPush_U, Int.reduceLT, Int.reduceLE, Int.reduceEq, Int.reduceNe, Int.reduceAdd, Int.reduceSub, Int.reduceMul, Int.reduceNeg, Int.reduceToNat, Nat.reduceAdd, Nat.reduceMul, Nat.reduceEqDiff, zw32_id, zw64_id, zupd_eq, zupd_na, zupd_ni, zupp_eq, zupp_na, zupp_ni, p123, e9, eq_false (show ¬ (i : Int) < (nE f : Int) by omega)]
    exact q
  | succ d ih =>
    intro i m1 hi hf hI
    have hm1 : ∀ k, 0 ≤ k → k < 986 → m1 123 k = f k := fun k a b => by rw [hf 123 k (by unfold beF; omega)]; exact hm k a b
    have e9 := hm1 983 (by decide) (by decide)
    rw [nE_eq ok] at e9
    have hw1 : m1 137 S = whB f c S := by rw [hf 137 S (by unfold beF; omega)]; exact hw
    have lt : (i : Int) < (nE f : Int) := by omega
    have bb := hI.1 S hx hy hS vx vy
    have b := bit_i (show S < 2147483648 by omega) (show i < 31 by omega)
    have nx : ∀ m2, frP beF mm m2 → bInv (fun _ _ => True) f c (rb m2) (bD S (3 * (hx + 1) + hy + 1) (i + 1)) → zS 229 125 [zR 122, zU, zI (S : Int), zI (3 * (hx + 1) + hy + 1), zI (i : Int)] [] sh pp m2 Q := fun m2 a1 a2 => by
      have n := ih (i + 1) m2 (by omega) a1 a2
      rw [show ((i + 1 : Nat) : Int) = (i : Int) + 1 by omega] at n
      simp (disch := first | assumption | omega) only [rM_bendsFrom_125, rM_bendsFrom_128, Bool.false_eq_true, true_implies, false_implies, implies_true, true_and, and_true, not_true_eq_false, not_false_eq_true, zPush_I, zPush_L, zPush_R, zPush_U, Int.reduceLT, Int.reduceLE, Int.reduceEq, Int.reduceNe, Int.reduceAdd, Int.reduceSub, Int.reduceMul, Int.reduceNeg, Int.reduceToNat, Nat.reduceAdd, Nat.reduceMul, Nat.reduceEqDiff, zw32_id, zw64_id, zupd_eq, zupd_na, zupd_ni, zupp_eq, zupp_na, zupp_ni]
      exact n
    rw [rM_bendsFrom_65]
    by_cases hl : rb m1 S hx hy < 1000000
    · obtain ⟨ll, w, hk⟩ := hI.2.1 S hx hy hS vx vy hl
      have ww := bk_wh ok hc hk
      rw [ww.2.1] at hw1
      have hl' := hl
      unfold rb at hl'
      simp (disch := first | assumption | omega) only [rM_bendsFrom_67, rM_bendsFrom_68, rM_bendsFrom_69, rM_bendsFrom_72, rM_bendsFrom_75, rM_bendsFrom_76, rM_bendsFrom_79, rM_bendsFrom_81, rM_bendsFrom_82, rM_bendsFrom_83, rM_bendsFrom_84, rM_bendsFrom_85, rM_bendsFrom_86, rM_bendsFrom_89, rM_bendsFrom_92, rM_many_0, rM_many_1, rM_many_4, rM_many_7, rM_many_8, rM_many_9, rM_many_10, Bool.false_eq_true, true_implies, false_implies, implies_true, true_and, and_true, not_true_eq_false, not_false_eq_true, zPush_I, zPush_L, zPush_R, zPush_U, Int.reduceLT, Int.reduceLE, Int.reduceEq, Int.reduceNe, Int.reduceAdd, Int.reduceSub, Int.reduceMul, Int.reduceNeg, Int.reduceToNat, Nat.reduceAdd, Nat.reduceMul, Nat.reduceEqDiff, zw32_id, zw64_id, zupd_eq, zupd_na, zupd_ni, zupp_eq, zupp_na, zupp_ni, p123, p141, e9, eq_true lt, eq_true hl']
      by_cases hb : S.testBit i = true
      · rw [if_pos hb] at b
        have q := nx m1 hf (bInv_wk hI (fun S' e' w' gx gy a1 a2 a3 a4 a5 a6 a7 a8 a9 a10 => by
          unfold bD at a10 ⊢
          by_cases he : e' = i
          · rcases a10 with x | ⟨x, y⟩
            · exact Or.inl x
            · subst he x; rw [hb] at a3; cases a3
          · omega))
        simp (disch := first | assumption | omega) only [rM_bendsFrom_93, rM_bendsFrom_95, rM_bendsFrom_96, rM_bendsFrom_97, rM_bendsFrom_98, Bool.false_eq_true, true_implies, false_implies, implies_true, true_and, and_true, not_true_eq_false, not_false_eq_true, zPush_I, zPush_L, zPush_R, zPush_U, Int.reduceLT, Int.reduceLE, Int.reduceEq, Int.reduceNe, Int.reduceAdd, Int.reduceSub, Int.reduceMul, Int.reduceNeg, Int.reduceToNat, Nat.reduceAdd, Nat.reduceMul, Nat.reduceEqDiff, zw32_id, zw64_id, zupd_eq, zupd_na, zupd_ni, zupp_eq, zupp_na, zupp_ni, b]
        exact q
      · rw [if_neg hb] at b
        have hb' : S.testBit i = false := by simpa using hb
        have ac := fun (Q : zV → zSh → zPp → zMm → Prop) => kM_across (Q := Q) h hm1 ok (e := i) (w := w) (by omega)
        simp (disch := first | assumption | omega) only [rM_bendsFrom_93, rM_bendsFrom_95, rM_bendsFrom_96, rM_bendsFrom_97, rM_bendsFrom_98, rM_bendsFrom_101, rM_bendsFrom_102, rM_bendsFrom_104, rM_bendsFrom_105, rM_bendsFrom_108, rM_bendsFrom_109, rM_bendsFrom_110, Bool.false_eq_true, true_implies, false_implies, implies_true, true_and, and_true, not_true_eq_false, not_false_eq_true, zPush_I, zPush_L, zPush_R, zPush_U, Int.reduceLT, Int.reduceLE, Int.reduceEq, Int.reduceNe, Int.reduceAdd, Int.reduceSub, Int.reduceMul, Int.reduceNeg, Int.reduceToNat, Nat.reduceAdd, Nat.reduceMul, Nat.reduceEqDiff, zw32_id, zw64_id, zupd_eq, zupd_na, zupd_ni, zupp_eq, zupp_na, zupp_ni, p137, b, hw1, ac]
        refine ⟨fun hmt => ?_, fun hmt => ?_⟩
        · have on := fun (Q : zV → zSh → zPp → zMm → Prop) => kM_bendsOn (Q := Q) h hm1 ok hS (show i < nE f by omega) hmt hw1 vx vy bb.1 hl
          simp (disch := first | assumption | omega) only [rM_bendsFrom_113, rM_bendsFrom_114, rM_bendsFrom_117, rM_bendsFrom_118, rM_bendsFrom_119, rM_bendsFrom_120, rM_bendsFrom_122, Bool.false_eq_true, true_implies, false_implies, implies_true, true_and, and_true, not_true_eq_false, not_false_eq_true, zPush_I, zPush_L, zPush_R, zPush_U, Int.reduceLT, Int.reduceLE, Int.reduceEq, Int.reduceNe, Int.reduceAdd, Int.reduceSub, Int.reduceMul, Int.reduceNeg, Int.reduceToNat, Nat.reduceAdd, Nat.reduceMul, Nat.reduceEqDiff, zw32_id, zw64_id, zupd_eq, zupd_na, zupd_ni, zupp_eq, zupp_na, zupp_ni, on, eq_false (show ¬ ((oth (nA f) (nC f) i w : Nat) : Int) = -1 by omega)]
          refine nx _ (frP_up hf rfl) (bInv_wk (bInv_st (D := bD S (3 * (hx + 1) + hy + 1) i) hI ok hc hS (by omega) hb' hmt ww.2.1 vx vy hl (fun S' e' gx gy hd => by unfold bD at hd; omega) (fun T gx gy a1 a2 a3 => ?_)) (fun S' e' w' gx gy a1 a2 a3 a4 a5 a6 a7 a8 a9 a10 => by
            unfold bD at a10 ⊢
            unfold hV at a7 a8
            omega))
          unfold hV at a2 a3
          have u1 := hA_r vx (nX f (oth (nA f) (nC f) i w) - nX f w)
          have u2 := hA_r vy (nY f (oth (nA f) (nC f) i w) - nY f w)
          generalize hA hx (sg (nX f (oth (nA f) (nC f) i w) - nX f w)) = ax at *
          generalize hA hy (sg (nY f (oth (nA f) (nC f) i w) - nY f w)) = ay at *
          by_cases hq : T = S ||| 2 ^ i ∧ gx = ax ∧ gy = ay
          · rw [if_pos hq, hq.1, hq.2.1, hq.2.2]
            show zupd _ _ _ _ _ _ = _
            rw [zupd_eq]
          · rw [if_neg hq]
            show zupd _ _ _ _ _ _ = _
            rw [zupd_ni (by omega)]
            rfl
        · have q := nx m1 hf (bInv_wk hI (fun S' e' w' gx gy a1 a2 a3 a4 a5 a6 a7 a8 a9 a10 => by
            unfold bD at a10 ⊢
            by_cases he : e' = i
            · rcases a10 with x | ⟨x, y⟩
              · exact Or.inl x
              · subst he x
                have : w' = w := by have := ww.2.1; omega
                subst this
                exact absurd a4 hmt
            · omega))
          simp (disch := first | assumption | omega) only [rM_bendsFrom_113, rM_bendsFrom_114, Bool.false_eq_true, true_implies, false_implies, implies_true, true_and, and_true, not_true_eq_false, not_false_eq_true, zPush_I, zPush_L, zPush_R, zPush_U, Int.reduceLT, Int.reduceLE, Int.reduceEq, Int.reduceNe, Int.reduceAdd, Int.reduceSub, Int.reduceMul, Int.reduceNeg, Int.reduceToNat, Nat.reduceAdd, Nat.reduceMul, Nat.reduceEqDiff, zw32_id, zw64_id, zupd_eq, zupd_na, zupd_ni, zupp_eq, zupp_na, zupp_ni]
          exact q
    · have q := hz m1 hf (bInv_wk hI (fun S' e' w' gx gy a1 a2 a3 a4 a5 a6 a7 a8 a9 a10 => by
        unfold bD at a10 ⊢
        unfold hV at a7 a8
        by_cases hq : S' = S ∧ gx = hx ∧ gy = hy
        · rw [hq.1, hq.2.1, hq.2.2] at a9; exact absurd a9 hl
        · omega))
      unfold rb at hl
      simp (disch := first | assumption | omega) only [rM_bendsFrom_67, rM_bendsFrom_68, rM_bendsFrom_69, rM_bendsFrom_72, rM_bendsFrom_75, rM_bendsFrom_76, rM_bendsFrom_79, rM_bendsFrom_81, rM_bendsFrom_82, rM_bendsFrom_83, rM_bendsFrom_84, rM_bendsFrom_85, rM_bendsFrom_86, rM_bendsFrom_89, rM_many_0, rM_many_1, rM_many_4, rM_many_7, rM_many_8, rM_many_9, rM_many_10, Bool.false_eq_true, true_implies, false_implies, implies_true, true_and, and_true, not_true_eq_false, not_false_eq_true, zPush_I, zPush_L, zPush_R, zPush_U, Int.reduceLT, Int.reduceLE, Int.reduceEq, Int.reduceNe, Int.reduceAdd, Int.reduceSub, Int.reduceMul, Int.reduceNeg, Int.reduceToNat, Nat.reduceAdd, Nat.reduceMul, Nat.reduceEqDiff, zw32_id, zw64_id, zupd_eq, zupd_na, zupd_ni, zupp_eq, zupp_na, zupp_ni, p123, p141, e9, eq_true lt, eq_false hl]
      exact q
end
