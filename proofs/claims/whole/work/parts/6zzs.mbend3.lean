/-! ===== bends of the reference: the call ===== -/
section
variable {sh : zSh} {pp : zPp} {mm : zMm} {Q : zV → zSh → zPp → zMm → Prop} {f : Int → Int} {G : Int → Option (Int → Int)} {cn : Int → Int} {N D : Nat}
theorem bWays (h : zLy sh pp) (hm : ∀ k, 0 ≤ k → k < 986 → mm 123 k = f k) (ok : fOk f) {c S : Nat} (hc : c < 10) (hS : S < 2 ^ nE f) (hw : mm 137 S = whB f c S) (hz : ∀ m', frP beF mm m' → bInv (fun _ _ => True) f c (rb m') (bD (S + 1) 0 0) → zS 229 137 [zR 122, zU, zI (S : Int), zU, zU] [] sh pp m' Q) : ∀ (d W : Nat) (m1 : zMm), W + d = 9 → frP beF mm m1 → bInv (fun _ _ => True) f c (rb m1) (bD S (W : Int) 0) → zS 229 56 [zR 122, zU, zI (S : Int), zI (W : Int), zU] [] sh pp m1 Q := by
  intro d
  induction d with
  | zero =>
    intro W m1 hW hf hI
    have q := hz m1 hf (bInv_wk hI (fun S' e' w' gx gy a1 a2 a3 a4 a5 a6 a7 a8 a9 a10 => by
      unfold bD at a10 ⊢
      unfold hV at a7 a8
      omega))
    rw [rM_bendsFrom_56]
    simp (disch := first | assumption | omega) only [rM_bendsFrom_57, rM_bendsFrom_59, Bool.false_eq_true, true_implies, false_implies, implies_true, true_and, and_true, not_true_eq_false, not_false_eq_true, zPush_I, zPush_L, zPush_R, zPush_U, Int.reduceLT, Int.reduceLE, Int.reduceEq, Int.reduceNe, Int.reduceAdd, Int.reduceSub, Int.reduceMul, Int.reduceNeg, Int.reduceToNat, Nat.reduceAdd, Nat.reduceMul, Nat.reduceEqDiff, zw32_id, zw64_id, zupd_eq, zupd_na, zupd_ni, zupp_eq, zupp_na, zupp_ni, eq_false (show ¬ (W : Int) < 9 by omega)]
    exact q
  | succ d ih =>
    intro W m1 hW hf hI
    have hm1 : ∀ k, 0 ≤ k → k < 986 → m1 123 k = f k := fun k a b => by rw [hf 123 k (by unfold beF; omega)]; exact hm k a b
    have hw1 : m1 137 S = whB f c S := by rw [hf 137 S (by unfold beF; omega)]; exact hw
    obtain ⟨hx, hy, vx, vy, e⟩ := w9 (W := W) (by omega)
    rw [rM_bendsFrom_56]
    simp (disch := first | assumption | omega) only [rM_bendsFrom_57, rM_bendsFrom_59, rM_bendsFrom_62, rM_bendsFrom_63, Bool.false_eq_true, true_implies, false_implies, implies_true, true_and, and_true, not_true_eq_false, not_false_eq_true, zPush_I, zPush_L, zPush_R, zPush_U, Int.reduceLT, Int.reduceLE, Int.reduceEq, Int.reduceNe, Int.reduceAdd, Int.reduceSub, Int.reduceMul, Int.reduceNeg, Int.reduceToNat, Nat.reduceAdd, Nat.reduceMul, Nat.reduceEqDiff, zw32_id, zw64_id, zupd_eq, zupd_na, zupd_ni, zupp_eq, zupp_na, zupp_ni, eq_true (show (W : Int) < 9 by omega)]
    rw [e] at hI ⊢
    refine bIn h hm1 ok hc hS hw1 vx vy (fun m2 a1 a2 => ?_) (nE f) 0 m1 (by omega) (frP_rf _ _) hI
    have n := ih (W + 1) m2 (by omega) (frP_tr hf a1) (by
      rw [show ((W + 1 : Nat) : Int) = 3 * (hx + 1) + hy + 1 + 1 by omega]
      exact a2)
    rw [show ((W + 1 : Nat) : Int) = (W : Int) + 1 by omega] at n
    rw [← e]
    simp (disch := first | assumption | omega) only [rM_bendsFrom_131, rM_bendsFrom_134, Bool.false_eq_true, true_implies, false_implies, implies_true, true_and, and_true, not_true_eq_false, not_false_eq_true, zPush_I, zPush_L, zPush_R, zPush_U, Int.reduceLT, Int.reduceLE, Int.reduceEq, Int.reduceNe, Int.reduceAdd, Int.reduceSub, Int.reduceMul, Int.reduceNeg, Int.reduceToNat, Nat.reduceAdd, Nat.reduceMul, Nat.reduceEqDiff, zw32_id, zw64_id, zupd_eq, zupd_na, zupd_ni, zupp_eq, zupp_na, zupp_ni]
    exact n
theorem bSets (h : zLy sh pp) (hm : ∀ k, 0 ≤ k → k < 986 → mm 123 k = f k) (ok : fOk f) {c : Nat} (hc : c < 10) (hw : ∀ S : Nat, S < 2 ^ nE f → mm 137 S = whB f c S) (hz : ∀ m', frP beF mm m' → bInv (fun _ _ => True) f c (rb m') (bD (2 ^ nE f - 1) 0 0) → zS 229 143 [zR 122, zU, zU, zU, zU] [] sh pp m' Q) : ∀ (d S : Nat) (m1 : zMm), S + d = 2 ^ nE f - 1 → frP beF mm m1 → bInv (fun _ _ => True) f c (rb m1) (bD S 0 0) → zS 229 46 [zR 122, zU, zI (S : Int), zU, zU] [] sh pp m1 Q := by
  have hM := k_122 h
  have l := nE_le ok
  have t : 2 ^ nE f ≤ 4096 := by simpa using Nat.pow_le_pow_right (n := 2) (by omega) l
  have t0 : 0 < 2 ^ nE f := Nat.pow_pos (by omega)
  intro d
  induction d with
  | zero =>
    intro S m1 hS hf hI
    have hm1 : ∀ k, 0 ≤ k → k < 986 → m1 123 k = f k := fun k a b => by rw [hf 123 k (by unfold beF; omega)]; exact hm k a b
    have hS' : S = 2 ^ nE f - 1 := by omega
    rw [hS'] at hI
    have q := hz m1 hf hI
    rw [rM_bendsFrom_46]
    simp (disch := first | assumption | omega) only [rM_bendsFrom_47, rM_bendsFrom_48, rM_bendsFrom_51, kM_allEdges h hm1 ok, Bool.false_eq_true, true_implies, false_implies, implies_true, true_and, and_true, not_true_eq_false, not_false_eq_true, zPush_I, zPush_L, zPush_R, zPush_U, Int.reduceLT, Int.reduceLE, Int.reduceEq, Int.reduceNe, Int.reduceAdd, Int.reduceSub, Int.reduceMul, Int.reduceNeg, Int.reduceToNat, Nat.reduceAdd, Nat.reduceMul, Nat.reduceEqDiff, zw32_id, zw64_id, zupd_eq, zupd_na, zupd_ni, zupp_eq, zupp_na, zupp_ni, eq_false (show ¬ (S : Int) < ((2 ^ nE f : Nat) : Int) - 1 by omega)]
    exact q
  | succ d ih =>
    intro S m1 hS hf hI
    have hm1 : ∀ k, 0 ≤ k → k < 986 → m1 123 k = f k := fun k a b => by rw [hf 123 k (by unfold beF; omega)]; exact hm k a b
    have hw1 : m1 137 S = whB f c S := by rw [hf 137 S (by unfold beF; omega)]; exact hw S (by omega)
    rw [rM_bendsFrom_46]
    simp (disch := first | assumption | omega) only [rM_bendsFrom_47, rM_bendsFrom_48, rM_bendsFrom_51, rM_bendsFrom_54, rM_bendsFrom_55, kM_allEdges h hm1 ok, Bool.false_eq_true, true_implies, false_implies, implies_true, true_and, and_true, not_true_eq_false, not_false_eq_true, zPush_I, zPush_L, zPush_R, zPush_U, Int.reduceLT, Int.reduceLE, Int.reduceEq, Int.reduceNe, Int.reduceAdd, Int.reduceSub, Int.reduceMul, Int.reduceNeg, Int.reduceToNat, Nat.reduceAdd, Nat.reduceMul, Nat.reduceEqDiff, zw32_id, zw64_id, zupd_eq, zupd_na, zupd_ni, zupp_eq, zupp_na, zupp_ni, eq_true (show (S : Int) < ((2 ^ nE f : Nat) : Int) - 1 by omega)]
    refine bWays h hm1 ok hc (by omega) hw1 (fun m2 a1 a2 => ?_) 9 0 m1 (by omega) (frP_rf _ _) hI
    have n := ih (S + 1) m2 (by omega) (frP_tr hf a1) a2
    rw [show ((S + 1 : Nat) : Int) = (S : Int) + 1 by omega] at n
    simp (disch := first | assumption | omega) only [rM_bendsFrom_137, rM_bendsFrom_140, Bool.false_eq_true, true_implies, false_implies, implies_true, true_and, and_true, not_true_eq_false, not_false_eq_true, zPush_I, zPush_L, zPush_R, zPush_U, Int.reduceLT, Int.reduceLE, Int.reduceEq, Int.reduceNe, Int.reduceAdd, Int.reduceSub, Int.reduceMul, Int.reduceNeg, Int.reduceToNat, Nat.reduceAdd, Nat.reduceMul, Nat.reduceEqDiff, zw32_id, zw64_id, zupd_eq, zupd_na, zupd_ni, zupp_eq, zupp_na, zupp_ni]
    exact n
theorem bInv_0 (ok : fOk f) {c : Nat} (hc : c < 10) {tb : Nat → Int → Int → Int} {P : Nat → Nat → Prop} {D : Nat → Nat → Int → Int → Prop} (hD : ∀ S e hx hy, hV hx → hV hy → ¬ D S e hx hy) (ht : ∀ S hx hy, S < 2 ^ nE f → hV hx → hV hy → tb S hx hy = if S = 0 ∧ hx = 0 ∧ hy = 0 then 0 else 1000000) : bInv P f c tb D := by
  refine ⟨fun S hx hy a1 a2 a3 => ?_, fun S hx hy a1 a2 a3 a4 => ?_, ?_, fun S e w hx hy a1 a2 a3 a4 a5 a6 a7 a8 a9 a10 => absurd a10 (hD S e hx hy a7 a8)⟩
  · rw [ht S hx hy a1 a2 a3]
    split <;> omega
  · rw [ht S hx hy a1 a2 a3] at a4 ⊢
    by_cases hq : S = 0 ∧ hx = 0 ∧ hy = 0
    · rw [if_pos hq]
      exact ⟨[], c, hq.1, rfl, hq.2.1, hq.2.2, rfl⟩
    · rw [if_neg hq] at a4; omega
  · rw [ht 0 0 0 (Nat.pow_pos (by decide)) (Or.inr (Or.inl rfl)) (Or.inr (Or.inl rfl)), if_pos ⟨rfl, rfl, rfl⟩]
    exact Int.le_refl 0
theorem mBendsFrom (h : zLy sh pp) (hm : ∀ k, 0 ≤ k → k < 986 → mm 123 k = f k) (ok : fOk f) {c : Nat} (hc : c < 10) (hQ : ∀ mm' v, frP bnF mm mm' → mnB (bnP f c) v → Q (zI v) sh pp mm') : zS 229 0 [zR 122, zI (c : Int), zU, zU, zU] [] sh pp mm Q := by
  have k122 := k_122 h
  have k123 := k_123 h
  have l123 := l_123 h
  have p123 := p_122_0 h
  have k141 := k_141 h
  have l141 := l_141 h
  have p141 := p_122_34 h
  have l := nE_le ok
  have t : 2 ^ nE f ≤ 4096 := by simpa using Nat.pow_le_pow_right (n := 2) (by omega) l
  have t0 : 0 < 2 ^ nE f := Nat.pow_pos (by omega)
  simp (disch := first | assumption | omega) only [rM_bendsFrom_0, rM_bendsFrom_1, rM_bendsFrom_2, Bool.false_eq_true, true_implies, false_implies, implies_true, true_and, and_true, not_true_eq_false, not_false_eq_true, zPush_I, zPush_L, zPush_R, zPush_U, Int.reduceLT, Int.reduceLE, Int.reduceEq, Int.reduceNe, Int.reduceAdd, Int.reduceSub, Int.reduceMul, Int.reduceNeg, Int.reduceToNat, Nat.reduceAdd, Nat.reduceMul, Nat.reduceEqDiff, zw32_id, zw64_id, zupd_eq, zupd_na, zupd_ni, zupp_eq, zupp_na, zupp_ni]
  refine mFindEnds h hm ok hc (fun m1 f1 e1 => ?_)
  have hm1 : ∀ k, 0 ≤ k → k < 986 → m1 123 k = f k := fun k a b => by rw [f1 123 k (by unfold enF; omega)]; exact hm k a b
  simp (disch := first | assumption | omega) only [rM_bendsFrom_5, rM_bendsFrom_6, Bool.false_eq_true, true_implies, false_implies, implies_true, true_and, and_true, not_true_eq_false, not_false_eq_true, zPush_I, zPush_L, zPush_R, zPush_U, Int.reduceLT, Int.reduceLE, Int.reduceEq, Int.reduceNe, Int.reduceAdd, Int.reduceSub, Int.reduceMul, Int.reduceNeg, Int.reduceToNat, Nat.reduceAdd, Nat.reduceMul, Nat.reduceEqDiff, zw32_id, zw64_id, zupd_eq, zupd_na, zupd_ni, zupp_eq, zupp_na, zupp_ni]
  refine bFill h hm1 ok (fun m2 f2 e2 => ?_) (9 * 2 ^ nE f) 0 m1 (by omega) (frP_rf _ _) (fun k hk => by omega)
  have hm2 : ∀ k, 0 ≤ k → k < 986 → m2 123 k = f k := fun k a b => by rw [f2 123 k (by unfold beF; omega)]; exact hm1 k a b
  simp (disch := first | assumption | omega) only [rM_bendsFrom_44, rM_bendsFrom_45, Bool.false_eq_true, true_implies, false_implies, implies_true, true_and, and_true, not_true_eq_false, not_false_eq_true, zPush_I, zPush_L, zPush_R, zPush_U, Int.reduceLT, Int.reduceLE, Int.reduceEq, Int.reduceNe, Int.reduceAdd, Int.reduceSub, Int.reduceMul, Int.reduceNeg, Int.reduceToNat, Nat.reduceAdd, Nat.reduceMul, Nat.reduceEqDiff, zw32_id, zw64_id, zupd_eq, zupd_na, zupd_ni, zupp_eq, zupp_na, zupp_ni]
  refine bSets h hm2 ok hc (fun S hS => by rw [f2 137 S (by unfold beF; omega)]; exact (e1 S (by omega) hS).1) (fun m3 f3 hI => ?_) (2 ^ nE f - 1) 0 m2 (by omega) (frP_rf _ _) (bInv_0 ok hc (fun S e hx hy vx vy hd => by unfold bD at hd; unfold hV at vx vy; omega) (fun S hx hy a1 a2 a3 => ?_))
  · have hm3 : ∀ k, 0 ≤ k → k < 986 → m3 123 k = f k := fun k a b => by rw [f3 123 k (by unfold beF; omega)]; exact hm2 k a b
    have fin := bInv_end (v := mnF (fun W => m3 141 (9 * ((2 ^ nE f - 1 : Nat) : Int) + (W : Int))) 9) hI ok hc (fun S e hx hy hS => by unfold bD; omega) (mnF_M _ 9) (fun hx hy vx vy => by
      unfold hV at vx vy
      have z := mnF_le (g := fun W : Nat => m3 141 (9 * ((2 ^ nE f - 1 : Nat) : Int) + (W : Int))) (q := (3 * (hx + 1) + hy + 1).toNat) 9 (by omega)
      rw [Int.toNat_of_nonneg (by omega)] at z
      exact z) (fun hl => by
      obtain ⟨q, a, b⟩ := mnF_ex 9 hl
      obtain ⟨hx, hy, vx, vy, e⟩ := w9 a
      refine ⟨hx, hy, vx, vy, ?_⟩
      rw [b]
      show m3 141 (9 * ((2 ^ nE f - 1 : Nat) : Int) + (q : Int)) = m3 141 (9 * ((2 ^ nE f - 1 : Nat) : Int) + (3 * (hx + 1) + hy + 1))
      rw [e])
    have q := hQ m3 _ (frP_tr (frP_wd f1 (fun x j hj => by unfold enF at hj; unfold bnF; omega)) (frP_tr (frP_wd f2 (fun x j hj => by unfold beF at hj; unfold bnF; omega)) (frP_wd f3 (fun x j hj => by unfold beF at hj; unfold bnF; omega)))) fin
    clear fin
    obtain ⟨A, hA⟩ : ∃ A, A = 2 ^ nE f - 1 := ⟨_, rfl⟩
    have all := fun (Q : zV → zSh → zPp → zMm → Prop) => kM_allEdges (Q := Q) h hm3 ok
    rw [show ((2 ^ nE f : Nat) : Int) - 1 = (A : Int) by omega] at all
    rw [← hA] at q
    have A4 : (A : Int) < 4096 := by omega
    have key : ∀ (d W : Nat), W + d = 9 → zS 229 149 [zR 122, zU, zI (mnF (fun W => m3 141 (9 * (A : Int) + (W : Int))) W), zI (W : Int), zU] [] sh pp m3 Q := by
      intro d
      induction d with
      | zero =>
        intro W hW
        have hW : W = 9 := by omega
        subst hW
        rw [rM_bendsFrom_149]
        simp (disch := first | assumption | omega) only [rM_bendsFrom_150, rM_bendsFrom_152, rM_bendsFrom_190, rM_bendsFrom_191, Bool.false_eq_true, true_implies, false_implies, implies_true, true_and, and_true, not_true_eq_false, not_false_eq_true, zPush_I, zPush_L, zPush_R, zPush_U, Int.reduceLT, Int.reduceLE, Int.reduceEq, Int.reduceNe, Int.reduceAdd, Int.reduceSub, Int.reduceMul, Int.reduceNeg, Int.reduceToNat, Nat.reduceAdd, Nat.reduceMul, Nat.reduceEqDiff, zw32_id, zw64_id, zupd_eq, zupd_na, zupd_ni, zupp_eq, zupp_na, zupp_ni, Int.cast_ofNat_Int, Int.lt_irrefl]
        exact q
      | succ d ih =>
        intro W hW
        have n := ih (W + 1) (by omega)
        have em : mnF (fun W : Nat => m3 141 (9 * (A : Int) + (W : Int))) (W + 1) = min (mnF (fun W : Nat => m3 141 (9 * (A : Int) + (W : Int))) W) (m3 141 (9 * (A : Int) + (W : Int))) := rfl
        rw [em, show ((W + 1 : Nat) : Int) = (W : Int) + 1 by omega] at n
        rw [rM_bendsFrom_149]
        generalize mnF (fun W : Nat => m3 141 (9 * (A : Int) + (W : Int))) W = L at *
        by_cases hl : m3 141 (9 * (A : Int) + (W : Int)) < L
        · rw [Int.min_eq_right (by omega)] at n
          simp (disch := first | assumption | omega) only [rM_bendsFrom_150, rM_bendsFrom_152, rM_bendsFrom_155, rM_bendsFrom_156, rM_bendsFrom_159, rM_bendsFrom_161, rM_bendsFrom_162, rM_bendsFrom_165, rM_bendsFrom_166, rM_bendsFrom_167, rM_bendsFrom_168, rM_bendsFrom_169, rM_bendsFrom_171, rM_bendsFrom_173, rM_bendsFrom_174, rM_bendsFrom_177, rM_bendsFrom_179, rM_bendsFrom_182, rM_bendsFrom_183, rM_bendsFrom_184, rM_bendsFrom_187, Bool.false_eq_true, true_implies, false_implies, implies_true, true_and, and_true, not_true_eq_false, not_false_eq_true, zPush_I, zPush_L, zPush_R, zPush_U, Int.reduceLT, Int.reduceLE, Int.reduceEq, Int.reduceNe, Int.reduceAdd, Int.reduceSub, Int.reduceMul, Int.reduceNeg, Int.reduceToNat, Nat.reduceAdd, Nat.reduceMul, Nat.reduceEqDiff, zw32_id, zw64_id, zupd_eq, zupd_na, zupd_ni, zupp_eq, zupp_na, zupp_ni, p141, all, eq_true (show (W : Int) < 9 by omega), eq_true hl]
          exact n
        · rw [Int.min_eq_left (by omega)] at n
          simp (disch := first | assumption | omega) only [rM_bendsFrom_150, rM_bendsFrom_152, rM_bendsFrom_155, rM_bendsFrom_156, rM_bendsFrom_159, rM_bendsFrom_161, rM_bendsFrom_162, rM_bendsFrom_165, rM_bendsFrom_166, rM_bendsFrom_167, rM_bendsFrom_168, rM_bendsFrom_169, rM_bendsFrom_171, rM_bendsFrom_173, rM_bendsFrom_174, rM_bendsFrom_177, rM_bendsFrom_179, rM_bendsFrom_182, rM_bendsFrom_183, rM_bendsFrom_184, rM_bendsFrom_187, Bool.false_eq_true, true_implies, false_implies, implies_true, true_and, and_true, not_true_eq_false, not_false_eq_true, zPush_I, zPush_L, zPush_R, zPush_U, Int.reduceLT, Int.reduceLE, Int.reduceEq, Int.reduceNe, Int.reduceAdd, Int.reduceSub, Int.reduceMul, Int.reduceNeg, Int.reduceToNat, Nat.reduceAdd, Nat.reduceMul, Nat.reduceEqDiff, zw32_id, zw64_id, zupd_eq, zupd_na, zupd_ni, zupp_eq, zupp_na, zupp_ni, p141, all, eq_true (show (W : Int) < 9 by omega), eq_false hl]
          exact n
    simp (disch := first | assumption | omega) only [rM_bendsFrom_143, rM_bendsFrom_146, rM_bendsFrom_147, rM_bendsFrom_148, Bool.false_eq_true, true_implies, false_implies, implies_true, true_and, and_true, not_true_eq_false, not_false_eq_true, zPush_I, zPush_L, zPush_R, zPush_U, Int.reduceLT, Int.reduceLE, Int.reduceEq, Int.reduceNe, Int.reduceAdd, Int.reduceSub, Int.reduceMul, Int.reduceNeg, Int.reduceToNat, Nat.reduceAdd, Nat.reduceMul, Nat.reduceEqDiff, zw32_id, zw64_id, zupd_eq, zupd_na, zupd_ni, zupp_eq, zupp_na, zupp_ni]
    exact key 9 0 (by omega)
  · unfold hV at a2 a3
    unfold rb
    have z := e2 (9 * S + (3 * (hx + 1) + hy + 1).toNat) (by omega)
    rw [show ((9 * S + (3 * (hx + 1) + hy + 1).toNat : Nat) : Int) = 9 * (S : Int) + (3 * (hx + 1) + hy + 1) by omega] at z
    rw [z]
    by_cases hq : S = 0 ∧ hx = 0 ∧ hy = 0
    · rw [if_pos hq, if_pos (by omega)]
    · rw [if_neg hq, if_neg (by omega)]
theorem bnF_sc {m m' : zMm} (h : frP bnF m m') : frP pSc m m' := frP_wd h (fun x j hj => by unfold bnF at hj; unfold pSc; omega)
theorem mBends (h : zLy sh pp) (hm : mOk f G cn N D mm) (ok : fOk f) (hQ1 : ¬ (onB f = true ∧ 0 < nE f) → ∀ m, mOk f G (bump cn 1) N D m → frC mm m → Q (zI (-3)) sh pp m) (hQ2 : onB f = true → 0 < nE f → ∀ m v, mOk f G cn N D m → frC mm m → bnA f v → Q (zI v) sh pp m) : zS 230 0 [zR 122, zU, zU, zU] [] sh pp mm Q := by
  have k122 := k_122 h
  have k123 := k_123 h
  have l123 := l_123 h
  have p123 := p_122_0 h
  have k126 := k_126 h
  have l126 := l_126 h
  have p126 := p_122_3 h
  have l := nE_le ok
  have c0 := ok.2.2.2.1.1
  have c1 := ok.2.2.2.1.2.1
  have no : zS 230 15 [zR 122, zU, zU, zU] [] sh pp mm Q ↔ Q (zI (-3)) sh pp (zupd mm 126 1 (zw32 (mm 126 1 + 1))) := by
    simp (disch := first | assumption | omega) only [rM_bends_15, rM_bends_16, rM_bends_18, rM_bends_21, rM_no_0, rM_no_1, rM_no_4, rM_no_5, rM_no_6, rM_no_7, rM_no_8, rM_no_9, rM_no_10, rM_no_11, Bool.false_eq_true, true_implies, false_implies, implies_true, true_and, and_true, not_true_eq_false, not_false_eq_true, zPush_I, zPush_L, zPush_R, zPush_U, Int.reduceLT, Int.reduceLE, Int.reduceEq, Int.reduceNe, Int.reduceAdd, Int.reduceSub, Int.reduceMul, Int.reduceNeg, Int.reduceToNat, Nat.reduceAdd, Nat.reduceMul, Nat.reduceEqDiff, zw32_id, zw64_id, zupd_eq, zupd_na, zupd_ni, zupp_eq, zupp_na, zupp_ni, p126]
  have nq := fun x => hQ1 x _ (mOk_ref hm (i := 1) (by decide) (by decide)) (frC_up (frC_rf mm) (by decide) (by decide))
  have e9 := hm.1 983 (by decide) (by decide)
  rw [nE_eq ok] at e9
  simp (disch := first | assumption | omega) only [rM_bends_0, rM_bends_1, Bool.false_eq_true, true_implies, false_implies, implies_true, true_and, and_true, not_true_eq_false, not_false_eq_true, zPush_I, zPush_L, zPush_R, zPush_U, Int.reduceLT, Int.reduceLE, Int.reduceEq, Int.reduceNe, Int.reduceAdd, Int.reduceSub, Int.reduceMul, Int.reduceNeg, Int.reduceToNat, Nat.reduceAdd, Nat.reduceMul, Nat.reduceEqDiff, zw32_id, zw64_id, zupd_eq, zupd_na, zupd_ni, zupp_eq, zupp_na, zupp_ni]
  apply mIsOnce h hm.1 ok
  by_cases o : onB f = true
  · rw [if_pos ((onB_i f).mp o)]
    by_cases z : (nE f : Int) = 0
    · simp (disch := first | assumption | omega) only [rM_bends_4, rM_bends_7, rM_bends_8, rM_bends_9, rM_bends_12, rM_many_0, rM_many_1, rM_many_4, rM_many_7, rM_many_8, rM_many_9, rM_many_10, Bool.false_eq_true, true_implies, false_implies, implies_true, true_and, and_true, not_true_eq_false, not_false_eq_true, zPush_I, zPush_L, zPush_R, zPush_U, Int.reduceLT, Int.reduceLE, Int.reduceEq, Int.reduceNe, Int.reduceAdd, Int.reduceSub, Int.reduceMul, Int.reduceNeg, Int.reduceToNat, Nat.reduceAdd, Nat.reduceMul, Nat.reduceEqDiff, zw32_id, zw64_id, zupd_eq, zupd_na, zupd_ni, zupp_eq, zupp_na, zupp_ni, p123, e9, eq_true z]
      exact no.mpr (nq (by omega))
    · simp (disch := first | assumption | omega) only [rM_bends_4, rM_bends_7, rM_bends_8, rM_bends_9, rM_bends_12, rM_bends_22, rM_bends_25, rM_bends_26, rM_bends_27, rM_many_0, rM_many_1, rM_many_4, rM_many_7, rM_many_8, rM_many_9, rM_many_10, Bool.false_eq_true, true_implies, false_implies, implies_true, true_and, and_true, not_true_eq_false, not_false_eq_true, zPush_I, zPush_L, zPush_R, zPush_U, Int.reduceLT, Int.reduceLE, Int.reduceEq, Int.reduceNe, Int.reduceAdd, Int.reduceSub, Int.reduceMul, Int.reduceNeg, Int.reduceToNat, Nat.reduceAdd, Nat.reduceMul, Nat.reduceEqDiff, zw32_id, zw64_id, zupd_eq, zupd_na, zupd_ni, zupp_eq, zupp_na, zupp_ni, p123, e9, eq_false z]
      obtain ⟨K, hK⟩ : ∃ K : Nat, f 982 = (K : Int) := ⟨(f 982).toNat, by omega⟩
      have key : ∀ (d i : Nat) (m1 : zMm) (v : Int), i + d = K → frP bnF mm m1 → mnB (fun x => ∃ c, c < i ∧ bnP f c x) v → zS 230 28 [zR 122, zI v, zI (i : Int), zU] [] sh pp m1 Q := by
        intro d
        induction d with
        | zero =>
          intro i m1 v hi hf hv
          have ok1 := mOk_sc hm (bnF_sc hf)
          have e8 := ok1.1 982 (by decide) (by decide)
          rw [hK] at e8
          have hi : i = K := by omega
          subst hi
          have q := hQ2 o (by omega) m1 v ok1 (pSc_C (bnF_sc hf)) (bnA_of ok (by rw [hK, Int.toNat_natCast]; exact hv))
          rw [rM_bends_28]
          simp (disch := first | assumption | omega) only [rM_bends_29, rM_bends_30, rM_bends_31, rM_bends_34, rM_bends_60, rM_bends_61, rM_many_0, rM_many_1, rM_many_4, rM_many_7, rM_many_8, rM_many_9, rM_many_10, Bool.false_eq_true, true_implies, false_implies, implies_true, true_and, and_true, not_true_eq_false, not_false_eq_true, zPush_I, zPush_L, zPush_R, zPush_U, Int.reduceLT, Int.reduceLE, Int.reduceEq, Int.reduceNe, Int.reduceAdd, Int.reduceSub, Int.reduceMul, Int.reduceNeg, Int.reduceToNat, Nat.reduceAdd, Nat.reduceMul, Nat.reduceEqDiff, zw32_id, zw64_id, zupd_eq, zupd_na, zupd_ni, zupp_eq, zupp_na, zupp_ni, p123, e8, Int.lt_irrefl]
          exact q
        | succ d ih =>
          intro i m1 v hi hf hv
          have ok1 := mOk_sc hm (bnF_sc hf)
          have e8 := ok1.1 982 (by decide) (by decide)
          rw [hK] at e8
          rw [rM_bends_28]
          simp (disch := first | assumption | omega) only [rM_bends_29, rM_bends_30, rM_bends_31, rM_bends_34, rM_bends_37, rM_bends_38, rM_bends_39, rM_many_0, rM_many_1, rM_many_4, rM_many_7, rM_many_8, rM_many_9, rM_many_10, Bool.false_eq_true, true_implies, false_implies, implies_true, true_and, and_true, not_true_eq_false, not_false_eq_true, zPush_I, zPush_L, zPush_R, zPush_U, Int.reduceLT, Int.reduceLE, Int.reduceEq, Int.reduceNe, Int.reduceAdd, Int.reduceSub, Int.reduceMul, Int.reduceNeg, Int.reduceToNat, Nat.reduceAdd, Nat.reduceMul, Nat.reduceEqDiff, zw32_id, zw64_id, zupd_eq, zupd_na, zupd_ni, zupp_eq, zupp_na, zupp_ni, p123, e8, eq_true (show (i : Int) < (K : Int) by omega)]
          refine mBendsFrom h ok1.1 ok (show i < 10 by omega) (fun m2 u a1 a2 => ?_)
          have n := ih (i + 1) m2 (min v u) (by omega) (frP_tr hf a1) (mnB_cg (mnB_or hv a2) (fun x => by
            constructor
            · rintro ⟨c, a, b⟩
              by_cases e : c = i
              · subst e; exact Or.inr b
              · exact Or.inl ⟨c, by omega, b⟩
            · rintro (⟨c, a, b⟩ | b)
              · exact ⟨c, by omega, b⟩
              · exact ⟨i, by omega, b⟩))
          rw [show ((i + 1 : Nat) : Int) = (i : Int) + 1 by omega] at n
          by_cases hl : u < v
          · rw [Int.min_eq_right (by omega)] at n
            simp (disch := first | assumption | omega) only [rM_bends_42, rM_bends_43, rM_bends_44, rM_bends_45, rM_bends_48, rM_bends_49, rM_bends_52, rM_bends_53, rM_bends_54, rM_bends_57, Bool.false_eq_true, true_implies, false_implies, implies_true, true_and, and_true, not_true_eq_false, not_false_eq_true, zPush_I, zPush_L, zPush_R, zPush_U, Int.reduceLT, Int.reduceLE, Int.reduceEq, Int.reduceNe, Int.reduceAdd, Int.reduceSub, Int.reduceMul, Int.reduceNeg, Int.reduceToNat, Nat.reduceAdd, Nat.reduceMul, Nat.reduceEqDiff, zw32_id, zw64_id, zupd_eq, zupd_na, zupd_ni, zupp_eq, zupp_na, zupp_ni, eq_true hl]
            exact n
          · rw [Int.min_eq_left (by omega)] at n
            simp (disch := first | assumption | omega) only [rM_bends_42, rM_bends_43, rM_bends_44, rM_bends_45, rM_bends_48, rM_bends_49, rM_bends_52, rM_bends_53, rM_bends_54, rM_bends_57, Bool.false_eq_true, true_implies, false_implies, implies_true, true_and, and_true, not_true_eq_false, not_false_eq_true, zPush_I, zPush_L, zPush_R, zPush_U, Int.reduceLT, Int.reduceLE, Int.reduceEq, Int.reduceNe, Int.reduceAdd, Int.reduceSub, Int.reduceMul, Int.reduceNeg, Int.reduceToNat, Nat.reduceAdd, Nat.reduceMul, Nat.reduceEqDiff, zw32_id, zw64_id, zupd_eq, zupd_na, zupd_ni, zupp_eq, zupp_na, zupp_ni, eq_false hl]
            exact n
      exact key K 0 mm 1000000 (by omega) (frP_rf _ mm) (mnB_no (fun x hx => by obtain ⟨c, a, -⟩ := hx; omega))
  · rw [if_neg (fun x => o ((onB_i f).mpr x))]
    simp (disch := first | assumption | omega) only [rM_bends_4, Bool.false_eq_true, true_implies, false_implies, implies_true, true_and, and_true, not_true_eq_false, not_false_eq_true, zPush_I, zPush_L, zPush_R, zPush_U, Int.reduceLT, Int.reduceLE, Int.reduceEq, Int.reduceNe, Int.reduceAdd, Int.reduceSub, Int.reduceMul, Int.reduceNeg, Int.reduceToNat, Nat.reduceAdd, Nat.reduceMul, Nat.reduceEqDiff, zw32_id, zw64_id, zupd_eq, zupd_na, zupd_ni, zupp_eq, zupp_na, zupp_ni]
    exact no.mpr (nq (fun x => o x.1))
end
