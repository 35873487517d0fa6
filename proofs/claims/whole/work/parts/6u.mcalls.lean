/-! ===== the reference's calls on programs, and its fractions ===== -/
noncomputable def ft (f : Int → Int) (p : Int) : Int := rd (bOf f p) (lOf f p)
noncomputable def sec (f : Int → Int) (p : Int) : Int := (dOf f p).2.2.2.2.2.2.1 + f 6 * ((dOf f p).2.2.2.2.2.2.2.1 4 + (dOf f p).2.2.2.2.2.2.2.2.1 4)
noncomputable def dPl (f : Int → Int) (p : Int) : zPl := (dOf f p).2.2.2.2.2.2.2
def sumZ (g : Int → Int) : Nat → Int
  | 0 => 0
  | n + 1 => sumZ g n + g (n : Int)
def look (g h : Int → Int) : Nat → Bool
  | 0 => true
  | n + 1 => look g h n && decide (g (n : Int) = h (n : Int))
noncomputable def dAns (f : Int → Int) (p w : Int) : Int := if w = 0 then sumZ (gDr f p) 384 else if w = 1 then (dPl f p).2.2.2.2 else if w = 2 then (dPl f p).1 1 + (dPl f p).2.1 1 else if w = 3 then (dPl f p).1 2 + (dPl f p).2.1 2 else if w = 4 then (dPl f p).1 3 + (dPl f p).2.1 3 else if w = 5 then (dPl f p).1 4 + (dPl f p).2.1 4 else if w = 6 then (dPl f p).1 0 else if w = 7 then (dPl f p).2.1 0 else if w = 8 then sec f p else (if (dOf f p).2.2.2.2.2.1 = true then 1 else 0)
noncomputable def oFault (f cn : Int → Int) (p : Int) : (Int → Int) × Int := if 0 ≤ p ∧ p ≤ 3 then (cn, ft f p) else (bump cn 0, -2)
noncomputable def oDraws (f cn : Int → Int) (p w : Int) : (Int → Int) × Int := if (0 ≤ p ∧ p ≤ 3) ∧ (0 ≤ w ∧ w ≤ 9) then (if ft f p = -1 then (cn, dAns f p w) else (bump cn 1, -3)) else (bump cn 0, -2)
noncomputable def oCell (f cn : Int → Int) (p x y : Int) : (Int → Int) × Int := if (0 ≤ p ∧ p ≤ 3) ∧ (0 ≤ x ∧ x ≤ 23) ∧ (0 ≤ y ∧ y ≤ 15) then (if ft f p = -1 then (cn, gDr f p (24 * y + x)) else (bump cn 1, -3)) else (bump cn 0, -2)
noncomputable def oPoint (f cn : Int → Int) (p k : Int) : (Int → Int) × Int := if (0 ≤ p ∧ p ≤ 3) ∧ 0 ≤ k then (if ft f p = -1 then (cn, if k ≤ (dPl f p).2.2.2.2 then (dPl f p).2.2.2.1 k else -5) else (bump cn 1, -20)) else (bump cn 0, -10)
noncomputable def oSame (f cn : Int → Int) (p q : Int) : (Int → Int) × Int := if (0 ≤ p ∧ p ≤ 3) ∧ (0 ≤ q ∧ q ≤ 3) then (if ft f p = -1 ∧ ft f q = -1 then (cn, if look (gDr f p) (gDr f q) 384 = true then 1 else 0) else (bump cn 1, -3)) else (bump cn 0, -2)
/-- of the first n programs the one that draws the same with the fewest seconds -/
noncomputable def qk (f : Int → Int) (p : Int) : Nat → Int
  | 0 => -1
  | n + 1 => if ft f (n : Int) = -1 ∧ look (gDr f p) (gDr f (n : Int)) 384 = true ∧ (qk f p n = -1 ∨ sec f (n : Int) < sec f (qk f p n)) then (n : Int) else qk f p n
noncomputable def oQuick (f cn : Int → Int) (p : Int) : (Int → Int) × Int := if 0 ≤ p ∧ p ≤ 3 then (if ft f p = -1 then (cn, qk f p 4) else (bump cn 1, -3)) else (bump cn 0, -2)
/-- what the reference's own scratch is -/
def pSc (x : Nat) (j : Int) : Prop := (x = 122 ∧ j ≠ 6) ∨ (x = 127 ∧ 128 ≤ j) ∨ (x = 128 ∧ 2 ≤ j) ∨ (129 ≤ x ∧ x ≤ 142)
section
variable {sh : zSh} {pp : zPp} {mm : zMm} {Q : zV → zSh → zPp → zMm → Prop} {f : Int → Int} {G : Int → Option (Int → Int)} {cn : Int → Int} {N D : Nat}
theorem bR_ext {g g' : Int → Int} {n : Int} {v : Nat} (h : bR g n v) (he : ∀ k, 0 ≤ k → k < n → g' k = g k) : bR g' n v := ⟨h.1, fun k a b => by rw [he k a b]; exact h.2.1 k a b, fun hp => by rw [he _ (by omega) (by omega)]; exact h.2.2.1 hp, by rw [← h.2.2.2]; exact bV_ext _ (fun k a b => he k a (by omega))⟩
theorem mOk_sc {m m' : zMm} (hm : mOk f G cn N D m) (hf : frP pSc m m') : mOk f G cn N D m' := by
  obtain ⟨h1, h2, h3, h4, h5, h6, h7, h8⟩ := hm
  have e0 : m' 128 0 = m 128 0 := hf _ _ (by unfold pSc; omega)
  have e1 : m' 128 1 = m 128 1 := hf _ _ (by unfold pSc; omega)
  have l0 : ∀ k, 0 ≤ k → k < 128 → m' 127 k = m 127 k := fun k a b => hf _ _ (by unfold pSc; omega)
  refine ⟨fun k a b => by rw [hf _ _ (by unfold pSc; omega)]; exact h1 k a b, fun i a b => ?_, fun i a b => by rw [hf _ _ (by unfold pSc; omega)]; exact h3 i a b, by rw [e0]; exact h4, by rw [e1]; exact h5, ?_, ?_, by rw [hf _ _ (by unfold pSc; omega)]; exact h8⟩
  · rw [hf _ _ (by unfold pSc; omega)]
    rcases h2 i a b with h | ⟨h, g, hg, h'⟩
    · exact Or.inl h
    · exact Or.inr ⟨h, g, hg, fun k c d => by rw [hf _ _ (by unfold pSc; omega)]; exact h' k c d⟩
  · rw [e0]
    exact bR_ext h6 (fun k a b => l0 k a (by omega))
  · rw [e1]
    exact bR_ext h7 (fun k a b => l0 _ (by omega) (by omega))
theorem frC_P {R : Nat → Int → Prop} {m m' : zMm} (h : frP R m m') (hR : ∀ x j, R x j → 122 ≤ x ∧ x < 143) : frC m m' := fun x hx => by
  funext j
  exact h x j (fun h2 => hx (hR x j h2))
theorem f14_sc {m m' : zMm} (h : fr2 7 14 m m') : frP pSc m m' := fun x j hj => h x j (fun h2 => hj (by unfold pSc; omega))
theorem pDo_sc {m m' : zMm} (h : frP pDo m m') : frP pSc m m' := frP_wd h (fun x j hj => by unfold pDo at hj; unfold pSc; omega)
theorem pSc_C {m m' : zMm} (h : frP pSc m m') : frC m m' := frC_P h (fun x j hj => by unfold pSc at hj; omega)
theorem mNoP (h : zLy sh pp) (hm : mOk f G cn N D mm) {z : Int} (hQ : ∀ m, mOk f G (bump cn 1) N D m → frC mm m → Q (zI z) sh pp m) : zS 153 0 [zR 122, zI z] [] sh pp mm Q := by
  have k122 := k_122 h
  have k126 := k_126 h
  have l126 := l_126 h
  have p126 := p_122_3 h
  simp (disch := first | assumption | omega) only [rM_no_0, rM_no_1, rM_no_4, rM_no_5, rM_no_6, rM_no_7, rM_no_8, rM_no_9, rM_no_10, rM_no_11, Bool.false_eq_true, true_implies, false_implies, implies_true, true_and, and_true, not_true_eq_false, not_false_eq_true, zPush_I, zPush_L, zPush_R, zPush_U, Int.reduceLT, Int.reduceLE, Int.reduceEq, Int.reduceNe, Int.reduceAdd, Int.reduceSub, Int.reduceMul, Int.reduceNeg, Int.reduceToNat, Nat.reduceAdd, Nat.reduceMul, Nat.reduceEqDiff, zw32_id, zw64_id, zupd_eq, zupd_na, zupd_ni, zupp_eq, zupp_na, zupp_ni, p126]
  exact hQ _ (mOk_ref hm (by decide) (by decide)) (frC_up (frC_rf mm) (by decide) (by decide))
theorem mBadP (h : zLy sh pp) (hm : mOk f G cn N D mm) {z : Int} (hQ : ∀ m, mOk f G (bump cn 0) N D m → frC mm m → Q (zI z) sh pp m) : zS 152 0 [zR 122, zI z] [] sh pp mm Q := by
  have k122 := k_122 h
  have k126 := k_126 h
  have l126 := l_126 h
  have p126 := p_122_3 h
  simp (disch := first | assumption | omega) only [rM_bad_0, rM_bad_1, rM_bad_4, rM_bad_5, rM_bad_6, rM_bad_7, rM_bad_8, rM_bad_9, rM_bad_10, rM_bad_11, Bool.false_eq_true, true_implies, false_implies, implies_true, true_and, and_true, not_true_eq_false, not_false_eq_true, zPush_I, zPush_L, zPush_R, zPush_U, Int.reduceLT, Int.reduceLE, Int.reduceEq, Int.reduceNe, Int.reduceAdd, Int.reduceSub, Int.reduceMul, Int.reduceNeg, Int.reduceToNat, Nat.reduceAdd, Nat.reduceMul, Nat.reduceEqDiff, zw32_id, zw64_id, zupd_eq, zupd_na, zupd_ni, zupp_eq, zupp_na, zupp_ni, p126]
  exact hQ _ (mOk_ref hm (by decide) (by decide)) (frC_up (frC_rf mm) (by decide) (by decide))
theorem mFault (h : zLy sh pp) (hm : mOk f G cn N D mm) (hf : fOk f) {p : Int} (hQ : ∀ m, mOk f G (oFault f cn p).1 N D m → frC mm m → Q (zI (oFault f cn p).2) sh pp m) : zS 187 0 [zR 122, zI p] [] sh pp mm Q := by
  have k122 := k_122 h
  unfold oFault at hQ
  by_cases c : 0 ≤ p ∧ p ≤ 3
  · rw [if_pos c] at hQ
    simp (disch := first | assumption | omega) only [rM_fault_0, rM_fault_1, rM_fault_4, rM_fault_7, rM_fault_8, rM_fault_10, rM_fault_13, rM_fault_14, rM_fault_15, rM_fault_16, kM_isProgram, Bool.false_eq_true, true_implies, false_implies, implies_true, true_and, and_true, not_true_eq_false, not_false_eq_true, zPush_I, zPush_L, zPush_R, zPush_U, Int.reduceLT, Int.reduceLE, Int.reduceEq, Int.reduceNe, Int.reduceAdd, Int.reduceSub, Int.reduceMul, Int.reduceNeg, Int.reduceToNat, Nat.reduceAdd, Nat.reduceMul, Nat.reduceEqDiff, zw32_id, zw64_id, zupd_eq, zupd_na, zupd_ni, zupp_eq, zupp_na, zupp_ni, c]
    refine mReads h hf hm.1 c.1 c.2 (fun m1 c1 f1 hr => ?_) (fun m1 c1 f1 hr => ?_)
    · simp (disch := first | assumption | omega) only [rM_fault_19, rM_fault_22, rM_fault_23, rM_fault_26, rM_fault_27, rM_fault_30, Bool.false_eq_true, true_implies, false_implies, implies_true, true_and, and_true, not_true_eq_false, not_false_eq_true, zPush_I, zPush_L, zPush_R, zPush_U, Int.reduceLT, Int.reduceLE, Int.reduceEq, Int.reduceNe, Int.reduceAdd, Int.reduceSub, Int.reduceMul, Int.reduceNeg, Int.reduceToNat, Nat.reduceAdd, Nat.reduceMul, Nat.reduceEqDiff, zw32_id, zw64_id, zupd_eq, zupd_na, zupd_ni, zupp_eq, zupp_na, zupp_ni]
      have := hQ m1 (mOk_sc hm (f14_sc f1)) (pSc_C (f14_sc f1))
      unfold ft at this
      rw [hr] at this
      exact this
    · simp (disch := first | assumption | omega) only [rM_fault_19, rM_fault_22, rM_fault_23, rM_fault_26, rM_fault_27, rM_fault_30, Bool.false_eq_true, true_implies, false_implies, implies_true, true_and, and_true, not_true_eq_false, not_false_eq_true, zPush_I, zPush_L, zPush_R, zPush_U, Int.reduceLT, Int.reduceLE, Int.reduceEq, Int.reduceNe, Int.reduceAdd, Int.reduceSub, Int.reduceMul, Int.reduceNeg, Int.reduceToNat, Nat.reduceAdd, Nat.reduceMul, Nat.reduceEqDiff, zw32_id, zw64_id, zupd_eq, zupd_na, zupd_ni, zupp_eq, zupp_na, zupp_ni, c1]
      exact hQ m1 (mOk_sc hm (f14_sc f1)) (pSc_C (f14_sc f1))
  · rw [if_neg c] at hQ
    simp (disch := first | assumption | omega) only [rM_fault_0, rM_fault_1, rM_fault_4, rM_fault_7, rM_fault_8, rM_fault_10, kM_isProgram, Bool.false_eq_true, true_implies, false_implies, implies_true, true_and, and_true, not_true_eq_false, not_false_eq_true, zPush_I, zPush_L, zPush_R, zPush_U, Int.reduceLT, Int.reduceLE, Int.reduceEq, Int.reduceNe, Int.reduceAdd, Int.reduceSub, Int.reduceMul, Int.reduceNeg, Int.reduceToNat, Nat.reduceAdd, Nat.reduceMul, Nat.reduceEqDiff, zw32_id, zw64_id, zupd_eq, zupd_na, zupd_ni, zupp_eq, zupp_na, zupp_ni, c]
    refine mBadP h hm (fun m1 c1 f1 => ?_)
    simp (disch := first | assumption | omega) only [rM_fault_13, Bool.false_eq_true, true_implies, false_implies, implies_true, true_and, and_true, not_true_eq_false, not_false_eq_true, zPush_I, zPush_L, zPush_R, zPush_U, Int.reduceLT, Int.reduceLE, Int.reduceEq, Int.reduceNe, Int.reduceAdd, Int.reduceSub, Int.reduceMul, Int.reduceNeg, Int.reduceToNat, Nat.reduceAdd, Nat.reduceMul, Nat.reduceEqDiff, zw32_id, zw64_id, zupd_eq, zupd_na, zupd_ni, zupp_eq, zupp_na, zupp_ni]
    exact hQ m1 c1 f1
theorem mCellsDrawn (h : zLy sh pp) {g : Int → Int} (hd : ∀ i, 0 ≤ i → i < 384 → mm 132 i = g i) (h01 : ∀ i, g i = 0 ∨ g i = 1) (hQ : Q (zI (sumZ g 384)) sh pp mm) : zS 197 0 [zR 122, zU, zU] [] sh pp mm Q := by
  have k122 := k_122 h
  have k132 := k_132 h
  have l132 := l_132 h
  have p132 := p_122_18 h
  have hb : ∀ n, 0 ≤ sumZ g n ∧ sumZ g n ≤ (n : Int) := by
    intro n
    induction n with
    | zero => exact ⟨Int.le_refl 0, Int.le_refl 0⟩
    | succ n ih =>
      have e : sumZ g (n + 1) = sumZ g n + g (n : Int) := rfl
      have := h01 (n : Int)
      rw [e]
      push_cast
      omega
  have key : ∀ (d i : Nat), i + d = 384 → zS 197 4 [zR 122, zI (sumZ g i), zI i] [] sh pp mm Q := by
    intro d
    induction d with
    | zero =>
      intro i hi
      have hi : i = 384 := by omega
      subst hi
      rw [rM_cellsDrawn_4]
      simp (disch := first | assumption | omega) only [rM_cellsDrawn_5, rM_cellsDrawn_8, rM_cellsDrawn_11, rM_cellsDrawn_12, rM_cellsDrawn_13, rM_cellsDrawn_16, rM_cellsDrawn_17, rM_cellsDrawn_18, rM_cellsDrawn_21, rM_cellsDrawn_22, rM_cellsDrawn_25, rM_cellsDrawn_26, rM_cellsDrawn_27, rM_cellsDrawn_28, rM_cellsDrawn_31, rM_cellsDrawn_34, rM_cellsDrawn_35, Bool.false_eq_true, true_implies, false_implies, implies_true, true_and, and_true, not_true_eq_false, not_false_eq_true, zPush_I, zPush_L, zPush_R, zPush_U, Int.reduceLT, Int.reduceLE, Int.reduceEq, Int.reduceNe, Int.reduceAdd, Int.reduceSub, Int.reduceMul, Int.reduceNeg, Int.reduceToNat, Nat.reduceAdd, Nat.reduceMul, Nat.reduceEqDiff, zw32_id, zw64_id, zupd_eq, zupd_na, zupd_ni, zupp_eq, zupp_na, zupp_ni, show ¬ ((384 : Nat) : Int) < 384 by omega]
      exact hQ
    | succ d ih =>
      intro i hi
      have e := hd (i : Int) (by omega) (by omega)
      have nx := ih (i + 1) (by omega)
      have hbi := hb i
      have es : sumZ g (i + 1) = sumZ g i + g (i : Int) := rfl
      rw [es] at nx
      push_cast at nx
      rw [rM_cellsDrawn_4]
      rcases h01 (i : Int) with d0 | d0
      · rw [d0] at e nx
        simp (disch := first | assumption | omega) only [rM_cellsDrawn_5, rM_cellsDrawn_8, rM_cellsDrawn_11, rM_cellsDrawn_12, rM_cellsDrawn_13, rM_cellsDrawn_16, rM_cellsDrawn_17, rM_cellsDrawn_18, rM_cellsDrawn_21, rM_cellsDrawn_22, rM_cellsDrawn_25, rM_cellsDrawn_26, rM_cellsDrawn_27, rM_cellsDrawn_28, rM_cellsDrawn_31, Bool.false_eq_true, true_implies, false_implies, implies_true, true_and, and_true, not_true_eq_false, not_false_eq_true, zPush_I, zPush_L, zPush_R, zPush_U, Int.reduceLT, Int.reduceLE, Int.reduceEq, Int.reduceNe, Int.reduceAdd, Int.reduceSub, Int.reduceMul, Int.reduceNeg, Int.reduceToNat, Nat.reduceAdd, Nat.reduceMul, Nat.reduceEqDiff, zw32_id, zw64_id, zupd_eq, zupd_na, zupd_ni, zupp_eq, zupp_na, zupp_ni, show (i : Int) < 384 by omega, p132, e]
        exact nx
      · rw [d0] at e nx
        simp (disch := first | assumption | omega) only [rM_cellsDrawn_5, rM_cellsDrawn_8, rM_cellsDrawn_11, rM_cellsDrawn_12, rM_cellsDrawn_13, rM_cellsDrawn_16, rM_cellsDrawn_17, rM_cellsDrawn_18, rM_cellsDrawn_21, rM_cellsDrawn_22, rM_cellsDrawn_25, rM_cellsDrawn_26, rM_cellsDrawn_27, rM_cellsDrawn_28, rM_cellsDrawn_31, Bool.false_eq_true, true_implies, false_implies, implies_true, true_and, and_true, not_true_eq_false, not_false_eq_true, zPush_I, zPush_L, zPush_R, zPush_U, Int.reduceLT, Int.reduceLE, Int.reduceEq, Int.reduceNe, Int.reduceAdd, Int.reduceSub, Int.reduceMul, Int.reduceNeg, Int.reduceToNat, Nat.reduceAdd, Nat.reduceMul, Nat.reduceEqDiff, zw32_id, zw64_id, zupd_eq, zupd_na, zupd_ni, zupp_eq, zupp_na, zupp_ni, show (i : Int) < 384 by omega, p132, e]
        exact nx
  simp (disch := first | assumption | omega) only [rM_cellsDrawn_0, rM_cellsDrawn_1, rM_cellsDrawn_2, rM_cellsDrawn_3, Bool.false_eq_true, true_implies, false_implies, implies_true, true_and, and_true, not_true_eq_false, not_false_eq_true, zPush_I, zPush_L, zPush_R, zPush_U, Int.reduceLT, Int.reduceLE, Int.reduceEq, Int.reduceNe, Int.reduceAdd, Int.reduceSub, Int.reduceMul, Int.reduceNeg, Int.reduceToNat, Nat.reduceAdd, Nat.reduceMul, Nat.reduceEqDiff, zw32_id, zw64_id, zupd_eq, zupd_na, zupd_ni, zupp_eq, zupp_na, zupp_ni]
  exact key 384 0 rfl
theorem mDraws (h : zLy sh pp) (hm : mOk f G cn N D mm) (hf : fOk f) {p w : Int} (hQ : ∀ m, mOk f G (oDraws f cn p w).1 N D m → frC mm m → Q (zI (oDraws f cn p w).2) sh pp m) : zS 198 0 [zR 122, zI p, zI w] [] sh pp mm Q := by
  have k122 := k_122 h
  have k130 := k_130 h
  have l130 := l_130 h
  have p130 := p_122_16 h
  unfold oDraws at hQ
  by_cases c : 0 ≤ p ∧ p ≤ 3
  · by_cases cw : 0 ≤ w ∧ w ≤ 9
    · rw [if_pos ⟨c, cw⟩] at hQ
      simp (disch := first | assumption | omega) only [rM_draws_0, rM_draws_1, rM_draws_4, rM_draws_7, rM_draws_8, rM_draws_9, rM_draws_10, rM_draws_13, rM_draws_16, rM_draws_19, rM_draws_20, rM_draws_22, rM_draws_25, rM_draws_26, rM_draws_27, rM_draws_28, kM_isProgram, kM_in, Bool.false_eq_true, true_implies, false_implies, implies_true, true_and, and_true, not_true_eq_false, not_false_eq_true, zPush_I, zPush_L, zPush_R, zPush_U, Int.reduceLT, Int.reduceLE, Int.reduceEq, Int.reduceNe, Int.reduceAdd, Int.reduceSub, Int.reduceMul, Int.reduceNeg, Int.reduceToNat, Nat.reduceAdd, Nat.reduceMul, Nat.reduceEqDiff, zw32_id, zw64_id, zupd_eq, zupd_na, zupd_ni, zupp_eq, zupp_na, zupp_ni, c, cw]
      refine mReads h hf hm.1 c.1 c.2 (fun m1 c1 f1 hr => ?_) (fun m1 c1 f1 hr => ?_)
      · have hr' : ft f p = -1 := hr
        rw [if_pos hr'] at hQ
        have hok := dOf_ok hf c.1 c.2 hr
        simp (disch := first | assumption | omega) only [rM_draws_31, rM_draws_34, rM_draws_35, rM_draws_37, rM_draws_40, rM_draws_41, rM_draws_42, rM_draws_43, Bool.false_eq_true, true_implies, false_implies, implies_true, true_and, and_true, not_true_eq_false, not_false_eq_true, zPush_I, zPush_L, zPush_R, zPush_U, Int.reduceLT, Int.reduceLE, Int.reduceEq, Int.reduceNe, Int.reduceAdd, Int.reduceSub, Int.reduceMul, Int.reduceNeg, Int.reduceToNat, Nat.reduceAdd, Nat.reduceMul, Nat.reduceEqDiff, zw32_id, zw64_id, zupd_eq, zupd_na, zupd_ni, zupp_eq, zupp_na, zupp_ni]
        refine mDoes h hf (fun k k0 k1 => by rw [f1 _ _ (by omega)]; exact hm.1 k k0 k1) c.1 c.2 hr (fun m2 c2 s2 t2 f2 => ?_)
        have fz : frP pSc mm m2 := frP_tr (f14_sc f1) (pDo_sc f2)
        have q := hQ m2 (mOk_sc hm fz) (pSc_C fz)
        obtain ⟨x1, ⟨x2, x2'⟩, x3, x4, x5, x6, x7, x8, x9, x10⟩ := c2
        have hw : w = 0 ∨ w = 1 ∨ w = 2 ∨ w = 3 ∨ w = 4 ∨ w = 5 ∨ w = 6 ∨ w = 7 ∨ w = 8 ∨ w = 9 := by omega
        unfold dAns dPl at q
        rcases hw with rfl | rfl | rfl | rfl | rfl | rfl | rfl | rfl | rfl | rfl
        · simp (disch := first | assumption | omega) only [rM_draws_46, rM_draws_47_0, rM_draws_47_1, rM_draws_47_2, rM_draws_47_3, rM_draws_47_4, rM_draws_47_5, rM_draws_47_6, rM_draws_47_7, rM_draws_47_8, rM_draws_47_d, rM_draws_96, rM_draws_97, Bool.false_eq_true, true_implies, false_implies, implies_true, true_and, and_true, not_true_eq_false, not_false_eq_true, zPush_I, zPush_L, zPush_R, zPush_U, Int.reduceLT, Int.reduceLE, Int.reduceEq, Int.reduceNe, Int.reduceAdd, Int.reduceSub, Int.reduceMul, Int.reduceNeg, Int.reduceToNat, Nat.reduceAdd, Nat.reduceMul, Nat.reduceEqDiff, zw32_id, zw64_id, zupd_eq, zupd_na, zupd_ni, zupp_eq, zupp_na, zupp_ni]
          refine mCellsDrawn (g := gDr f p) h x4 (fun i => hok.2.2.2.1 i) ?_
          simp (disch := first | assumption | omega) only [rM_draws_100, Bool.false_eq_true, true_implies, false_implies, implies_true, true_and, and_true, not_true_eq_false, not_false_eq_true, zPush_I, zPush_L, zPush_R, zPush_U, Int.reduceLT, Int.reduceLE, Int.reduceEq, Int.reduceNe, Int.reduceAdd, Int.reduceSub, Int.reduceMul, Int.reduceNeg, Int.reduceToNat, Nat.reduceAdd, Nat.reduceMul, Nat.reduceEqDiff, zw32_id, zw64_id, zupd_eq, zupd_na, zupd_ni, zupp_eq, zupp_na, zupp_ni]
          exact q
        · simp (disch := first | assumption | omega) only [rM_draws_46, rM_draws_47_0, rM_draws_47_1, rM_draws_47_2, rM_draws_47_3, rM_draws_47_4, rM_draws_47_5, rM_draws_47_6, rM_draws_47_7, rM_draws_47_8, rM_draws_47_d, rM_draws_96, rM_draws_97, rM_draws_100, rM_draws_101, rM_draws_102, rM_draws_105, rM_draws_106, rM_draws_107, rM_draws_110, rM_draws_111, rM_draws_112, rM_draws_115, rM_draws_116, rM_draws_117, rM_draws_120, rM_draws_121, rM_draws_122, rM_draws_125, rM_draws_126, rM_draws_127, rM_draws_130, rM_draws_131, rM_draws_133, rM_draws_134, rM_draws_135, rM_draws_136, rM_draws_137, rM_draws_140, rM_draws_141, rM_draws_142, rM_draws_145, rM_draws_148, rM_draws_149, rM_draws_152, rM_draws_153, Bool.false_eq_true, true_implies, false_implies, implies_true, true_and, and_true, not_true_eq_false, not_false_eq_true, zPush_I, zPush_L, zPush_R, zPush_U, Int.reduceLT, Int.reduceLE, Int.reduceEq, Int.reduceNe, Int.reduceAdd, Int.reduceSub, Int.reduceMul, Int.reduceNeg, Int.reduceToNat, Nat.reduceAdd, Nat.reduceMul, Nat.reduceEqDiff, zw32_id, zw64_id, zupd_eq, zupd_na, zupd_ni, zupp_eq, zupp_na, zupp_ni, x6]
          exact q
        · simp (disch := first | assumption | omega) only [rM_draws_46, rM_draws_47_0, rM_draws_47_1, rM_draws_47_2, rM_draws_47_3, rM_draws_47_4, rM_draws_47_5, rM_draws_47_6, rM_draws_47_7, rM_draws_47_8, rM_draws_47_d, rM_draws_96, rM_draws_97, rM_draws_100, rM_draws_101, rM_draws_102, rM_draws_105, rM_draws_106, rM_draws_107, rM_draws_110, rM_draws_111, rM_draws_112, rM_draws_115, rM_draws_116, rM_draws_117, rM_draws_120, rM_draws_121, rM_draws_122, rM_draws_125, rM_draws_126, rM_draws_127, rM_draws_130, rM_draws_131, rM_draws_133, rM_draws_134, rM_draws_135, rM_draws_136, rM_draws_137, rM_draws_140, rM_draws_141, rM_draws_142, rM_draws_145, rM_draws_148, rM_draws_149, rM_draws_152, rM_draws_153, Bool.false_eq_true, true_implies, false_implies, implies_true, true_and, and_true, not_true_eq_false, not_false_eq_true, zPush_I, zPush_L, zPush_R, zPush_U, Int.reduceLT, Int.reduceLE, Int.reduceEq, Int.reduceNe, Int.reduceAdd, Int.reduceSub, Int.reduceMul, Int.reduceNeg, Int.reduceToNat, Nat.reduceAdd, Nat.reduceMul, Nat.reduceEqDiff, zw32_id, zw64_id, zupd_eq, zupd_na, zupd_ni, zupp_eq, zupp_na, zupp_ni, x7]
          exact q
        · simp (disch := first | assumption | omega) only [rM_draws_46, rM_draws_47_0, rM_draws_47_1, rM_draws_47_2, rM_draws_47_3, rM_draws_47_4, rM_draws_47_5, rM_draws_47_6, rM_draws_47_7, rM_draws_47_8, rM_draws_47_d, rM_draws_96, rM_draws_97, rM_draws_100, rM_draws_101, rM_draws_102, rM_draws_105, rM_draws_106, rM_draws_107, rM_draws_110, rM_draws_111, rM_draws_112, rM_draws_115, rM_draws_116, rM_draws_117, rM_draws_120, rM_draws_121, rM_draws_122, rM_draws_125, rM_draws_126, rM_draws_127, rM_draws_130, rM_draws_131, rM_draws_133, rM_draws_134, rM_draws_135, rM_draws_136, rM_draws_137, rM_draws_140, rM_draws_141, rM_draws_142, rM_draws_145, rM_draws_148, rM_draws_149, rM_draws_152, rM_draws_153, Bool.false_eq_true, true_implies, false_implies, implies_true, true_and, and_true, not_true_eq_false, not_false_eq_true, zPush_I, zPush_L, zPush_R, zPush_U, Int.reduceLT, Int.reduceLE, Int.reduceEq, Int.reduceNe, Int.reduceAdd, Int.reduceSub, Int.reduceMul, Int.reduceNeg, Int.reduceToNat, Nat.reduceAdd, Nat.reduceMul, Nat.reduceEqDiff, zw32_id, zw64_id, zupd_eq, zupd_na, zupd_ni, zupp_eq, zupp_na, zupp_ni, x8]
          exact q
        · simp (disch := first | assumption | omega) only [rM_draws_46, rM_draws_47_0, rM_draws_47_1, rM_draws_47_2, rM_draws_47_3, rM_draws_47_4, rM_draws_47_5, rM_draws_47_6, rM_draws_47_7, rM_draws_47_8, rM_draws_47_d, rM_draws_96, rM_draws_97, rM_draws_100, rM_draws_101, rM_draws_102, rM_draws_105, rM_draws_106, rM_draws_107, rM_draws_110, rM_draws_111, rM_draws_112, rM_draws_115, rM_draws_116, rM_draws_117, rM_draws_120, rM_draws_121, rM_draws_122, rM_draws_125, rM_draws_126, rM_draws_127, rM_draws_130, rM_draws_131, rM_draws_133, rM_draws_134, rM_draws_135, rM_draws_136, rM_draws_137, rM_draws_140, rM_draws_141, rM_draws_142, rM_draws_145, rM_draws_148, rM_draws_149, rM_draws_152, rM_draws_153, Bool.false_eq_true, true_implies, false_implies, implies_true, true_and, and_true, not_true_eq_false, not_false_eq_true, zPush_I, zPush_L, zPush_R, zPush_U, Int.reduceLT, Int.reduceLE, Int.reduceEq, Int.reduceNe, Int.reduceAdd, Int.reduceSub, Int.reduceMul, Int.reduceNeg, Int.reduceToNat, Nat.reduceAdd, Nat.reduceMul, Nat.reduceEqDiff, zw32_id, zw64_id, zupd_eq, zupd_na, zupd_ni, zupp_eq, zupp_na, zupp_ni, x9]
          exact q
        · simp (disch := first | assumption | omega) only [rM_draws_46, rM_draws_47_0, rM_draws_47_1, rM_draws_47_2, rM_draws_47_3, rM_draws_47_4, rM_draws_47_5, rM_draws_47_6, rM_draws_47_7, rM_draws_47_8, rM_draws_47_d, rM_draws_96, rM_draws_97, rM_draws_100, rM_draws_101, rM_draws_102, rM_draws_105, rM_draws_106, rM_draws_107, rM_draws_110, rM_draws_111, rM_draws_112, rM_draws_115, rM_draws_116, rM_draws_117, rM_draws_120, rM_draws_121, rM_draws_122, rM_draws_125, rM_draws_126, rM_draws_127, rM_draws_130, rM_draws_131, rM_draws_133, rM_draws_134, rM_draws_135, rM_draws_136, rM_draws_137, rM_draws_140, rM_draws_141, rM_draws_142, rM_draws_145, rM_draws_148, rM_draws_149, rM_draws_152, rM_draws_153, Bool.false_eq_true, true_implies, false_implies, implies_true, true_and, and_true, not_true_eq_false, not_false_eq_true, zPush_I, zPush_L, zPush_R, zPush_U, Int.reduceLT, Int.reduceLE, Int.reduceEq, Int.reduceNe, Int.reduceAdd, Int.reduceSub, Int.reduceMul, Int.reduceNeg, Int.reduceToNat, Nat.reduceAdd, Nat.reduceMul, Nat.reduceEqDiff, zw32_id, zw64_id, zupd_eq, zupd_na, zupd_ni, zupp_eq, zupp_na, zupp_ni, x10]
          exact q
        · simp (disch := first | assumption | omega) only [rM_draws_46, rM_draws_47_0, rM_draws_47_1, rM_draws_47_2, rM_draws_47_3, rM_draws_47_4, rM_draws_47_5, rM_draws_47_6, rM_draws_47_7, rM_draws_47_8, rM_draws_47_d, rM_draws_96, rM_draws_97, rM_draws_100, rM_draws_101, rM_draws_102, rM_draws_105, rM_draws_106, rM_draws_107, rM_draws_110, rM_draws_111, rM_draws_112, rM_draws_115, rM_draws_116, rM_draws_117, rM_draws_120, rM_draws_121, rM_draws_122, rM_draws_125, rM_draws_126, rM_draws_127, rM_draws_130, rM_draws_131, rM_draws_133, rM_draws_134, rM_draws_135, rM_draws_136, rM_draws_137, rM_draws_140, rM_draws_141, rM_draws_142, rM_draws_145, rM_draws_148, rM_draws_149, rM_draws_152, rM_draws_153, Bool.false_eq_true, true_implies, false_implies, implies_true, true_and, and_true, not_true_eq_false, not_false_eq_true, zPush_I, zPush_L, zPush_R, zPush_U, Int.reduceLT, Int.reduceLE, Int.reduceEq, Int.reduceNe, Int.reduceAdd, Int.reduceSub, Int.reduceMul, Int.reduceNeg, Int.reduceToNat, Nat.reduceAdd, Nat.reduceMul, Nat.reduceEqDiff, zw32_id, zw64_id, zupd_eq, zupd_na, zupd_ni, zupp_eq, zupp_na, zupp_ni, p130, x2]
          exact q
        · simp (disch := first | assumption | omega) only [rM_draws_46, rM_draws_47_0, rM_draws_47_1, rM_draws_47_2, rM_draws_47_3, rM_draws_47_4, rM_draws_47_5, rM_draws_47_6, rM_draws_47_7, rM_draws_47_8, rM_draws_47_d, rM_draws_96, rM_draws_97, rM_draws_100, rM_draws_101, rM_draws_102, rM_draws_105, rM_draws_106, rM_draws_107, rM_draws_110, rM_draws_111, rM_draws_112, rM_draws_115, rM_draws_116, rM_draws_117, rM_draws_120, rM_draws_121, rM_draws_122, rM_draws_125, rM_draws_126, rM_draws_127, rM_draws_130, rM_draws_131, rM_draws_133, rM_draws_134, rM_draws_135, rM_draws_136, rM_draws_137, rM_draws_140, rM_draws_141, rM_draws_142, rM_draws_145, rM_draws_148, rM_draws_149, rM_draws_152, rM_draws_153, Bool.false_eq_true, true_implies, false_implies, implies_true, true_and, and_true, not_true_eq_false, not_false_eq_true, zPush_I, zPush_L, zPush_R, zPush_U, Int.reduceLT, Int.reduceLE, Int.reduceEq, Int.reduceNe, Int.reduceAdd, Int.reduceSub, Int.reduceMul, Int.reduceNeg, Int.reduceToNat, Nat.reduceAdd, Nat.reduceMul, Nat.reduceEqDiff, zw32_id, zw64_id, zupd_eq, zupd_na, zupd_ni, zupp_eq, zupp_na, zupp_ni, p130, x2']
          exact q
        · simp (disch := first | assumption | omega) only [rM_draws_46, rM_draws_47_0, rM_draws_47_1, rM_draws_47_2, rM_draws_47_3, rM_draws_47_4, rM_draws_47_5, rM_draws_47_6, rM_draws_47_7, rM_draws_47_8, rM_draws_47_d, rM_draws_96, rM_draws_97, rM_draws_100, rM_draws_101, rM_draws_102, rM_draws_105, rM_draws_106, rM_draws_107, rM_draws_110, rM_draws_111, rM_draws_112, rM_draws_115, rM_draws_116, rM_draws_117, rM_draws_120, rM_draws_121, rM_draws_122, rM_draws_125, rM_draws_126, rM_draws_127, rM_draws_130, rM_draws_131, rM_draws_133, rM_draws_134, rM_draws_135, rM_draws_136, rM_draws_137, rM_draws_140, rM_draws_141, rM_draws_142, rM_draws_145, rM_draws_148, rM_draws_149, rM_draws_152, rM_draws_153, Bool.false_eq_true, true_implies, false_implies, implies_true, true_and, and_true, not_true_eq_false, not_false_eq_true, zPush_I, zPush_L, zPush_R, zPush_U, Int.reduceLT, Int.reduceLE, Int.reduceEq, Int.reduceNe, Int.reduceAdd, Int.reduceSub, Int.reduceMul, Int.reduceNeg, Int.reduceToNat, Nat.reduceAdd, Nat.reduceMul, Nat.reduceEqDiff, zw32_id, zw64_id, zupd_eq, zupd_na, zupd_ni, zupp_eq, zupp_na, zupp_ni, s2]
          exact q
        · cases hsp : (dOf f p).2.2.2.2.2.1 with
          | true =>
            rw [hsp] at t2 q
            have t2 : m2 122 26 = 1 := t2
            simp (disch := first | assumption | omega) only [rM_draws_46, rM_draws_47_0, rM_draws_47_1, rM_draws_47_2, rM_draws_47_3, rM_draws_47_4, rM_draws_47_5, rM_draws_47_6, rM_draws_47_7, rM_draws_47_8, rM_draws_47_d, rM_draws_96, rM_draws_97, rM_draws_100, rM_draws_101, rM_draws_102, rM_draws_105, rM_draws_106, rM_draws_107, rM_draws_110, rM_draws_111, rM_draws_112, rM_draws_115, rM_draws_116, rM_draws_117, rM_draws_120, rM_draws_121, rM_draws_122, rM_draws_125, rM_draws_126, rM_draws_127, rM_draws_130, rM_draws_131, rM_draws_133, rM_draws_134, rM_draws_135, rM_draws_136, rM_draws_137, rM_draws_140, rM_draws_141, rM_draws_142, rM_draws_145, rM_draws_148, rM_draws_149, rM_draws_152, rM_draws_153, Bool.false_eq_true, true_implies, false_implies, implies_true, true_and, and_true, not_true_eq_false, not_false_eq_true, zPush_I, zPush_L, zPush_R, zPush_U, Int.reduceLT, Int.reduceLE, Int.reduceEq, Int.reduceNe, Int.reduceAdd, Int.reduceSub, Int.reduceMul, Int.reduceNeg, Int.reduceToNat, Nat.reduceAdd, Nat.reduceMul, Nat.reduceEqDiff, zw32_id, zw64_id, zupd_eq, zupd_na, zupd_ni, zupp_eq, zupp_na, zupp_ni, t2]
            exact q
          | false =>
            rw [hsp] at t2 q
            have t2 : m2 122 26 = 0 := t2
            simp (disch := first | assumption | omega) only [rM_draws_46, rM_draws_47_0, rM_draws_47_1, rM_draws_47_2, rM_draws_47_3, rM_draws_47_4, rM_draws_47_5, rM_draws_47_6, rM_draws_47_7, rM_draws_47_8, rM_draws_47_d, rM_draws_96, rM_draws_97, rM_draws_100, rM_draws_101, rM_draws_102, rM_draws_105, rM_draws_106, rM_draws_107, rM_draws_110, rM_draws_111, rM_draws_112, rM_draws_115, rM_draws_116, rM_draws_117, rM_draws_120, rM_draws_121, rM_draws_122, rM_draws_125, rM_draws_126, rM_draws_127, rM_draws_130, rM_draws_131, rM_draws_133, rM_draws_134, rM_draws_135, rM_draws_136, rM_draws_137, rM_draws_140, rM_draws_141, rM_draws_142, rM_draws_145, rM_draws_148, rM_draws_149, rM_draws_152, rM_draws_153, Bool.false_eq_true, true_implies, false_implies, implies_true, true_and, and_true, not_true_eq_false, not_false_eq_true, zPush_I, zPush_L, zPush_R, zPush_U, Int.reduceLT, Int.reduceLE, Int.reduceEq, Int.reduceNe, Int.reduceAdd, Int.reduceSub, Int.reduceMul, Int.reduceNeg, Int.reduceToNat, Nat.reduceAdd, Nat.reduceMul, Nat.reduceEqDiff, zw32_id, zw64_id, zupd_eq, zupd_na, zupd_ni, zupp_eq, zupp_na, zupp_ni, t2]
            exact q
      · have hr' : ¬ ft f p = -1 := hr
        rw [if_neg hr'] at hQ
        simp (disch := first | assumption | omega) only [rM_draws_31, rM_draws_34, rM_draws_35, rM_draws_37, Bool.false_eq_true, true_implies, false_implies, implies_true, true_and, and_true, not_true_eq_false, not_false_eq_true, zPush_I, zPush_L, zPush_R, zPush_U, Int.reduceLT, Int.reduceLE, Int.reduceEq, Int.reduceNe, Int.reduceAdd, Int.reduceSub, Int.reduceMul, Int.reduceNeg, Int.reduceToNat, Nat.reduceAdd, Nat.reduceMul, Nat.reduceEqDiff, zw32_id, zw64_id, zupd_eq, zupd_na, zupd_ni, zupp_eq, zupp_na, zupp_ni]
        refine mNoP h (mOk_sc hm (f14_sc f1)) (fun m2 c2 f2 => ?_)
        simp (disch := first | assumption | omega) only [rM_draws_40, Bool.false_eq_true, true_implies, false_implies, implies_true, true_and, and_true, not_true_eq_false, not_false_eq_true, zPush_I, zPush_L, zPush_R, zPush_U, Int.reduceLT, Int.reduceLE, Int.reduceEq, Int.reduceNe, Int.reduceAdd, Int.reduceSub, Int.reduceMul, Int.reduceNeg, Int.reduceToNat, Nat.reduceAdd, Nat.reduceMul, Nat.reduceEqDiff, zw32_id, zw64_id, zupd_eq, zupd_na, zupd_ni, zupp_eq, zupp_na, zupp_ni]
        exact hQ m2 c2 (frC_tr (pSc_C (f14_sc f1)) f2)
    · rw [if_neg (fun hc => cw hc.2)] at hQ
      simp (disch := first | assumption | omega) only [rM_draws_0, rM_draws_1, rM_draws_4, rM_draws_7, rM_draws_8, rM_draws_9, rM_draws_10, rM_draws_13, rM_draws_16, rM_draws_19, rM_draws_20, rM_draws_22, kM_isProgram, kM_in, Bool.false_eq_true, true_implies, false_implies, implies_true, true_and, and_true, not_true_eq_false, not_false_eq_true, zPush_I, zPush_L, zPush_R, zPush_U, Int.reduceLT, Int.reduceLE, Int.reduceEq, Int.reduceNe, Int.reduceAdd, Int.reduceSub, Int.reduceMul, Int.reduceNeg, Int.reduceToNat, Nat.reduceAdd, Nat.reduceMul, Nat.reduceEqDiff, zw32_id, zw64_id, zupd_eq, zupd_na, zupd_ni, zupp_eq, zupp_na, zupp_ni, c, cw]
      refine mBadP h hm (fun m1 c1 f1 => ?_)
      simp (disch := first | assumption | omega) only [rM_draws_25, Bool.false_eq_true, true_implies, false_implies, implies_true, true_and, and_true, not_true_eq_false, not_false_eq_true, zPush_I, zPush_L, zPush_R, zPush_U, Int.reduceLT, Int.reduceLE, Int.reduceEq, Int.reduceNe, Int.reduceAdd, Int.reduceSub, Int.reduceMul, Int.reduceNeg, Int.reduceToNat, Nat.reduceAdd, Nat.reduceMul, Nat.reduceEqDiff, zw32_id, zw64_id, zupd_eq, zupd_na, zupd_ni, zupp_eq, zupp_na, zupp_ni]
      exact hQ m1 c1 f1
  · rw [if_neg (fun hc => c hc.1)] at hQ
    simp (disch := first | assumption | omega) only [rM_draws_0, rM_draws_1, rM_draws_4, rM_draws_7, rM_draws_8, rM_draws_9, rM_draws_10, rM_draws_13, rM_draws_16, rM_draws_19, rM_draws_20, rM_draws_22, kM_isProgram, kM_in, Bool.false_eq_true, true_implies, false_implies, implies_true, true_and, and_true, not_true_eq_false, not_false_eq_true, zPush_I, zPush_L, zPush_R, zPush_U, Int.reduceLT, Int.reduceLE, Int.reduceEq, Int.reduceNe, Int.reduceAdd, Int.reduceSub, Int.reduceMul, Int.reduceNeg, Int.reduceToNat, Nat.reduceAdd, Nat.reduceMul, Nat.reduceEqDiff, zw32_id, zw64_id, zupd_eq, zupd_na, zupd_ni, zupp_eq, zupp_na, zupp_ni, c]
    refine mBadP h hm (fun m1 c1 f1 => ?_)
    simp (disch := first | assumption | omega) only [rM_draws_25, Bool.false_eq_true, true_implies, false_implies, implies_true, true_and, and_true, not_true_eq_false, not_false_eq_true, zPush_I, zPush_L, zPush_R, zPush_U, Int.reduceLT, Int.reduceLE, Int.reduceEq, Int.reduceNe, Int.reduceAdd, Int.reduceSub, Int.reduceMul, Int.reduceNeg, Int.reduceToNat, Nat.reduceAdd, Nat.reduceMul, Nat.reduceEqDiff, zw32_id, zw64_id, zupd_eq, zupd_na, zupd_ni, zupp_eq, zupp_na, zupp_ni]
    exact hQ m1 c1 f1
end
