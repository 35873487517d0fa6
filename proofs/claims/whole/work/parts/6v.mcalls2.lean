/-! ===== more calls of the reference ===== -/
noncomputable def oShare (f cn : Int → Int) (N D : Nat) (q a : Int) : (Int → Int) × Nat × Nat × Int := if gAny f 4 = true then (cn, (gT q a f 4).2 / Nat.gcd (gT q a f 4).2 (gT q a f 4).1, (gT q a f 4).1 / Nat.gcd (gT q a f 4).2 (gT q a f 4).1, 1) else (bump cn 1, N, D, -3)
noncomputable def oOdds (f cn : Int → Int) (N D : Nat) (p : Int) : (Int → Int) × Nat × Nat × Int := if 0 ≤ p ∧ p ≤ 3 then oShare f cn N D 0 p else (bump cn 0, N, D, -2)
noncomputable def oBefore (f cn : Int → Int) (N D : Nat) (x y : Int) : (Int → Int) × Nat × Nat × Int := if (0 ≤ x ∧ x ≤ 23) ∧ (0 ≤ y ∧ y ≤ 15) then oShare f cn N D 2 (24 * y + x) else (bump cn 0, N, D, -2)
section
variable {sh : zSh} {pp : zPp} {mm : zMm} {Q : zV → zSh → zPp → zMm → Prop} {f : Int → Int} {G : Int → Option (Int → Int)} {cn : Int → Int} {N D : Nat}
theorem mCell (h : zLy sh pp) (hm : mOk f G cn N D mm) (hf : fOk f) {p x y : Int} (hQ : ∀ m, mOk f G (oCell f cn p x y).1 N D m → frC mm m → Q (zI (oCell f cn p x y).2) sh pp m) : zS 199 0 [zR 122, zI p, zI x, zI y] [] sh pp mm Q := by
  have k122 := k_122 h
  have k132 := k_132 h
  have l132 := l_132 h
  have p132 := p_122_18 h
  unfold oCell at hQ
  by_cases c : 0 ≤ p ∧ p ≤ 3
  · by_cases cw : (0 ≤ x ∧ x ≤ 23) ∧ (0 ≤ y ∧ y ≤ 15)
    · rw [if_pos ⟨c, cw⟩] at hQ
      simp (disch := first | assumption | omega) only [rM_cell_0, rM_cell_1, rM_cell_4, rM_cell_7, rM_cell_8, rM_cell_9, rM_cell_12, rM_cell_15, rM_cell_16, rM_cell_18, rM_cell_21, rM_cell_22, rM_cell_23, rM_cell_24, kM_isProgram, kM_isCell, Bool.false_eq_true, true_implies, false_implies, implies_true, true_and, and_true, not_true_eq_false, not_false_eq_true, zPush_I, zPush_L, zPush_R, zPush_U, Int.reduceLT, Int.reduceLE, Int.reduceEq, Int.reduceNe, Int.reduceAdd, Int.reduceSub, Int.reduceMul, Int.reduceNeg, Int.reduceToNat, Nat.reduceAdd, Nat.reduceMul, Nat.reduceEqDiff, zw32_id, zw64_id, zupd_eq, zupd_na, zupd_ni, zupp_eq, zupp_na, zupp_ni, c, cw]
      refine mReads h hf hm.1 c.1 c.2 (fun m1 c1 f1 hr => ?_) (fun m1 c1 f1 hr => ?_)
      · have hr' : ft f p = -1 := hr
        rw [if_pos hr'] at hQ
        have hok := dOf_ok hf c.1 c.2 hr
        simp (disch := first | assumption | omega) only [rM_cell_27, rM_cell_30, rM_cell_31, rM_cell_33, rM_cell_36, rM_cell_37, rM_cell_38, rM_cell_39, Bool.false_eq_true, true_implies, false_implies, implies_true, true_and, and_true, not_true_eq_false, not_false_eq_true, zPush_I, zPush_L, zPush_R, zPush_U, Int.reduceLT, Int.reduceLE, Int.reduceEq, Int.reduceNe, Int.reduceAdd, Int.reduceSub, Int.reduceMul, Int.reduceNeg, Int.reduceToNat, Nat.reduceAdd, Nat.reduceMul, Nat.reduceEqDiff, zw32_id, zw64_id, zupd_eq, zupd_na, zupd_ni, zupp_eq, zupp_na, zupp_ni]
        refine mDoes h hf (fun k k0 k1 => by rw [f1 _ _ (by omega)]; exact hm.1 k k0 k1) c.1 c.2 hr (fun m2 c2 s2 t2 f2 => ?_)
        have fz : frP pSc mm m2 := frP_tr (f14_sc f1) (pDo_sc f2)
        have q := hQ m2 (mOk_sc hm fz) (pSc_C fz)
        have x4 : m2 132 (24 * y + x) = gDr f p (24 * y + x) := c2.2.2.2.1 (24 * y + x) (by omega) (by omega)
        have hd : gDr f p (24 * y + x) = 0 ∨ gDr f p (24 * y + x) = 1 := hok.2.2.2.1 (24 * y + x)
        rcases hd with hd | hd
        · rw [hd] at x4 q
          simp (disch := first | assumption | omega) only [rM_cell_42, rM_cell_43, rM_cell_46, rM_cell_48, rM_cell_49, rM_cell_50, rM_cell_51, rM_cell_52, rM_cell_53, rM_cell_56, rM_cell_57, rM_cell_60, rM_cell_61, Bool.false_eq_true, true_implies, false_implies, implies_true, true_and, and_true, not_true_eq_false, not_false_eq_true, zPush_I, zPush_L, zPush_R, zPush_U, Int.reduceLT, Int.reduceLE, Int.reduceEq, Int.reduceNe, Int.reduceAdd, Int.reduceSub, Int.reduceMul, Int.reduceNeg, Int.reduceToNat, Nat.reduceAdd, Nat.reduceMul, Nat.reduceEqDiff, zw32_id, zw64_id, zupd_eq, zupd_na, zupd_ni, zupp_eq, zupp_na, zupp_ni, p132, x4]
          exact q
        · rw [hd] at x4 q
          simp (disch := first | assumption | omega) only [rM_cell_42, rM_cell_43, rM_cell_46, rM_cell_48, rM_cell_49, rM_cell_50, rM_cell_51, rM_cell_52, rM_cell_53, rM_cell_56, rM_cell_57, rM_cell_60, rM_cell_61, Bool.false_eq_true, true_implies, false_implies, implies_true, true_and, and_true, not_true_eq_false, not_false_eq_true, zPush_I, zPush_L, zPush_R, zPush_U, Int.reduceLT, Int.reduceLE, Int.reduceEq, Int.reduceNe, Int.reduceAdd, Int.reduceSub, Int.reduceMul, Int.reduceNeg, Int.reduceToNat, Nat.reduceAdd, Nat.reduceMul, Nat.reduceEqDiff, zw32_id, zw64_id, zupd_eq, zupd_na, zupd_ni, zupp_eq, zupp_na, zupp_ni, p132, x4]
          exact q
      · have hr' : ¬ ft f p = -1 := hr
        rw [if_neg hr'] at hQ
        simp (disch := first | assumption | omega) only [rM_cell_27, rM_cell_30, rM_cell_31, rM_cell_33, Bool.false_eq_true, true_implies, false_implies, implies_true, true_and, and_true, not_true_eq_false, not_false_eq_true, zPush_I, zPush_L, zPush_R, zPush_U, Int.reduceLT, Int.reduceLE, Int.reduceEq, Int.reduceNe, Int.reduceAdd, Int.reduceSub, Int.reduceMul, Int.reduceNeg, Int.reduceToNat, Nat.reduceAdd, Nat.reduceMul, Nat.reduceEqDiff, zw32_id, zw64_id, zupd_eq, zupd_na, zupd_ni, zupp_eq, zupp_na, zupp_ni]
        refine mNoP h (mOk_sc hm (f14_sc f1)) (fun m2 c2 f2 => ?_)
        simp (disch := first | assumption | omega) only [rM_cell_36, Bool.false_eq_true, true_implies, false_implies, implies_true, true_and, and_true, not_true_eq_false, not_false_eq_true, zPush_I, zPush_L, zPush_R, zPush_U, Int.reduceLT, Int.reduceLE, Int.reduceEq, Int.reduceNe, Int.reduceAdd, Int.reduceSub, Int.reduceMul, Int.reduceNeg, Int.reduceToNat, Nat.reduceAdd, Nat.reduceMul, Nat.reduceEqDiff, zw32_id, zw64_id, zupd_eq, zupd_na, zupd_ni, zupp_eq, zupp_na, zupp_ni]
        exact hQ m2 c2 (frC_tr (pSc_C (f14_sc f1)) f2)
    · rw [if_neg (fun hc => cw hc.2)] at hQ
      simp (disch := first | assumption | omega) only [rM_cell_0, rM_cell_1, rM_cell_4, rM_cell_7, rM_cell_8, rM_cell_9, rM_cell_12, rM_cell_15, rM_cell_16, rM_cell_18, kM_isProgram, kM_isCell, Bool.false_eq_true, true_implies, false_implies, implies_true, true_and, and_true, not_true_eq_false, not_false_eq_true, zPush_I, zPush_L, zPush_R, zPush_U, Int.reduceLT, Int.reduceLE, Int.reduceEq, Int.reduceNe, Int.reduceAdd, Int.reduceSub, Int.reduceMul, Int.reduceNeg, Int.reduceToNat, Nat.reduceAdd, Nat.reduceMul, Nat.reduceEqDiff, zw32_id, zw64_id, zupd_eq, zupd_na, zupd_ni, zupp_eq, zupp_na, zupp_ni, c, cw]
      refine mBadP h hm (fun m1 c1 f1 => ?_)
      simp (disch := first | assumption | omega) only [rM_cell_21, Bool.false_eq_true, true_implies, false_implies, implies_true, true_and, and_true, not_true_eq_false, not_false_eq_true, zPush_I, zPush_L, zPush_R, zPush_U, Int.reduceLT, Int.reduceLE, Int.reduceEq, Int.reduceNe, Int.reduceAdd, Int.reduceSub, Int.reduceMul, Int.reduceNeg, Int.reduceToNat, Nat.reduceAdd, Nat.reduceMul, Nat.reduceEqDiff, zw32_id, zw64_id, zupd_eq, zupd_na, zupd_ni, zupp_eq, zupp_na, zupp_ni]
      exact hQ m1 c1 f1
  · rw [if_neg (fun hc => c hc.1)] at hQ
    simp (disch := first | assumption | omega) only [rM_cell_0, rM_cell_1, rM_cell_4, rM_cell_7, rM_cell_8, rM_cell_9, rM_cell_12, rM_cell_15, rM_cell_16, rM_cell_18, kM_isProgram, kM_isCell, Bool.false_eq_true, true_implies, false_implies, implies_true, true_and, and_true, not_true_eq_false, not_false_eq_true, zPush_I, zPush_L, zPush_R, zPush_U, Int.reduceLT, Int.reduceLE, Int.reduceEq, Int.reduceNe, Int.reduceAdd, Int.reduceSub, Int.reduceMul, Int.reduceNeg, Int.reduceToNat, Nat.reduceAdd, Nat.reduceMul, Nat.reduceEqDiff, zw32_id, zw64_id, zupd_eq, zupd_na, zupd_ni, zupp_eq, zupp_na, zupp_ni, c]
    refine mBadP h hm (fun m1 c1 f1 => ?_)
    simp (disch := first | assumption | omega) only [rM_cell_21, Bool.false_eq_true, true_implies, false_implies, implies_true, true_and, and_true, not_true_eq_false, not_false_eq_true, zPush_I, zPush_L, zPush_R, zPush_U, Int.reduceLT, Int.reduceLE, Int.reduceEq, Int.reduceNe, Int.reduceAdd, Int.reduceSub, Int.reduceMul, Int.reduceNeg, Int.reduceToNat, Nat.reduceAdd, Nat.reduceMul, Nat.reduceEqDiff, zw32_id, zw64_id, zupd_eq, zupd_na, zupd_ni, zupp_eq, zupp_na, zupp_ni]
    exact hQ m1 c1 f1
theorem dOf_mo (hf : fOk f) {p : Int} (p0 : 0 ≤ p) (p3 : p ≤ 3) (hr : rd (bOf f p) (lOf f p) = -1) : (dPl f p).2.2.2.2 ≤ 2000 := by
  have ht := hf.2.1 p p0 p3
  obtain ⟨r1, r2, r3, r4, r5⟩ := rd_it (b := bOf f p) (len := lOf f p) ⟨ht.1, ht.2.1⟩ hr
  have n4 := hf.1 4 (by decide) (by decide)
  have n5 := hf.1 5 (by decide) (by decide)
  simp [loN, hiN] at n4 n5
  exact (dRun_end (px := f 4) (py := f 5) r5 n4.1 n5.1 10000 (dBeg f) (dBeg_ok hf) (by show (301 - (0 : Int)) * 21 + 0 < 10000; decide)).2.2.2.2.2.2.2
theorem mPoint (h : zLy sh pp) (hm : mOk f G cn N D mm) (hf : fOk f) {p k : Int} (hQ : ∀ m, mOk f G (oPoint f cn p k).1 N D m → frC mm m → Q (zI (oPoint f cn p k).2) sh pp m) : zS 200 0 [zR 122, zI p, zI k] [] sh pp mm Q := by
  have k122 := k_122 h
  have k133 := k_133 h
  have l133 := l_133 h
  have p133 := p_122_19 h
  unfold oPoint at hQ
  by_cases c : 0 ≤ p ∧ p ≤ 3
  · by_cases cw : 0 ≤ k
    · rw [if_pos ⟨c, cw⟩] at hQ
      simp (disch := first | assumption | omega) only [rM_point_0, rM_point_1, rM_point_4, rM_point_7, rM_point_8, rM_point_11, rM_point_12, rM_point_14, rM_point_17, rM_point_18, rM_point_19, rM_point_20, kM_isProgram, Bool.false_eq_true, true_implies, false_implies, implies_true, true_and, and_true, not_true_eq_false, not_false_eq_true, zPush_I, zPush_L, zPush_R, zPush_U, Int.reduceLT, Int.reduceLE, Int.reduceEq, Int.reduceNe, Int.reduceAdd, Int.reduceSub, Int.reduceMul, Int.reduceNeg, Int.reduceToNat, Nat.reduceAdd, Nat.reduceMul, Nat.reduceEqDiff, zw32_id, zw64_id, zupd_eq, zupd_na, zupd_ni, zupp_eq, zupp_na, zupp_ni, c, show ¬ k < 0 by omega]
      refine mReads h hf hm.1 c.1 c.2 (fun m1 c1 f1 hr => ?_) (fun m1 c1 f1 hr => ?_)
      · have hr' : ft f p = -1 := hr
        rw [if_pos hr'] at hQ
        have hmo := dOf_mo hf c.1 c.2 hr
        simp (disch := first | assumption | omega) only [rM_point_23, rM_point_26, rM_point_27, rM_point_29, rM_point_32, rM_point_33, rM_point_34, rM_point_35, Bool.false_eq_true, true_implies, false_implies, implies_true, true_and, and_true, not_true_eq_false, not_false_eq_true, zPush_I, zPush_L, zPush_R, zPush_U, Int.reduceLT, Int.reduceLE, Int.reduceEq, Int.reduceNe, Int.reduceAdd, Int.reduceSub, Int.reduceMul, Int.reduceNeg, Int.reduceToNat, Nat.reduceAdd, Nat.reduceMul, Nat.reduceEqDiff, zw32_id, zw64_id, zupd_eq, zupd_na, zupd_ni, zupp_eq, zupp_na, zupp_ni]
        refine mDoes h hf (fun k k0 k1 => by rw [f1 _ _ (by omega)]; exact hm.1 k k0 k1) c.1 c.2 hr (fun m2 c2 s2 t2 f2 => ?_)
        have fz : frP pSc mm m2 := frP_tr (f14_sc f1) (pDo_sc f2)
        have q := hQ m2 (mOk_sc hm fz) (pSc_C fz)
        have x6 : m2 122 20 = (dPl f p).2.2.2.2 := c2.2.2.2.2.2.1
        by_cases hk : k ≤ (dPl f p).2.2.2.2
        · have x5 : m2 133 k = (dPl f p).2.2.2.1 k := c2.2.2.2.2.1 k cw hk
          rw [if_pos hk] at q
          simp (disch := first | assumption | omega) only [rM_point_38, rM_point_39, rM_point_40, rM_point_43, rM_point_46, rM_point_47, rM_point_50, rM_point_51, rM_point_52, rM_point_55, rM_point_57, Bool.false_eq_true, true_implies, false_implies, implies_true, true_and, and_true, not_true_eq_false, not_false_eq_true, zPush_I, zPush_L, zPush_R, zPush_U, Int.reduceLT, Int.reduceLE, Int.reduceEq, Int.reduceNe, Int.reduceAdd, Int.reduceSub, Int.reduceMul, Int.reduceNeg, Int.reduceToNat, Nat.reduceAdd, Nat.reduceMul, Nat.reduceEqDiff, zw32_id, zw64_id, zupd_eq, zupd_na, zupd_ni, zupp_eq, zupp_na, zupp_ni, p133, x6, show ¬ (dPl f p).2.2.2.2 < k by omega, x5]
          exact q
        · rw [if_neg hk] at q
          simp (disch := first | assumption | omega) only [rM_point_38, rM_point_39, rM_point_40, rM_point_43, rM_point_46, rM_point_47, rM_point_50, rM_point_51, rM_point_52, rM_point_55, rM_point_57, Bool.false_eq_true, true_implies, false_implies, implies_true, true_and, and_true, not_true_eq_false, not_false_eq_true, zPush_I, zPush_L, zPush_R, zPush_U, Int.reduceLT, Int.reduceLE, Int.reduceEq, Int.reduceNe, Int.reduceAdd, Int.reduceSub, Int.reduceMul, Int.reduceNeg, Int.reduceToNat, Nat.reduceAdd, Nat.reduceMul, Nat.reduceEqDiff, zw32_id, zw64_id, zupd_eq, zupd_na, zupd_ni, zupp_eq, zupp_na, zupp_ni, p133, x6, show (dPl f p).2.2.2.2 < k by omega]
          exact q
      · have hr' : ¬ ft f p = -1 := hr
        rw [if_neg hr'] at hQ
        simp (disch := first | assumption | omega) only [rM_point_23, rM_point_26, rM_point_27, rM_point_29, Bool.false_eq_true, true_implies, false_implies, implies_true, true_and, and_true, not_true_eq_false, not_false_eq_true, zPush_I, zPush_L, zPush_R, zPush_U, Int.reduceLT, Int.reduceLE, Int.reduceEq, Int.reduceNe, Int.reduceAdd, Int.reduceSub, Int.reduceMul, Int.reduceNeg, Int.reduceToNat, Nat.reduceAdd, Nat.reduceMul, Nat.reduceEqDiff, zw32_id, zw64_id, zupd_eq, zupd_na, zupd_ni, zupp_eq, zupp_na, zupp_ni]
        refine mNoP h (mOk_sc hm (f14_sc f1)) (fun m2 c2 f2 => ?_)
        simp (disch := first | assumption | omega) only [rM_point_32, Bool.false_eq_true, true_implies, false_implies, implies_true, true_and, and_true, not_true_eq_false, not_false_eq_true, zPush_I, zPush_L, zPush_R, zPush_U, Int.reduceLT, Int.reduceLE, Int.reduceEq, Int.reduceNe, Int.reduceAdd, Int.reduceSub, Int.reduceMul, Int.reduceNeg, Int.reduceToNat, Nat.reduceAdd, Nat.reduceMul, Nat.reduceEqDiff, zw32_id, zw64_id, zupd_eq, zupd_na, zupd_ni, zupp_eq, zupp_na, zupp_ni]
        exact hQ m2 c2 (frC_tr (pSc_C (f14_sc f1)) f2)
    · rw [if_neg (fun hc => cw hc.2)] at hQ
      simp (disch := first | assumption | omega) only [rM_point_0, rM_point_1, rM_point_4, rM_point_7, rM_point_8, rM_point_11, rM_point_12, rM_point_14, kM_isProgram, Bool.false_eq_true, true_implies, false_implies, implies_true, true_and, and_true, not_true_eq_false, not_false_eq_true, zPush_I, zPush_L, zPush_R, zPush_U, Int.reduceLT, Int.reduceLE, Int.reduceEq, Int.reduceNe, Int.reduceAdd, Int.reduceSub, Int.reduceMul, Int.reduceNeg, Int.reduceToNat, Nat.reduceAdd, Nat.reduceMul, Nat.reduceEqDiff, zw32_id, zw64_id, zupd_eq, zupd_na, zupd_ni, zupp_eq, zupp_na, zupp_ni, c, show k < 0 by omega]
      refine mBadP h hm (fun m1 c1 f1 => ?_)
      simp (disch := first | assumption | omega) only [rM_point_17, Bool.false_eq_true, true_implies, false_implies, implies_true, true_and, and_true, not_true_eq_false, not_false_eq_true, zPush_I, zPush_L, zPush_R, zPush_U, Int.reduceLT, Int.reduceLE, Int.reduceEq, Int.reduceNe, Int.reduceAdd, Int.reduceSub, Int.reduceMul, Int.reduceNeg, Int.reduceToNat, Nat.reduceAdd, Nat.reduceMul, Nat.reduceEqDiff, zw32_id, zw64_id, zupd_eq, zupd_na, zupd_ni, zupp_eq, zupp_na, zupp_ni]
      exact hQ m1 c1 f1
  · rw [if_neg (fun hc => c hc.1)] at hQ
    simp (disch := first | assumption | omega) only [rM_point_0, rM_point_1, rM_point_4, rM_point_7, rM_point_8, rM_point_11, rM_point_12, rM_point_14, kM_isProgram, Bool.false_eq_true, true_implies, false_implies, implies_true, true_and, and_true, not_true_eq_false, not_false_eq_true, zPush_I, zPush_L, zPush_R, zPush_U, Int.reduceLT, Int.reduceLE, Int.reduceEq, Int.reduceNe, Int.reduceAdd, Int.reduceSub, Int.reduceMul, Int.reduceNeg, Int.reduceToNat, Nat.reduceAdd, Nat.reduceMul, Nat.reduceEqDiff, zw32_id, zw64_id, zupd_eq, zupd_na, zupd_ni, zupp_eq, zupp_na, zupp_ni, c]
    refine mBadP h hm (fun m1 c1 f1 => ?_)
    simp (disch := first | assumption | omega) only [rM_point_17, Bool.false_eq_true, true_implies, false_implies, implies_true, true_and, and_true, not_true_eq_false, not_false_eq_true, zPush_I, zPush_L, zPush_R, zPush_U, Int.reduceLT, Int.reduceLE, Int.reduceEq, Int.reduceNe, Int.reduceAdd, Int.reduceSub, Int.reduceMul, Int.reduceNeg, Int.reduceToNat, Nat.reduceAdd, Nat.reduceMul, Nat.reduceEqDiff, zw32_id, zw64_id, zupd_eq, zupd_na, zupd_ni, zupp_eq, zupp_na, zupp_ni]
    exact hQ m1 c1 f1
theorem mIsAs (h : zLy sh pp) {g g' : Int → Int} (hb : ∀ i, 0 ≤ i → i < 384 → mm 136 i = g i) (hd : ∀ i, 0 ≤ i → i < 384 → mm 132 i = g' i) (hQ : Q (zI (if look g g' 384 = true then 1 else 0)) sh pp mm) : zS 202 0 [zR 122, zU, zU] [] sh pp mm Q := by
  have k122 := k_122 h
  have k136 := k_136 h
  have l136 := l_136 h
  have p136 := p_122_29 h
  have k132 := k_132 h
  have l132 := l_132 h
  have p132 := p_122_18 h
  have key : ∀ (d i : Nat), i + d = 384 → zS 202 4 [zR 122, zI (if look g g' i = true then 1 else 0), zI i] [] sh pp mm Q := by
    intro d
    induction d with
    | zero =>
      intro i hi
      have hi : i = 384 := by omega
      subst hi
      have hz : (if look g g' 384 = true then (1 : Int) else 0) = 0 ∨ (if look g g' 384 = true then (1 : Int) else 0) = 1 := by split <;> simp
      rw [rM_isAsBefore_4]
      simp (disch := first | assumption | omega) only [rM_isAsBefore_5, rM_isAsBefore_8, rM_isAsBefore_11, rM_isAsBefore_12, rM_isAsBefore_15, rM_isAsBefore_16, rM_isAsBefore_19, rM_isAsBefore_20, rM_isAsBefore_21, rM_isAsBefore_22, rM_isAsBefore_25, rM_isAsBefore_26, rM_isAsBefore_27, rM_isAsBefore_30, rM_isAsBefore_31, rM_isAsBefore_34, rM_isAsBefore_35, rM_isAsBefore_36, rM_isAsBefore_39, rM_isAsBefore_42, rM_isAsBefore_43, Bool.false_eq_true, true_implies, false_implies, implies_true, true_and, and_true, not_true_eq_false, not_false_eq_true, zPush_I, zPush_L, zPush_R, zPush_U, Int.reduceLT, Int.reduceLE, Int.reduceEq, Int.reduceNe, Int.reduceAdd, Int.reduceSub, Int.reduceMul, Int.reduceNeg, Int.reduceToNat, Nat.reduceAdd, Nat.reduceMul, Nat.reduceEqDiff, zw32_id, zw64_id, zupd_eq, zupd_na, zupd_ni, zupp_eq, zupp_na, zupp_ni, show ¬ ((384 : Nat) : Int) < 384 by omega]
      exact hQ
    | succ d ih =>
      intro i hi
      have e1 := hb (i : Int) (by omega) (by omega)
      have e2 := hd (i : Int) (by omega) (by omega)
      have nx := ih (i + 1) (by omega)
      have es : look g g' (i + 1) = (look g g' i && decide (g (i : Int) = g' (i : Int))) := rfl
      rw [es] at nx
      push_cast at nx
      rw [rM_isAsBefore_4]
      cases hl : look g g' i with
      | false =>
        rw [hl] at nx
        simp (disch := first | assumption | omega) only [rM_isAsBefore_5, rM_isAsBefore_8, rM_isAsBefore_11, rM_isAsBefore_12, rM_isAsBefore_15, rM_isAsBefore_16, rM_isAsBefore_19, rM_isAsBefore_20, rM_isAsBefore_21, rM_isAsBefore_22, rM_isAsBefore_25, rM_isAsBefore_26, rM_isAsBefore_27, rM_isAsBefore_30, rM_isAsBefore_31, rM_isAsBefore_34, rM_isAsBefore_35, rM_isAsBefore_36, rM_isAsBefore_39, Bool.false_eq_true, true_implies, false_implies, implies_true, true_and, and_true, not_true_eq_false, not_false_eq_true, zPush_I, zPush_L, zPush_R, zPush_U, Int.reduceLT, Int.reduceLE, Int.reduceEq, Int.reduceNe, Int.reduceAdd, Int.reduceSub, Int.reduceMul, Int.reduceNeg, Int.reduceToNat, Nat.reduceAdd, Nat.reduceMul, Nat.reduceEqDiff, zw32_id, zw64_id, zupd_eq, zupd_na, zupd_ni, zupp_eq, zupp_na, zupp_ni, show (i : Int) < 384 by omega, if_false]
        simpa using nx
      | true =>
        rw [hl] at nx
        by_cases c : g (i : Int) = g' (i : Int)
        · simp (disch := first | assumption | omega) only [rM_isAsBefore_5, rM_isAsBefore_8, rM_isAsBefore_11, rM_isAsBefore_12, rM_isAsBefore_15, rM_isAsBefore_16, rM_isAsBefore_19, rM_isAsBefore_20, rM_isAsBefore_21, rM_isAsBefore_22, rM_isAsBefore_25, rM_isAsBefore_26, rM_isAsBefore_27, rM_isAsBefore_30, rM_isAsBefore_31, rM_isAsBefore_34, rM_isAsBefore_35, rM_isAsBefore_36, rM_isAsBefore_39, Bool.false_eq_true, true_implies, false_implies, implies_true, true_and, and_true, not_true_eq_false, not_false_eq_true, zPush_I, zPush_L, zPush_R, zPush_U, Int.reduceLT, Int.reduceLE, Int.reduceEq, Int.reduceNe, Int.reduceAdd, Int.reduceSub, Int.reduceMul, Int.reduceNeg, Int.reduceToNat, Nat.reduceAdd, Nat.reduceMul, Nat.reduceEqDiff, zw32_id, zw64_id, zupd_eq, zupd_na, zupd_ni, zupp_eq, zupp_na, zupp_ni, show (i : Int) < 384 by omega, if_true, p136, p132, e1, e2, c]
          simpa [c] using nx
        · simp (disch := first | assumption | omega) only [rM_isAsBefore_5, rM_isAsBefore_8, rM_isAsBefore_11, rM_isAsBefore_12, rM_isAsBefore_15, rM_isAsBefore_16, rM_isAsBefore_19, rM_isAsBefore_20, rM_isAsBefore_21, rM_isAsBefore_22, rM_isAsBefore_25, rM_isAsBefore_26, rM_isAsBefore_27, rM_isAsBefore_30, rM_isAsBefore_31, rM_isAsBefore_34, rM_isAsBefore_35, rM_isAsBefore_36, rM_isAsBefore_39, Bool.false_eq_true, true_implies, false_implies, implies_true, true_and, and_true, not_true_eq_false, not_false_eq_true, zPush_I, zPush_L, zPush_R, zPush_U, Int.reduceLT, Int.reduceLE, Int.reduceEq, Int.reduceNe, Int.reduceAdd, Int.reduceSub, Int.reduceMul, Int.reduceNeg, Int.reduceToNat, Nat.reduceAdd, Nat.reduceMul, Nat.reduceEqDiff, zw32_id, zw64_id, zupd_eq, zupd_na, zupd_ni, zupp_eq, zupp_na, zupp_ni, show (i : Int) < 384 by omega, if_true, p136, p132, e1, e2, c]
          simpa [c] using nx
  simp (disch := first | assumption | omega) only [rM_isAsBefore_0, rM_isAsBefore_1, rM_isAsBefore_2, rM_isAsBefore_3, Bool.false_eq_true, true_implies, false_implies, implies_true, true_and, and_true, not_true_eq_false, not_false_eq_true, zPush_I, zPush_L, zPush_R, zPush_U, Int.reduceLT, Int.reduceLE, Int.reduceEq, Int.reduceNe, Int.reduceAdd, Int.reduceSub, Int.reduceMul, Int.reduceNeg, Int.reduceToNat, Nat.reduceAdd, Nat.reduceMul, Nat.reduceEqDiff, zw32_id, zw64_id, zupd_eq, zupd_na, zupd_ni, zupp_eq, zupp_na, zupp_ni]
  have := key 384 0 rfl
  simpa [look] using this
theorem gW_pos (hf : fOk f) (p : Int) (s : Nat) : 0 < gW f p s := by
  have n8 := hf.1 8 (by decide) (by decide)
  simp [loN, hiN] at n8
  unfold gW wtN
  refine Nat.mul_pos (Nat.mul_pos (by split <;> decide) (Nat.pow_pos (by omega))) (Nat.pow_pos (by omega))
theorem gT_pos (hf : fOk f) {q a : Int} : ∀ n, gAny f n = true → 0 < (gT q a f n).1
  | 0, h => by simp [gAny] at h
  | n + 1, h => by
    have e : gT q a f (n + 1) = if gOk f (n : Int) = true then ((gT q a f n).1 + (gP q a f (n : Int) 4).1, (gT q a f n).2 + (gP q a f (n : Int) 4).2) else gT q a f n := rfl
    have ea : gAny f (n + 1) = (gAny f n || gOk f (n : Int)) := rfl
    rw [e]
    by_cases c : gOk f (n : Int) = true
    · rw [if_pos c]
      have : (gP q a f (n : Int) 4).1 = (gP q a f (n : Int) 3).1 + gW f (n : Int) 3 := rfl
      have := gW_pos hf (n : Int) 3
      show 0 < (gT q a f n).1 + (gP q a f (n : Int) 4).1
      omega
    · rw [if_neg c]
      have c' : gOk f (n : Int) = false := by simpa using c
      rw [ea, c', Bool.or_false] at h
      exact gT_pos hf n h
theorem mShare (h : zLy sh pp) (hm : mOk f G cn N D mm) (hf : fOk f) (hsn : fSn f) {q a : Int} (q0 : 0 ≤ q) (q2 : q ≤ 2) (a0 : 0 ≤ a) (a1 : a < 384) (hQ : ∀ m, mOk f G (oShare f cn N D q a).1 (oShare f cn N D q a).2.1 (oShare f cn N D q a).2.2.1 m → frC mm m → Q (zI (oShare f cn N D q a).2.2.2) sh pp m) : zS 239 0 [zR 122, zI q, zI a] [] sh pp mm Q := by
  have k122 := k_122 h
  unfold oShare at hQ
  simp (disch := first | assumption | omega) only [rM_tellsShare_0, rM_tellsShare_1, rM_tellsShare_2, rM_tellsShare_3, Bool.false_eq_true, true_implies, false_implies, implies_true, true_and, and_true, not_true_eq_false, not_false_eq_true, zPush_I, zPush_L, zPush_R, zPush_U, Int.reduceLT, Int.reduceLE, Int.reduceEq, Int.reduceNe, Int.reduceAdd, Int.reduceSub, Int.reduceMul, Int.reduceNeg, Int.reduceToNat, Nat.reduceAdd, Nat.reduceMul, Nat.reduceEqDiff, zw32_id, zw64_id, zupd_eq, zupd_na, zupd_ni, zupp_eq, zupp_na, zupp_ni]
  refine mSumsUp h hf hsn hm.1 q0 q2 a0 a1 (fun m1 b3 b4 f1 => ?_)
  have fz : frP pSc mm m1 := frP_wd f1 (fun x j hj => by unfold pSu at hj; unfold pSc; omega)
  have hm1 := mOk_sc hm fz
  by_cases hA : gAny f 4 = true
  · rw [if_pos hA] at hQ
    rw [if_pos hA]
    have hp := gT_pos (q := q) (a := a) hf 4 hA
    have tle := gT_le (q := q) (a := a) hf hsn 4
    have hbig : 2 * (4 * (4 * (3 * 9 ^ 60))) < 1766847064778384329583297500742918515827483896875618958121606201292619776 := by decide
    simp (disch := first | assumption | omega) only [rM_tellsShare_6, rM_tellsShare_9, rM_tellsShare_10, rM_tellsShare_12, rM_tellsShare_15, rM_tellsShare_16, rM_tellsShare_17, rM_tellsShare_18, rM_tellsShare_19, rM_tellsShare_20, Bool.false_eq_true, true_implies, false_implies, implies_true, true_and, and_true, not_true_eq_false, not_false_eq_true, zPush_I, zPush_L, zPush_R, zPush_U, Int.reduceLT, Int.reduceLE, Int.reduceEq, Int.reduceNe, Int.reduceAdd, Int.reduceSub, Int.reduceMul, Int.reduceNeg, Int.reduceToNat, Nat.reduceAdd, Nat.reduceMul, Nat.reduceEqDiff, zw32_id, zw64_id, zupd_eq, zupd_na, zupd_ni, zupp_eq, zupp_na, zupp_ni]
    refine mTell h (by omega) (by omega) (by omega) b4 b3 (fun m2 c0 c1 c6 f2 => ?_)
    simp (disch := first | assumption | omega) only [rM_tellsShare_23, rM_tellsShare_24, Bool.false_eq_true, true_implies, false_implies, implies_true, true_and, and_true, not_true_eq_false, not_false_eq_true, zPush_I, zPush_L, zPush_R, zPush_U, Int.reduceLT, Int.reduceLE, Int.reduceEq, Int.reduceNe, Int.reduceAdd, Int.reduceSub, Int.reduceMul, Int.reduceNeg, Int.reduceToNat, Nat.reduceAdd, Nat.reduceMul, Nat.reduceEqDiff, zw32_id, zw64_id, zupd_eq, zupd_na, zupd_ni, zupp_eq, zupp_na, zupp_ni]
    have hAl := Nat.div_le_self (gT q a f 4).2 (Nat.gcd (gT q a f 4).2 (gT q a f 4).1)
    have hBl := Nat.div_le_self (gT q a f 4).1 (Nat.gcd (gT q a f 4).2 (gT q a f 4).1)
    obtain ⟨z1, z2, z3⟩ := mB_sz c0 (by omega)
    obtain ⟨z4, z5, z6⟩ := mB_sz c1 (by omega)
    obtain ⟨k1, k2, k3, -, -, -, -, -⟩ := hm1
    refine hQ m2 ⟨fun k a b => by rw [f2 _ _ (by unfold pTl; omega)]; exact k1 k a b, fun i a b => ?_, fun i a b => by rw [f2 _ _ (by unfold pTl; omega)]; exact k3 i a b, by omega, by omega, bR_ext c0 (fun k a b => by unfold mRw; rw [show (64 * 0 + k : Int) = k by omega]), c1, c6⟩ (frC_tr (pSc_C fz) (frC_P f2 (fun x j hj => by unfold pTl at hj; omega)))
    rw [f2 _ _ (by unfold pTl; omega)]
    rcases k2 i a b with hh | ⟨hh, g, hg, h'⟩
    · exact Or.inl hh
    · exact Or.inr ⟨hh, g, hg, fun k c d => by rw [f2 _ _ (by unfold pTl; omega)]; exact h' k c d⟩
  · rw [if_neg hA] at hQ
    rw [if_neg hA]
    simp (disch := first | assumption | omega) only [rM_tellsShare_6, rM_tellsShare_9, rM_tellsShare_10, rM_tellsShare_12, Bool.false_eq_true, true_implies, false_implies, implies_true, true_and, and_true, not_true_eq_false, not_false_eq_true, zPush_I, zPush_L, zPush_R, zPush_U, Int.reduceLT, Int.reduceLE, Int.reduceEq, Int.reduceNe, Int.reduceAdd, Int.reduceSub, Int.reduceMul, Int.reduceNeg, Int.reduceToNat, Nat.reduceAdd, Nat.reduceMul, Nat.reduceEqDiff, zw32_id, zw64_id, zupd_eq, zupd_na, zupd_ni, zupp_eq, zupp_na, zupp_ni]
    refine mNoP h hm1 (fun m2 c2 f2 => ?_)
    simp (disch := first | assumption | omega) only [rM_tellsShare_15, Bool.false_eq_true, true_implies, false_implies, implies_true, true_and, and_true, not_true_eq_false, not_false_eq_true, zPush_I, zPush_L, zPush_R, zPush_U, Int.reduceLT, Int.reduceLE, Int.reduceEq, Int.reduceNe, Int.reduceAdd, Int.reduceSub, Int.reduceMul, Int.reduceNeg, Int.reduceToNat, Nat.reduceAdd, Nat.reduceMul, Nat.reduceEqDiff, zw32_id, zw64_id, zupd_eq, zupd_na, zupd_ni, zupp_eq, zupp_na, zupp_ni]
    exact hQ m2 c2 (frC_tr (pSc_C fz) f2)
theorem mOdds (h : zLy sh pp) (hm : mOk f G cn N D mm) (hf : fOk f) (hsn : fSn f) {p : Int} (hQ : ∀ m, mOk f G (oOdds f cn N D p).1 (oOdds f cn N D p).2.1 (oOdds f cn N D p).2.2.1 m → frC mm m → Q (zI (oOdds f cn N D p).2.2.2) sh pp m) : zS 240 0 [zR 122, zI p] [] sh pp mm Q := by
  have k122 := k_122 h
  unfold oOdds at hQ
  by_cases c : 0 ≤ p ∧ p ≤ 3
  · rw [if_pos c] at hQ
    simp (disch := first | assumption | omega) only [rM_odds_0, rM_odds_1, rM_odds_4, rM_odds_7, rM_odds_8, rM_odds_9, rM_odds_10, kM_isProgram, Bool.false_eq_true, true_implies, false_implies, implies_true, true_and, and_true, not_true_eq_false, not_false_eq_true, zPush_I, zPush_L, zPush_R, zPush_U, Int.reduceLT, Int.reduceLE, Int.reduceEq, Int.reduceNe, Int.reduceAdd, Int.reduceSub, Int.reduceMul, Int.reduceNeg, Int.reduceToNat, Nat.reduceAdd, Nat.reduceMul, Nat.reduceEqDiff, zw32_id, zw64_id, zupd_eq, zupd_na, zupd_ni, zupp_eq, zupp_na, zupp_ni, c]
    refine mShare h hm hf hsn (by decide) (by decide) c.1 (by omega) (fun m1 c1 f1 => ?_)
    simp (disch := first | assumption | omega) only [rM_odds_13, rM_odds_16, rM_odds_17, rM_odds_19, rM_odds_22, Bool.false_eq_true, true_implies, false_implies, implies_true, true_and, and_true, not_true_eq_false, not_false_eq_true, zPush_I, zPush_L, zPush_R, zPush_U, Int.reduceLT, Int.reduceLE, Int.reduceEq, Int.reduceNe, Int.reduceAdd, Int.reduceSub, Int.reduceMul, Int.reduceNeg, Int.reduceToNat, Nat.reduceAdd, Nat.reduceMul, Nat.reduceEqDiff, zw32_id, zw64_id, zupd_eq, zupd_na, zupd_ni, zupp_eq, zupp_na, zupp_ni]
    exact hQ m1 c1 f1
  · rw [if_neg c] at hQ
    simp (disch := first | assumption | omega) only [rM_odds_0, rM_odds_1, rM_odds_4, rM_odds_7, rM_odds_8, rM_odds_9, rM_odds_10, rM_odds_13, rM_odds_16, rM_odds_17, rM_odds_19, kM_isProgram, Bool.false_eq_true, true_implies, false_implies, implies_true, true_and, and_true, not_true_eq_false, not_false_eq_true, zPush_I, zPush_L, zPush_R, zPush_U, Int.reduceLT, Int.reduceLE, Int.reduceEq, Int.reduceNe, Int.reduceAdd, Int.reduceSub, Int.reduceMul, Int.reduceNeg, Int.reduceToNat, Nat.reduceAdd, Nat.reduceMul, Nat.reduceEqDiff, zw32_id, zw64_id, zupd_eq, zupd_na, zupd_ni, zupp_eq, zupp_na, zupp_ni, c]
    refine mBadP h hm (fun m1 c1 f1 => ?_)
    simp (disch := first | assumption | omega) only [rM_odds_22, Bool.false_eq_true, true_implies, false_implies, implies_true, true_and, and_true, not_true_eq_false, not_false_eq_true, zPush_I, zPush_L, zPush_R, zPush_U, Int.reduceLT, Int.reduceLE, Int.reduceEq, Int.reduceNe, Int.reduceAdd, Int.reduceSub, Int.reduceMul, Int.reduceNeg, Int.reduceToNat, Nat.reduceAdd, Nat.reduceMul, Nat.reduceEqDiff, zw32_id, zw64_id, zupd_eq, zupd_na, zupd_ni, zupp_eq, zupp_na, zupp_ni]
    exact hQ m1 c1 f1
theorem mShaken (h : zLy sh pp) (hm : mOk f G cn N D mm) (hf : fOk f) (hsn : fSn f) (hQ : ∀ m, mOk f G (oShare f cn N D 1 0).1 (oShare f cn N D 1 0).2.1 (oShare f cn N D 1 0).2.2.1 m → frC mm m → Q (zI (oShare f cn N D 1 0).2.2.2) sh pp m) : zS 241 0 [zR 122] [] sh pp mm Q := by
  have k122 := k_122 h
  simp (disch := first | assumption | omega) only [rM_shaken_0, rM_shaken_1, rM_shaken_2, rM_shaken_3, Bool.false_eq_true, true_implies, false_implies, implies_true, true_and, and_true, not_true_eq_false, not_false_eq_true, zPush_I, zPush_L, zPush_R, zPush_U, Int.reduceLT, Int.reduceLE, Int.reduceEq, Int.reduceNe, Int.reduceAdd, Int.reduceSub, Int.reduceMul, Int.reduceNeg, Int.reduceToNat, Nat.reduceAdd, Nat.reduceMul, Nat.reduceEqDiff, zw32_id, zw64_id, zupd_eq, zupd_na, zupd_ni, zupp_eq, zupp_na, zupp_ni]
  refine mShare h hm hf hsn (by decide) (by decide) (by decide) (by decide) (fun m1 c1 f1 => ?_)
  simp (disch := first | assumption | omega) only [rM_shaken_6, Bool.false_eq_true, true_implies, false_implies, implies_true, true_and, and_true, not_true_eq_false, not_false_eq_true, zPush_I, zPush_L, zPush_R, zPush_U, Int.reduceLT, Int.reduceLE, Int.reduceEq, Int.reduceNe, Int.reduceAdd, Int.reduceSub, Int.reduceMul, Int.reduceNeg, Int.reduceToNat, Nat.reduceAdd, Nat.reduceMul, Nat.reduceEqDiff, zw32_id, zw64_id, zupd_eq, zupd_na, zupd_ni, zupp_eq, zupp_na, zupp_ni]
  exact hQ m1 c1 f1
theorem mBefore (h : zLy sh pp) (hm : mOk f G cn N D mm) (hf : fOk f) (hsn : fSn f) {x y : Int} (hQ : ∀ m, mOk f G (oBefore f cn N D x y).1 (oBefore f cn N D x y).2.1 (oBefore f cn N D x y).2.2.1 m → frC mm m → Q (zI (oBefore f cn N D x y).2.2.2) sh pp m) : zS 242 0 [zR 122, zI x, zI y] [] sh pp mm Q := by
  have k122 := k_122 h
  unfold oBefore at hQ
  by_cases c : (0 ≤ x ∧ x ≤ 23) ∧ (0 ≤ y ∧ y ≤ 15)
  · rw [if_pos c] at hQ
    simp (disch := first | assumption | omega) only [rM_before_0, rM_before_1, rM_before_2, rM_before_5, rM_before_8, rM_before_9, rM_before_10, rM_before_12, rM_before_13, rM_before_14, rM_before_15, rM_before_16, kM_isCell, Bool.false_eq_true, true_implies, false_implies, implies_true, true_and, and_true, not_true_eq_false, not_false_eq_true, zPush_I, zPush_L, zPush_R, zPush_U, Int.reduceLT, Int.reduceLE, Int.reduceEq, Int.reduceNe, Int.reduceAdd, Int.reduceSub, Int.reduceMul, Int.reduceNeg, Int.reduceToNat, Nat.reduceAdd, Nat.reduceMul, Nat.reduceEqDiff, zw32_id, zw64_id, zupd_eq, zupd_na, zupd_ni, zupp_eq, zupp_na, zupp_ni, c]
    refine mShare h hm hf hsn (by decide) (by decide) (by omega) (by omega) (fun m1 c1 f1 => ?_)
    simp (disch := first | assumption | omega) only [rM_before_19, rM_before_22, rM_before_23, rM_before_25, rM_before_28, Bool.false_eq_true, true_implies, false_implies, implies_true, true_and, and_true, not_true_eq_false, not_false_eq_true, zPush_I, zPush_L, zPush_R, zPush_U, Int.reduceLT, Int.reduceLE, Int.reduceEq, Int.reduceNe, Int.reduceAdd, Int.reduceSub, Int.reduceMul, Int.reduceNeg, Int.reduceToNat, Nat.reduceAdd, Nat.reduceMul, Nat.reduceEqDiff, zw32_id, zw64_id, zupd_eq, zupd_na, zupd_ni, zupp_eq, zupp_na, zupp_ni]
    exact hQ m1 c1 f1
  · rw [if_neg c] at hQ
    simp (disch := first | assumption | omega) only [rM_before_0, rM_before_1, rM_before_2, rM_before_5, rM_before_8, rM_before_9, rM_before_10, rM_before_12, rM_before_13, rM_before_14, rM_before_15, rM_before_16, rM_before_19, rM_before_22, rM_before_23, rM_before_25, kM_isCell, Bool.false_eq_true, true_implies, false_implies, implies_true, true_and, and_true, not_true_eq_false, not_false_eq_true, zPush_I, zPush_L, zPush_R, zPush_U, Int.reduceLT, Int.reduceLE, Int.reduceEq, Int.reduceNe, Int.reduceAdd, Int.reduceSub, Int.reduceMul, Int.reduceNeg, Int.reduceToNat, Nat.reduceAdd, Nat.reduceMul, Nat.reduceEqDiff, zw32_id, zw64_id, zupd_eq, zupd_na, zupd_ni, zupp_eq, zupp_na, zupp_ni, c]
    refine mBadP h hm (fun m1 c1 f1 => ?_)
    simp (disch := first | assumption | omega) only [rM_before_28, Bool.false_eq_true, true_implies, false_implies, implies_true, true_and, and_true, not_true_eq_false, not_false_eq_true, zPush_I, zPush_L, zPush_R, zPush_U, Int.reduceLT, Int.reduceLE, Int.reduceEq, Int.reduceNe, Int.reduceAdd, Int.reduceSub, Int.reduceMul, Int.reduceNeg, Int.reduceToNat, Nat.reduceAdd, Nat.reduceMul, Nat.reduceEqDiff, zw32_id, zw64_id, zupd_eq, zupd_na, zupd_ni, zupp_eq, zupp_na, zupp_ni]
    exact hQ m1 c1 f1
end
