/-! ===== same, quickest, images of the reference ===== -/
def oImage (f cn : Int → Int) (G : Int → Option (Int → Int)) (i : Int) : (Int → Option (Int → Int)) × (Int → Int) × Int := if 0 ≤ i ∧ i ≤ 1 then (fun j => if j = i then some f else G j, cn, 1) else (G, bump cn 0, -2)
def oFrom (f cn : Int → Int) (G : Int → Option (Int → Int)) (i : Int) : (Int → Int) × (Int → Int) × Int := if 0 ≤ i ∧ i ≤ 1 then (match G i with
  | some g => (g, cn, 1)
  | none => (f, bump cn 1, -3)) else (f, bump cn 0, -2)
section
variable {sh : zSh} {pp : zPp} {mm : zMm} {Q : zV → zSh → zPp → zMm → Prop} {f : Int → Int} {G : Int → Option (Int → Int)} {cn : Int → Int} {N D : Nat}
theorem mSame (h : zLy sh pp) (hm : mOk f G cn N D mm) (hf : fOk f) {p q : Int} (hQ : ∀ m, mOk f G (oSame f cn p q).1 N D m → frC mm m → Q (zI (oSame f cn p q).2) sh pp m) : zS 203 0 [zR 122, zI p, zI q] [] sh pp mm Q := by
  have k122 := k_122 h
  unfold oSame at hQ
  by_cases c : 0 ≤ p ∧ p ≤ 3
  · by_cases cw : 0 ≤ q ∧ q ≤ 3
    · rw [if_pos ⟨c, cw⟩] at hQ
      have no : ∀ m2, mOk f G cn N D m2 → frP pSc mm m2 → ¬ (ft f p = -1 ∧ ft f q = -1) → zS 203 37 [zR 122, zU, zU] [] sh pp m2 Q := fun m2 hm2 f2 hn => by
        rw [if_neg hn] at hQ
        simp (disch := first | assumption | omega) only [rM_same_37, rM_same_38, rM_same_40, Bool.false_eq_true, true_implies, false_implies, implies_true, true_and, and_true, not_true_eq_false, not_false_eq_true, zPush_I, zPush_L, zPush_R, zPush_U, Int.reduceLT, Int.reduceLE, Int.reduceEq, Int.reduceNe, Int.reduceAdd, Int.reduceSub, Int.reduceMul, Int.reduceNeg, Int.reduceToNat, Nat.reduceAdd, Nat.reduceMul, Nat.reduceEqDiff, zw32_id, zw64_id, zupd_eq, zupd_na, zupd_ni, zupp_eq, zupp_na, zupp_ni]
        refine mNoP h hm2 (fun m3 c3 f3 => ?_)
        simp (disch := first | assumption | omega) only [rM_same_43, Bool.false_eq_true, true_implies, false_implies, implies_true, true_and, and_true, not_true_eq_false, not_false_eq_true, zPush_I, zPush_L, zPush_R, zPush_U, Int.reduceLT, Int.reduceLE, Int.reduceEq, Int.reduceNe, Int.reduceAdd, Int.reduceSub, Int.reduceMul, Int.reduceNeg, Int.reduceToNat, Nat.reduceAdd, Nat.reduceMul, Nat.reduceEqDiff, zw32_id, zw64_id, zupd_eq, zupd_na, zupd_ni, zupp_eq, zupp_na, zupp_ni]
        exact hQ m3 c3 (frC_tr (pSc_C f2) f3)
      simp (disch := first | assumption | omega) only [rM_same_0, rM_same_1, rM_same_4, rM_same_7, rM_same_8, rM_same_11, rM_same_14, rM_same_15, rM_same_17, rM_same_20, rM_same_21, rM_same_22, rM_same_23, kM_isProgram, Bool.false_eq_true, true_implies, false_implies, implies_true, true_and, and_true, not_true_eq_false, not_false_eq_true, zPush_I, zPush_L, zPush_R, zPush_U, Int.reduceLT, Int.reduceLE, Int.reduceEq, Int.reduceNe, Int.reduceAdd, Int.reduceSub, Int.reduceMul, Int.reduceNeg, Int.reduceToNat, Nat.reduceAdd, Nat.reduceMul, Nat.reduceEqDiff, zw32_id, zw64_id, zupd_eq, zupd_na, zupd_ni, zupp_eq, zupp_na, zupp_ni, c, cw]
      refine mReads h hf hm.1 c.1 c.2 (fun m1 c1 f1 hr => ?_) (fun m1 c1 f1 hr => ?_)
      · have fs1 := f14_sc f1
        simp (disch := first | assumption | omega) only [rM_same_26, rM_same_29, rM_same_30, rM_same_31, Bool.false_eq_true, true_implies, false_implies, implies_true, true_and, and_true, not_true_eq_false, not_false_eq_true, zPush_I, zPush_L, zPush_R, zPush_U, Int.reduceLT, Int.reduceLE, Int.reduceEq, Int.reduceNe, Int.reduceAdd, Int.reduceSub, Int.reduceMul, Int.reduceNeg, Int.reduceToNat, Nat.reduceAdd, Nat.reduceMul, Nat.reduceEqDiff, zw32_id, zw64_id, zupd_eq, zupd_na, zupd_ni, zupp_eq, zupp_na, zupp_ni]
        refine mReads h hf (mOk_sc hm fs1).1 cw.1 cw.2 (fun m2 c2 f2 hr2 => ?_) (fun m2 c2 f2 hr2 => ?_)
        · have fs2 := frP_tr fs1 (f14_sc f2)
          have hb : ft f p = -1 ∧ ft f q = -1 := ⟨hr, hr2⟩
          rw [if_pos hb] at hQ
          have hok := dOf_ok hf c.1 c.2 hr
          have hok2 := dOf_ok hf cw.1 cw.2 hr2
          simp (disch := first | assumption | omega) only [rM_same_34, rM_same_37, rM_same_38, rM_same_40, rM_same_43, rM_same_44, rM_same_45, rM_same_46, Bool.false_eq_true, true_implies, false_implies, implies_true, true_and, and_true, not_true_eq_false, not_false_eq_true, zPush_I, zPush_L, zPush_R, zPush_U, Int.reduceLT, Int.reduceLE, Int.reduceEq, Int.reduceNe, Int.reduceAdd, Int.reduceSub, Int.reduceMul, Int.reduceNeg, Int.reduceToNat, Nat.reduceAdd, Nat.reduceMul, Nat.reduceEqDiff, zw32_id, zw64_id, zupd_eq, zupd_na, zupd_ni, zupp_eq, zupp_na, zupp_ni]
          refine mDoes h hf (mOk_sc hm fs2).1 c.1 c.2 hr (fun m3 c3 s3 t3 f3 => ?_)
          simp (disch := first | assumption | omega) only [rM_same_49, rM_same_50, Bool.false_eq_true, true_implies, false_implies, implies_true, true_and, and_true, not_true_eq_false, not_false_eq_true, zPush_I, zPush_L, zPush_R, zPush_U, Int.reduceLT, Int.reduceLE, Int.reduceEq, Int.reduceNe, Int.reduceAdd, Int.reduceSub, Int.reduceMul, Int.reduceNeg, Int.reduceToNat, Nat.reduceAdd, Nat.reduceMul, Nat.reduceEqDiff, zw32_id, zw64_id, zupd_eq, zupd_na, zupd_ni, zupp_eq, zupp_na, zupp_ni]
          refine mKeep h (fun i i0 i1 => by rw [c3.2.2.2.1 i i0 i1]; exact hok.2.2.2.1 i) (fun m4 c4 f4 => ?_)
          have fs4 : frP pSc mm m4 := frP_tr (frP_tr fs2 (pDo_sc f3)) (frP_wd f4 (fun x j hj => by unfold pSc; omega))
          simp (disch := first | assumption | omega) only [rM_same_53, rM_same_54, rM_same_55, Bool.false_eq_true, true_implies, false_implies, implies_true, true_and, and_true, not_true_eq_false, not_false_eq_true, zPush_I, zPush_L, zPush_R, zPush_U, Int.reduceLT, Int.reduceLE, Int.reduceEq, Int.reduceNe, Int.reduceAdd, Int.reduceSub, Int.reduceMul, Int.reduceNeg, Int.reduceToNat, Nat.reduceAdd, Nat.reduceMul, Nat.reduceEqDiff, zw32_id, zw64_id, zupd_eq, zupd_na, zupd_ni, zupp_eq, zupp_na, zupp_ni]
          refine mDoes h hf (mOk_sc hm fs4).1 cw.1 cw.2 hr2 (fun m5 c5 s5 t5 f5 => ?_)
          have fs5 : frP pSc mm m5 := frP_tr fs4 (pDo_sc f5)
          simp (disch := first | assumption | omega) only [rM_same_58, rM_same_59, Bool.false_eq_true, true_implies, false_implies, implies_true, true_and, and_true, not_true_eq_false, not_false_eq_true, zPush_I, zPush_L, zPush_R, zPush_U, Int.reduceLT, Int.reduceLE, Int.reduceEq, Int.reduceNe, Int.reduceAdd, Int.reduceSub, Int.reduceMul, Int.reduceNeg, Int.reduceToNat, Nat.reduceAdd, Nat.reduceMul, Nat.reduceEqDiff, zw32_id, zw64_id, zupd_eq, zupd_na, zupd_ni, zupp_eq, zupp_na, zupp_ni]
          refine mIsAs (g := gDr f p) (g' := gDr f q) h (fun i i0 i1 => by rw [f5 _ _ (by unfold pDo; omega), c4 i i0 i1]; exact c3.2.2.2.1 i i0 i1) c5.2.2.2.1 ?_
          have qq := hQ m5 (mOk_sc hm fs5) (pSc_C fs5)
          cases hl : look (gDr f p) (gDr f q) 384 with
          | true =>
            rw [hl] at qq
            simp (disch := first | assumption | omega) only [rM_same_62, rM_same_65, rM_same_66, rM_same_69, rM_same_70, Bool.false_eq_true, true_implies, false_implies, implies_true, true_and, and_true, not_true_eq_false, not_false_eq_true, zPush_I, zPush_L, zPush_R, zPush_U, Int.reduceLT, Int.reduceLE, Int.reduceEq, Int.reduceNe, Int.reduceAdd, Int.reduceSub, Int.reduceMul, Int.reduceNeg, Int.reduceToNat, Nat.reduceAdd, Nat.reduceMul, Nat.reduceEqDiff, zw32_id, zw64_id, zupd_eq, zupd_na, zupd_ni, zupp_eq, zupp_na, zupp_ni, if_true]
            exact qq
          | false =>
            rw [hl] at qq
            simp (disch := first | assumption | omega) only [rM_same_62, rM_same_65, rM_same_66, rM_same_69, rM_same_70, Bool.false_eq_true, true_implies, false_implies, implies_true, true_and, and_true, not_true_eq_false, not_false_eq_true, zPush_I, zPush_L, zPush_R, zPush_U, Int.reduceLT, Int.reduceLE, Int.reduceEq, Int.reduceNe, Int.reduceAdd, Int.reduceSub, Int.reduceMul, Int.reduceNeg, Int.reduceToNat, Nat.reduceAdd, Nat.reduceMul, Nat.reduceEqDiff, zw32_id, zw64_id, zupd_eq, zupd_na, zupd_ni, zupp_eq, zupp_na, zupp_ni, if_false]
            exact qq
        · have fs2 := frP_tr fs1 (f14_sc f2)
          simp (disch := first | assumption | omega) only [rM_same_34, Bool.false_eq_true, true_implies, false_implies, implies_true, true_and, and_true, not_true_eq_false, not_false_eq_true, zPush_I, zPush_L, zPush_R, zPush_U, Int.reduceLT, Int.reduceLE, Int.reduceEq, Int.reduceNe, Int.reduceAdd, Int.reduceSub, Int.reduceMul, Int.reduceNeg, Int.reduceToNat, Nat.reduceAdd, Nat.reduceMul, Nat.reduceEqDiff, zw32_id, zw64_id, zupd_eq, zupd_na, zupd_ni, zupp_eq, zupp_na, zupp_ni]
          exact no m2 (mOk_sc hm fs2) fs2 (fun hc => hr2 hc.2)
      · have fs1 := f14_sc f1
        simp (disch := first | assumption | omega) only [rM_same_26, Bool.false_eq_true, true_implies, false_implies, implies_true, true_and, and_true, not_true_eq_false, not_false_eq_true, zPush_I, zPush_L, zPush_R, zPush_U, Int.reduceLT, Int.reduceLE, Int.reduceEq, Int.reduceNe, Int.reduceAdd, Int.reduceSub, Int.reduceMul, Int.reduceNeg, Int.reduceToNat, Nat.reduceAdd, Nat.reduceMul, Nat.reduceEqDiff, zw32_id, zw64_id, zupd_eq, zupd_na, zupd_ni, zupp_eq, zupp_na, zupp_ni]
        exact no m1 (mOk_sc hm fs1) fs1 (fun hc => hr hc.1)
    · rw [if_neg (fun hc => cw hc.2)] at hQ
      simp (disch := first | assumption | omega) only [rM_same_0, rM_same_1, rM_same_4, rM_same_7, rM_same_8, rM_same_11, rM_same_14, rM_same_15, rM_same_17, kM_isProgram, Bool.false_eq_true, true_implies, false_implies, implies_true, true_and, and_true, not_true_eq_false, not_false_eq_true, zPush_I, zPush_L, zPush_R, zPush_U, Int.reduceLT, Int.reduceLE, Int.reduceEq, Int.reduceNe, Int.reduceAdd, Int.reduceSub, Int.reduceMul, Int.reduceNeg, Int.reduceToNat, Nat.reduceAdd, Nat.reduceMul, Nat.reduceEqDiff, zw32_id, zw64_id, zupd_eq, zupd_na, zupd_ni, zupp_eq, zupp_na, zupp_ni, c, cw]
      refine mBadP h hm (fun m1 c1 f1 => ?_)
      simp (disch := first | assumption | omega) only [rM_same_20, Bool.false_eq_true, true_implies, false_implies, implies_true, true_and, and_true, not_true_eq_false, not_false_eq_true, zPush_I, zPush_L, zPush_R, zPush_U, Int.reduceLT, Int.reduceLE, Int.reduceEq, Int.reduceNe, Int.reduceAdd, Int.reduceSub, Int.reduceMul, Int.reduceNeg, Int.reduceToNat, Nat.reduceAdd, Nat.reduceMul, Nat.reduceEqDiff, zw32_id, zw64_id, zupd_eq, zupd_na, zupd_ni, zupp_eq, zupp_na, zupp_ni]
      exact hQ m1 c1 f1
  · rw [if_neg (fun hc => c hc.1)] at hQ
    simp (disch := first | assumption | omega) only [rM_same_0, rM_same_1, rM_same_4, rM_same_7, rM_same_8, rM_same_11, rM_same_14, rM_same_15, rM_same_17, kM_isProgram, Bool.false_eq_true, true_implies, false_implies, implies_true, true_and, and_true, not_true_eq_false, not_false_eq_true, zPush_I, zPush_L, zPush_R, zPush_U, Int.reduceLT, Int.reduceLE, Int.reduceEq, Int.reduceNe, Int.reduceAdd, Int.reduceSub, Int.reduceMul, Int.reduceNeg, Int.reduceToNat, Nat.reduceAdd, Nat.reduceMul, Nat.reduceEqDiff, zw32_id, zw64_id, zupd_eq, zupd_na, zupd_ni, zupp_eq, zupp_na, zupp_ni, c]
    refine mBadP h hm (fun m1 c1 f1 => ?_)
    simp (disch := first | assumption | omega) only [rM_same_20, Bool.false_eq_true, true_implies, false_implies, implies_true, true_and, and_true, not_true_eq_false, not_false_eq_true, zPush_I, zPush_L, zPush_R, zPush_U, Int.reduceLT, Int.reduceLE, Int.reduceEq, Int.reduceNe, Int.reduceAdd, Int.reduceSub, Int.reduceMul, Int.reduceNeg, Int.reduceToNat, Nat.reduceAdd, Nat.reduceMul, Nat.reduceEqDiff, zw32_id, zw64_id, zupd_eq, zupd_na, zupd_ni, zupp_eq, zupp_na, zupp_ni]
    exact hQ m1 c1 f1
theorem mImage (h : zLy sh pp) (hm : mOk f G cn N D mm) {i : Int} (hQ : ∀ m, mOk f (oImage f cn G i).1 (oImage f cn G i).2.1 N D m → frC mm m → Q (zI (oImage f cn G i).2.2) sh pp m) : zS 248 0 [zR 122, zI i, zU] [] sh pp mm Q := by
  have k122 := k_122 h
  have k123 := k_123 h
  have l123 := l_123 h
  have p123 := p_122_0 h
  have k124 := k_124 h
  have l124 := l_124 h
  have p124 := p_122_1 h
  have k125 := k_125 h
  have l125 := l_125 h
  have p125 := p_122_2 h
  unfold oImage at hQ
  by_cases c : 0 ≤ i ∧ i ≤ 1
  · rw [if_pos c] at hQ
    have key : ∀ k, 0 ≤ k → k ≤ 986 → ∀ m, (∀ j, 0 ≤ j → j < k → m 124 (986 * i + j) = f j) → frP (fun x j => x = 124 ∧ 986 * i ≤ j ∧ j < 986 * i + 986) mm m → zS 248 19 [zR 122, zI i, zI k] [] sh pp m Q := by
      refine zdn ?_ ?_
      · intro m hk hfr
        rw [rM_image_19]
        simp (disch := first | assumption | omega) only [rM_image_20, rM_image_23, rM_image_26, rM_image_27, rM_image_30, rM_image_33, rM_image_34, rM_image_35, rM_image_36, rM_image_37, rM_image_38, rM_image_41, rM_image_42, rM_image_43, rM_image_44, rM_image_47, rM_image_50, rM_image_51, rM_image_54, rM_image_55, rM_image_56, rM_image_57, rM_image_58, Bool.false_eq_true, true_implies, false_implies, implies_true, true_and, and_true, not_true_eq_false, not_false_eq_true, zPush_I, zPush_L, zPush_R, zPush_U, Int.reduceLT, Int.reduceLE, Int.reduceEq, Int.reduceNe, Int.reduceAdd, Int.reduceSub, Int.reduceMul, Int.reduceNeg, Int.reduceToNat, Nat.reduceAdd, Nat.reduceMul, Nat.reduceEqDiff, zw32_id, zw64_id, zupd_eq, zupd_na, zupd_ni, zupp_eq, zupp_na, zupp_ni, p125]
        obtain ⟨h1, h2, h3, h4, h5, h6, h7, h8⟩ := hm
        have g : ∀ x j, x ≠ 124 → x ≠ 125 → zupd m 125 i 1 x j = mm x j := fun x j hx hx2 => by rw [zupd_na hx2, hfr _ _ (by omega)]
        refine hQ _ ⟨fun k a b => by rw [g _ _ (by decide) (by decide)]; exact h1 k a b, fun j a b => ?_, fun j a b => by rw [g _ _ (by decide) (by decide)]; exact h3 j a b, by rw [g _ _ (by decide) (by decide)]; exact h4, by rw [g _ _ (by decide) (by decide)]; exact h5, ?_, ?_, by rw [g _ _ (by decide) (by decide)]; exact h8⟩ (frC_P (frP_up (frP_wd hfr (fun x j hj => (Or.inl hj.1 : x = 124 ∨ x = 125))) (Or.inr rfl)) (fun x j hj => by omega))
        · dsimp only
          by_cases e : j = i
          · subst e
            refine Or.inr ⟨zupd_eq _ _ _ _, f, by rw [if_pos rfl], fun k a b => by rw [zupd_na (by decide)]; exact hk k a b⟩
          · rw [zupd_ni e, hfr _ _ (by omega), if_neg e]
            rcases h2 j a b with hh | ⟨hh, g2, hg, h'⟩
            · exact Or.inl hh
            · exact Or.inr ⟨hh, g2, hg, fun k c d => by rw [zupd_na (by decide), hfr _ _ (by omega)]; exact h' k c d⟩
        · rw [g _ _ (by decide) (by decide)]; exact bR_ext h6 (fun k a b => g _ _ (by decide) (by decide))
        · rw [g _ _ (by decide) (by decide)]; exact bR_ext h7 (fun k a b => g _ _ (by decide) (by decide))
      · intro k k0 k1 ih m hk hfr
        have e : m 123 k = f k := by rw [hfr _ _ (by omega)]; exact hm.1 k k0 k1
        rw [rM_image_19]
        simp (disch := first | assumption | omega) only [rM_image_20, rM_image_23, rM_image_26, rM_image_27, rM_image_30, rM_image_33, rM_image_34, rM_image_35, rM_image_36, rM_image_37, rM_image_38, rM_image_41, rM_image_42, rM_image_43, rM_image_44, rM_image_47, Bool.false_eq_true, true_implies, false_implies, implies_true, true_and, and_true, not_true_eq_false, not_false_eq_true, zPush_I, zPush_L, zPush_R, zPush_U, Int.reduceLT, Int.reduceLE, Int.reduceEq, Int.reduceNe, Int.reduceAdd, Int.reduceSub, Int.reduceMul, Int.reduceNeg, Int.reduceToNat, Nat.reduceAdd, Nat.reduceMul, Nat.reduceEqDiff, zw32_id, zw64_id, zupd_eq, zupd_na, zupd_ni, zupp_eq, zupp_na, zupp_ni, p123, p124, k1, e]
        refine ih _ (fun j j0 j1 => ?_) (frP_up hfr ⟨rfl, by omega, by omega⟩)
        by_cases ej : j = k
        · rw [ej, zupd_eq]
        · rw [zupd_ni (by omega)]; exact hk j j0 (by omega)
    simp (disch := first | assumption | omega) only [rM_image_0, rM_image_1, rM_image_2, rM_image_3, rM_image_4, rM_image_7, rM_image_10, rM_image_11, rM_image_13, rM_image_16, rM_image_17, rM_image_18, kM_in, Bool.false_eq_true, true_implies, false_implies, implies_true, true_and, and_true, not_true_eq_false, not_false_eq_true, zPush_I, zPush_L, zPush_R, zPush_U, Int.reduceLT, Int.reduceLE, Int.reduceEq, Int.reduceNe, Int.reduceAdd, Int.reduceSub, Int.reduceMul, Int.reduceNeg, Int.reduceToNat, Nat.reduceAdd, Nat.reduceMul, Nat.reduceEqDiff, zw32_id, zw64_id, zupd_eq, zupd_na, zupd_ni, zupp_eq, zupp_na, zupp_ni, c]
    exact key 0 (by decide) (by decide) mm (fun j a b => by omega) (frP_rf _ _)
  · rw [if_neg c] at hQ
    simp (disch := first | assumption | omega) only [rM_image_0, rM_image_1, rM_image_2, rM_image_3, rM_image_4, rM_image_7, rM_image_10, rM_image_11, rM_image_13, kM_in, Bool.false_eq_true, true_implies, false_implies, implies_true, true_and, and_true, not_true_eq_false, not_false_eq_true, zPush_I, zPush_L, zPush_R, zPush_U, Int.reduceLT, Int.reduceLE, Int.reduceEq, Int.reduceNe, Int.reduceAdd, Int.reduceSub, Int.reduceMul, Int.reduceNeg, Int.reduceToNat, Nat.reduceAdd, Nat.reduceMul, Nat.reduceEqDiff, zw32_id, zw64_id, zupd_eq, zupd_na, zupd_ni, zupp_eq, zupp_na, zupp_ni, c]
    refine mBadP h hm (fun m1 c1 f1 => ?_)
    simp (disch := first | assumption | omega) only [rM_image_16, Bool.false_eq_true, true_implies, false_implies, implies_true, true_and, and_true, not_true_eq_false, not_false_eq_true, zPush_I, zPush_L, zPush_R, zPush_U, Int.reduceLT, Int.reduceLE, Int.reduceEq, Int.reduceNe, Int.reduceAdd, Int.reduceSub, Int.reduceMul, Int.reduceNeg, Int.reduceToNat, Nat.reduceAdd, Nat.reduceMul, Nat.reduceEqDiff, zw32_id, zw64_id, zupd_eq, zupd_na, zupd_ni, zupp_eq, zupp_na, zupp_ni]
    exact hQ m1 c1 f1
theorem mFrom (h : zLy sh pp) (hm : mOk f G cn N D mm) {i : Int} (hQ : ∀ m, mOk (oFrom f cn G i).1 G (oFrom f cn G i).2.1 N D m → frC mm m → Q (zI (oFrom f cn G i).2.2) sh pp m) : zS 249 0 [zR 122, zI i, zU] [] sh pp mm Q := by
  have k122 := k_122 h
  have k123 := k_123 h
  have l123 := l_123 h
  have p123 := p_122_0 h
  have k124 := k_124 h
  have l124 := l_124 h
  have p124 := p_122_1 h
  have k125 := k_125 h
  have l125 := l_125 h
  have p125 := p_122_2 h
  unfold oFrom at hQ
  by_cases c : 0 ≤ i ∧ i ≤ 1
  · rw [if_pos c] at hQ
    rcases hm.2.1 i c.1 (by omega) with ⟨hk, hg⟩ | ⟨hk, g, hg, hkk⟩
    · rw [hg] at hQ
      simp (disch := first | assumption | omega) only [rM_from_0, rM_from_1, rM_from_2, rM_from_3, rM_from_4, rM_from_7, rM_from_10, rM_from_11, rM_from_13, rM_from_16, rM_from_17, rM_from_18, rM_from_21, rM_from_22, rM_from_23, rM_from_26, rM_from_27, rM_from_29, kM_in, Bool.false_eq_true, true_implies, false_implies, implies_true, true_and, and_true, not_true_eq_false, not_false_eq_true, zPush_I, zPush_L, zPush_R, zPush_U, Int.reduceLT, Int.reduceLE, Int.reduceEq, Int.reduceNe, Int.reduceAdd, Int.reduceSub, Int.reduceMul, Int.reduceNeg, Int.reduceToNat, Nat.reduceAdd, Nat.reduceMul, Nat.reduceEqDiff, zw32_id, zw64_id, zupd_eq, zupd_na, zupd_ni, zupp_eq, zupp_na, zupp_ni, c, p125, hk]
      refine mNoP h hm (fun m1 c1 f1 => ?_)
      simp (disch := first | assumption | omega) only [rM_from_32, Bool.false_eq_true, true_implies, false_implies, implies_true, true_and, and_true, not_true_eq_false, not_false_eq_true, zPush_I, zPush_L, zPush_R, zPush_U, Int.reduceLT, Int.reduceLE, Int.reduceEq, Int.reduceNe, Int.reduceAdd, Int.reduceSub, Int.reduceMul, Int.reduceNeg, Int.reduceToNat, Nat.reduceAdd, Nat.reduceMul, Nat.reduceEqDiff, zw32_id, zw64_id, zupd_eq, zupd_na, zupd_ni, zupp_eq, zupp_na, zupp_ni]
      exact hQ m1 c1 f1
    · rw [hg] at hQ
      have key : ∀ k, 0 ≤ k → k ≤ 986 → ∀ m, (∀ j, 0 ≤ j → j < k → m 123 j = g j) → frP (fun x _ => x = 123) mm m → zS 249 35 [zR 122, zI i, zI k] [] sh pp m Q := by
        refine zdn ?_ ?_
        · intro m hj hfr
          rw [rM_from_35]
          simp (disch := first | assumption | omega) only [rM_from_36, rM_from_39, rM_from_42, rM_from_43, rM_from_46, rM_from_47, rM_from_48, rM_from_51, rM_from_54, rM_from_55, rM_from_56, rM_from_57, rM_from_58, rM_from_59, rM_from_60, rM_from_63, rM_from_66, rM_from_67, Bool.false_eq_true, true_implies, false_implies, implies_true, true_and, and_true, not_true_eq_false, not_false_eq_true, zPush_I, zPush_L, zPush_R, zPush_U, Int.reduceLT, Int.reduceLE, Int.reduceEq, Int.reduceNe, Int.reduceAdd, Int.reduceSub, Int.reduceMul, Int.reduceNeg, Int.reduceToNat, Nat.reduceAdd, Nat.reduceMul, Nat.reduceEqDiff, zw32_id, zw64_id, zupd_eq, zupd_na, zupd_ni, zupp_eq, zupp_na, zupp_ni]
          obtain ⟨h1, h2, h3, h4, h5, h6, h7, h8⟩ := hm
          have gg : ∀ x j, x ≠ 123 → m x j = mm x j := fun x j hx => hfr _ _ hx
          refine hQ m ⟨hj, fun j a b => ?_, fun j a b => by rw [gg _ _ (by decide)]; exact h3 j a b, by rw [gg _ _ (by decide)]; exact h4, by rw [gg _ _ (by decide)]; exact h5, ?_, ?_, by rw [gg _ _ (by decide)]; exact h8⟩ (frC_P hfr (fun x j hj => by omega))
          · rw [gg _ _ (by decide)]
            rcases h2 j a b with hh | ⟨hh, g2, hg2, h'⟩
            · exact Or.inl hh
            · exact Or.inr ⟨hh, g2, hg2, fun k c d => by rw [gg _ _ (by decide)]; exact h' k c d⟩
          · rw [gg _ _ (by decide)]; exact bR_ext h6 (fun k a b => gg _ _ (by decide))
          · rw [gg _ _ (by decide)]; exact bR_ext h7 (fun k a b => gg _ _ (by decide))
        · intro k k0 k1 ih m hj hfr
          have e : m 124 (986 * i + k) = g k := by rw [hfr _ _ (by omega)]; exact hkk k k0 k1
          rw [rM_from_35]
          simp (disch := first | assumption | omega) only [rM_from_36, rM_from_39, rM_from_42, rM_from_43, rM_from_46, rM_from_47, rM_from_48, rM_from_51, rM_from_54, rM_from_55, rM_from_56, rM_from_57, rM_from_58, rM_from_59, rM_from_60, rM_from_63, Bool.false_eq_true, true_implies, false_implies, implies_true, true_and, and_true, not_true_eq_false, not_false_eq_true, zPush_I, zPush_L, zPush_R, zPush_U, Int.reduceLT, Int.reduceLE, Int.reduceEq, Int.reduceNe, Int.reduceAdd, Int.reduceSub, Int.reduceMul, Int.reduceNeg, Int.reduceToNat, Nat.reduceAdd, Nat.reduceMul, Nat.reduceEqDiff, zw32_id, zw64_id, zupd_eq, zupd_na, zupd_ni, zupp_eq, zupp_na, zupp_ni, p123, p124, k1, e]
          refine ih _ (fun j j0 j1 => ?_) (frP_up hfr rfl)
          by_cases ej : j = k
          · rw [ej, zupd_eq]
          · rw [zupd_ni ej]; exact hj j j0 (by omega)
      simp (disch := first | assumption | omega) only [rM_from_0, rM_from_1, rM_from_2, rM_from_3, rM_from_4, rM_from_7, rM_from_10, rM_from_11, rM_from_13, rM_from_16, rM_from_17, rM_from_18, rM_from_21, rM_from_22, rM_from_23, rM_from_26, rM_from_27, rM_from_29, rM_from_32, rM_from_33, rM_from_34, kM_in, Bool.false_eq_true, true_implies, false_implies, implies_true, true_and, and_true, not_true_eq_false, not_false_eq_true, zPush_I, zPush_L, zPush_R, zPush_U, Int.reduceLT, Int.reduceLE, Int.reduceEq, Int.reduceNe, Int.reduceAdd, Int.reduceSub, Int.reduceMul, Int.reduceNeg, Int.reduceToNat, Nat.reduceAdd, Nat.reduceMul, Nat.reduceEqDiff, zw32_id, zw64_id, zupd_eq, zupd_na, zupd_ni, zupp_eq, zupp_na, zupp_ni, c, p125, hk]
      exact key 0 (by decide) (by decide) mm (fun j a b => by omega) (frP_rf _ _)
  · rw [if_neg c] at hQ
    simp (disch := first | assumption | omega) only [rM_from_0, rM_from_1, rM_from_2, rM_from_3, rM_from_4, rM_from_7, rM_from_10, rM_from_11, rM_from_13, kM_in, Bool.false_eq_true, true_implies, false_implies, implies_true, true_and, and_true, not_true_eq_false, not_false_eq_true, zPush_I, zPush_L, zPush_R, zPush_U, Int.reduceLT, Int.reduceLE, Int.reduceEq, Int.reduceNe, Int.reduceAdd, Int.reduceSub, Int.reduceMul, Int.reduceNeg, Int.reduceToNat, Nat.reduceAdd, Nat.reduceMul, Nat.reduceEqDiff, zw32_id, zw64_id, zupd_eq, zupd_na, zupd_ni, zupp_eq, zupp_na, zupp_ni, c]
    refine mBadP h hm (fun m1 c1 f1 => ?_)
    simp (disch := first | assumption | omega) only [rM_from_16, Bool.false_eq_true, true_implies, false_implies, implies_true, true_and, and_true, not_true_eq_false, not_false_eq_true, zPush_I, zPush_L, zPush_R, zPush_U, Int.reduceLT, Int.reduceLE, Int.reduceEq, Int.reduceNe, Int.reduceAdd, Int.reduceSub, Int.reduceMul, Int.reduceNeg, Int.reduceToNat, Nat.reduceAdd, Nat.reduceMul, Nat.reduceEqDiff, zw32_id, zw64_id, zupd_eq, zupd_na, zupd_ni, zupp_eq, zupp_na, zupp_ni]
    exact hQ m1 c1 f1
theorem sec_bd (hf : fOk f) {p : Int} (p0 : 0 ≤ p) (p3 : p ≤ 3) (hr : rd (bOf f p) (lOf f p) = -1) : 0 ≤ sec f p := by
  have ht := hf.2.1 p p0 p3
  obtain ⟨r1, r2, r3, r4, r5⟩ := rd_it (b := bOf f p) (len := lOf f p) ⟨ht.1, ht.2.1⟩ hr
  have n4 := hf.1 4 (by decide) (by decide)
  have n5 := hf.1 5 (by decide) (by decide)
  have n6 := hf.1 6 (by decide) (by decide)
  simp [loN, hiN] at n4 n5 n6
  have hd := (dRun_end (px := f 4) (py := f 5) r5 n4.1 n5.1 10000 (dBeg f) (dBeg_ok hf) (by show (301 - (0 : Int)) * 21 + 0 < 10000; decide)).2
  have o1 := hd.2.2.2.2.2.1.1
  have o2 := hd.2.2.2.2.2.1.2.1
  have s1 := hd.2.2.2.2.1.1
  unfold kOk at o1 o2
  have hX := Int.mul_nonneg n6.1 (show 0 ≤ (dOf f p).2.2.2.2.2.2.2.1 4 + (dOf f p).2.2.2.2.2.2.2.2.1 4 from Int.add_nonneg o1.2.2.2.2.2.2.2.2.1 o2.2.2.2.2.2.2.2.2.1)
  unfold sec
  exact Int.add_nonneg s1 hX
theorem qk_rg (f : Int → Int) (p : Int) : ∀ n : Nat, -1 ≤ qk f p n ∧ qk f p n < (n : Int)
  | 0 => by show -1 ≤ (-1 : Int) ∧ (-1 : Int) < 0; decide
  | n + 1 => by
    have ih := qk_rg f p n
    show -1 ≤ (if _ then (n : Int) else qk f p n) ∧ (if _ then (n : Int) else qk f p n) < ((n + 1 : Nat) : Int)
    split <;> push_cast <;> omega
theorem mQuick (h : zLy sh pp) (hm : mOk f G cn N D mm) (hf : fOk f) {p : Int} (hQ : ∀ m, mOk f G (oQuick f cn p).1 N D m → frC mm m → Q (zI (oQuick f cn p).2) sh pp m) : zS 204 0 [zR 122, zI p, zU, zU, zU] [] sh pp mm Q := by
  have k122 := k_122 h
  unfold oQuick at hQ
  by_cases c : 0 ≤ p ∧ p ≤ 3
  · rw [if_pos c] at hQ
    simp (disch := first | assumption | omega) only [rM_quickest_0, rM_quickest_1, rM_quickest_4, rM_quickest_7, rM_quickest_8, rM_quickest_10, rM_quickest_13, rM_quickest_14, rM_quickest_15, rM_quickest_16, kM_isProgram, Bool.false_eq_true, true_implies, false_implies, implies_true, true_and, and_true, not_true_eq_false, not_false_eq_true, zPush_I, zPush_L, zPush_R, zPush_U, Int.reduceLT, Int.reduceLE, Int.reduceEq, Int.reduceNe, Int.reduceAdd, Int.reduceSub, Int.reduceMul, Int.reduceNeg, Int.reduceToNat, Nat.reduceAdd, Nat.reduceMul, Nat.reduceEqDiff, zw32_id, zw64_id, zupd_eq, zupd_na, zupd_ni, zupp_eq, zupp_na, zupp_ni, c]
    refine mReads h hf hm.1 c.1 c.2 (fun m1 c1 f1 hr => ?_) (fun m1 c1 f1 hr => ?_)
    · have hr' : ft f p = -1 := hr
      rw [if_pos hr'] at hQ
      have hok := dOf_ok hf c.1 c.2 hr
      have fs1 := f14_sc f1
      simp (disch := first | assumption | omega) only [rM_quickest_19, rM_quickest_22, rM_quickest_23, rM_quickest_25, rM_quickest_28, rM_quickest_29, rM_quickest_30, rM_quickest_31, Bool.false_eq_true, true_implies, false_implies, implies_true, true_and, and_true, not_true_eq_false, not_false_eq_true, zPush_I, zPush_L, zPush_R, zPush_U, Int.reduceLT, Int.reduceLE, Int.reduceEq, Int.reduceNe, Int.reduceAdd, Int.reduceSub, Int.reduceMul, Int.reduceNeg, Int.reduceToNat, Nat.reduceAdd, Nat.reduceMul, Nat.reduceEqDiff, zw32_id, zw64_id, zupd_eq, zupd_na, zupd_ni, zupp_eq, zupp_na, zupp_ni]
      refine mDoes h hf (mOk_sc hm fs1).1 c.1 c.2 hr (fun m3 c3 s3 t3 f3 => ?_)
      simp (disch := first | assumption | omega) only [rM_quickest_34, rM_quickest_35, Bool.false_eq_true, true_implies, false_implies, implies_true, true_and, and_true, not_true_eq_false, not_false_eq_true, zPush_I, zPush_L, zPush_R, zPush_U, Int.reduceLT, Int.reduceLE, Int.reduceEq, Int.reduceNe, Int.reduceAdd, Int.reduceSub, Int.reduceMul, Int.reduceNeg, Int.reduceToNat, Nat.reduceAdd, Nat.reduceMul, Nat.reduceEqDiff, zw32_id, zw64_id, zupd_eq, zupd_na, zupd_ni, zupp_eq, zupp_na, zupp_ni]
      refine mKeep h (fun i i0 i1 => by rw [c3.2.2.2.1 i i0 i1]; exact hok.2.2.2.1 i) (fun m4 c4 f4 => ?_)
      have fs4 : frP pSc mm m4 := frP_tr (frP_tr fs1 (pDo_sc f3)) (frP_wd f4 (fun x j hj => by unfold pSc; omega))
      have hb4 : ∀ i, 0 ≤ i → i < 384 → m4 136 i = gDr f p i := fun i i0 i1 => by rw [c4 i i0 i1]; exact c3.2.2.2.1 i i0 i1
      have key : ∀ (d n : Nat) (m : zMm) (ls : Int), n + d = 4 → (qk f p n = -1 ∨ ls = sec f (qk f p n)) → (∀ i, 0 ≤ i → i < 384 → m 136 i = gDr f p i) → frP pSc mm m → zS 204 45 [zR 122, zU, zI (qk f p n), zI ls, zI n] [] sh pp m Q := by
        intro d
        induction d with
        | zero =>
          intro n m ls hn hls hb hfr
          have hn : n = 4 := by omega
          subst hn
          rw [rM_quickest_45]
          simp (disch := first | assumption | omega) only [rM_quickest_47, rM_quickest_48, rM_quickest_100, rM_quickest_101, Bool.false_eq_true, true_implies, false_implies, implies_true, true_and, and_true, not_true_eq_false, not_false_eq_true, zPush_I, zPush_L, zPush_R, zPush_U, Int.reduceLT, Int.reduceLE, Int.reduceEq, Int.reduceNe, Int.reduceAdd, Int.reduceSub, Int.reduceMul, Int.reduceNeg, Int.reduceToNat, Nat.reduceAdd, Nat.reduceMul, Nat.reduceEqDiff, zw32_id, zw64_id, zupd_eq, zupd_na, zupd_ni, zupp_eq, zupp_na, zupp_ni, show ¬ ((4 : Nat) : Int) < 4 by omega]
          exact hQ m (mOk_sc hm hfr) (pSc_C hfr)
        | succ d ih =>
          intro n m ls hn hls hb hfr
          have eq1 : qk f p (n + 1) = if ft f (n : Int) = -1 ∧ look (gDr f p) (gDr f (n : Int)) 384 = true ∧ (qk f p n = -1 ∨ sec f (n : Int) < sec f (qk f p n)) then (n : Int) else qk f p n := rfl
          have same : ∀ m5, qk f p (n + 1) = qk f p n → (∀ i, 0 ≤ i → i < 384 → m5 136 i = gDr f p i) → frP pSc mm m5 → zS 204 94 [zR 122, zU, zI (qk f p n), zI ls, zI n] [] sh pp m5 Q := fun m5 he hb5 f5 => by
            simp (disch := first | assumption | omega) only [rM_quickest_94, rM_quickest_97, Bool.false_eq_true, true_implies, false_implies, implies_true, true_and, and_true, not_true_eq_false, not_false_eq_true, zPush_I, zPush_L, zPush_R, zPush_U, Int.reduceLT, Int.reduceLE, Int.reduceEq, Int.reduceNe, Int.reduceAdd, Int.reduceSub, Int.reduceMul, Int.reduceNeg, Int.reduceToNat, Nat.reduceAdd, Nat.reduceMul, Nat.reduceEqDiff, zw32_id, zw64_id, zupd_eq, zupd_na, zupd_ni, zupp_eq, zupp_na, zupp_ni]
            have := ih (n + 1) m5 ls (by omega) (by rw [he]; exact hls) hb5 f5
            push_cast at this
            rw [he] at this
            exact this
          rw [rM_quickest_45]
          simp (disch := first | assumption | omega) only [rM_quickest_47, rM_quickest_48, rM_quickest_51, rM_quickest_52, rM_quickest_54, Bool.false_eq_true, true_implies, false_implies, implies_true, true_and, and_true, not_true_eq_false, not_false_eq_true, zPush_I, zPush_L, zPush_R, zPush_U, Int.reduceLT, Int.reduceLE, Int.reduceEq, Int.reduceNe, Int.reduceAdd, Int.reduceSub, Int.reduceMul, Int.reduceNeg, Int.reduceToNat, Nat.reduceAdd, Nat.reduceMul, Nat.reduceEqDiff, zw32_id, zw64_id, zupd_eq, zupd_na, zupd_ni, zupp_eq, zupp_na, zupp_ni, show (n : Int) < 4 by omega]
          refine mReads h hf (mOk_sc hm hfr).1 (by omega) (by omega) (fun m5 c5 f5 hr5 => ?_) (fun m5 c5 f5 hr5 => ?_)
          · have hr5' : ft f (n : Int) = -1 := hr5
            have fs5 := frP_tr hfr (f14_sc f5)
            simp (disch := first | assumption | omega) only [rM_quickest_57, rM_quickest_60, rM_quickest_61, rM_quickest_63, Bool.false_eq_true, true_implies, false_implies, implies_true, true_and, and_true, not_true_eq_false, not_false_eq_true, zPush_I, zPush_L, zPush_R, zPush_U, Int.reduceLT, Int.reduceLE, Int.reduceEq, Int.reduceNe, Int.reduceAdd, Int.reduceSub, Int.reduceMul, Int.reduceNeg, Int.reduceToNat, Nat.reduceAdd, Nat.reduceMul, Nat.reduceEqDiff, zw32_id, zw64_id, zupd_eq, zupd_na, zupd_ni, zupp_eq, zupp_na, zupp_ni]
            refine mDoes h hf (mOk_sc hm fs5).1 (by omega) (by omega) hr5 (fun m6 c6 s6 t6 f6 => ?_)
            have fs6 := frP_tr fs5 (pDo_sc f6)
            have hb6 : ∀ i, 0 ≤ i → i < 384 → m6 136 i = gDr f p i := fun i i0 i1 => by rw [f6 _ _ (by unfold pDo; omega), f5 _ _ (by omega)]; exact hb i i0 i1
            have s6' : m6 122 25 = sec f (n : Int) := s6
            simp (disch := first | assumption | omega) only [rM_quickest_66, rM_quickest_67, Bool.false_eq_true, true_implies, false_implies, implies_true, true_and, and_true, not_true_eq_false, not_false_eq_true, zPush_I, zPush_L, zPush_R, zPush_U, Int.reduceLT, Int.reduceLE, Int.reduceEq, Int.reduceNe, Int.reduceAdd, Int.reduceSub, Int.reduceMul, Int.reduceNeg, Int.reduceToNat, Nat.reduceAdd, Nat.reduceMul, Nat.reduceEqDiff, zw32_id, zw64_id, zupd_eq, zupd_na, zupd_ni, zupp_eq, zupp_na, zupp_ni]
            refine mIsAs (g := gDr f p) (g' := gDr f (n : Int)) h hb6 c6.2.2.2.1 ?_
            cases hl : look (gDr f p) (gDr f (n : Int)) 384 with
            | false =>
              simp (disch := first | assumption | omega) only [rM_quickest_70, Bool.false_eq_true, true_implies, false_implies, implies_true, true_and, and_true, not_true_eq_false, not_false_eq_true, zPush_I, zPush_L, zPush_R, zPush_U, Int.reduceLT, Int.reduceLE, Int.reduceEq, Int.reduceNe, Int.reduceAdd, Int.reduceSub, Int.reduceMul, Int.reduceNeg, Int.reduceToNat, Nat.reduceAdd, Nat.reduceMul, Nat.reduceEqDiff, zw32_id, zw64_id, zupd_eq, zupd_na, zupd_ni, zupp_eq, zupp_na, zupp_ni, if_false]
              exact same m6 (by rw [eq1, if_neg (fun hc => by rw [hl] at hc; exact absurd hc.2.1 (by decide))]) hb6 fs6
            | true =>
              have take : (qk f p n = -1 ∨ sec f (n : Int) < sec f (qk f p n)) → zS 204 86 [zR 122, zU, zU, zU, zI n] [] sh pp m6 Q := fun hc => by
                simp (disch := first | assumption | omega) only [rM_quickest_86, rM_quickest_88, rM_quickest_89, rM_quickest_90, rM_quickest_93, rM_quickest_94, rM_quickest_97, Bool.false_eq_true, true_implies, false_implies, implies_true, true_and, and_true, not_true_eq_false, not_false_eq_true, zPush_I, zPush_L, zPush_R, zPush_U, Int.reduceLT, Int.reduceLE, Int.reduceEq, Int.reduceNe, Int.reduceAdd, Int.reduceSub, Int.reduceMul, Int.reduceNeg, Int.reduceToNat, Nat.reduceAdd, Nat.reduceMul, Nat.reduceEqDiff, zw32_id, zw64_id, zupd_eq, zupd_na, zupd_ni, zupp_eq, zupp_na, zupp_ni, s6']
                have he : qk f p (n + 1) = (n : Int) := by rw [eq1, if_pos ⟨hr5', hl, hc⟩]
                have := ih (n + 1) m6 (sec f (n : Int)) (by omega) (Or.inr (by rw [he])) hb6 fs6
                push_cast at this
                rw [he] at this
                exact this
              by_cases cq : qk f p n = -1
              · simp (disch := first | assumption | omega) only [rM_quickest_70, rM_quickest_73, rM_quickest_74, rM_quickest_75, rM_quickest_78, rM_quickest_79, rM_quickest_82, rM_quickest_83, Bool.false_eq_true, true_implies, false_implies, implies_true, true_and, and_true, not_true_eq_false, not_false_eq_true, zPush_I, zPush_L, zPush_R, zPush_U, Int.reduceLT, Int.reduceLE, Int.reduceEq, Int.reduceNe, Int.reduceAdd, Int.reduceSub, Int.reduceMul, Int.reduceNeg, Int.reduceToNat, Nat.reduceAdd, Nat.reduceMul, Nat.reduceEqDiff, zw32_id, zw64_id, zupd_eq, zupd_na, zupd_ni, zupp_eq, zupp_na, zupp_ni, if_true, eq_true cq]
                exact take (Or.inl cq)
              · have hls := hls.resolve_left cq
                by_cases cs : sec f (n : Int) < ls
                · simp (disch := first | assumption | omega) only [rM_quickest_70, rM_quickest_73, rM_quickest_74, rM_quickest_75, rM_quickest_78, rM_quickest_79, rM_quickest_82, rM_quickest_83, Bool.false_eq_true, true_implies, false_implies, implies_true, true_and, and_true, not_true_eq_false, not_false_eq_true, zPush_I, zPush_L, zPush_R, zPush_U, Int.reduceLT, Int.reduceLE, Int.reduceEq, Int.reduceNe, Int.reduceAdd, Int.reduceSub, Int.reduceMul, Int.reduceNeg, Int.reduceToNat, Nat.reduceAdd, Nat.reduceMul, Nat.reduceEqDiff, zw32_id, zw64_id, zupd_eq, zupd_na, zupd_ni, zupp_eq, zupp_na, zupp_ni, if_true, cq, s6', cs]
                  exact take (Or.inr (by rw [← hls]; exact cs))
                · simp (disch := first | assumption | omega) only [rM_quickest_70, rM_quickest_73, rM_quickest_74, rM_quickest_75, rM_quickest_78, rM_quickest_79, rM_quickest_82, rM_quickest_83, Bool.false_eq_true, true_implies, false_implies, implies_true, true_and, and_true, not_true_eq_false, not_false_eq_true, zPush_I, zPush_L, zPush_R, zPush_U, Int.reduceLT, Int.reduceLE, Int.reduceEq, Int.reduceNe, Int.reduceAdd, Int.reduceSub, Int.reduceMul, Int.reduceNeg, Int.reduceToNat, Nat.reduceAdd, Nat.reduceMul, Nat.reduceEqDiff, zw32_id, zw64_id, zupd_eq, zupd_na, zupd_ni, zupp_eq, zupp_na, zupp_ni, if_true, cq, s6', cs]
                  exact same m6 (by rw [eq1, if_neg (fun hc => by rcases hc.2.2 with h9 | h9; (· exact cq h9); (· rw [← hls] at h9; exact cs h9))]) hb6 fs6
          · have fs5 := frP_tr hfr (f14_sc f5)
            simp (disch := first | assumption | omega) only [rM_quickest_57, Bool.false_eq_true, true_implies, false_implies, implies_true, true_and, and_true, not_true_eq_false, not_false_eq_true, zPush_I, zPush_L, zPush_R, zPush_U, Int.reduceLT, Int.reduceLE, Int.reduceEq, Int.reduceNe, Int.reduceAdd, Int.reduceSub, Int.reduceMul, Int.reduceNeg, Int.reduceToNat, Nat.reduceAdd, Nat.reduceMul, Nat.reduceEqDiff, zw32_id, zw64_id, zupd_eq, zupd_na, zupd_ni, zupp_eq, zupp_na, zupp_ni]
            exact same m5 (by rw [eq1, if_neg (fun hc => hr5 hc.1)]) (fun i i0 i1 => by rw [f5 _ _ (by omega)]; exact hb i i0 i1) fs5
      simp (disch := first | assumption | omega) only [rM_quickest_38, rM_quickest_39, rM_quickest_40, rM_quickest_41, rM_quickest_42, rM_quickest_43, Bool.false_eq_true, true_implies, false_implies, implies_true, true_and, and_true, not_true_eq_false, not_false_eq_true, zPush_I, zPush_L, zPush_R, zPush_U, Int.reduceLT, Int.reduceLE, Int.reduceEq, Int.reduceNe, Int.reduceAdd, Int.reduceSub, Int.reduceMul, Int.reduceNeg, Int.reduceToNat, Nat.reduceAdd, Nat.reduceMul, Nat.reduceEqDiff, zw32_id, zw64_id, zupd_eq, zupd_na, zupd_ni, zupp_eq, zupp_na, zupp_ni]
      exact key 4 0 m4 0 rfl (Or.inl rfl) hb4 fs4
    · have hr' : ¬ ft f p = -1 := hr
      rw [if_neg hr'] at hQ
      simp (disch := first | assumption | omega) only [rM_quickest_19, rM_quickest_22, rM_quickest_23, rM_quickest_25, Bool.false_eq_true, true_implies, false_implies, implies_true, true_and, and_true, not_true_eq_false, not_false_eq_true, zPush_I, zPush_L, zPush_R, zPush_U, Int.reduceLT, Int.reduceLE, Int.reduceEq, Int.reduceNe, Int.reduceAdd, Int.reduceSub, Int.reduceMul, Int.reduceNeg, Int.reduceToNat, Nat.reduceAdd, Nat.reduceMul, Nat.reduceEqDiff, zw32_id, zw64_id, zupd_eq, zupd_na, zupd_ni, zupp_eq, zupp_na, zupp_ni]
      refine mNoP h (mOk_sc hm (f14_sc f1)) (fun m2 c2 f2 => ?_)
      simp (disch := first | assumption | omega) only [rM_quickest_28, Bool.false_eq_true, true_implies, false_implies, implies_true, true_and, and_true, not_true_eq_false, not_false_eq_true, zPush_I, zPush_L, zPush_R, zPush_U, Int.reduceLT, Int.reduceLE, Int.reduceEq, Int.reduceNe, Int.reduceAdd, Int.reduceSub, Int.reduceMul, Int.reduceNeg, Int.reduceToNat, Nat.reduceAdd, Nat.reduceMul, Nat.reduceEqDiff, zw32_id, zw64_id, zupd_eq, zupd_na, zupd_ni, zupp_eq, zupp_na, zupp_ni]
      exact hQ m2 c2 (frC_tr (pSc_C (f14_sc f1)) f2)
  · rw [if_neg c] at hQ
    simp (disch := first | assumption | omega) only [rM_quickest_0, rM_quickest_1, rM_quickest_4, rM_quickest_7, rM_quickest_8, rM_quickest_10, kM_isProgram, Bool.false_eq_true, true_implies, false_implies, implies_true, true_and, and_true, not_true_eq_false, not_false_eq_true, zPush_I, zPush_L, zPush_R, zPush_U, Int.reduceLT, Int.reduceLE, Int.reduceEq, Int.reduceNe, Int.reduceAdd, Int.reduceSub, Int.reduceMul, Int.reduceNeg, Int.reduceToNat, Nat.reduceAdd, Nat.reduceMul, Nat.reduceEqDiff, zw32_id, zw64_id, zupd_eq, zupd_na, zupd_ni, zupp_eq, zupp_na, zupp_ni, c]
    refine mBadP h hm (fun m1 c1 f1 => ?_)
    simp (disch := first | assumption | omega) only [rM_quickest_13, Bool.false_eq_true, true_implies, false_implies, implies_true, true_and, and_true, not_true_eq_false, not_false_eq_true, zPush_I, zPush_L, zPush_R, zPush_U, Int.reduceLT, Int.reduceLE, Int.reduceEq, Int.reduceNe, Int.reduceAdd, Int.reduceSub, Int.reduceMul, Int.reduceNeg, Int.reduceToNat, Nat.reduceAdd, Nat.reduceMul, Nat.reduceEqDiff, zw32_id, zw64_id, zupd_eq, zupd_na, zupd_ni, zupp_eq, zupp_na, zupp_ni]
    exact hQ m1 c1 f1
end
