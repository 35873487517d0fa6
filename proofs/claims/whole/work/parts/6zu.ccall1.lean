/-! ===== calls of the class: forget, wish, corner, edge, unnet, test ===== -/
section
variable {sh : zSh} {pp : zPp} {mm m' : zMm} {Q : zV → zSh → zPp → zMm → Prop} {f f' : Int → Int} {G : Int → Option (Int → Int)} {cn cn' : Int → Int} {N D N' D' : Nat}
theorem cBadP (hc : cOk f G cn N D sh pp mm) {i z : Int} (i0 : 0 ≤ i) (i1 : i < 3) (hQ : ∀ m, cOk f G (bump cn i) N D sh pp m → frX sh mm sh m → Q (zI z) sh pp m) : Q (zI z) sh pp (zupd mm 35 i (zw32 (mm 35 i + 1))) := hQ _ (cOk_ref hc i0 i1) (frX_up (frX_rf _ _) (by decide) (by decide))
theorem frX_P {P : Nat → Int → Prop} {a b : zMm} (h : frP P a b) (hP : ∀ x j, P x j → 13 ≤ x ∧ ¬ (122 ≤ x ∧ x < 143)) : frX sh a sh b := frX_sm (sm_fr h (fun x j hj => by have := hP x j hj; omega)) (sm_fr h (fun x j hj => by have := hP x j hj; omega))
theorem tbI_0 {t : Nat} {w lim n b : Int} (h : tbI t w lim n b f mm) : tbI t w lim 0 b f' (zupd mm t 3 0) := ⟨by rw [zupd_ni (by decide)]; exact h.1, by rw [zupd_ni (by decide)]; exact h.2.1, zupd_eq _ _ _ _, fun k k0 k1 => by rw [Int.mul_zero] at k1; omega⟩
theorem cForget (hc : cOk f G cn N D sh pp mm) (ok : fOk f) (hQ : ∀ m, cOk (oForget f cn).1 G (oForget f cn).2.1 N D sh pp m → frX sh mm sh m → Q (zI (oForget f cn).2.2) sh pp m) : zS 113 0 [zR 13] [] sh pp mm Q := by
  have h := hc.1
  have k13 := k_13 h
  have k14 := k_14 h
  have p14 := p_13_0 h
  have k17 := k_17 h
  have p17 := p_14_2 h
  have tb : tbI 17 2 12 (f 981) 493 f mm := hc.2.2.1.2.1
  simp (disch := first | assumption | omega) only [rX_forget_0, rX_forget_1, rX_forget_4, rX_forget_7, rX_forget_10, kT_empty k17, Bool.false_eq_true, true_implies, false_implies, implies_true, true_and, and_true, not_true_eq_false, not_false_eq_true, zPush_I, zPush_L, zPush_R, zPush_U, Int.reduceLT, Int.reduceLE, Int.reduceEq, Int.reduceNe, Int.reduceAdd, Int.reduceSub, Int.reduceMul, Int.reduceNeg, Int.reduceToNat, Nat.reduceAdd, Nat.reduceMul, Nat.reduceEqDiff, zw32_id, zw64_id, zupd_eq, zupd_na, zupd_ni, zupp_eq, zupp_na, zupp_ni, p14, p17, tb.2.2.1]
  have hr : frP (fun x _ => x = 17 ∨ x = 18) mm (zupd mm 17 3 0) := frP_up (frP_rf _ _) (Or.inl rfl)
  refine hQ _ (cNowWsh hc ok (f' := fup f 981 0) (fun k hk => fup_ne (fun hx => hk (Or.inl hx))) hr ?_) (frX_P hr (by omega))
  rw [fup_eq]
  exact tbI_0 tb
theorem cWish (hc : cOk f G cn N D sh pp mm) (ok : fOk f) {x y : Int} (hQ : ∀ m, cOk (oWish f cn x y).1 G (oWish f cn x y).2.1 N D sh pp m → frX sh mm sh m → Q (zI (oWish f cn x y).2.2) sh pp m) : zS 112 0 [zR 13, zI x, zI y, zU] [] sh pp mm Q := by
  have h := hc.1
  have k13 := k_13 h
  have k14 := k_14 h
  have p14 := p_13_0 h
  have k17 := k_17 h
  have p17 := p_14_2 h
  have k18 := k_18 h
  have l18 := l_18 h
  have p18 := p_17_2 h
  have tb : tbI 17 2 12 (f 981) 493 f mm := hc.2.2.1.2.1
  obtain ⟨t0, t1, t3, -⟩ := id tb
  have g1 := ok.2.2.1.1
  have g2 := ok.2.2.1.2.1
  by_cases hg : (-23 ≤ x ∧ x ≤ 23) ∧ (-15 ≤ y ∧ y ≤ 15) ∧ ¬ (x = 0 ∧ y = 0)
  · by_cases hf : f 981 = 12
    · have ze : oWish f cn x y = (f, bump cn 2, -4) := by unfold oWish; rw [if_pos hg, if_pos hf]
      rw [ze] at hQ
      dsimp only at hQ
      have zq := cBadP hc (i := 2) (by decide) (by decide) hQ
      simp (disch := first | assumption | omega) only [rX_wish_0, rX_wish_1, rX_wish_4, rX_wish_5, rX_wish_8, rX_wish_9, rX_wish_12, rX_wish_13, rX_wish_14, rX_wish_15, rX_wish_18, rX_wish_19, rX_wish_21, rX_wish_23, rX_wish_26, rX_wish_29, rX_wish_30, rX_wish_32, rX_wish_34, rX_wish_37, rX_wish_40, rX_wish_41, rX_wish_42, rX_wish_44, rX_wish_47, rX_wish_48, rX_wish_49, rX_wish_52, rX_wish_55, rX_wish_58, rX_wish_61, rX_wish_62, rX_wish_63, rX_wish_65, rX_wish_68, rX_wish_69, rX_wish_70, rX_wish_73, rX_wish_76, rX_wish_77, rX_wish_78, rX_wish_79, rX_wish_82, kX_isWithin, kT_isFull k17, kX_refuse h, Bool.false_eq_true, true_implies, false_implies, implies_true, true_and, and_true, not_true_eq_false, not_false_eq_true, zPush_I, zPush_L, zPush_R, zPush_U, Int.reduceLT, Int.reduceLE, Int.reduceEq, Int.reduceNe, Int.reduceAdd, Int.reduceSub, Int.reduceMul, Int.reduceNeg, Int.reduceToNat, Nat.reduceAdd, Nat.reduceMul, Nat.reduceEqDiff, zw32_id, zw64_id, zupd_eq, zupd_na, zupd_ni, zupp_eq, zupp_na, zupp_ni, p14, p17, t3, t1, true_or, or_true]
      (repeat' (first | apply And.intro | intro _)) <;> first | exact zq | (exfalso; omega)
    · have ze : oWish f cn x y = (fup (fup (fup f (493 + 2 * f 981) x) (493 + 2 * f 981 + 1) y) 981 (f 981 + 1), cn, f 981) := by unfold oWish; rw [if_pos hg, if_neg hf]
      rw [ze] at hQ
      dsimp only at hQ
      have zq : zS 98 0 [zR 17, zI x, zI y, zI 0, zU] [] sh pp mm (fun v sh pp mm => zS 112 82 [zU, zU, zU, zU] (zPush v []) sh pp mm Q) := by
        refine kT_add2 (f' := fup (fup (fup f (493 + 2 * f 981) x) (493 + 2 * f 981 + 1) y) 981 (f 981 + 1)) ⟨k17, k18, l18, p18⟩ tb g1 (by omega) (by decide) (by decide) (fun k k0 k1 => ?_) ?_ ?_ (fun m1 a1 a2 => ?_)
        · rw [fup_ne (by omega), fup_ne (by omega), fup_ne (by omega)]
        · rw [fup_ne (by omega), fup_ne (by omega), fup_eq]
        · rw [fup_ne (by omega), fup_eq]
        · simp (disch := first | assumption | omega) only [rX_wish_82, Bool.false_eq_true, true_implies, false_implies, implies_true, true_and, and_true, not_true_eq_false, not_false_eq_true, zPush_I, zPush_L, zPush_R, zPush_U, Int.reduceLT, Int.reduceLE, Int.reduceEq, Int.reduceNe, Int.reduceAdd, Int.reduceSub, Int.reduceMul, Int.reduceNeg, Int.reduceToNat, Nat.reduceAdd, Nat.reduceMul, Nat.reduceEqDiff, zw32_id, zw64_id, zupd_eq, zupd_na, zupd_ni, zupp_eq, zupp_na, zupp_ni]
          refine hQ _ (cNowWsh hc ok (fun k hk => ?_) a2 ?_) (frX_P a2 (by omega))
          · rw [fup_ne (by omega), fup_ne (by omega), fup_ne (by omega)]
          · rw [fup_eq]; exact a1
      simp (disch := first | assumption | omega) only [rX_wish_0, rX_wish_1, rX_wish_4, rX_wish_5, rX_wish_8, rX_wish_9, rX_wish_12, rX_wish_13, rX_wish_14, rX_wish_15, rX_wish_18, rX_wish_19, rX_wish_21, rX_wish_23, rX_wish_26, rX_wish_29, rX_wish_30, rX_wish_32, rX_wish_34, rX_wish_37, rX_wish_40, rX_wish_41, rX_wish_42, rX_wish_44, rX_wish_47, rX_wish_48, rX_wish_49, rX_wish_52, rX_wish_55, rX_wish_58, rX_wish_61, rX_wish_62, rX_wish_63, rX_wish_65, rX_wish_68, rX_wish_69, rX_wish_70, rX_wish_73, rX_wish_76, rX_wish_77, rX_wish_78, rX_wish_79, rX_wish_82, kX_isWithin, kT_isFull k17, kX_refuse h, Bool.false_eq_true, true_implies, false_implies, implies_true, true_and, and_true, not_true_eq_false, not_false_eq_true, zPush_I, zPush_L, zPush_R, zPush_U, Int.reduceLT, Int.reduceLE, Int.reduceEq, Int.reduceNe, Int.reduceAdd, Int.reduceSub, Int.reduceMul, Int.reduceNeg, Int.reduceToNat, Nat.reduceAdd, Nat.reduceMul, Nat.reduceEqDiff, zw32_id, zw64_id, zupd_eq, zupd_na, zupd_ni, zupp_eq, zupp_na, zupp_ni, p14, p17, t3, t1, true_or, or_true]
      (repeat' (first | apply And.intro | intro _)) <;> first | exact zq | (exfalso; omega)
  · have ze : oWish f cn x y = (f, bump cn 0, -2) := by unfold oWish; rw [if_neg hg]
    rw [ze] at hQ
    dsimp only at hQ
    have zq := cBadP hc (i := 0) (by decide) (by decide) hQ
    simp (disch := first | assumption | omega) only [rX_wish_0, rX_wish_1, rX_wish_4, rX_wish_5, rX_wish_8, rX_wish_9, rX_wish_12, rX_wish_13, rX_wish_14, rX_wish_15, rX_wish_18, rX_wish_19, rX_wish_21, rX_wish_23, rX_wish_26, rX_wish_29, rX_wish_30, rX_wish_32, rX_wish_34, rX_wish_37, rX_wish_40, rX_wish_41, rX_wish_42, rX_wish_44, rX_wish_47, rX_wish_48, rX_wish_49, rX_wish_52, rX_wish_55, rX_wish_58, rX_wish_61, rX_wish_62, rX_wish_63, rX_wish_65, rX_wish_68, rX_wish_69, rX_wish_70, rX_wish_73, rX_wish_76, rX_wish_77, rX_wish_78, rX_wish_79, rX_wish_82, kX_isWithin, kT_isFull k17, kX_refuse h, Bool.false_eq_true, true_implies, false_implies, implies_true, true_and, and_true, not_true_eq_false, not_false_eq_true, zPush_I, zPush_L, zPush_R, zPush_U, Int.reduceLT, Int.reduceLE, Int.reduceEq, Int.reduceNe, Int.reduceAdd, Int.reduceSub, Int.reduceMul, Int.reduceNeg, Int.reduceToNat, Nat.reduceAdd, Nat.reduceMul, Nat.reduceEqDiff, zw32_id, zw64_id, zupd_eq, zupd_na, zupd_ni, zupp_eq, zupp_na, zupp_ni, p14, p17, t3, t1, true_or, or_true]
    (repeat' (first | apply And.intro | intro _)) <;> first | exact zq | (exfalso; omega)
theorem cCorner (hc : cOk f G cn N D sh pp mm) (ok : fOk f) {x y : Int} (hQ : ∀ m, cOk (oCorner f cn x y).1 G (oCorner f cn x y).2.1 N D sh pp m → frX sh mm sh m → Q (zI (oCorner f cn x y).2.2) sh pp m) : zS 115 0 [zR 13, zI x, zI y] [] sh pp mm Q := by
  have h := hc.1
  have k13 := k_13 h
  have k14 := k_14 h
  have p14 := p_13_0 h
  have k19 := k_19 h
  have p19 := p_14_3 h
  have k20 := k_20 h
  have l20 := l_20 h
  have p20 := p_19_2 h
  have k38 := k_38 h
  have p38 := p_13_5 h
  have tb : tbI 19 2 10 (f 982) 517 f mm := hc.2.2.1.2.2.1
  obtain ⟨t0, t1, t3, -⟩ := id tb
  have g1 := ok.2.2.2.1.1
  have g2 := ok.2.2.2.1.2.1
  by_cases hg : (0 ≤ x ∧ x ≤ 23) ∧ (0 ≤ y ∧ y ≤ 15)
  · by_cases hf : f 982 = 10
    · have ze : oCorner f cn x y = (f, bump cn 2, -4) := by unfold oCorner; rw [if_pos hg, if_pos hf]
      rw [ze] at hQ
      dsimp only at hQ
      have zq := cBadP hc (i := 2) (by decide) (by decide) hQ
      simp (disch := first | assumption | omega) only [rX_corner_0, rX_corner_1, rX_corner_2, rX_corner_5, rX_corner_8, rX_corner_9, rX_corner_10, rX_corner_12, rX_corner_15, rX_corner_16, rX_corner_17, rX_corner_20, rX_corner_23, rX_corner_26, rX_corner_29, rX_corner_30, rX_corner_31, rX_corner_33, rX_corner_36, rX_corner_37, rX_corner_38, rX_corner_41, rX_corner_44, rX_corner_45, rX_corner_48, rX_corner_51, rX_corner_52, rX_corner_53, rX_corner_54, rX_corner_57, kX_isCell, kT_isFull k19, kX_refuse h, kN_out h, Bool.false_eq_true, true_implies, false_implies, implies_true, true_and, and_true, not_true_eq_false, not_false_eq_true, zPush_I, zPush_L, zPush_R, zPush_U, Int.reduceLT, Int.reduceLE, Int.reduceEq, Int.reduceNe, Int.reduceAdd, Int.reduceSub, Int.reduceMul, Int.reduceNeg, Int.reduceToNat, Nat.reduceAdd, Nat.reduceMul, Nat.reduceEqDiff, zw32_id, zw64_id, zupd_eq, zupd_na, zupd_ni, zupp_eq, zupp_na, zupp_ni, p14, p19, p38, t3, t1, true_or, or_true]
      (repeat' (first | apply And.intro | intro _)) <;> first | exact zq | (exfalso; omega)
    · have ze : oCorner f cn x y = (fup (fup (fup f (517 + 2 * f 982) x) (517 + 2 * f 982 + 1) y) 982 (f 982 + 1), cn, f 982) := by unfold oCorner; rw [if_pos hg, if_neg hf]
      rw [ze] at hQ
      dsimp only at hQ
      have hc1 := cOk_oN hc
      have tb1 : tbI 19 2 10 (f 982) 517 f (zupd mm 38 10 0) := hc1.2.2.1.2.2.1
      have zq : zS 98 0 [zR 19, zI x, zI y, zI 0, zU] [] sh pp (zupd mm 38 10 0) (fun v sh pp mm => zS 115 57 [zU, zU, zU] (zPush v []) sh pp mm Q) := by
        refine kT_add2 (f' := fup (fup (fup f (517 + 2 * f 982) x) (517 + 2 * f 982 + 1) y) 982 (f 982 + 1)) ⟨k19, k20, l20, p20⟩ tb1 g1 (by omega) (by decide) (by decide) (fun k k0 k1 => ?_) ?_ ?_ (fun m1 a1 a2 => ?_)
        · rw [fup_ne (by omega), fup_ne (by omega), fup_ne (by omega)]
        · rw [fup_ne (by omega), fup_ne (by omega), fup_eq]
        · rw [fup_ne (by omega), fup_eq]
        · simp (disch := first | assumption | omega) only [rX_corner_57, Bool.false_eq_true, true_implies, false_implies, implies_true, true_and, and_true, not_true_eq_false, not_false_eq_true, zPush_I, zPush_L, zPush_R, zPush_U, Int.reduceLT, Int.reduceLE, Int.reduceEq, Int.reduceNe, Int.reduceAdd, Int.reduceSub, Int.reduceMul, Int.reduceNeg, Int.reduceToNat, Nat.reduceAdd, Nat.reduceMul, Nat.reduceEqDiff, zw32_id, zw64_id, zupd_eq, zupd_na, zupd_ni, zupp_eq, zupp_na, zupp_ni]
          refine hQ _ (cNowCor hc1 ok (zupd_eq _ _ _ _) (fun k hk => ?_) a2 ?_) (frX_tr (frX_up (frX_rf _ _) (by decide) (by decide)) (frX_P a2 (by omega)))
          · rw [fup_ne (by omega), fup_ne (by omega), fup_ne (by omega)]
          · rw [fup_eq]; exact a1
      simp (disch := first | assumption | omega) only [rX_corner_0, rX_corner_1, rX_corner_2, rX_corner_5, rX_corner_8, rX_corner_9, rX_corner_10, rX_corner_12, rX_corner_15, rX_corner_16, rX_corner_17, rX_corner_20, rX_corner_23, rX_corner_26, rX_corner_29, rX_corner_30, rX_corner_31, rX_corner_33, rX_corner_36, rX_corner_37, rX_corner_38, rX_corner_41, rX_corner_44, rX_corner_45, rX_corner_48, rX_corner_51, rX_corner_52, rX_corner_53, rX_corner_54, rX_corner_57, kX_isCell, kT_isFull k19, kX_refuse h, kN_out h, Bool.false_eq_true, true_implies, false_implies, implies_true, true_and, and_true, not_true_eq_false, not_false_eq_true, zPush_I, zPush_L, zPush_R, zPush_U, Int.reduceLT, Int.reduceLE, Int.reduceEq, Int.reduceNe, Int.reduceAdd, Int.reduceSub, Int.reduceMul, Int.reduceNeg, Int.reduceToNat, Nat.reduceAdd, Nat.reduceMul, Nat.reduceEqDiff, zw32_id, zw64_id, zupd_eq, zupd_na, zupd_ni, zupp_eq, zupp_na, zupp_ni, p14, p19, p38, t3, t1, true_or, or_true]
      (repeat' (first | apply And.intro | intro _)) <;> first | exact zq | (exfalso; omega)
  · have ze : oCorner f cn x y = (f, bump cn 0, -2) := by unfold oCorner; rw [if_neg hg]
    rw [ze] at hQ
    dsimp only at hQ
    have zq := cBadP hc (i := 0) (by decide) (by decide) hQ
    simp (disch := first | assumption | omega) only [rX_corner_0, rX_corner_1, rX_corner_2, rX_corner_5, rX_corner_8, rX_corner_9, rX_corner_10, rX_corner_12, rX_corner_15, rX_corner_16, rX_corner_17, rX_corner_20, rX_corner_23, rX_corner_26, rX_corner_29, rX_corner_30, rX_corner_31, rX_corner_33, rX_corner_36, rX_corner_37, rX_corner_38, rX_corner_41, rX_corner_44, rX_corner_45, rX_corner_48, rX_corner_51, rX_corner_52, rX_corner_53, rX_corner_54, rX_corner_57, kX_isCell, kT_isFull k19, kX_refuse h, kN_out h, Bool.false_eq_true, true_implies, false_implies, implies_true, true_and, and_true, not_true_eq_false, not_false_eq_true, zPush_I, zPush_L, zPush_R, zPush_U, Int.reduceLT, Int.reduceLE, Int.reduceEq, Int.reduceNe, Int.reduceAdd, Int.reduceSub, Int.reduceMul, Int.reduceNeg, Int.reduceToNat, Nat.reduceAdd, Nat.reduceMul, Nat.reduceEqDiff, zw32_id, zw64_id, zupd_eq, zupd_na, zupd_ni, zupp_eq, zupp_na, zupp_ni, p14, p19, p38, t3, t1, true_or, or_true]
    (repeat' (first | apply And.intro | intro _)) <;> first | exact zq | (exfalso; omega)
theorem cTest (hc : cOk f G cn N D sh pp mm) (ok : fOk f) {k m w : Int} (hQ : ∀ m1, cOk (oTest f cn k m w).1 G (oTest f cn k m w).2.1 N D sh pp m1 → frX sh mm sh m1 → Q (zI (oTest f cn k m w).2.2) sh pp m1) : zS 129 0 [zR 13, zI k, zI m, zI w] [] sh pp mm Q := by
  have h := hc.1
  have k13 := k_13 h
  have k14 := k_14 h
  have p14 := p_13_0 h
  have k23 := k_23 h
  have p23 := p_14_5 h
  have k24 := k_24 h
  have l24 := l_24 h
  have p24 := p_23_2 h
  have tb : tbI 23 3 8 (f 984) 957 f mm := hc.2.2.1.2.2.2.2.1
  obtain ⟨t0, t1, t3, -⟩ := id tb
  have g1 := ok.2.2.2.2.2.1.1
  have g2 := ok.2.2.2.2.2.1.2.1
  by_cases hg : (0 ≤ k ∧ k ≤ 1) ∧ (1 ≤ m ∧ m ≤ 40) ∧ (0 ≤ w ∧ w ≤ m)
  · by_cases hf : f 984 = 8
    · have ze : oTest f cn k m w = (f, bump cn 2, -4) := by unfold oTest; rw [if_pos hg, if_pos hf]
      rw [ze] at hQ
      dsimp only at hQ
      have zq := cBadP hc (i := 2) (by decide) (by decide) hQ
      simp (disch := first | assumption | omega) only [rX_test_0, rX_test_1, rX_test_4, rX_test_7, rX_test_8, rX_test_9, rX_test_11, rX_test_14, rX_test_17, rX_test_18, rX_test_19, rX_test_20, rX_test_23, rX_test_26, rX_test_27, rX_test_28, rX_test_30, rX_test_33, rX_test_34, rX_test_35, rX_test_38, rX_test_41, rX_test_44, rX_test_47, rX_test_48, rX_test_49, rX_test_51, rX_test_54, rX_test_55, rX_test_56, rX_test_59, rX_test_62, rX_test_63, rX_test_64, rX_test_65, rX_test_68, kX_isWithin, kX_isKnob, kT_isFull k23, kX_refuse h, Bool.false_eq_true, true_implies, false_implies, implies_true, true_and, and_true, not_true_eq_false, not_false_eq_true, zPush_I, zPush_L, zPush_R, zPush_U, Int.reduceLT, Int.reduceLE, Int.reduceEq, Int.reduceNe, Int.reduceAdd, Int.reduceSub, Int.reduceMul, Int.reduceNeg, Int.reduceToNat, Nat.reduceAdd, Nat.reduceMul, Nat.reduceEqDiff, zw32_id, zw64_id, zupd_eq, zupd_na, zupd_ni, zupp_eq, zupp_na, zupp_ni, p14, p23, t3, t1, true_or, or_true]
      (repeat' (first | apply And.intro | intro _)) <;> first | exact zq | (exfalso; omega)
    · have ze : oTest f cn k m w = (fup (fup (fup (fup f (957 + 3 * f 984) k) (957 + 3 * f 984 + 1) m) (957 + 3 * f 984 + 2) w) 984 (f 984 + 1), cn, f 984) := by unfold oTest; rw [if_pos hg, if_neg hf]
      rw [ze] at hQ
      dsimp only at hQ
      have zq : zS 98 0 [zR 23, zI k, zI m, zI w, zU] [] sh pp mm (fun v sh pp mm => zS 129 68 [zU, zU, zU, zU] (zPush v []) sh pp mm Q) := by
        refine kT_add3 (f' := fup (fup (fup (fup f (957 + 3 * f 984) k) (957 + 3 * f 984 + 1) m) (957 + 3 * f 984 + 2) w) 984 (f 984 + 1)) ⟨k23, k24, l24, p24⟩ tb g1 (by omega) (by decide) (by decide) (fun j j0 j1 => ?_) ?_ ?_ ?_ (fun m1 a1 a2 => ?_)
        · rw [fup_ne (by omega), fup_ne (by omega), fup_ne (by omega), fup_ne (by omega)]
        · rw [fup_ne (by omega), fup_ne (by omega), fup_ne (by omega), fup_eq]
        · rw [fup_ne (by omega), fup_ne (by omega), fup_eq]
        · rw [fup_ne (by omega), fup_eq]
        · simp (disch := first | assumption | omega) only [rX_test_68, Bool.false_eq_true, true_implies, false_implies, implies_true, true_and, and_true, not_true_eq_false, not_false_eq_true, zPush_I, zPush_L, zPush_R, zPush_U, Int.reduceLT, Int.reduceLE, Int.reduceEq, Int.reduceNe, Int.reduceAdd, Int.reduceSub, Int.reduceMul, Int.reduceNeg, Int.reduceToNat, Nat.reduceAdd, Nat.reduceMul, Nat.reduceEqDiff, zw32_id, zw64_id, zupd_eq, zupd_na, zupd_ni, zupp_eq, zupp_na, zupp_ni]
          refine hQ _ (cNowTst hc ok (fun j hj => ?_) a2 ?_) (frX_P a2 (by omega))
          · rw [fup_ne (by omega), fup_ne (by omega), fup_ne (by omega), fup_ne (by omega)]
          · rw [fup_eq]; exact a1
      simp (disch := first | assumption | omega) only [rX_test_0, rX_test_1, rX_test_4, rX_test_7, rX_test_8, rX_test_9, rX_test_11, rX_test_14, rX_test_17, rX_test_18, rX_test_19, rX_test_20, rX_test_23, rX_test_26, rX_test_27, rX_test_28, rX_test_30, rX_test_33, rX_test_34, rX_test_35, rX_test_38, rX_test_41, rX_test_44, rX_test_47, rX_test_48, rX_test_49, rX_test_51, rX_test_54, rX_test_55, rX_test_56, rX_test_59, rX_test_62, rX_test_63, rX_test_64, rX_test_65, rX_test_68, kX_isWithin, kX_isKnob, kT_isFull k23, kX_refuse h, Bool.false_eq_true, true_implies, false_implies, implies_true, true_and, and_true, not_true_eq_false, not_false_eq_true, zPush_I, zPush_L, zPush_R, zPush_U, Int.reduceLT, Int.reduceLE, Int.reduceEq, Int.reduceNe, Int.reduceAdd, Int.reduceSub, Int.reduceMul, Int.reduceNeg, Int.reduceToNat, Nat.reduceAdd, Nat.reduceMul, Nat.reduceEqDiff, zw32_id, zw64_id, zupd_eq, zupd_na, zupd_ni, zupp_eq, zupp_na, zupp_ni, p14, p23, t3, t1, true_or, or_true]
      (repeat' (first | apply And.intro | intro _)) <;> first | exact zq | (exfalso; omega)
  · have ze : oTest f cn k m w = (f, bump cn 0, -2) := by unfold oTest; rw [if_neg hg]
    rw [ze] at hQ
    dsimp only at hQ
    have zq := cBadP hc (i := 0) (by decide) (by decide) hQ
    simp (disch := first | assumption | omega) only [rX_test_0, rX_test_1, rX_test_4, rX_test_7, rX_test_8, rX_test_9, rX_test_11, rX_test_14, rX_test_17, rX_test_18, rX_test_19, rX_test_20, rX_test_23, rX_test_26, rX_test_27, rX_test_28, rX_test_30, rX_test_33, rX_test_34, rX_test_35, rX_test_38, rX_test_41, rX_test_44, rX_test_47, rX_test_48, rX_test_49, rX_test_51, rX_test_54, rX_test_55, rX_test_56, rX_test_59, rX_test_62, rX_test_63, rX_test_64, rX_test_65, rX_test_68, kX_isWithin, kX_isKnob, kT_isFull k23, kX_refuse h, Bool.false_eq_true, true_implies, false_implies, implies_true, true_and, and_true, not_true_eq_false, not_false_eq_true, zPush_I, zPush_L, zPush_R, zPush_U, Int.reduceLT, Int.reduceLE, Int.reduceEq, Int.reduceNe, Int.reduceAdd, Int.reduceSub, Int.reduceMul, Int.reduceNeg, Int.reduceToNat, Nat.reduceAdd, Nat.reduceMul, Nat.reduceEqDiff, zw32_id, zw64_id, zupd_eq, zupd_na, zupd_ni, zupp_eq, zupp_na, zupp_ni, p14, p23, t3, t1, true_or, or_true]
    (repeat' (first | apply And.intro | intro _)) <;> first | exact zq | (exfalso; omega)
theorem cEdge (hc : cOk f G cn N D sh pp mm) (ok : fOk f) {a b w : Int} (hw : w = 0 ∨ w = 1) (hQ : ∀ m, cOk (oEdge f cn a b w).1 G (oEdge f cn a b w).2.1 N D sh pp m → frX sh mm sh m → Q (zI (oEdge f cn a b w).2.2) sh pp m) : zS 116 0 [zR 13, zI a, zI b, zI w, zU] [] sh pp mm Q := by
  have h := hc.1
  have k13 := k_13 h
  have k14 := k_14 h
  have p14 := p_13_0 h
  have k19 := k_19 h
  have p19 := p_14_3 h
  have k21 := k_21 h
  have p21 := p_14_4 h
  have k22 := k_22 h
  have l22 := l_22 h
  have p22 := p_21_2 h
  have k38 := k_38 h
  have p38 := p_13_5 h
  have tb : tbI 21 3 12 (f 983) 537 f mm := hc.2.2.1.2.2.2.1
  have tc : tbI 19 2 10 (f 982) 517 f mm := hc.2.2.1.2.2.1
  obtain ⟨t0, t1, t3, -⟩ := id tb
  have c3 := tc.2.2.1
  have g1 := ok.2.2.2.2.1.1
  have g2 := ok.2.2.2.2.1.2.1
  have g3 := ok.2.2.2.1.1
  have g4 := ok.2.2.2.1.2.1
  by_cases hg : (0 ≤ a ∧ a ≤ f 982 - 1) ∧ (0 ≤ b ∧ b ≤ f 982 - 1) ∧ ¬ a = b
  · by_cases hf : f 983 = 12
    · have ze : oEdge f cn a b w = (f, bump cn 2, -4) := by unfold oEdge; rw [if_pos hg, if_pos hf]
      rw [ze] at hQ
      dsimp only at hQ
      have zq := cBadP hc (i := 2) (by decide) (by decide) hQ
      simp (disch := first | assumption | omega) only [rX_edge_0, rX_edge_1, rX_edge_4, rX_edge_7, rX_edge_10, rX_edge_11, rX_edge_12, rX_edge_14, rX_edge_15, rX_edge_16, rX_edge_18, rX_edge_21, rX_edge_24, rX_edge_25, rX_edge_26, rX_edge_28, rX_edge_31, rX_edge_34, rX_edge_35, rX_edge_36, rX_edge_39, rX_edge_40, rX_edge_41, rX_edge_43, rX_edge_46, rX_edge_47, rX_edge_48, rX_edge_51, rX_edge_54, rX_edge_57, rX_edge_60, rX_edge_61, rX_edge_62, rX_edge_64, rX_edge_67, rX_edge_68, rX_edge_69, rX_edge_72, rX_edge_75, rX_edge_76, rX_edge_79, rX_edge_82, rX_edge_83, rX_edge_84, rX_edge_85, rX_edge_88, rX_edge_89, rX_edge_92, rX_edge_93, rX_edge_96, kX_isWithin, kT_isFull k21, kX_refuse h, kN_out h, Bool.false_eq_true, true_implies, false_implies, implies_true, true_and, and_true, not_true_eq_false, not_false_eq_true, zPush_I, zPush_L, zPush_R, zPush_U, Int.reduceLT, Int.reduceLE, Int.reduceEq, Int.reduceNe, Int.reduceAdd, Int.reduceSub, Int.reduceMul, Int.reduceNeg, Int.reduceToNat, Nat.reduceAdd, Nat.reduceMul, Nat.reduceEqDiff, zw32_id, zw64_id, zupd_eq, zupd_na, zupd_ni, zupp_eq, zupp_na, zupp_ni, p14, p19, p21, p38, t3, t1, c3, true_or, or_true]
      (repeat' (first | apply And.intro | intro _)) <;> first | exact zq | (exfalso; omega)
    · have ze : oEdge f cn a b w = (fup (fup (fup (fup f (537 + 3 * f 983) a) (537 + 3 * f 983 + 1) b) (537 + 3 * f 983 + 2) w) 983 (f 983 + 1), cn, f 983) := by unfold oEdge; rw [if_pos hg, if_neg hf]
      rw [ze] at hQ
      dsimp only at hQ
      have hc1 := cOk_oN hc
      have tb1 : tbI 21 3 12 (f 983) 537 f (zupd mm 38 10 0) := hc1.2.2.1.2.2.2.1
      have zq : zS 98 0 [zR 21, zI a, zI b, zI w, zU] [] sh pp (zupd mm 38 10 0) (fun v sh pp mm => zS 116 96 [zU, zU, zU, zU, zU] (zPush v []) sh pp mm Q) := by
        refine kT_add3 (f' := fup (fup (fup (fup f (537 + 3 * f 983) a) (537 + 3 * f 983 + 1) b) (537 + 3 * f 983 + 2) w) 983 (f 983 + 1)) ⟨k21, k22, l22, p22⟩ tb1 g1 (by omega) (by decide) (by decide) (fun j j0 j1 => ?_) ?_ ?_ ?_ (fun m1 a1 a2 => ?_)
        · rw [fup_ne (by omega), fup_ne (by omega), fup_ne (by omega), fup_ne (by omega)]
        · rw [fup_ne (by omega), fup_ne (by omega), fup_ne (by omega), fup_eq]
        · rw [fup_ne (by omega), fup_ne (by omega), fup_eq]
        · rw [fup_ne (by omega), fup_eq]
        · simp (disch := first | assumption | omega) only [rX_edge_96, Bool.false_eq_true, true_implies, false_implies, implies_true, true_and, and_true, not_true_eq_false, not_false_eq_true, zPush_I, zPush_L, zPush_R, zPush_U, Int.reduceLT, Int.reduceLE, Int.reduceEq, Int.reduceNe, Int.reduceAdd, Int.reduceSub, Int.reduceMul, Int.reduceNeg, Int.reduceToNat, Nat.reduceAdd, Nat.reduceMul, Nat.reduceEqDiff, zw32_id, zw64_id, zupd_eq, zupd_na, zupd_ni, zupp_eq, zupp_na, zupp_ni]
          refine hQ _ (cNowEdg hc1 ok (zupd_eq _ _ _ _) (fun j hj => ?_) a2 ?_) (frX_tr (frX_up (frX_rf _ _) (by decide) (by decide)) (frX_P a2 (by omega)))
          · rw [fup_ne (by omega), fup_ne (by omega), fup_ne (by omega), fup_ne (by omega)]
          · rw [fup_eq]; exact a1
      rcases hw with rfl | rfl
      · simp (disch := first | assumption | omega) only [rX_edge_0, rX_edge_1, rX_edge_4, rX_edge_7, rX_edge_10, rX_edge_11, rX_edge_12, rX_edge_14, rX_edge_15, rX_edge_16, rX_edge_18, rX_edge_21, rX_edge_24, rX_edge_25, rX_edge_26, rX_edge_28, rX_edge_31, rX_edge_34, rX_edge_35, rX_edge_36, rX_edge_39, rX_edge_40, rX_edge_41, rX_edge_43, rX_edge_46, rX_edge_47, rX_edge_48, rX_edge_51, rX_edge_54, rX_edge_57, rX_edge_60, rX_edge_61, rX_edge_62, rX_edge_64, rX_edge_67, rX_edge_68, rX_edge_69, rX_edge_72, rX_edge_75, rX_edge_76, rX_edge_79, rX_edge_82, rX_edge_83, rX_edge_84, rX_edge_85, rX_edge_88, rX_edge_89, rX_edge_92, rX_edge_93, rX_edge_96, kX_isWithin, kT_isFull k21, kX_refuse h, kN_out h, Bool.false_eq_true, true_implies, false_implies, implies_true, true_and, and_true, not_true_eq_false, not_false_eq_true, zPush_I, zPush_L, zPush_R, zPush_U, Int.reduceLT, Int.reduceLE, Int.reduceEq, Int.reduceNe, Int.reduceAdd, Int.reduceSub, Int.reduceMul, Int.reduceNeg, Int.reduceToNat, Nat.reduceAdd, Nat.reduceMul, Nat.reduceEqDiff, zw32_id, zw64_id, zupd_eq, zupd_na, zupd_ni, zupp_eq, zupp_na, zupp_ni, p14, p19, p21, p38, t3, t1, c3, true_or, or_true]
        (repeat' (first | apply And.intro | intro _)) <;> first | exact zq | (exfalso; omega)
      · simp (disch := first | assumption | omega) only [rX_edge_0, rX_edge_1, rX_edge_4, rX_edge_7, rX_edge_10, rX_edge_11, rX_edge_12, rX_edge_14, rX_edge_15, rX_edge_16, rX_edge_18, rX_edge_21, rX_edge_24, rX_edge_25, rX_edge_26, rX_edge_28, rX_edge_31, rX_edge_34, rX_edge_35, rX_edge_36, rX_edge_39, rX_edge_40, rX_edge_41, rX_edge_43, rX_edge_46, rX_edge_47, rX_edge_48, rX_edge_51, rX_edge_54, rX_edge_57, rX_edge_60, rX_edge_61, rX_edge_62, rX_edge_64, rX_edge_67, rX_edge_68, rX_edge_69, rX_edge_72, rX_edge_75, rX_edge_76, rX_edge_79, rX_edge_82, rX_edge_83, rX_edge_84, rX_edge_85, rX_edge_88, rX_edge_89, rX_edge_92, rX_edge_93, rX_edge_96, kX_isWithin, kT_isFull k21, kX_refuse h, kN_out h, Bool.false_eq_true, true_implies, false_implies, implies_true, true_and, and_true, not_true_eq_false, not_false_eq_true, zPush_I, zPush_L, zPush_R, zPush_U, Int.reduceLT, Int.reduceLE, Int.reduceEq, Int.reduceNe, Int.reduceAdd, Int.reduceSub, Int.reduceMul, Int.reduceNeg, Int.reduceToNat, Nat.reduceAdd, Nat.reduceMul, Nat.reduceEqDiff, zw32_id, zw64_id, zupd_eq, zupd_na, zupd_ni, zupp_eq, zupp_na, zupp_ni, p14, p19, p21, p38, t3, t1, c3, true_or, or_true]
        (repeat' (first | apply And.intro | intro _)) <;> first | exact zq | (exfalso; omega)
  · have ze : oEdge f cn a b w = (f, bump cn 0, -2) := by unfold oEdge; rw [if_neg hg]
    rw [ze] at hQ
    dsimp only at hQ
    have zq := cBadP hc (i := 0) (by decide) (by decide) hQ
    simp (disch := first | assumption | omega) only [rX_edge_0, rX_edge_1, rX_edge_4, rX_edge_7, rX_edge_10, rX_edge_11, rX_edge_12, rX_edge_14, rX_edge_15, rX_edge_16, rX_edge_18, rX_edge_21, rX_edge_24, rX_edge_25, rX_edge_26, rX_edge_28, rX_edge_31, rX_edge_34, rX_edge_35, rX_edge_36, rX_edge_39, rX_edge_40, rX_edge_41, rX_edge_43, rX_edge_46, rX_edge_47, rX_edge_48, rX_edge_51, rX_edge_54, rX_edge_57, rX_edge_60, rX_edge_61, rX_edge_62, rX_edge_64, rX_edge_67, rX_edge_68, rX_edge_69, rX_edge_72, rX_edge_75, rX_edge_76, rX_edge_79, rX_edge_82, rX_edge_83, rX_edge_84, rX_edge_85, rX_edge_88, rX_edge_89, rX_edge_92, rX_edge_93, rX_edge_96, kX_isWithin, kT_isFull k21, kX_refuse h, kN_out h, Bool.false_eq_true, true_implies, false_implies, implies_true, true_and, and_true, not_true_eq_false, not_false_eq_true, zPush_I, zPush_L, zPush_R, zPush_U, Int.reduceLT, Int.reduceLE, Int.reduceEq, Int.reduceNe, Int.reduceAdd, Int.reduceSub, Int.reduceMul, Int.reduceNeg, Int.reduceToNat, Nat.reduceAdd, Nat.reduceMul, Nat.reduceEqDiff, zw32_id, zw64_id, zupd_eq, zupd_na, zupd_ni, zupp_eq, zupp_na, zupp_ni, p14, p19, p21, p38, t3, t1, c3, true_or, or_true]
    (repeat' (first | apply And.intro | intro _)) <;> first | exact zq | (exfalso; omega)
theorem zu_cm {m : zMm} {a b : Nat} {i j v w : Int} (hab : a ≠ b) : zupd (zupd m a i v) b j w = zupd (zupd m b j w) a i v := by
  funext x k
  unfold zupd
  by_cases h1 : x = a
  · subst h1
    rw [if_neg (fun hx => hab hx.1)]
    by_cases h2 : k = i
    · rw [if_pos ⟨rfl, h2⟩, if_pos ⟨rfl, h2⟩]
    · rw [if_neg (fun hx => h2 hx.2), if_neg (fun hx => h2 hx.2), if_neg (fun hx => hab hx.1)]
  · have hn : ¬ (x = a ∧ k = i) := fun hx => h1 hx.1
    rw [if_neg hn, if_neg hn]
theorem cUnnet (hc : cOk f G cn N D sh pp mm) (ok : fOk f) (hQ : ∀ m, cOk (oUnnet f cn).1 G (oUnnet f cn).2.1 N D sh pp m → frX sh mm sh m → Q (zI (oUnnet f cn).2.2) sh pp m) : zS 117 0 [zR 13] [] sh pp mm Q := by
  have h := hc.1
  have k13 := k_13 h
  have k14 := k_14 h
  have p14 := p_13_0 h
  have k19 := k_19 h
  have p19 := p_14_3 h
  have k21 := k_21 h
  have p21 := p_14_4 h
  have k38 := k_38 h
  have p38 := p_13_5 h
  have hc1 := cOk_oN hc
  have tb : tbI 21 3 12 (f 983) 537 f (zupd mm 38 10 0) := hc1.2.2.1.2.2.2.1
  have t3 := hc.2.2.1.2.2.2.1.2.2.1
  have r1 : frP (fun x _ => x = 21 ∨ x = 22) (zupd mm 38 10 0) (zupd (zupd mm 38 10 0) 21 3 0) := frP_up (frP_rf _ _) (Or.inl rfl)
  have hc2 := cNowEdg hc1 ok (f' := fup f 983 0) (zupd_eq _ _ _ _) (fun k hk => fup_ne (fun hx => hk (Or.inl hx))) r1 (by rw [fup_eq]; exact tbI_0 tb)
  have ok2 : fOk (fup f 983 0) := fOkEdg ok (fun k hk => fup_ne (fun hx => hk (Or.inl hx))) ⟨by rw [fup_eq]; decide, by rw [fup_eq]; decide, fun k k0 k1 => by rw [fup_eq] at k1; omega⟩
  have tc : tbI 19 2 10 (fup f 983 0 982) 517 (fup f 983 0) (zupd (zupd mm 38 10 0) 21 3 0) := hc2.2.2.1.2.2.1
  have r2 : frP (fun x _ => x = 19 ∨ x = 20) (zupd (zupd mm 38 10 0) 21 3 0) (zupd (zupd (zupd mm 38 10 0) 21 3 0) 19 3 0) := frP_up (frP_rf _ _) (Or.inl rfl)
  have hc3 := cNowCor hc2 ok2 (f' := fup (fup f 983 0) 982 0) (by rw [zupd_na (by decide), zupd_eq]) (fun k hk => fup_ne (fun hx => hk (Or.inl hx))) r2 (by rw [fup_eq]; exact tbI_0 tc)
  have zq := hQ _ hc3 (frX_up (frX_up (frX_up (frX_rf _ _) (by decide) (by decide)) (by decide) (by decide)) (by decide) (by decide))
  rw [zu_cm (by decide)] at zq
  simp (disch := first | assumption | omega) only [rX_unnet_0, rX_unnet_1, rX_unnet_4, rX_unnet_7, rX_unnet_8, rX_unnet_11, rX_unnet_14, rX_unnet_17, rX_unnet_18, rX_unnet_19, rX_unnet_22, rX_unnet_25, rX_unnet_28, kT_empty k19, kT_empty k21, kN_out h, Bool.false_eq_true, true_implies, false_implies, implies_true, true_and, and_true, not_true_eq_false, not_false_eq_true, zPush_I, zPush_L, zPush_R, zPush_U, Int.reduceLT, Int.reduceLE, Int.reduceEq, Int.reduceNe, Int.reduceAdd, Int.reduceSub, Int.reduceMul, Int.reduceNeg, Int.reduceToNat, Nat.reduceAdd, Nat.reduceMul, Nat.reduceEqDiff, zw32_id, zw64_id, zupd_eq, zupd_na, zupd_ni, zupp_eq, zupp_na, zupp_ni, p14, p19, p21, p38, t3]
  exact zq
end
