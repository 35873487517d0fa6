/-! ===== calls of the class: put, clear, see, type ===== -/
section
variable {sh : zSh} {pp : zPp} {mm m' : zMm} {Q : zV → zSh → zPp → zMm → Prop} {f f' : Int → Int} {G : Int → Option (Int → Int)} {cn cn' : Int → Int} {N D N' D' : Nat}
theorem zCs_lo (h : zCs sh pp mm) {w : Int} (w0 : 0 ≤ w) (w8 : w ≤ 8) : mm 2 w = loN w ∧ mm 3 w = hiN w := by
  rw [h.2.2 2 (by decide) (by decide) w w0, h.2.2 3 (by decide) (by decide) w w0]
  rcases (show w = 0 ∨ w = 1 ∨ w = 2 ∨ w = 3 ∨ w = 4 ∨ w = 5 ∨ w = 6 ∨ w = 7 ∨ w = 8 by omega) with rfl | rfl | rfl | rfl | rfl | rfl | rfl | rfl | rfl <;> decide
theorem fr_zu {P : Nat → Int → Prop} {a b : zMm} (h : frP P a b) {x : Nat} {i v : Int} : frP P (zupd a x i v) (zupd b x i v) := fun y j hy => by
  unfold zupd
  rw [h y j hy]
theorem cPut (hc : cOk f G cn N D sh pp mm) (ok : fOk f) {w v : Int} (hQ : ∀ m, cOk (oPut f cn w v).1 G (oPut f cn w v).2.1 N D sh pp m → frX sh mm sh m → Q (zI (oPut f cn w v).2.2) sh pp m) : zS 103 0 [zR 13, zI w, zI v, zU] [] sh pp mm Q := by
  have h := hc.1
  have k13 := k_13 h
  have k14 := k_14 h
  have p14 := p_13_0 h
  have k15 := k_15 h
  have l15 := l_15 h
  have p15 := p_14_0 h
  have k38 := k_38 h
  have p38 := p_13_5 h
  have hcs := hc.2.1
  have k2 : zKd sh 2 = 30 := (hcs.1 (2, 30, 9) (by decide)).1
  have l2 : zLn sh 2 = 9 := (hcs.1 (2, 30, 9) (by decide)).2
  have k3 : zKd sh 3 = 30 := (hcs.1 (3, 30, 9) (by decide)).1
  have l3 : zLn sh 3 = 9 := (hcs.1 (3, 30, 9) (by decide)).2
  have zn : ∀ i, 0 ≤ i → i ≤ 8 → mm 15 i = f i := hc.2.2.1.1
  by_cases hg : (0 ≤ w ∧ w ≤ 8) ∧ loN w ≤ v ∧ v ≤ hiN w
  · have ze : oPut f cn w v = (fup f w v, cn, f w) := by unfold oPut; rw [if_pos hg]
    rw [ze] at hQ
    dsimp only at hQ
    obtain ⟨z2, z3⟩ := zCs_lo hcs hg.1.1 hg.1.2
    have zw := zn w (by omega) (by omega)
    have row : ∀ m1 : zMm, (∀ i, 0 ≤ i → i ≤ 8 → m1 15 i = f i) → ∀ i, 0 ≤ i → i ≤ 8 → zupd m1 15 w v 15 i = fup f w v i := by
      intro m1 hm1 i i0 i8
      unfold zupd fup
      by_cases hi : i = w
      · rw [if_pos ⟨rfl, hi⟩, if_pos hi]
      · rw [if_neg (fun hx => hi hx.2), if_neg hi]; exact hm1 i i0 i8
    by_cases h6 : w ≤ 6
    · have hc1 := cOk_oD (q := 3) (cOk_oD (q := 2) (cOk_oD (q := 1) (cOk_oD (q := 0) hc (by decide)) (by decide)) (by decide)) (by decide)
      have r1 : frP (fun x _ => x = 15) (zupd (zupd (zupd (zupd mm 73 5 0) 87 5 0) 101 5 0) 115 5 0) (zupd (zupd (zupd (zupd (zupd mm 73 5 0) 87 5 0) 101 5 0) 115 5 0) 15 w v) := frP_up (frP_rf _ _) rfl
      have zq := hQ _ (cNowNum hc1 ok (f' := fup f w v) (Or.inr (fun p hp => by
        rcases (show p = 0 ∨ p = 1 ∨ p = 2 ∨ p = 3 by omega) with rfl | rfl | rfl | rfl <;> simp [zupd])) (Or.inl (fup_ne (by omega))) (fun k hk => fup_ne (by omega)) r1 (row _ hc1.2.2.1.1)) (frX_up (frX_up (frX_up (frX_up (frX_up (frX_rf _ _) (by decide) (by decide)) (by decide) (by decide)) (by decide) (by decide)) (by decide) (by decide)) (by decide) (by decide))
      rw [← zu_cm (a := 15) (b := 115) (by decide), ← zu_cm (a := 15) (b := 101) (by decide), ← zu_cm (a := 15) (b := 87) (by decide), ← zu_cm (a := 15) (b := 73) (by decide)] at zq
      simp (disch := first | assumption | omega) only [rX_put_0, rX_put_1, rX_put_4, rX_put_5, rX_put_7, rX_put_10, rX_put_11, rX_put_14, rX_put_15, rX_put_16, rX_put_19, rX_put_20, rX_put_23, rX_put_24, rX_put_25, rX_put_28, rX_put_29, rX_put_30, rX_put_32, rX_put_35, rX_put_36, rX_put_37, rX_put_40, rX_put_43, rX_put_44, rX_put_45, rX_put_46, rX_put_47, rX_put_50, rX_put_53, rX_put_54, rX_put_55, rX_put_56, rX_put_57, rX_put_59, rX_put_62, rX_put_63, rX_put_66, rX_put_67, rX_put_69, rX_put_72, rX_put_73, rX_put_76, rX_put_79, rX_put_80, kX_refuse h, kX_outD h, kN_out h, Bool.false_eq_true, true_implies, false_implies, implies_true, true_and, and_true, not_true_eq_false, not_false_eq_true, zPush_I, zPush_L, zPush_R, zPush_U, Int.reduceLT, Int.reduceLE, Int.reduceEq, Int.reduceNe, Int.reduceAdd, Int.reduceSub, Int.reduceMul, Int.reduceNeg, Int.reduceToNat, Nat.reduceAdd, Nat.reduceMul, Nat.reduceEqDiff, zw32_id, zw64_id, zupd_eq, zupd_na, zupd_ni, zupp_eq, zupp_na, zupp_ni, p14, p15, p38, z2, z3, zw]
      (repeat' (first | apply And.intro | intro _)) <;> first | exact zq | (exfalso; omega)
    · by_cases h7 : w = 7
      · subst h7
        have hc1 := cOk_oN hc
        have r1 : frP (fun x _ => x = 15) (zupd mm 38 10 0) (zupd (zupd mm 38 10 0) 15 7 v) := frP_up (frP_rf _ _) rfl
        have zq := hQ _ (cNowNum hc1 ok (f' := fup f 7 v) (Or.inl (fun i i0 i6 => fup_ne (by omega))) (Or.inr (zupd_eq _ _ _ _)) (fun k hk => fup_ne (by omega)) r1 (row _ hc1.2.2.1.1)) (frX_up (frX_up (frX_rf _ _) (by decide) (by decide)) (by decide) (by decide))
        rw [← zu_cm (a := 15) (b := 38) (by decide)] at zq
        simp (disch := first | assumption | omega) only [rX_put_0, rX_put_1, rX_put_4, rX_put_5, rX_put_7, rX_put_10, rX_put_11, rX_put_14, rX_put_15, rX_put_16, rX_put_19, rX_put_20, rX_put_23, rX_put_24, rX_put_25, rX_put_28, rX_put_29, rX_put_30, rX_put_32, rX_put_35, rX_put_36, rX_put_37, rX_put_40, rX_put_43, rX_put_44, rX_put_45, rX_put_46, rX_put_47, rX_put_50, rX_put_53, rX_put_54, rX_put_55, rX_put_56, rX_put_57, rX_put_59, rX_put_62, rX_put_63, rX_put_66, rX_put_67, rX_put_69, rX_put_72, rX_put_73, rX_put_76, rX_put_79, rX_put_80, kX_refuse h, kX_outD h, kN_out h, Bool.false_eq_true, true_implies, false_implies, implies_true, true_and, and_true, not_true_eq_false, not_false_eq_true, zPush_I, zPush_L, zPush_R, zPush_U, Int.reduceLT, Int.reduceLE, Int.reduceEq, Int.reduceNe, Int.reduceAdd, Int.reduceSub, Int.reduceMul, Int.reduceNeg, Int.reduceToNat, Nat.reduceAdd, Nat.reduceMul, Nat.reduceEqDiff, zw32_id, zw64_id, zupd_eq, zupd_na, zupd_ni, zupp_eq, zupp_na, zupp_ni, p14, p15, p38, z2, z3, zw]
        (repeat' (first | apply And.intro | intro _)) <;> first | exact zq | (exfalso; omega)
      · have r1 : frP (fun x _ => x = 15) mm (zupd mm 15 w v) := frP_up (frP_rf _ _) rfl
        have zq := hQ _ (cNowNum hc ok (f' := fup f w v) (Or.inl (fun i i0 i6 => fup_ne (by omega))) (Or.inl (fup_ne (by omega))) (fun k hk => fup_ne (by omega)) r1 (row _ zn)) (frX_up (frX_rf _ _) (by decide) (by decide))
        simp (disch := first | assumption | omega) only [rX_put_0, rX_put_1, rX_put_4, rX_put_5, rX_put_7, rX_put_10, rX_put_11, rX_put_14, rX_put_15, rX_put_16, rX_put_19, rX_put_20, rX_put_23, rX_put_24, rX_put_25, rX_put_28, rX_put_29, rX_put_30, rX_put_32, rX_put_35, rX_put_36, rX_put_37, rX_put_40, rX_put_43, rX_put_44, rX_put_45, rX_put_46, rX_put_47, rX_put_50, rX_put_53, rX_put_54, rX_put_55, rX_put_56, rX_put_57, rX_put_59, rX_put_62, rX_put_63, rX_put_66, rX_put_67, rX_put_69, rX_put_72, rX_put_73, rX_put_76, rX_put_79, rX_put_80, kX_refuse h, kX_outD h, kN_out h, Bool.false_eq_true, true_implies, false_implies, implies_true, true_and, and_true, not_true_eq_false, not_false_eq_true, zPush_I, zPush_L, zPush_R, zPush_U, Int.reduceLT, Int.reduceLE, Int.reduceEq, Int.reduceNe, Int.reduceAdd, Int.reduceSub, Int.reduceMul, Int.reduceNeg, Int.reduceToNat, Nat.reduceAdd, Nat.reduceMul, Nat.reduceEqDiff, zw32_id, zw64_id, zupd_eq, zupd_na, zupd_ni, zupp_eq, zupp_na, zupp_ni, p14, p15, p38, z2, z3, zw]
        (repeat' (first | apply And.intro | intro _)) <;> first | exact zq | (exfalso; omega)
  · have ze : oPut f cn w v = (f, bump cn 0, -2) := by unfold oPut; rw [if_neg hg]
    rw [ze] at hQ
    dsimp only at hQ
    have zq := cBadP hc (i := 0) (by decide) (by decide) hQ
    by_cases h0 : 0 ≤ w ∧ w ≤ 8
    · obtain ⟨z2, z3⟩ := zCs_lo hcs h0.1 h0.2
      simp (disch := first | assumption | omega) only [rX_put_0, rX_put_1, rX_put_4, rX_put_5, rX_put_7, rX_put_10, rX_put_11, rX_put_14, rX_put_15, rX_put_16, rX_put_19, rX_put_20, rX_put_23, rX_put_24, rX_put_25, rX_put_28, rX_put_29, rX_put_30, rX_put_32, rX_put_35, kX_refuse h, Bool.false_eq_true, true_implies, false_implies, implies_true, true_and, and_true, not_true_eq_false, not_false_eq_true, zPush_I, zPush_L, zPush_R, zPush_U, Int.reduceLT, Int.reduceLE, Int.reduceEq, Int.reduceNe, Int.reduceAdd, Int.reduceSub, Int.reduceMul, Int.reduceNeg, Int.reduceToNat, Nat.reduceAdd, Nat.reduceMul, Nat.reduceEqDiff, zw32_id, zw64_id, zupd_eq, zupd_na, zupd_ni, zupp_eq, zupp_na, zupp_ni, p14, p15, p38, z2, z3]
      (repeat' (first | apply And.intro | intro _)) <;> first | exact zq | (exfalso; omega)
    · by_cases h1 : w < 0
      · simp (disch := first | assumption | omega) only [rX_put_0, rX_put_1, rX_put_4, rX_put_5, rX_put_7, rX_put_10, rX_put_11, rX_put_14, rX_put_15, rX_put_16, rX_put_19, rX_put_20, rX_put_23, rX_put_24, rX_put_25, rX_put_28, rX_put_29, rX_put_30, rX_put_32, rX_put_35, kX_refuse h, Bool.false_eq_true, true_implies, false_implies, implies_true, true_and, and_true, not_true_eq_false, not_false_eq_true, zPush_I, zPush_L, zPush_R, zPush_U, Int.reduceLT, Int.reduceLE, Int.reduceEq, Int.reduceNe, Int.reduceAdd, Int.reduceSub, Int.reduceMul, Int.reduceNeg, Int.reduceToNat, Nat.reduceAdd, Nat.reduceMul, Nat.reduceEqDiff, zw32_id, zw64_id, zupd_eq, zupd_na, zupd_ni, zupp_eq, zupp_na, zupp_ni, eq_true h1]
        exact zq
      · simp (disch := first | assumption | omega) only [rX_put_0, rX_put_1, rX_put_4, rX_put_5, rX_put_7, rX_put_10, rX_put_11, rX_put_14, rX_put_15, rX_put_16, rX_put_19, rX_put_20, rX_put_23, rX_put_24, rX_put_25, rX_put_28, rX_put_29, rX_put_30, rX_put_32, rX_put_35, kX_refuse h, Bool.false_eq_true, true_implies, false_implies, implies_true, true_and, and_true, not_true_eq_false, not_false_eq_true, zPush_I, zPush_L, zPush_R, zPush_U, Int.reduceLT, Int.reduceLE, Int.reduceEq, Int.reduceNe, Int.reduceAdd, Int.reduceSub, Int.reduceMul, Int.reduceNeg, Int.reduceToNat, Nat.reduceAdd, Nat.reduceMul, Nat.reduceEqDiff, zw32_id, zw64_id, zupd_eq, zupd_na, zupd_ni, zupp_eq, zupp_na, zupp_ni, eq_false h1, eq_false (show ¬ w < 9 by omega)]
        exact zq
theorem cClear (hc : cOk f G cn N D sh pp mm) (ok : fOk f) {p : Int} (hQ : ∀ m, cOk (oClear f cn p).1 G (oClear f cn p).2.1 N D sh pp m → frX sh mm sh m → Q (zI (oClear f cn p).2.2) sh pp m) : zS 105 0 [zR 13, zI p] [] sh pp mm Q := by
  have h := hc.1
  have k13 := k_13 h
  have k14 := k_14 h
  have p14 := p_13_0 h
  have k16 := k_16 h
  have l16 := l_16 h
  have p16 := p_14_1 h
  by_cases hg : 0 ≤ p ∧ p ≤ 3
  · have ze : oClear f cn p = (fup f (9 + 121 * p) 0, cn, f (9 + 121 * p)) := by unfold oClear; rw [if_pos hg]
    rw [ze] at hQ
    dsimp only at hQ
    obtain ⟨q, hq⟩ : ∃ q : Nat, p = (q : Int) := ⟨p.toNat, by omega⟩
    subst hq
    have hq4 : q < 4 := by omega
    have sl := stL_14 h
    have zt := sl.2.2.2.2.2.2.2.2 q hq4
    rw [show 14 + 12 + 2 * q = 26 + 2 * q by omega] at zt
    have kt := zt.1.1
    have pt : pp 16 (q : Int) = 26 + 2 * q := zt.2
    have tb := hc.2.2.1.2.2.2.2.2.2.2 q hq4
    rw [show 14 + 12 + 2 * q = 26 + 2 * q by omega] at tb
    have hc1 := cOk_oP hc hq4
    have tb1 := hc1.2.2.1.2.2.2.2.2.2.2 q hq4
    rw [show 14 + 12 + 2 * q = 26 + 2 * q by omega] at tb1
    have t3 := tb.2.2.1
    have r1 : frP (fun x _ => x = 26 + 2 * q ∨ x = 27 + 2 * q) (zupd (zupd mm (66 + 14 * q) 5 0) (73 + 14 * q) 5 0) (zupd (zupd (zupd mm (66 + 14 * q) 5 0) (73 + 14 * q) 5 0) (26 + 2 * q) 3 0) := frP_up (frP_rf _ _) (Or.inl rfl)
    have zq := hQ _ (cNowTxt hc1 ok (f' := fup f (9 + 121 * (q : Int)) 0) hq4 ⟨by rw [zupd_na (by omega), zupd_eq], zupd_eq _ _ _ _⟩ (fun k hk => fup_ne (by omega)) r1 (by rw [fup_eq]; exact tbI_0 tb1)) (frX_up (frX_up (frX_up (frX_rf _ _) (by omega) (by omega)) (by omega) (by omega)) (by omega) (by omega))
    simp (disch := first | assumption | omega) only [rX_clear_0, rX_clear_1, rX_clear_4, rX_clear_7, rX_clear_8, rX_clear_9, rX_clear_11, rX_clear_14, rX_clear_15, rX_clear_16, rX_clear_17, rX_clear_20, rX_clear_21, rX_clear_24, rX_clear_27, rX_clear_28, rX_clear_29, rX_clear_32, kX_isProgram, kX_refuse h, kX_outP h, kT_empty kt, Bool.false_eq_true, true_implies, false_implies, implies_true, true_and, and_true, not_true_eq_false, not_false_eq_true, zPush_I, zPush_L, zPush_R, zPush_U, Int.reduceLT, Int.reduceLE, Int.reduceEq, Int.reduceNe, Int.reduceAdd, Int.reduceSub, Int.reduceMul, Int.reduceNeg, Int.reduceToNat, Nat.reduceAdd, Nat.reduceMul, Nat.reduceEqDiff, zw32_id, zw64_id, zupd_eq, zupd_na, zupd_ni, zupp_eq, zupp_na, zupp_ni, p14, p16, pt, t3, eq_true hg]
    exact zq
  · have ze : oClear f cn p = (f, bump cn 0, -2) := by unfold oClear; rw [if_neg hg]
    rw [ze] at hQ
    dsimp only at hQ
    have zq := cBadP hc (i := 0) (by decide) (by decide) hQ
    simp (disch := first | assumption | omega) only [rX_clear_0, rX_clear_1, rX_clear_4, rX_clear_7, rX_clear_8, rX_clear_9, rX_clear_11, rX_clear_14, rX_clear_15, rX_clear_16, rX_clear_17, rX_clear_20, rX_clear_21, rX_clear_24, rX_clear_27, rX_clear_28, rX_clear_29, rX_clear_32, kX_isProgram, kX_refuse h, Bool.false_eq_true, true_implies, false_implies, implies_true, true_and, and_true, not_true_eq_false, not_false_eq_true, zPush_I, zPush_L, zPush_R, zPush_U, Int.reduceLT, Int.reduceLE, Int.reduceEq, Int.reduceNe, Int.reduceAdd, Int.reduceSub, Int.reduceMul, Int.reduceNeg, Int.reduceToNat, Nat.reduceAdd, Nat.reduceMul, Nat.reduceEqDiff, zw32_id, zw64_id, zupd_eq, zupd_na, zupd_ni, zupp_eq, zupp_na, zupp_ni, eq_false hg]
    exact zq
theorem cSee (hc : cOk f G cn N D sh pp mm) (ok : fOk f) {x y w : Int} (hQ : ∀ m, cOk (oSee f cn x y w).1 G (oSee f cn x y w).2.1 N D sh pp m → frX sh mm sh m → Q (zI (oSee f cn x y w).2.2) sh pp m) : zS 125 0 [zR 13, zI x, zI y, zI w, zU, zU] [] sh pp mm Q := by
  have h := hc.1
  have k13 := k_13 h
  have k14 := k_14 h
  have p14 := p_13_0 h
  have k25 := k_25 h
  have l25 := l_25 h
  have p25 := p_14_6 h
  have s6 : ∀ i, 0 ≤ i → i < 384 → mm 25 i = f (573 + i) := hc.2.2.1.2.2.2.2.2.1
  have s7 : mm 14 7 = f 985 := hc.2.2.1.2.2.2.2.2.2.1
  have g1 := ok.2.2.2.2.2.2.1.1
  have g2 := ok.2.2.2.2.2.2.1.2
  by_cases hg : ((0 ≤ x ∧ x ≤ 23) ∧ (0 ≤ y ∧ y ≤ 15)) ∧ (-1 ≤ w ∧ w ≤ 1)
  · obtain ⟨hg1, hg2⟩ := id hg
    have sx := hg1.1
    have sy := hg1.2
    have zi := s6 (24 * y + x) (by omega) (by omega)
    rw [show 573 + (24 * y + x) = 573 + 24 * y + x by omega] at zi
    have zb := ok.2.2.2.2.2.2.2 (24 * y + x) (by omega) (by omega)
    rw [show 573 + (24 * y + x) = 573 + 24 * y + x by omega] at zb
    by_cases hf : f (573 + 24 * y + x) = -1 ∧ w ≠ -1 ∧ f 985 = 60
    · have ze : oSee f cn x y w = (f, bump cn 2, -4) := by unfold oSee; rw [if_pos hg, if_pos hf]
      rw [ze] at hQ
      dsimp only at hQ
      have zq := cBadP hc (i := 2) (by decide) (by decide) hQ
      simp (disch := first | assumption | omega) only [rX_see_0, rX_see_1, rX_see_2, rX_see_5, rX_see_8, rX_see_9, rX_see_10, rX_see_11, rX_see_14, rX_see_17, rX_see_18, rX_see_19, rX_see_21, rX_see_24, rX_see_25, rX_see_26, rX_see_29, rX_see_32, rX_see_33, rX_see_34, rX_see_37, rX_see_38, rX_see_40, rX_see_41, rX_see_42, rX_see_45, rX_see_46, rX_see_49, rX_see_50, rX_see_52, rX_see_53, rX_see_56, rX_see_57, rX_see_60, rX_see_61, rX_see_62, rX_see_64, rX_see_65, rX_see_68, rX_see_71, rX_see_73, rX_see_74, rX_see_76, rX_see_79, rX_see_80, rX_see_81, rX_see_83, rX_see_86, rX_see_87, rX_see_88, rX_see_91, rX_see_94, rX_see_95, rX_see_96, rX_see_99, rX_see_100, rX_see_101, rX_see_102, rX_see_105, rX_see_106, rX_see_109, rX_see_111, rX_see_112, rX_see_115, rX_see_117, kX_isWithin, kX_isCell, kX_cellAt sx sy, kX_refuse h, Bool.false_eq_true, true_implies, false_implies, implies_true, true_and, and_true, not_true_eq_false, not_false_eq_true, zPush_I, zPush_L, zPush_R, zPush_U, Int.reduceLT, Int.reduceLE, Int.reduceEq, Int.reduceNe, Int.reduceAdd, Int.reduceSub, Int.reduceMul, Int.reduceNeg, Int.reduceToNat, Nat.reduceAdd, Nat.reduceMul, Nat.reduceEqDiff, zw32_id, zw64_id, zupd_eq, zupd_na, zupd_ni, zupp_eq, zupp_na, zupp_ni, p14, p25, zi, s7, eq_true hg1, eq_true hg2, eq_false hf.2.1, hf.1, hf.2.2]
      exact zq
    · have ze : oSee f cn x y w = (fup (fup f 985 (f 985 + ((if w = -1 then 0 else 1) - (if f (573 + 24 * y + x) = -1 then 0 else 1)))) (573 + 24 * y + x) w, cn, f (573 + 24 * y + x)) := by unfold oSee; rw [if_pos hg, if_neg hf]
      rw [ze] at hQ
      dsimp only at hQ
      have fin : ∀ d : Int, d = (if w = -1 then 0 else 1) - (if f (573 + 24 * y + x) = -1 then 0 else 1) → Q (zI (f (573 + 24 * y + x))) sh pp (zupd (zupd mm 25 (24 * y + x) w) 14 7 (f 985 + d)) := by
        intro d hd
        have r1 : frP (fun x _ => x = 25 ∨ x = 14) mm (zupd (zupd mm 25 (24 * y + x) w) 14 7 (f 985 + d)) := frP_up (frP_up (frP_rf _ _) (Or.inl rfl)) (Or.inr rfl)
        refine hQ _ (cNowSee hc ok (fun k hk => ?_) r1 ⟨fun i i0 i1 => ?_, ?_⟩) (frX_P r1 (by omega))
        · rw [fup_ne (by omega), fup_ne (by omega)]
        · rw [zupd_na (by decide)]
          unfold zupd fup
          by_cases hi : i = 24 * y + x
          · rw [if_pos ⟨rfl, hi⟩, if_pos (by omega)]
          · rw [if_neg (fun hx => hi hx.2), if_neg (by omega), if_neg (by omega)]; exact s6 i i0 i1
        · rw [zupd_eq, fup_ne (by omega), fup_eq, hd]
      by_cases hw : w = -1
      · subst hw
        by_cases hs : f (573 + 24 * y + x) = -1
        · have zq := fin 0 (by rw [if_pos rfl, if_pos hs]; rfl)
          rw [hs] at zq
          simp (disch := first | assumption | omega) only [rX_see_0, rX_see_1, rX_see_2, rX_see_5, rX_see_8, rX_see_9, rX_see_10, rX_see_11, rX_see_14, rX_see_17, rX_see_18, rX_see_19, rX_see_21, rX_see_24, rX_see_25, rX_see_26, rX_see_29, rX_see_32, rX_see_33, rX_see_34, rX_see_37, rX_see_38, rX_see_40, rX_see_41, rX_see_42, rX_see_45, rX_see_46, rX_see_49, rX_see_50, rX_see_52, rX_see_53, rX_see_56, rX_see_57, rX_see_60, rX_see_61, rX_see_62, rX_see_64, rX_see_65, rX_see_68, rX_see_71, rX_see_73, rX_see_74, rX_see_76, rX_see_79, rX_see_80, rX_see_81, rX_see_83, rX_see_86, rX_see_87, rX_see_88, rX_see_91, rX_see_94, rX_see_95, rX_see_96, rX_see_99, rX_see_100, rX_see_101, rX_see_102, rX_see_105, rX_see_106, rX_see_109, rX_see_111, rX_see_112, rX_see_115, rX_see_117, kX_isWithin, kX_isCell, kX_cellAt sx sy, kX_refuse h, Bool.false_eq_true, true_implies, false_implies, implies_true, true_and, and_true, not_true_eq_false, not_false_eq_true, zPush_I, zPush_L, zPush_R, zPush_U, Int.reduceLT, Int.reduceLE, Int.reduceEq, Int.reduceNe, Int.reduceAdd, Int.reduceSub, Int.reduceMul, Int.reduceNeg, Int.reduceToNat, Nat.reduceAdd, Nat.reduceMul, Nat.reduceEqDiff, zw32_id, zw64_id, zupd_eq, zupd_na, zupd_ni, zupp_eq, zupp_na, zupp_ni, p14, p25, zi, s7, eq_true hg1, hs]
          (repeat' (first | apply And.intro | intro _)) <;> first | exact zq | (exfalso; omega)
        · have zq := fin (-1) (by rw [if_pos rfl, if_neg hs]; rfl)
          simp (disch := first | assumption | omega) only [rX_see_0, rX_see_1, rX_see_2, rX_see_5, rX_see_8, rX_see_9, rX_see_10, rX_see_11, rX_see_14, rX_see_17, rX_see_18, rX_see_19, rX_see_21, rX_see_24, rX_see_25, rX_see_26, rX_see_29, rX_see_32, rX_see_33, rX_see_34, rX_see_37, rX_see_38, rX_see_40, rX_see_41, rX_see_42, rX_see_45, rX_see_46, rX_see_49, rX_see_50, rX_see_52, rX_see_53, rX_see_56, rX_see_57, rX_see_60, rX_see_61, rX_see_62, rX_see_64, rX_see_65, rX_see_68, rX_see_71, rX_see_73, rX_see_74, rX_see_76, rX_see_79, rX_see_80, rX_see_81, rX_see_83, rX_see_86, rX_see_87, rX_see_88, rX_see_91, rX_see_94, rX_see_95, rX_see_96, rX_see_99, rX_see_100, rX_see_101, rX_see_102, rX_see_105, rX_see_106, rX_see_109, rX_see_111, rX_see_112, rX_see_115, rX_see_117, kX_isWithin, kX_isCell, kX_cellAt sx sy, kX_refuse h, Bool.false_eq_true, true_implies, false_implies, implies_true, true_and, and_true, not_true_eq_false, not_false_eq_true, zPush_I, zPush_L, zPush_R, zPush_U, Int.reduceLT, Int.reduceLE, Int.reduceEq, Int.reduceNe, Int.reduceAdd, Int.reduceSub, Int.reduceMul, Int.reduceNeg, Int.reduceToNat, Nat.reduceAdd, Nat.reduceMul, Nat.reduceEqDiff, zw32_id, zw64_id, zupd_eq, zupd_na, zupd_ni, zupp_eq, zupp_na, zupp_ni, p14, p25, zi, s7, eq_true hg1, eq_false hs]
          (repeat' (first | apply And.intro | intro _)) <;> first | exact zq | (exfalso; omega)
      · by_cases hs : f (573 + 24 * y + x) = -1
        · have zq := fin 1 (by rw [if_neg hw, if_pos hs]; rfl)
          rw [hs] at zq
          simp (disch := first | assumption | omega) only [rX_see_0, rX_see_1, rX_see_2, rX_see_5, rX_see_8, rX_see_9, rX_see_10, rX_see_11, rX_see_14, rX_see_17, rX_see_18, rX_see_19, rX_see_21, rX_see_24, rX_see_25, rX_see_26, rX_see_29, rX_see_32, rX_see_33, rX_see_34, rX_see_37, rX_see_38, rX_see_40, rX_see_41, rX_see_42, rX_see_45, rX_see_46, rX_see_49, rX_see_50, rX_see_52, rX_see_53, rX_see_56, rX_see_57, rX_see_60, rX_see_61, rX_see_62, rX_see_64, rX_see_65, rX_see_68, rX_see_71, rX_see_73, rX_see_74, rX_see_76, rX_see_79, rX_see_80, rX_see_81, rX_see_83, rX_see_86, rX_see_87, rX_see_88, rX_see_91, rX_see_94, rX_see_95, rX_see_96, rX_see_99, rX_see_100, rX_see_101, rX_see_102, rX_see_105, rX_see_106, rX_see_109, rX_see_111, rX_see_112, rX_see_115, rX_see_117, kX_isWithin, kX_isCell, kX_cellAt sx sy, kX_refuse h, Bool.false_eq_true, true_implies, false_implies, implies_true, true_and, and_true, not_true_eq_false, not_false_eq_true, zPush_I, zPush_L, zPush_R, zPush_U, Int.reduceLT, Int.reduceLE, Int.reduceEq, Int.reduceNe, Int.reduceAdd, Int.reduceSub, Int.reduceMul, Int.reduceNeg, Int.reduceToNat, Nat.reduceAdd, Nat.reduceMul, Nat.reduceEqDiff, zw32_id, zw64_id, zupd_eq, zupd_na, zupd_ni, zupp_eq, zupp_na, zupp_ni, p14, p25, zi, s7, eq_true hg1, eq_true hg2, eq_false hw, hs]
          (repeat' (first | apply And.intro | intro _)) <;> first | exact zq | (exfalso; omega)
        · have zq := fin 0 (by rw [if_neg hw, if_neg hs]; rfl)
          simp (disch := first | assumption | omega) only [rX_see_0, rX_see_1, rX_see_2, rX_see_5, rX_see_8, rX_see_9, rX_see_10, rX_see_11, rX_see_14, rX_see_17, rX_see_18, rX_see_19, rX_see_21, rX_see_24, rX_see_25, rX_see_26, rX_see_29, rX_see_32, rX_see_33, rX_see_34, rX_see_37, rX_see_38, rX_see_40, rX_see_41, rX_see_42, rX_see_45, rX_see_46, rX_see_49, rX_see_50, rX_see_52, rX_see_53, rX_see_56, rX_see_57, rX_see_60, rX_see_61, rX_see_62, rX_see_64, rX_see_65, rX_see_68, rX_see_71, rX_see_73, rX_see_74, rX_see_76, rX_see_79, rX_see_80, rX_see_81, rX_see_83, rX_see_86, rX_see_87, rX_see_88, rX_see_91, rX_see_94, rX_see_95, rX_see_96, rX_see_99, rX_see_100, rX_see_101, rX_see_102, rX_see_105, rX_see_106, rX_see_109, rX_see_111, rX_see_112, rX_see_115, rX_see_117, kX_isWithin, kX_isCell, kX_cellAt sx sy, kX_refuse h, Bool.false_eq_true, true_implies, false_implies, implies_true, true_and, and_true, not_true_eq_false, not_false_eq_true, zPush_I, zPush_L, zPush_R, zPush_U, Int.reduceLT, Int.reduceLE, Int.reduceEq, Int.reduceNe, Int.reduceAdd, Int.reduceSub, Int.reduceMul, Int.reduceNeg, Int.reduceToNat, Nat.reduceAdd, Nat.reduceMul, Nat.reduceEqDiff, zw32_id, zw64_id, zupd_eq, zupd_na, zupd_ni, zupp_eq, zupp_na, zupp_ni, p14, p25, zi, s7, eq_true hg1, eq_true hg2, eq_false hw, eq_false hs]
          (repeat' (first | apply And.intro | intro _)) <;> first | exact zq | (exfalso; omega)
  · have ze : oSee f cn x y w = (f, bump cn 0, -10) := by unfold oSee; rw [if_neg hg]
    rw [ze] at hQ
    dsimp only at hQ
    have zq := cBadP hc (i := 0) (by decide) (by decide) hQ
    by_cases hg1 : (0 ≤ x ∧ x ≤ 23) ∧ (0 ≤ y ∧ y ≤ 15)
    · simp (disch := first | assumption | omega) only [rX_see_0, rX_see_1, rX_see_2, rX_see_5, rX_see_8, rX_see_9, rX_see_10, rX_see_11, rX_see_14, rX_see_17, rX_see_18, rX_see_19, rX_see_21, rX_see_24, rX_see_25, rX_see_26, rX_see_29, rX_see_32, rX_see_33, rX_see_34, kX_isWithin, kX_isCell, kX_refuse h, Bool.false_eq_true, true_implies, false_implies, implies_true, true_and, and_true, not_true_eq_false, not_false_eq_true, zPush_I, zPush_L, zPush_R, zPush_U, Int.reduceLT, Int.reduceLE, Int.reduceEq, Int.reduceNe, Int.reduceAdd, Int.reduceSub, Int.reduceMul, Int.reduceNeg, Int.reduceToNat, Nat.reduceAdd, Nat.reduceMul, Nat.reduceEqDiff, zw32_id, zw64_id, zupd_eq, zupd_na, zupd_ni, zupp_eq, zupp_na, zupp_ni, eq_true hg1, eq_false (show ¬ (-1 ≤ w ∧ w ≤ 1) by omega)]
      exact zq
    · simp (disch := first | assumption | omega) only [rX_see_0, rX_see_1, rX_see_2, rX_see_5, rX_see_8, rX_see_9, rX_see_10, rX_see_11, rX_see_14, rX_see_17, rX_see_18, rX_see_19, rX_see_21, rX_see_24, rX_see_25, rX_see_26, rX_see_29, rX_see_32, rX_see_33, rX_see_34, kX_isWithin, kX_isCell, kX_refuse h, Bool.false_eq_true, true_implies, false_implies, implies_true, true_and, and_true, not_true_eq_false, not_false_eq_true, zPush_I, zPush_L, zPush_R, zPush_U, Int.reduceLT, Int.reduceLE, Int.reduceEq, Int.reduceNe, Int.reduceAdd, Int.reduceSub, Int.reduceMul, Int.reduceNeg, Int.reduceToNat, Nat.reduceAdd, Nat.reduceMul, Nat.reduceEqDiff, zw32_id, zw64_id, zupd_eq, zupd_na, zupd_ni, zupp_eq, zupp_na, zupp_ni, eq_false hg1]
      exact zq
end
