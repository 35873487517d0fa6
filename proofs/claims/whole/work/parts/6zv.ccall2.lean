/-! ===== calls of the class: status, sign, limb, count, put, clear, see ===== -/
section
variable {sh : zSh} {pp : zPp} {mm m' : zMm} {Q : zV → zSh → zPp → zMm → Prop} {f f' : Int → Int} {G : Int → Option (Int → Int)} {cn cn' : Int → Int} {N D N' D' : Nat}
theorem cStatus (hc : cOk f G cn N D sh pp mm) {w : Int} (hQ : ∀ m, cOk f G (if 0 ≤ w ∧ w ≤ 2 then cn else bump cn 0) N D sh pp m → frX sh mm sh m → Q (zI (if 0 ≤ w ∧ w ≤ 2 then cn w else -1)) sh pp m) : zS 135 0 [zR 13, zI w] [] sh pp mm Q := by
  have h := hc.1
  have k13 := k_13 h
  have k35 := k_35 h
  have l35 := l_35 h
  have p35 := p_13_2 h
  by_cases hg : 0 ≤ w ∧ w ≤ 2
  · rw [if_pos hg, if_pos hg] at hQ
    have zq := hQ mm hc (frX_rf _ _)
    have ze := hc.2.2.2.2.1 w (by omega) (by omega)
    simp (disch := first | assumption | omega) only [rX_status_0, rX_status_1, rX_status_2, rX_status_3, rX_status_6, rX_status_9, rX_status_10, rX_status_11, rX_status_12, rX_status_15, rX_status_16, rX_status_17, rX_status_20, rX_status_21, rX_status_22, kX_isWithin, kX_refuse h, Bool.false_eq_true, true_implies, false_implies, implies_true, true_and, and_true, not_true_eq_false, not_false_eq_true, zPush_I, zPush_L, zPush_R, zPush_U, Int.reduceLT, Int.reduceLE, Int.reduceEq, Int.reduceNe, Int.reduceAdd, Int.reduceSub, Int.reduceMul, Int.reduceNeg, Int.reduceToNat, Nat.reduceAdd, Nat.reduceMul, Nat.reduceEqDiff, zw32_id, zw64_id, zupd_eq, zupd_na, zupd_ni, zupp_eq, zupp_na, zupp_ni, p35, ze]
    (repeat' (first | apply And.intro | intro _)) <;> first | exact zq | (exfalso; omega)
  · rw [if_neg hg, if_neg hg] at hQ
    have zq := cBadP hc (i := 0) (by decide) (by decide) hQ
    simp (disch := first | assumption | omega) only [rX_status_0, rX_status_1, rX_status_2, rX_status_3, rX_status_6, rX_status_9, rX_status_10, rX_status_11, rX_status_12, rX_status_15, rX_status_16, rX_status_17, rX_status_20, rX_status_21, rX_status_22, kX_isWithin, kX_refuse h, Bool.false_eq_true, true_implies, false_implies, implies_true, true_and, and_true, not_true_eq_false, not_false_eq_true, zPush_I, zPush_L, zPush_R, zPush_U, Int.reduceLT, Int.reduceLE, Int.reduceEq, Int.reduceNe, Int.reduceAdd, Int.reduceSub, Int.reduceMul, Int.reduceNeg, Int.reduceToNat, Nat.reduceAdd, Nat.reduceMul, Nat.reduceEqDiff, zw32_id, zw64_id, zupd_eq, zupd_na, zupd_ni, zupp_eq, zupp_na, zupp_ni, p35, eq_false hg]
    exact zq
theorem kF_tell (h : zLy sh pp) (h1 : bG 58 N mm) (h2 : bG 60 D mm) {w : Int} (w0 : 0 ≤ w) (w1 : w ≤ 2) : zS 35 0 [zR 57, zI w] [] sh pp mm Q ↔ Q (zI (oSign N D w)) sh pp mm := by
  have k57 := k_57 h
  have p57 := p_13_8 h
  have k58 := k_58 h
  have p58 := p_57_0 h
  have k60 := k_60 h
  have p60 := p_57_1 h
  have e1 := h1.2
  have e2 := h2.2
  have z1 := nlim_0 N
  unfold oSign
  rcases (show w = 0 ∨ w = 1 ∨ w = 2 by omega) with rfl | rfl | rfl
  · by_cases hN : N = 0
    · have hz : nlim N = 0 := z1.mpr hN
      simp (disch := first | assumption | omega) only [rF_tell_0, rF_tell_1, rF_tell_4, rF_tell_5, rF_tell_8, rF_tell_11, rF_tell_14, rF_tell_15, rF_tell_18, rF_tell_19, rF_tell_20, rF_tell_21, rF_tell_22, rF_tell_25, rF_tell_26, rF_tell_29, rF_tell_32, rF_tell_35, rF_tell_36, rF_tell_39, rF_tell_42, Bool.false_eq_true, true_implies, false_implies, implies_true, true_and, and_true, not_true_eq_false, not_false_eq_true, zPush_I, zPush_L, zPush_R, zPush_U, Int.reduceLT, Int.reduceLE, Int.reduceEq, Int.reduceNe, Int.reduceAdd, Int.reduceSub, Int.reduceMul, Int.reduceNeg, Int.reduceToNat, Nat.reduceAdd, Nat.reduceMul, Nat.reduceEqDiff, zw32_id, zw64_id, zupd_eq, zupd_na, zupd_ni, zupp_eq, zupp_na, zupp_ni, p58, p60, e1, hz, if_pos hN, if_true]
    · have hz : ¬ nlim N = 0 := fun hx => hN (z1.mp hx)
      simp (disch := first | assumption | omega) only [rF_tell_0, rF_tell_1, rF_tell_4, rF_tell_5, rF_tell_8, rF_tell_11, rF_tell_14, rF_tell_15, rF_tell_18, rF_tell_19, rF_tell_20, rF_tell_21, rF_tell_22, rF_tell_25, rF_tell_26, rF_tell_29, rF_tell_32, rF_tell_35, rF_tell_36, rF_tell_39, rF_tell_42, Bool.false_eq_true, true_implies, false_implies, implies_true, true_and, and_true, not_true_eq_false, not_false_eq_true, zPush_I, zPush_L, zPush_R, zPush_U, Int.reduceLT, Int.reduceLE, Int.reduceEq, Int.reduceNe, Int.reduceAdd, Int.reduceSub, Int.reduceMul, Int.reduceNeg, Int.reduceToNat, Nat.reduceAdd, Nat.reduceMul, Nat.reduceEqDiff, zw32_id, zw64_id, zupd_eq, zupd_na, zupd_ni, zupp_eq, zupp_na, zupp_ni, p58, p60, e1, eq_false hz, if_neg hN, if_true]
  · simp (disch := first | assumption | omega) only [rF_tell_0, rF_tell_1, rF_tell_4, rF_tell_5, rF_tell_8, rF_tell_11, rF_tell_14, rF_tell_15, rF_tell_18, rF_tell_19, rF_tell_20, rF_tell_21, rF_tell_22, rF_tell_25, rF_tell_26, rF_tell_29, rF_tell_32, rF_tell_35, rF_tell_36, rF_tell_39, rF_tell_42, Bool.false_eq_true, true_implies, false_implies, implies_true, true_and, and_true, not_true_eq_false, not_false_eq_true, zPush_I, zPush_L, zPush_R, zPush_U, Int.reduceLT, Int.reduceLE, Int.reduceEq, Int.reduceNe, Int.reduceAdd, Int.reduceSub, Int.reduceMul, Int.reduceNeg, Int.reduceToNat, Nat.reduceAdd, Nat.reduceMul, Nat.reduceEqDiff, zw32_id, zw64_id, zupd_eq, zupd_na, zupd_ni, zupp_eq, zupp_na, zupp_ni, p58, p60, e1, if_true, if_false]
  · simp (disch := first | assumption | omega) only [rF_tell_0, rF_tell_1, rF_tell_4, rF_tell_5, rF_tell_8, rF_tell_11, rF_tell_14, rF_tell_15, rF_tell_18, rF_tell_19, rF_tell_20, rF_tell_21, rF_tell_22, rF_tell_25, rF_tell_26, rF_tell_29, rF_tell_32, rF_tell_35, rF_tell_36, rF_tell_39, rF_tell_42, Bool.false_eq_true, true_implies, false_implies, implies_true, true_and, and_true, not_true_eq_false, not_false_eq_true, zPush_I, zPush_L, zPush_R, zPush_U, Int.reduceLT, Int.reduceLE, Int.reduceEq, Int.reduceNe, Int.reduceAdd, Int.reduceSub, Int.reduceMul, Int.reduceNeg, Int.reduceToNat, Nat.reduceAdd, Nat.reduceMul, Nat.reduceEqDiff, zw32_id, zw64_id, zupd_eq, zupd_na, zupd_ni, zupp_eq, zupp_na, zupp_ni, p58, p60, e2, if_true, if_false]
theorem cSign (hc : cOk f G cn N D sh pp mm) {w : Int} (hQ : ∀ m, cOk f G (if 0 ≤ w ∧ w ≤ 2 then cn else bump cn 0) N D sh pp m → frX sh mm sh m → Q (zI (oSign N D w)) sh pp m) : zS 131 0 [zR 13, zI w] [] sh pp mm Q := by
  have h := hc.1
  have k13 := k_13 h
  have k57 := k_57 h
  have p57 := p_13_8 h
  obtain ⟨b1, b2⟩ := hc.2.2.2.2.2.2.2.2.1
  by_cases hg : 0 ≤ w ∧ w ≤ 2
  · rw [if_pos hg] at hQ
    have zq := hQ mm hc (frX_rf _ _)
    simp (disch := first | assumption | omega) only [rX_sign_0, rX_sign_1, rX_sign_2, rX_sign_3, rX_sign_6, rX_sign_9, rX_sign_10, rX_sign_11, rX_sign_13, rX_sign_16, rX_sign_17, rX_sign_18, rX_sign_21, rX_sign_22, rX_sign_25, kX_isWithin, kX_refuse h, kF_tell h b1 b2, Bool.false_eq_true, true_implies, false_implies, implies_true, true_and, and_true, not_true_eq_false, not_false_eq_true, zPush_I, zPush_L, zPush_R, zPush_U, Int.reduceLT, Int.reduceLE, Int.reduceEq, Int.reduceNe, Int.reduceAdd, Int.reduceSub, Int.reduceMul, Int.reduceNeg, Int.reduceToNat, Nat.reduceAdd, Nat.reduceMul, Nat.reduceEqDiff, zw32_id, zw64_id, zupd_eq, zupd_na, zupd_ni, zupp_eq, zupp_na, zupp_ni, p57, eq_true hg]
    exact zq
  · rw [if_neg hg] at hQ
    have zs : oSign N D w = -2 := by
      unfold oSign
      rw [if_neg (by omega), if_neg (by omega), if_neg (by omega)]
    rw [zs] at hQ
    have zq := cBadP hc (i := 0) (by decide) (by decide) hQ
    simp (disch := first | assumption | omega) only [rX_sign_0, rX_sign_1, rX_sign_2, rX_sign_3, rX_sign_6, rX_sign_9, rX_sign_10, rX_sign_11, rX_sign_13, rX_sign_16, rX_sign_17, rX_sign_18, rX_sign_21, rX_sign_22, rX_sign_25, kX_isWithin, kX_refuse h, Bool.false_eq_true, true_implies, false_implies, implies_true, true_and, and_true, not_true_eq_false, not_false_eq_true, zPush_I, zPush_L, zPush_R, zPush_U, Int.reduceLT, Int.reduceLE, Int.reduceEq, Int.reduceNe, Int.reduceAdd, Int.reduceSub, Int.reduceMul, Int.reduceNeg, Int.reduceToNat, Nat.reduceAdd, Nat.reduceMul, Nat.reduceEqDiff, zw32_id, zw64_id, zupd_eq, zupd_na, zupd_ni, zupp_eq, zupp_na, zupp_ni, p57, eq_false hg]
    exact zq
theorem cLimb (hc : cOk f G cn N D sh pp mm) {w i : Int} (hQ : ∀ m, cOk f G (if (0 ≤ w ∧ w ≤ 1) ∧ 0 ≤ i then cn else bump cn 0) N D sh pp m → frX sh mm sh m → Q (zI (oLimb N D w i)) sh pp m) : zS 132 0 [zR 13, zI w, zI i, zU] [] sh pp mm Q := by
  have h := hc.1
  have k13 := k_13 h
  have k57 := k_57 h
  have p57 := p_13_8 h
  have k58 := k_58 h
  have p58 := p_57_0 h
  have k59 := k_59 h
  have l59 := l_59 h
  have p59 := p_58_0 h
  have k60 := k_60 h
  have p60 := p_57_1 h
  have k61 := k_61 h
  have l61 := l_61 h
  have p61 := p_60_0 h
  obtain ⟨b1, b2⟩ := hc.2.2.2.2.2.2.2.2.1
  by_cases hg : (0 ≤ w ∧ w ≤ 1) ∧ 0 ≤ i
  · rw [if_pos hg] at hQ
    have zq := hQ mm hc (frX_rf _ _)
    unfold oLimb at zq
    rw [if_pos hg] at zq
    have key : ∀ (a v : Nat), bG a v mm → i < nlim v → (mm (a + 1) i = limb v i ∧ i < 8) := by
      intro a v hb hi
      have e8 := nlim_le (v := v) (k := 8) (bW_lt2 hb.1)
      refine ⟨?_, by omega⟩
      have z0 := bV_limb 8 (g := mm (a + 1)) (fun k k0 k1 => hb.1.1 k k0 (by omega)) i.toNat (by omega)
      rw [hb.1.2, Int.toNat_of_nonneg hg.2] at z0
      rw [← z0]
      unfold limb
      simp
    have e1 := b1.2
    have e2 := b2.2
    rcases (show w = 0 ∨ w = 1 by omega) with rfl | rfl
    · rw [if_pos rfl] at zq
      by_cases hi : i < nlim N
      · rw [if_pos hi] at zq
        have zk := key 58 N b1 hi
        rw [← zk.1] at zq
        simp (disch := first | assumption | omega) only [rX_limb_0, rX_limb_1, rX_limb_2, rX_limb_3, rX_limb_6, rX_limb_9, rX_limb_10, rX_limb_13, rX_limb_14, rX_limb_15, rX_limb_17, rX_limb_20, rX_limb_21, rX_limb_22, rX_limb_25, rX_limb_26, rX_limb_29, rX_limb_32, rX_limb_35, rX_limb_36, rX_limb_39, rX_limb_42, rX_limb_43, rX_limb_44, rX_limb_45, rX_limb_48, rX_limb_51, rX_limb_52, rX_limb_55, rX_limb_56, rX_limb_59, rX_limb_60, rX_limb_61, kX_isWithin, kX_refuse h, Bool.false_eq_true, true_implies, false_implies, implies_true, true_and, and_true, not_true_eq_false, not_false_eq_true, zPush_I, zPush_L, zPush_R, zPush_U, Int.reduceLT, Int.reduceLE, Int.reduceEq, Int.reduceNe, Int.reduceAdd, Int.reduceSub, Int.reduceMul, Int.reduceNeg, Int.reduceToNat, Nat.reduceAdd, Nat.reduceMul, Nat.reduceEqDiff, zw32_id, zw64_id, zupd_eq, zupd_na, zupd_ni, zupp_eq, zupp_na, zupp_ni, p57, p58, p59, p60, p61, e1, eq_true hi, eq_false (show ¬ i < 0 by omega), true_and, and_true]
        (repeat' (first | apply And.intro | intro _)) <;> first | exact zq | (exfalso; omega)
      · rw [if_neg hi] at zq
        simp (disch := first | assumption | omega) only [rX_limb_0, rX_limb_1, rX_limb_2, rX_limb_3, rX_limb_6, rX_limb_9, rX_limb_10, rX_limb_13, rX_limb_14, rX_limb_15, rX_limb_17, rX_limb_20, rX_limb_21, rX_limb_22, rX_limb_25, rX_limb_26, rX_limb_29, rX_limb_32, rX_limb_35, rX_limb_36, rX_limb_39, rX_limb_42, rX_limb_43, rX_limb_44, rX_limb_45, rX_limb_48, rX_limb_51, rX_limb_52, rX_limb_55, rX_limb_56, rX_limb_59, rX_limb_60, rX_limb_61, kX_isWithin, kX_refuse h, Bool.false_eq_true, true_implies, false_implies, implies_true, true_and, and_true, not_true_eq_false, not_false_eq_true, zPush_I, zPush_L, zPush_R, zPush_U, Int.reduceLT, Int.reduceLE, Int.reduceEq, Int.reduceNe, Int.reduceAdd, Int.reduceSub, Int.reduceMul, Int.reduceNeg, Int.reduceToNat, Nat.reduceAdd, Nat.reduceMul, Nat.reduceEqDiff, zw32_id, zw64_id, zupd_eq, zupd_na, zupd_ni, zupp_eq, zupp_na, zupp_ni, p57, p58, p59, p60, p61, e1, eq_false hi, eq_false (show ¬ i < 0 by omega), true_and, and_true]
        (repeat' (first | apply And.intro | intro _)) <;> first | exact zq | (exfalso; omega)
    · rw [if_neg (show ¬ ((1 : Int) = 0) by decide)] at zq
      by_cases hi : i < nlim D
      · rw [if_pos hi] at zq
        have zk := key 60 D b2 hi
        rw [← zk.1] at zq
        simp (disch := first | assumption | omega) only [rX_limb_0, rX_limb_1, rX_limb_2, rX_limb_3, rX_limb_6, rX_limb_9, rX_limb_10, rX_limb_13, rX_limb_14, rX_limb_15, rX_limb_17, rX_limb_20, rX_limb_21, rX_limb_22, rX_limb_25, rX_limb_26, rX_limb_29, rX_limb_32, rX_limb_35, rX_limb_36, rX_limb_39, rX_limb_42, rX_limb_43, rX_limb_44, rX_limb_45, rX_limb_48, rX_limb_51, rX_limb_52, rX_limb_55, rX_limb_56, rX_limb_59, rX_limb_60, rX_limb_61, kX_isWithin, kX_refuse h, Bool.false_eq_true, true_implies, false_implies, implies_true, true_and, and_true, not_true_eq_false, not_false_eq_true, zPush_I, zPush_L, zPush_R, zPush_U, Int.reduceLT, Int.reduceLE, Int.reduceEq, Int.reduceNe, Int.reduceAdd, Int.reduceSub, Int.reduceMul, Int.reduceNeg, Int.reduceToNat, Nat.reduceAdd, Nat.reduceMul, Nat.reduceEqDiff, zw32_id, zw64_id, zupd_eq, zupd_na, zupd_ni, zupp_eq, zupp_na, zupp_ni, p57, p58, p59, p60, p61, e2, eq_true hi, eq_false (show ¬ i < 0 by omega), true_and, and_true]
        (repeat' (first | apply And.intro | intro _)) <;> first | exact zq | (exfalso; omega)
      · rw [if_neg hi] at zq
        simp (disch := first | assumption | omega) only [rX_limb_0, rX_limb_1, rX_limb_2, rX_limb_3, rX_limb_6, rX_limb_9, rX_limb_10, rX_limb_13, rX_limb_14, rX_limb_15, rX_limb_17, rX_limb_20, rX_limb_21, rX_limb_22, rX_limb_25, rX_limb_26, rX_limb_29, rX_limb_32, rX_limb_35, rX_limb_36, rX_limb_39, rX_limb_42, rX_limb_43, rX_limb_44, rX_limb_45, rX_limb_48, rX_limb_51, rX_limb_52, rX_limb_55, rX_limb_56, rX_limb_59, rX_limb_60, rX_limb_61, kX_isWithin, kX_refuse h, Bool.false_eq_true, true_implies, false_implies, implies_true, true_and, and_true, not_true_eq_false, not_false_eq_true, zPush_I, zPush_L, zPush_R, zPush_U, Int.reduceLT, Int.reduceLE, Int.reduceEq, Int.reduceNe, Int.reduceAdd, Int.reduceSub, Int.reduceMul, Int.reduceNeg, Int.reduceToNat, Nat.reduceAdd, Nat.reduceMul, Nat.reduceEqDiff, zw32_id, zw64_id, zupd_eq, zupd_na, zupd_ni, zupp_eq, zupp_na, zupp_ni, p57, p58, p59, p60, p61, e2, eq_false hi, eq_false (show ¬ i < 0 by omega), true_and, and_true]
        (repeat' (first | apply And.intro | intro _)) <;> first | exact zq | (exfalso; omega)
  · rw [if_neg hg] at hQ
    have zs : oLimb N D w i = -2 := by unfold oLimb; rw [if_neg hg]
    rw [zs] at hQ
    have zq := cBadP hc (i := 0) (by decide) (by decide) hQ
    by_cases g1 : 0 ≤ w ∧ w ≤ 1
    · simp (disch := first | assumption | omega) only [rX_limb_0, rX_limb_1, rX_limb_2, rX_limb_3, rX_limb_6, rX_limb_9, rX_limb_10, rX_limb_13, rX_limb_14, rX_limb_15, rX_limb_17, rX_limb_20, rX_limb_21, rX_limb_22, rX_limb_25, rX_limb_26, rX_limb_29, rX_limb_32, rX_limb_35, rX_limb_36, rX_limb_39, rX_limb_42, rX_limb_43, rX_limb_44, rX_limb_45, rX_limb_48, rX_limb_51, rX_limb_52, rX_limb_55, rX_limb_56, rX_limb_59, rX_limb_60, rX_limb_61, kX_isWithin, kX_refuse h, Bool.false_eq_true, true_implies, false_implies, implies_true, true_and, and_true, not_true_eq_false, not_false_eq_true, zPush_I, zPush_L, zPush_R, zPush_U, Int.reduceLT, Int.reduceLE, Int.reduceEq, Int.reduceNe, Int.reduceAdd, Int.reduceSub, Int.reduceMul, Int.reduceNeg, Int.reduceToNat, Nat.reduceAdd, Nat.reduceMul, Nat.reduceEqDiff, zw32_id, zw64_id, zupd_eq, zupd_na, zupd_ni, zupp_eq, zupp_na, zupp_ni, eq_true g1, eq_true (show i < 0 by omega)]
      exact zq
    · simp (disch := first | assumption | omega) only [rX_limb_0, rX_limb_1, rX_limb_2, rX_limb_3, rX_limb_6, rX_limb_9, rX_limb_10, rX_limb_13, rX_limb_14, rX_limb_15, rX_limb_17, rX_limb_20, rX_limb_21, rX_limb_22, rX_limb_25, rX_limb_26, rX_limb_29, rX_limb_32, rX_limb_35, rX_limb_36, rX_limb_39, rX_limb_42, rX_limb_43, rX_limb_44, rX_limb_45, rX_limb_48, rX_limb_51, rX_limb_52, rX_limb_55, rX_limb_56, rX_limb_59, rX_limb_60, rX_limb_61, kX_isWithin, kX_refuse h, Bool.false_eq_true, true_implies, false_implies, implies_true, true_and, and_true, not_true_eq_false, not_false_eq_true, zPush_I, zPush_L, zPush_R, zPush_U, Int.reduceLT, Int.reduceLE, Int.reduceEq, Int.reduceNe, Int.reduceAdd, Int.reduceSub, Int.reduceMul, Int.reduceNeg, Int.reduceToNat, Nat.reduceAdd, Nat.reduceMul, Nat.reduceEqDiff, zw32_id, zw64_id, zupd_eq, zupd_na, zupd_ni, zupp_eq, zupp_na, zupp_ni, eq_false g1]
      exact zq
theorem kS_howMany {s : Nat} (hL : stL sh pp s) (hI : stI s f mm) {w : Int} (w0 : 0 ≤ w) (w8 : w ≤ 8) : zS 93 0 [zR s, zI w] [] sh pp mm Q ↔ Q (zI (cntOf f w)) sh pp mm := by
  obtain ⟨k0, -, ⟨k2, l2, p2⟩, ⟨⟨k3, -⟩, p3⟩, ⟨⟨k5, -⟩, p5⟩, ⟨⟨k7, -⟩, p7⟩, ⟨⟨k9, -⟩, p9⟩, -, hp⟩ := hL
  obtain ⟨-, i2, i3, i4, i5, -, i7, i8⟩ := hI
  unfold cntOf
  by_cases h5 : w < 5
  · rw [if_pos h5]
    have e2 := i2.2.2.1
    have e3 := i3.2.2.1
    have e4 := i4.2.2.1
    have e5 := i5.2.2.1
    rcases (show w = 0 ∨ w = 1 ∨ w = 2 ∨ w = 3 ∨ w = 4 by omega) with rfl | rfl | rfl | rfl | rfl
    · simp (disch := first | assumption | omega) only [rS_howMany_0, rS_howMany_1_0, rS_howMany_1_1, rS_howMany_1_2, rS_howMany_1_3, rS_howMany_1_4, rS_howMany_1_d, rS_howMany_36, rS_howMany_37, rS_howMany_40, rS_howMany_43, rS_howMany_44, rS_howMany_45, rS_howMany_48, rS_howMany_51, rS_howMany_52, rS_howMany_53, rS_howMany_56, rS_howMany_59, rS_howMany_60, rS_howMany_61, rS_howMany_64, rS_howMany_67, rS_howMany_68, rS_howMany_69, rS_howMany_72, rS_howMany_73, rS_howMany_74, rS_howMany_75, rS_howMany_76, rS_howMany_79, rS_howMany_82, rS_howMany_83, rS_howMany_86, rS_howMany_87, rS_howMany_88, rS_howMany_89, rS_howMany_90, rS_howMany_93, rS_howMany_96, rS_howMany_97, Bool.false_eq_true, true_implies, false_implies, implies_true, true_and, and_true, not_true_eq_false, not_false_eq_true, zPush_I, zPush_L, zPush_R, zPush_U, Int.reduceLT, Int.reduceLE, Int.reduceEq, Int.reduceNe, Int.reduceAdd, Int.reduceSub, Int.reduceMul, Int.reduceNeg, Int.reduceToNat, Nat.reduceAdd, Nat.reduceMul, Nat.reduceEqDiff, zw32_id, zw64_id, zupd_eq, zupd_na, zupd_ni, zupp_eq, zupp_na, zupp_ni, p3, e2]
    · simp (disch := first | assumption | omega) only [rS_howMany_0, rS_howMany_1_0, rS_howMany_1_1, rS_howMany_1_2, rS_howMany_1_3, rS_howMany_1_4, rS_howMany_1_d, rS_howMany_36, rS_howMany_37, rS_howMany_40, rS_howMany_43, rS_howMany_44, rS_howMany_45, rS_howMany_48, rS_howMany_51, rS_howMany_52, rS_howMany_53, rS_howMany_56, rS_howMany_59, rS_howMany_60, rS_howMany_61, rS_howMany_64, rS_howMany_67, rS_howMany_68, rS_howMany_69, rS_howMany_72, rS_howMany_73, rS_howMany_74, rS_howMany_75, rS_howMany_76, rS_howMany_79, rS_howMany_82, rS_howMany_83, rS_howMany_86, rS_howMany_87, rS_howMany_88, rS_howMany_89, rS_howMany_90, rS_howMany_93, rS_howMany_96, rS_howMany_97, Bool.false_eq_true, true_implies, false_implies, implies_true, true_and, and_true, not_true_eq_false, not_false_eq_true, zPush_I, zPush_L, zPush_R, zPush_U, Int.reduceLT, Int.reduceLE, Int.reduceEq, Int.reduceNe, Int.reduceAdd, Int.reduceSub, Int.reduceMul, Int.reduceNeg, Int.reduceToNat, Nat.reduceAdd, Nat.reduceMul, Nat.reduceEqDiff, zw32_id, zw64_id, zupd_eq, zupd_na, zupd_ni, zupp_eq, zupp_na, zupp_ni, p5, e3]
    · simp (disch := first | assumption | omega) only [rS_howMany_0, rS_howMany_1_0, rS_howMany_1_1, rS_howMany_1_2, rS_howMany_1_3, rS_howMany_1_4, rS_howMany_1_d, rS_howMany_36, rS_howMany_37, rS_howMany_40, rS_howMany_43, rS_howMany_44, rS_howMany_45, rS_howMany_48, rS_howMany_51, rS_howMany_52, rS_howMany_53, rS_howMany_56, rS_howMany_59, rS_howMany_60, rS_howMany_61, rS_howMany_64, rS_howMany_67, rS_howMany_68, rS_howMany_69, rS_howMany_72, rS_howMany_73, rS_howMany_74, rS_howMany_75, rS_howMany_76, rS_howMany_79, rS_howMany_82, rS_howMany_83, rS_howMany_86, rS_howMany_87, rS_howMany_88, rS_howMany_89, rS_howMany_90, rS_howMany_93, rS_howMany_96, rS_howMany_97, Bool.false_eq_true, true_implies, false_implies, implies_true, true_and, and_true, not_true_eq_false, not_false_eq_true, zPush_I, zPush_L, zPush_R, zPush_U, Int.reduceLT, Int.reduceLE, Int.reduceEq, Int.reduceNe, Int.reduceAdd, Int.reduceSub, Int.reduceMul, Int.reduceNeg, Int.reduceToNat, Nat.reduceAdd, Nat.reduceMul, Nat.reduceEqDiff, zw32_id, zw64_id, zupd_eq, zupd_na, zupd_ni, zupp_eq, zupp_na, zupp_ni, p7, e4]
    · simp (disch := first | assumption | omega) only [rS_howMany_0, rS_howMany_1_0, rS_howMany_1_1, rS_howMany_1_2, rS_howMany_1_3, rS_howMany_1_4, rS_howMany_1_d, rS_howMany_36, rS_howMany_37, rS_howMany_40, rS_howMany_43, rS_howMany_44, rS_howMany_45, rS_howMany_48, rS_howMany_51, rS_howMany_52, rS_howMany_53, rS_howMany_56, rS_howMany_59, rS_howMany_60, rS_howMany_61, rS_howMany_64, rS_howMany_67, rS_howMany_68, rS_howMany_69, rS_howMany_72, rS_howMany_73, rS_howMany_74, rS_howMany_75, rS_howMany_76, rS_howMany_79, rS_howMany_82, rS_howMany_83, rS_howMany_86, rS_howMany_87, rS_howMany_88, rS_howMany_89, rS_howMany_90, rS_howMany_93, rS_howMany_96, rS_howMany_97, Bool.false_eq_true, true_implies, false_implies, implies_true, true_and, and_true, not_true_eq_false, not_false_eq_true, zPush_I, zPush_L, zPush_R, zPush_U, Int.reduceLT, Int.reduceLE, Int.reduceEq, Int.reduceNe, Int.reduceAdd, Int.reduceSub, Int.reduceMul, Int.reduceNeg, Int.reduceToNat, Nat.reduceAdd, Nat.reduceMul, Nat.reduceEqDiff, zw32_id, zw64_id, zupd_eq, zupd_na, zupd_ni, zupp_eq, zupp_na, zupp_ni, p9, e5]
    · simp (disch := first | assumption | omega) only [rS_howMany_0, rS_howMany_1_0, rS_howMany_1_1, rS_howMany_1_2, rS_howMany_1_3, rS_howMany_1_4, rS_howMany_1_d, rS_howMany_36, rS_howMany_37, rS_howMany_40, rS_howMany_43, rS_howMany_44, rS_howMany_45, rS_howMany_48, rS_howMany_51, rS_howMany_52, rS_howMany_53, rS_howMany_56, rS_howMany_59, rS_howMany_60, rS_howMany_61, rS_howMany_64, rS_howMany_67, rS_howMany_68, rS_howMany_69, rS_howMany_72, rS_howMany_73, rS_howMany_74, rS_howMany_75, rS_howMany_76, rS_howMany_79, rS_howMany_82, rS_howMany_83, rS_howMany_86, rS_howMany_87, rS_howMany_88, rS_howMany_89, rS_howMany_90, rS_howMany_93, rS_howMany_96, rS_howMany_97, Bool.false_eq_true, true_implies, false_implies, implies_true, true_and, and_true, not_true_eq_false, not_false_eq_true, zPush_I, zPush_L, zPush_R, zPush_U, Int.reduceLT, Int.reduceLE, Int.reduceEq, Int.reduceNe, Int.reduceAdd, Int.reduceSub, Int.reduceMul, Int.reduceNeg, Int.reduceToNat, Nat.reduceAdd, Nat.reduceMul, Nat.reduceEqDiff, zw32_id, zw64_id, zupd_eq, zupd_na, zupd_ni, zupp_eq, zupp_na, zupp_ni, i7]
  · rw [if_neg h5]
    obtain ⟨q, hq⟩ : ∃ q : Nat, w - 5 = (q : Int) := ⟨(w - 5).toNat, by omega⟩
    have hq4 : q < 4 := by omega
    obtain ⟨⟨kt, -⟩, pt⟩ := hp q hq4
    have et := (i8 q hq4).2.2.1
    have hw : w = (q : Int) + 5 := by omega
    subst hw
    have hd : (q : Int) + 5 < 0 ∨ 4 < (q : Int) + 5 := by omega
    have zz : (q : Int) + 5 - 5 = (q : Int) := by omega
    have zp : 0 ≤ (q : Int) ∧ (q : Int) ≤ 3 := by omega
    simp (disch := first | assumption | omega) only [rS_howMany_0, rS_howMany_1_0, rS_howMany_1_1, rS_howMany_1_2, rS_howMany_1_3, rS_howMany_1_4, rS_howMany_1_d, rS_howMany_36, rS_howMany_37, rS_howMany_40, rS_howMany_43, rS_howMany_44, rS_howMany_45, rS_howMany_48, rS_howMany_51, rS_howMany_52, rS_howMany_53, rS_howMany_56, rS_howMany_59, rS_howMany_60, rS_howMany_61, rS_howMany_64, rS_howMany_67, rS_howMany_68, rS_howMany_69, rS_howMany_72, rS_howMany_73, rS_howMany_74, rS_howMany_75, rS_howMany_76, rS_howMany_79, rS_howMany_82, rS_howMany_83, rS_howMany_86, rS_howMany_87, rS_howMany_88, rS_howMany_89, rS_howMany_90, rS_howMany_93, rS_howMany_96, rS_howMany_97, kX_isProgram, Bool.false_eq_true, true_implies, false_implies, implies_true, true_and, and_true, not_true_eq_false, not_false_eq_true, zPush_I, zPush_L, zPush_R, zPush_U, Int.reduceLT, Int.reduceLE, Int.reduceEq, Int.reduceNe, Int.reduceAdd, Int.reduceSub, Int.reduceMul, Int.reduceNeg, Int.reduceToNat, Nat.reduceAdd, Nat.reduceMul, Nat.reduceEqDiff, zw32_id, zw64_id, zupd_eq, zupd_na, zupd_ni, zupp_eq, zupp_na, zupp_ni, p2, zz, pt, et, eq_true zp]
theorem cCount (hc : cOk f G cn N D sh pp mm) {w : Int} (hQ : ∀ m, cOk f G (if 0 ≤ w ∧ w ≤ 8 then cn else bump cn 0) N D sh pp m → frX sh mm sh m → Q (zI (if 0 ≤ w ∧ w ≤ 8 then cntOf f w else -2)) sh pp m) : zS 136 0 [zR 13, zI w] [] sh pp mm Q := by
  have h := hc.1
  have k13 := k_13 h
  have k14 := k_14 h
  have p14 := p_13_0 h
  by_cases hg : 0 ≤ w ∧ w ≤ 8
  · rw [if_pos hg, if_pos hg] at hQ
    have zq := hQ mm hc (frX_rf _ _)
    simp (disch := first | assumption | omega) only [rX_count_0, rX_count_1, rX_count_2, rX_count_4, rX_count_7, rX_count_10, rX_count_11, rX_count_12, rX_count_14, rX_count_17, rX_count_18, rX_count_19, rX_count_22, rX_count_23, rX_count_26, kX_isWithin, kX_refuse h, kS_howMany (stL_14 h) hc.2.2.1, Bool.false_eq_true, true_implies, false_implies, implies_true, true_and, and_true, not_true_eq_false, not_false_eq_true, zPush_I, zPush_L, zPush_R, zPush_U, Int.reduceLT, Int.reduceLE, Int.reduceEq, Int.reduceNe, Int.reduceAdd, Int.reduceSub, Int.reduceMul, Int.reduceNeg, Int.reduceToNat, Nat.reduceAdd, Nat.reduceMul, Nat.reduceEqDiff, zw32_id, zw64_id, zupd_eq, zupd_na, zupd_ni, zupp_eq, zupp_na, zupp_ni, p14, eq_true hg]
    exact zq
  · rw [if_neg hg, if_neg hg] at hQ
    have zq := cBadP hc (i := 0) (by decide) (by decide) hQ
    simp (disch := first | assumption | omega) only [rX_count_0, rX_count_1, rX_count_2, rX_count_4, rX_count_7, rX_count_10, rX_count_11, rX_count_12, rX_count_14, rX_count_17, rX_count_18, rX_count_19, rX_count_22, rX_count_23, rX_count_26, kX_isWithin, kX_refuse h, Bool.false_eq_true, true_implies, false_implies, implies_true, true_and, and_true, not_true_eq_false, not_false_eq_true, zPush_I, zPush_L, zPush_R, zPush_U, Int.reduceLT, Int.reduceLE, Int.reduceEq, Int.reduceNe, Int.reduceAdd, Int.reduceSub, Int.reduceMul, Int.reduceNeg, Int.reduceToNat, Nat.reduceAdd, Nat.reduceMul, Nat.reduceEqDiff, zw32_id, zw64_id, zupd_eq, zupd_na, zupd_ni, zupp_eq, zupp_na, zupp_ni, eq_false hg]
    exact zq
end
