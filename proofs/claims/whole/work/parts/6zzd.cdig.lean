/-! ===== calls of the class: digest ===== -/
section
variable {sh : zSh} {pp : zPp} {mm m' : zMm} {Q : zV → zSh → zPp → zMm → Prop} {f f' : Int → Int} {G : Int → Option (Int → Int)} {cn cn' : Int → Int} {N D N' D' : Nat}
theorem dgS_s (g : Int → Int) (b : Int) (n : Nat) (h : Int) : dgS g b (n + 1) h = zw64 (zw64 (31 * dgS g b n h) + g (b + (n : Int))) := rfl
theorem kT_fold {t : Nat} {ln w lim n b h0 : Int} {g : Int → Int} (hL : tbL sh pp t ln) (hI : tbI t w lim n b g mm) {K : Nat} (hK : n * w = (K : Int)) (hl : (K : Int) ≤ ln) (hl2 : ln ≤ 1000) : zS 101 0 [zR t, zL h0, zU, zU, zU, zU] [] sh pp mm Q ↔ Q (zL (dgS g b K h0)) sh pp mm := by
  obtain ⟨k0, k1, l1, p1⟩ := hL
  obtain ⟨m0, m1, m3, mk⟩ := hI
  have key : ∀ (d i : Nat), i + d = K → (zS 101 5 [zR t, zU, zU, zL (dgS g b i h0), zU, zI (i : Int)] [] sh pp mm Q ↔ Q (zL (dgS g b K h0)) sh pp mm) := by
    intro d
    induction d with
    | zero =>
      intro i hi
      have hi : i = K := by omega
      rw [rT_fold_5]
      simp (disch := first | assumption | omega) only [rT_fold_7, rT_fold_8, rT_fold_11, rT_fold_12, rT_fold_15, rT_fold_16, rT_fold_40, rT_fold_41, Bool.false_eq_true, true_implies, false_implies, implies_true, true_and, and_true, not_true_eq_false, not_false_eq_true, zPush_I, zPush_L, zPush_R, zPush_U, Int.reduceLT, Int.reduceLE, Int.reduceEq, Int.reduceNe, Int.reduceAdd, Int.reduceSub, Int.reduceMul, Int.reduceNeg, Int.reduceToNat, Nat.reduceAdd, Nat.reduceMul, Nat.reduceEqDiff, zw32_id, zupd_eq, zupd_na, zupd_ni, zupp_eq, zupp_na, zupp_ni, m0, m3, hK, eq_false (show ¬ (i : Int) < (K : Int) by omega)]
      rw [hi]
    | succ d ih =>
      intro i hi
      have zi := ih (i + 1) (by omega)
      rw [show ((i + 1 : Nat) : Int) = (i : Int) + 1 by omega, dgS_s] at zi
      have zm := mk (i : Int) (by omega) (by rw [Int.mul_comm, hK]; omega)
      rw [← zi, rT_fold_5]
      simp (disch := first | assumption | omega) only [rT_fold_7, rT_fold_8, rT_fold_11, rT_fold_12, rT_fold_15, rT_fold_16, rT_fold_19, rT_fold_22, rT_fold_23, rT_fold_24, rT_fold_25, rT_fold_28, rT_fold_30, rT_fold_31, rT_fold_32, rT_fold_33, rT_fold_34, rT_fold_37, Bool.false_eq_true, true_implies, false_implies, implies_true, true_and, and_true, not_true_eq_false, not_false_eq_true, zPush_I, zPush_L, zPush_R, zPush_U, Int.reduceLT, Int.reduceLE, Int.reduceEq, Int.reduceNe, Int.reduceAdd, Int.reduceSub, Int.reduceMul, Int.reduceNeg, Int.reduceToNat, Nat.reduceAdd, Nat.reduceMul, Nat.reduceEqDiff, zw32_id, zupd_eq, zupd_na, zupd_ni, zupp_eq, zupp_na, zupp_ni, m0, m3, hK, p1, eq_true (show (i : Int) < (K : Int) by omega), zm]
  have := key K 0 (by omega)
  simp (disch := first | assumption | omega) only [rT_fold_0, rT_fold_1, rT_fold_2, rT_fold_3, Bool.false_eq_true, true_implies, false_implies, implies_true, true_and, and_true, not_true_eq_false, not_false_eq_true, zPush_I, zPush_L, zPush_R, zPush_U, Int.reduceLT, Int.reduceLE, Int.reduceEq, Int.reduceNe, Int.reduceAdd, Int.reduceSub, Int.reduceMul, Int.reduceNeg, Int.reduceToNat, Nat.reduceAdd, Nat.reduceMul, Nat.reduceEqDiff, zw32_id, zupd_eq, zupd_na, zupd_ni, zupp_eq, zupp_na, zupp_ni]
  exact this
theorem kB_fold {a v : Nat} {h0 : Int} (hL : bgL sh pp a) (hG : bG a v mm) : zS 14 0 [zR a, zL h0, zU, zU, zU, zU] [] sh pp mm Q ↔ Q (zL (dgS (limb v) 0 (nlim v).toNat h0)) sh pp mm := by
  obtain ⟨k0, k1, l1, p1⟩ := hL
  have e8 := nlim_le (v := v) (k := 8) (bW_lt2 hG.1)
  have n0 := nlim_nn v
  have m1 := hG.2
  have zlimb : ∀ i : Nat, (i : Int) < nlim v → mm (a + 1) (i : Int) = limb v (0 + (i : Int)) := by
    intro i hi
    have z0 := bV_limb 8 (g := mm (a + 1)) (fun k k0 k1 => hG.1.1 k k0 (by omega)) i (by omega)
    rw [hG.1.2] at z0
    rw [← z0, Int.zero_add]
    unfold limb
    simp
  have key : ∀ (d i : Nat), i + d = (nlim v).toNat → (zS 14 5 [zR a, zU, zU, zL (dgS (limb v) 0 i h0), zU, zI (i : Int)] [] sh pp mm Q ↔ Q (zL (dgS (limb v) 0 (nlim v).toNat h0)) sh pp mm) := by
    intro d
    induction d with
    | zero =>
      intro i hi
      have hi : i = (nlim v).toNat := by omega
      rw [rB_fold_5]
      simp (disch := first | assumption | omega) only [rB_fold_7, rB_fold_8, rB_fold_11, rB_fold_35, rB_fold_36, Bool.false_eq_true, true_implies, false_implies, implies_true, true_and, and_true, not_true_eq_false, not_false_eq_true, zPush_I, zPush_L, zPush_R, zPush_U, Int.reduceLT, Int.reduceLE, Int.reduceEq, Int.reduceNe, Int.reduceAdd, Int.reduceSub, Int.reduceMul, Int.reduceNeg, Int.reduceToNat, Nat.reduceAdd, Nat.reduceMul, Nat.reduceEqDiff, zw32_id, zupd_eq, zupd_na, zupd_ni, zupp_eq, zupp_na, zupp_ni, m1, eq_false (show ¬ (i : Int) < nlim v by omega)]
      rw [hi]
    | succ d ih =>
      intro i hi
      have zi := ih (i + 1) (by omega)
      rw [show ((i + 1 : Nat) : Int) = (i : Int) + 1 by omega, dgS_s] at zi
      have zm := zlimb i (by omega)
      rw [← zi, rB_fold_5]
      simp (disch := first | assumption | omega) only [rB_fold_7, rB_fold_8, rB_fold_11, rB_fold_14, rB_fold_17, rB_fold_18, rB_fold_19, rB_fold_20, rB_fold_23, rB_fold_25, rB_fold_26, rB_fold_27, rB_fold_28, rB_fold_29, rB_fold_32, Bool.false_eq_true, true_implies, false_implies, implies_true, true_and, and_true, not_true_eq_false, not_false_eq_true, zPush_I, zPush_L, zPush_R, zPush_U, Int.reduceLT, Int.reduceLE, Int.reduceEq, Int.reduceNe, Int.reduceAdd, Int.reduceSub, Int.reduceMul, Int.reduceNeg, Int.reduceToNat, Nat.reduceAdd, Nat.reduceMul, Nat.reduceEqDiff, zw32_id, zupd_eq, zupd_na, zupd_ni, zupp_eq, zupp_na, zupp_ni, m1, p1, eq_true (show (i : Int) < nlim v by omega), zm]
  have := key (nlim v).toNat 0 (by omega)
  simp (disch := first | assumption | omega) only [rB_fold_0, rB_fold_1, rB_fold_2, rB_fold_3, Bool.false_eq_true, true_implies, false_implies, implies_true, true_and, and_true, not_true_eq_false, not_false_eq_true, zPush_I, zPush_L, zPush_R, zPush_U, Int.reduceLT, Int.reduceLE, Int.reduceEq, Int.reduceNe, Int.reduceAdd, Int.reduceSub, Int.reduceMul, Int.reduceNeg, Int.reduceToNat, Nat.reduceAdd, Nat.reduceMul, Nat.reduceEqDiff, zw32_id, zupd_eq, zupd_na, zupd_ni, zupp_eq, zupp_na, zupp_ni]
  exact this
theorem kF_fold (h : zLy sh pp) (h1 : bG 58 N mm) (h2 : bG 60 D mm) {h0 : Int} : zS 36 0 [zR 57, zL h0, zU, zU, zU, zU] [] sh pp mm Q ↔ Q (zL (dgS (limb D) 0 (nlim D).toNat (dgS (limb N) 0 (nlim N).toNat (h31 (h31 (h31 h0 (if N = 0 then 0 else 1)) (nlim N)) (nlim D))))) sh pp mm := by
  have k57 := k_57 h
  have p57 := p_13_8 h
  have k58 := k_58 h
  have p58 := p_57_0 h
  have k60 := k_60 h
  have p60 := p_57_1 h
  obtain ⟨g1, g2, -, -⟩ := bgs_of h
  have t0 := fun (Q : zV → zSh → zPp → zMm → Prop) => kF_tell (Q := Q) h h1 h2 (w := 0) (by decide) (by decide)
  have t1 := fun (Q : zV → zSh → zPp → zMm → Prop) => kF_tell (Q := Q) h h1 h2 (w := 1) (by decide) (by decide)
  have t2 := fun (Q : zV → zSh → zPp → zMm → Prop) => kF_tell (Q := Q) h h1 h2 (w := 2) (by decide) (by decide)
  have s0 : oSign N D 0 = (if N = 0 then 0 else 1) := rfl
  have s1 : oSign N D 1 = nlim N := rfl
  have s2 : oSign N D 2 = nlim D := rfl
  simp (disch := first | assumption | omega) only [rF_fold_0, rF_fold_1, rF_fold_2, rF_fold_3, rF_fold_7, rF_fold_8, rF_fold_11, rF_fold_14, rF_fold_15, rF_fold_16, rF_fold_17, rF_fold_19, rF_fold_22, rF_fold_23, rF_fold_24, rF_fold_25, rF_fold_28, rF_fold_31, rF_fold_32, rF_fold_35, rF_fold_36, rF_fold_39, rF_fold_40, rF_fold_43, rF_fold_46, rF_fold_5, Bool.false_eq_true, true_implies, false_implies, implies_true, true_and, and_true, not_true_eq_false, not_false_eq_true, zPush_I, zPush_L, zPush_R, zPush_U, Int.reduceLT, Int.reduceLE, Int.reduceEq, Int.reduceNe, Int.reduceAdd, Int.reduceSub, Int.reduceMul, Int.reduceNeg, Int.reduceToNat, Nat.reduceAdd, Nat.reduceMul, Nat.reduceEqDiff, zw32_id, zupd_eq, zupd_na, zupd_ni, zupp_eq, zupp_na, zupp_ni, p58, p60, t0, t1, t2, s0, s1, s2, kB_fold g1 h1, kB_fold g2 h2, h31]
theorem cDigest (hc : cOk f G cn N D sh pp mm) (ok : fOk f) (hQ : Q (zL (oDigest f N D)) sh pp mm) : zS 137 0 [zR 13] [] sh pp mm Q := by
  have h := hc.1
  have k13 := k_13 h
  have k14 := k_14 h
  have p14 := p_13_0 h
  have k15 := k_15 h
  have l15 := l_15 h
  have p15 := p_14_0 h
  have k16 := k_16 h
  have l16 := l_16 h
  have p16 := p_14_1 h
  have k17 := k_17 h
  have p17 := p_14_2 h
  have k18 := k_18 h
  have l18 := l_18 h
  have p18 := p_17_2 h
  have k19 := k_19 h
  have p19 := p_14_3 h
  have k20 := k_20 h
  have l20 := l_20 h
  have p20 := p_19_2 h
  have k21 := k_21 h
  have p21 := p_14_4 h
  have k22 := k_22 h
  have l22 := l_22 h
  have p22 := p_21_2 h
  have k23 := k_23 h
  have p23 := p_14_5 h
  have k24 := k_24 h
  have l24 := l_24 h
  have p24 := p_23_2 h
  have k25 := k_25 h
  have l25 := l_25 h
  have p25 := p_14_6 h
  have k57 := k_57 h
  have p57 := p_13_8 h
  have sl := stL_14 h
  have si := hc.2.2.1
  obtain ⟨b1, b2⟩ := hc.2.2.2.2.2.2.2.2.1
  have g2 := ok.2.2.1.1
  have g2' := ok.2.2.1.2.1
  have g3 := ok.2.2.2.1.1
  have g3' := ok.2.2.2.1.2.1
  have g4 := ok.2.2.2.2.1.1
  have g4' := ok.2.2.2.2.1.2.1
  have g5 := ok.2.2.2.2.2.1.1
  have g5' := ok.2.2.2.2.2.1.2.1
  have sn : ∀ i, 0 ≤ i → i ≤ 8 → mm 15 i = f i := si.1
  have s6 : ∀ i, 0 ≤ i → i < 384 → mm 25 i = f (573 + i) := si.2.2.2.2.2.1
  have d1 : ∀ (d i : Nat), i + d = 9 → zS 94 32 [zR 14, zU, zU, zL (dgC f 9), zU, zU] [] sh pp mm (fun v sh pp mm => zS 137 14 [zU] (zPush v [zR 57]) sh pp mm Q) → zS 94 5 [zR 14, zU, zU, zL (dgC f i), zU, zI (i : Int)] [] sh pp mm (fun v sh pp mm => zS 137 14 [zU] (zPush v [zR 57]) sh pp mm Q) := by
    intro d
    induction d with
    | zero =>
      intro i hi hz
      have hi : i = 9 := by omega
      rw [rS_fold_5]
      simp (disch := first | assumption | omega) only [rS_fold_7, rS_fold_9, Bool.false_eq_true, true_implies, false_implies, implies_true, true_and, and_true, not_true_eq_false, not_false_eq_true, zPush_I, zPush_L, zPush_R, zPush_U, Int.reduceLT, Int.reduceLE, Int.reduceEq, Int.reduceNe, Int.reduceAdd, Int.reduceSub, Int.reduceMul, Int.reduceNeg, Int.reduceToNat, Nat.reduceAdd, Nat.reduceMul, Nat.reduceEqDiff, zw32_id, zupd_eq, zupd_na, zupd_ni, zupp_eq, zupp_na, zupp_ni, eq_false (show ¬ (i : Int) < 9 by omega)]
      rw [hi]
      exact hz
    | succ d ih =>
      intro i hi hz
      have zi := ih (i + 1) (by omega) hz
      rw [show ((i + 1 : Nat) : Int) = (i : Int) + 1 by omega, show dgC f (i + 1) = zw64 (zw64 (31 * dgC f i) + cntOf f (i : Int)) from rfl] at zi
      rw [rS_fold_5]
      simp (disch := first | assumption | omega) only [rS_fold_7, rS_fold_9, rS_fold_12, rS_fold_15, rS_fold_16, rS_fold_17, rS_fold_18, rS_fold_20, rS_fold_23, rS_fold_24, rS_fold_25, rS_fold_26, rS_fold_29, Bool.false_eq_true, true_implies, false_implies, implies_true, true_and, and_true, not_true_eq_false, not_false_eq_true, zPush_I, zPush_L, zPush_R, zPush_U, Int.reduceLT, Int.reduceLE, Int.reduceEq, Int.reduceNe, Int.reduceAdd, Int.reduceSub, Int.reduceMul, Int.reduceNeg, Int.reduceToNat, Nat.reduceAdd, Nat.reduceMul, Nat.reduceEqDiff, zw32_id, zupd_eq, zupd_na, zupd_ni, zupp_eq, zupp_na, zupp_ni, kS_howMany sl si, eq_true (show (i : Int) < 9 by omega)]
      exact zi
  have d2 : ∀ (d i : Nat), i + d = 9 → zS 94 63 [zR 14, zU, zU, zL (dgS f 0 9 (dgC f 9)), zU, zU] [] sh pp mm (fun v sh pp mm => zS 137 14 [zU] (zPush v [zR 57]) sh pp mm Q) → zS 94 35 [zR 14, zU, zU, zL (dgS f 0 i (dgC f 9)), zU, zI (i : Int)] [] sh pp mm (fun v sh pp mm => zS 137 14 [zU] (zPush v [zR 57]) sh pp mm Q) := by
    intro d
    induction d with
    | zero =>
      intro i hi hz
      have hi : i = 9 := by omega
      rw [rS_fold_35]
      simp (disch := first | assumption | omega) only [rS_fold_37, rS_fold_39, Bool.false_eq_true, true_implies, false_implies, implies_true, true_and, and_true, not_true_eq_false, not_false_eq_true, zPush_I, zPush_L, zPush_R, zPush_U, Int.reduceLT, Int.reduceLE, Int.reduceEq, Int.reduceNe, Int.reduceAdd, Int.reduceSub, Int.reduceMul, Int.reduceNeg, Int.reduceToNat, Nat.reduceAdd, Nat.reduceMul, Nat.reduceEqDiff, zw32_id, zupd_eq, zupd_na, zupd_ni, zupp_eq, zupp_na, zupp_ni, eq_false (show ¬ (i : Int) < 9 by omega)]
      rw [hi]
      exact hz
    | succ d ih =>
      intro i hi hz
      have zi := ih (i + 1) (by omega) hz
      rw [show ((i + 1 : Nat) : Int) = (i : Int) + 1 by omega, dgS_s, Int.zero_add] at zi
      have zn := sn (i : Int) (by omega) (by omega)
      rw [rS_fold_35]
      simp (disch := first | assumption | omega) only [rS_fold_37, rS_fold_39, rS_fold_42, rS_fold_45, rS_fold_46, rS_fold_47, rS_fold_48, rS_fold_51, rS_fold_53, rS_fold_54, rS_fold_55, rS_fold_56, rS_fold_57, rS_fold_60, Bool.false_eq_true, true_implies, false_implies, implies_true, true_and, and_true, not_true_eq_false, not_false_eq_true, zPush_I, zPush_L, zPush_R, zPush_U, Int.reduceLT, Int.reduceLE, Int.reduceEq, Int.reduceNe, Int.reduceAdd, Int.reduceSub, Int.reduceMul, Int.reduceNeg, Int.reduceToNat, Nat.reduceAdd, Nat.reduceMul, Nat.reduceEqDiff, zw32_id, zupd_eq, zupd_na, zupd_ni, zupp_eq, zupp_na, zupp_ni, p15, zn, eq_true (show (i : Int) < 9 by omega)]
      exact zi
  have d3 : ∀ (d i : Nat) (H : Int), i + d = 4 → zS 94 90 [zR 14, zU, zU, zL (dgT f H 4), zU, zU] [] sh pp mm (fun v sh pp mm => zS 137 14 [zU] (zPush v [zR 57]) sh pp mm Q) → zS 94 66 [zR 14, zU, zU, zL (dgT f H i), zU, zI (i : Int)] [] sh pp mm (fun v sh pp mm => zS 137 14 [zU] (zPush v [zR 57]) sh pp mm Q) := by
    intro d
    induction d with
    | zero =>
      intro i H hi hz
      have hi : i = 4 := by omega
      rw [rS_fold_66]
      simp (disch := first | assumption | omega) only [rS_fold_68, rS_fold_69, Bool.false_eq_true, true_implies, false_implies, implies_true, true_and, and_true, not_true_eq_false, not_false_eq_true, zPush_I, zPush_L, zPush_R, zPush_U, Int.reduceLT, Int.reduceLE, Int.reduceEq, Int.reduceNe, Int.reduceAdd, Int.reduceSub, Int.reduceMul, Int.reduceNeg, Int.reduceToNat, Nat.reduceAdd, Nat.reduceMul, Nat.reduceEqDiff, zw32_id, zupd_eq, zupd_na, zupd_ni, zupp_eq, zupp_na, zupp_ni, eq_false (show ¬ (i : Int) < 4 by omega)]
      rw [hi]
      exact hz
    | succ d ih =>
      intro i H hi hz
      have zi := ih (i + 1) H (by omega) hz
      rw [show ((i + 1 : Nat) : Int) = (i : Int) + 1 by omega, show dgT f H (i + 1) = dgS f (9 + 121 * (i : Int) + 1) (f (9 + 121 * (i : Int))).toNat (dgT f H i) from rfl, show 9 + 121 * (i : Int) + 1 = 10 + 121 * (i : Int) by omega] at zi
      have zt := sl.2.2.2.2.2.2.2.2 i (by omega)
      rw [show 14 + 12 + 2 * i = 26 + 2 * i by omega] at zt
      have pt : pp 16 (i : Int) = 26 + 2 * i := zt.2
      have kt := zt.1.1
      have tb := si.2.2.2.2.2.2.2 i (by omega)
      rw [show 14 + 12 + 2 * i = 26 + 2 * i by omega] at tb
      obtain ⟨c1, c2, c3⟩ := ok.2.1 (i : Int) (by omega) (by omega)
      have tf := fun (Q : zV → zSh → zPp → zMm → Prop) (h0 : Int) => kT_fold (Q := Q) (h0 := h0) zt.1 tb (K := (f (9 + 121 * (i : Int))).toNat) (by omega) (by omega) (by decide)
      rw [rS_fold_66]
      simp (disch := first | assumption | omega) only [rS_fold_68, rS_fold_69, rS_fold_72, rS_fold_73, rS_fold_76, rS_fold_78, rS_fold_79, rS_fold_80, rS_fold_83, rS_fold_84, rS_fold_87, Bool.false_eq_true, true_implies, false_implies, implies_true, true_and, and_true, not_true_eq_false, not_false_eq_true, zPush_I, zPush_L, zPush_R, zPush_U, Int.reduceLT, Int.reduceLE, Int.reduceEq, Int.reduceNe, Int.reduceAdd, Int.reduceSub, Int.reduceMul, Int.reduceNeg, Int.reduceToNat, Nat.reduceAdd, Nat.reduceMul, Nat.reduceEqDiff, zw32_id, zupd_eq, zupd_na, zupd_ni, zupp_eq, zupp_na, zupp_ni, p16, pt, tf, eq_true (show (i : Int) < 4 by omega)]
      exact zi
  have d4 : ∀ (d i : Nat) (H : Int), i + d = 384 → zS 94 145 [zR 14, zU, zU, zL (dgS f 573 384 H), zU, zU] [] sh pp mm (fun v sh pp mm => zS 137 14 [zU] (zPush v [zR 57]) sh pp mm Q) → zS 94 116 [zR 14, zU, zU, zL (dgS f 573 i H), zU, zI (i : Int)] [] sh pp mm (fun v sh pp mm => zS 137 14 [zU] (zPush v [zR 57]) sh pp mm Q) := by
    intro d
    induction d with
    | zero =>
      intro i H hi hz
      have hi : i = 384 := by omega
      rw [rS_fold_116]
      simp (disch := first | assumption | omega) only [rS_fold_118, rS_fold_121, Bool.false_eq_true, true_implies, false_implies, implies_true, true_and, and_true, not_true_eq_false, not_false_eq_true, zPush_I, zPush_L, zPush_R, zPush_U, Int.reduceLT, Int.reduceLE, Int.reduceEq, Int.reduceNe, Int.reduceAdd, Int.reduceSub, Int.reduceMul, Int.reduceNeg, Int.reduceToNat, Nat.reduceAdd, Nat.reduceMul, Nat.reduceEqDiff, zw32_id, zupd_eq, zupd_na, zupd_ni, zupp_eq, zupp_na, zupp_ni, eq_false (show ¬ (i : Int) < 384 by omega)]
      rw [hi]
      exact hz
    | succ d ih =>
      intro i H hi hz
      have zi := ih (i + 1) H (by omega) hz
      rw [show ((i + 1 : Nat) : Int) = (i : Int) + 1 by omega, dgS_s] at zi
      have zn := s6 (i : Int) (by omega) (by omega)
      rw [rS_fold_116]
      simp (disch := first | assumption | omega) only [rS_fold_118, rS_fold_121, rS_fold_124, rS_fold_127, rS_fold_128, rS_fold_129, rS_fold_130, rS_fold_133, rS_fold_135, rS_fold_136, rS_fold_137, rS_fold_138, rS_fold_139, rS_fold_142, Bool.false_eq_true, true_implies, false_implies, implies_true, true_and, and_true, not_true_eq_false, not_false_eq_true, zPush_I, zPush_L, zPush_R, zPush_U, Int.reduceLT, Int.reduceLE, Int.reduceEq, Int.reduceNe, Int.reduceAdd, Int.reduceSub, Int.reduceMul, Int.reduceNeg, Int.reduceToNat, Nat.reduceAdd, Nat.reduceMul, Nat.reduceEqDiff, zw32_id, zupd_eq, zupd_na, zupd_ni, zupp_eq, zupp_na, zupp_ni, p25, zn, eq_true (show (i : Int) < 384 by omega)]
      exact zi
  have f2 := fun (Q : zV → zSh → zPp → zMm → Prop) (h0 : Int) => kT_fold (Q := Q) (h0 := h0) (t := 17) ⟨k17, k18, l18, p18⟩ si.2.1 (K := (2 * f 981).toNat) (by omega) (by omega) (by decide)
  have f3 := fun (Q : zV → zSh → zPp → zMm → Prop) (h0 : Int) => kT_fold (Q := Q) (h0 := h0) (t := 19) ⟨k19, k20, l20, p20⟩ si.2.2.1 (K := (2 * f 982).toNat) (by omega) (by omega) (by decide)
  have f4 := fun (Q : zV → zSh → zPp → zMm → Prop) (h0 : Int) => kT_fold (Q := Q) (h0 := h0) (t := 21) ⟨k21, k22, l22, p22⟩ si.2.2.2.1 (K := (3 * f 983).toNat) (by omega) (by omega) (by decide)
  have f5 := fun (Q : zV → zSh → zPp → zMm → Prop) (h0 : Int) => kT_fold (Q := Q) (h0 := h0) (t := 23) ⟨k23, k24, l24, p24⟩ si.2.2.2.2.1 (K := (3 * f 984).toNat) (by omega) (by omega) (by decide)
  simp (disch := first | assumption | omega) only [rX_digest_0, rX_digest_1, rX_digest_4, rX_digest_5, rX_digest_8, rX_digest_11, rS_fold_0, rS_fold_1, rS_fold_2, rS_fold_3, Bool.false_eq_true, true_implies, false_implies, implies_true, true_and, and_true, not_true_eq_false, not_false_eq_true, zPush_I, zPush_L, zPush_R, zPush_U, Int.reduceLT, Int.reduceLE, Int.reduceEq, Int.reduceNe, Int.reduceAdd, Int.reduceSub, Int.reduceMul, Int.reduceNeg, Int.reduceToNat, Nat.reduceAdd, Nat.reduceMul, Nat.reduceEqDiff, zw32_id, zupd_eq, zupd_na, zupd_ni, zupp_eq, zupp_na, zupp_ni, p14, p57]
  refine d1 9 0 (by omega) ?_
  simp (disch := first | assumption | omega) only [rS_fold_32, rS_fold_33, Bool.false_eq_true, true_implies, false_implies, implies_true, true_and, and_true, not_true_eq_false, not_false_eq_true, zPush_I, zPush_L, zPush_R, zPush_U, Int.reduceLT, Int.reduceLE, Int.reduceEq, Int.reduceNe, Int.reduceAdd, Int.reduceSub, Int.reduceMul, Int.reduceNeg, Int.reduceToNat, Nat.reduceAdd, Nat.reduceMul, Nat.reduceEqDiff, zw32_id, zupd_eq, zupd_na, zupd_ni, zupp_eq, zupp_na, zupp_ni]
  refine d2 9 0 (by omega) ?_
  simp (disch := first | assumption | omega) only [rS_fold_63, rS_fold_64, Bool.false_eq_true, true_implies, false_implies, implies_true, true_and, and_true, not_true_eq_false, not_false_eq_true, zPush_I, zPush_L, zPush_R, zPush_U, Int.reduceLT, Int.reduceLE, Int.reduceEq, Int.reduceNe, Int.reduceAdd, Int.reduceSub, Int.reduceMul, Int.reduceNeg, Int.reduceToNat, Nat.reduceAdd, Nat.reduceMul, Nat.reduceEqDiff, zw32_id, zupd_eq, zupd_na, zupd_ni, zupp_eq, zupp_na, zupp_ni]
  refine d3 4 0 _ (by omega) ?_
  simp (disch := first | assumption | omega) only [rS_fold_90, rS_fold_91, rS_fold_94, rS_fold_95, rS_fold_98, rS_fold_99, rS_fold_102, rS_fold_103, rS_fold_106, rS_fold_109, rS_fold_112, rS_fold_113, rS_fold_114, Bool.false_eq_true, true_implies, false_implies, implies_true, true_and, and_true, not_true_eq_false, not_false_eq_true, zPush_I, zPush_L, zPush_R, zPush_U, Int.reduceLT, Int.reduceLE, Int.reduceEq, Int.reduceNe, Int.reduceAdd, Int.reduceSub, Int.reduceMul, Int.reduceNeg, Int.reduceToNat, Nat.reduceAdd, Nat.reduceMul, Nat.reduceEqDiff, zw32_id, zupd_eq, zupd_na, zupd_ni, zupp_eq, zupp_na, zupp_ni, p17, p19, p21, f2, f3, f4]
  refine d4 384 0 _ (by omega) ?_
  simp (disch := first | assumption | omega) only [rS_fold_145, rS_fold_146, rS_fold_149, rS_fold_150, rS_fold_153, rX_digest_14, rX_digest_17, Bool.false_eq_true, true_implies, false_implies, implies_true, true_and, and_true, not_true_eq_false, not_false_eq_true, zPush_I, zPush_L, zPush_R, zPush_U, Int.reduceLT, Int.reduceLE, Int.reduceEq, Int.reduceNe, Int.reduceAdd, Int.reduceSub, Int.reduceMul, Int.reduceNeg, Int.reduceToNat, Nat.reduceAdd, Nat.reduceMul, Nat.reduceEqDiff, zw32_id, zupd_eq, zupd_na, zupd_ni, zupp_eq, zupp_na, zupp_ni, p23, f5, kF_fold h b1 b2]
  exact hQ
end
