/-! ===== calls of the class: fault, draws, cell, point ===== -/
theorem look_iff (g h : Int → Int) : ∀ n, look g h n = true ↔ ∀ i : Nat, i < n → g (i : Int) = h (i : Int)
  | 0 => ⟨fun _ i hi => by omega, fun _ => rfl⟩
  | n + 1 => by
    have zi := look_iff g h n
    unfold look
    rw [Bool.and_eq_true, zi, decide_eq_true_eq]
    constructor
    · intro hx i hi
      by_cases hc : i = n
      · subst hc; exact hx.2
      · exact hx.1 i (by omega)
    · exact fun hx => ⟨fun i hi => hx i (by omega), hx n (by omega)⟩
theorem sumZ_bd {g : Int → Int} (h : ∀ i, g i = 0 ∨ g i = 1) : ∀ n : Nat, 0 ≤ sumZ g n ∧ sumZ g n ≤ (n : Int)
  | 0 => by unfold sumZ; omega
  | n + 1 => by
    have zi := sumZ_bd h n
    have zh := h (n : Int)
    unfold sumZ
    omega
section
variable {sh : zSh} {pp : zPp} {mm m' : zMm} {Q : zV → zSh → zPp → zMm → Prop} {f f' : Int → Int} {G : Int → Option (Int → Int)} {cn cn' : Int → Int} {N D N' D' : Nat}
theorem cFault (hc : cOk f G cn N D sh pp mm) (ok : fOk f) {p : Int} (hQ : ∀ pp1 m, cOk f G (oFault f cn p).1 N D sh pp1 m → frX sh mm sh m → Q (zI (oFault f cn p).2) sh pp1 m) : zS 106 0 [zR 13, zI p] [] sh pp mm Q := by
  have h := hc.1
  have k13 := k_13 h
  have k14 := k_14 h
  have p14 := p_13_0 h
  have k16 := k_16 h
  have l16 := l_16 h
  have p16 := p_14_1 h
  have k36 := k_36 h
  have l36 := l_36 h
  have p36 := p_13_3 h
  unfold oFault at hQ
  by_cases hg : 0 ≤ p ∧ p ≤ 3
  · rw [if_pos hg] at hQ
    dsimp only at hQ
    obtain ⟨q, hq⟩ : ∃ q : Nat, p = (q : Int) := ⟨p.toNat, by omega⟩
    subst hq
    have hq4 : q < 4 := by omega
    obtain ⟨s1, s2⟩ := scL_of h hq4
    have ks := s1.1.1
    have zt := (stL_14 h).2.2.2.2.2.2.2.2 q hq4
    rw [show 14 + 12 + 2 * q = 26 + 2 * q by omega] at zt
    have pt : pp 16 (q : Int) = 26 + 2 * q := zt.2
    simp (disch := first | assumption | omega) only [rX_fault_0, rX_fault_1, rX_fault_4, rX_fault_7, rX_fault_8, rX_fault_9, rX_fault_11, rX_fault_14, rX_fault_15, rX_fault_16, rX_fault_19, rX_fault_20, rX_fault_21, rX_fault_22, rX_fault_25, rX_fault_28, rX_fault_29, rX_fault_30, kX_isProgram, kX_refuse h, Bool.false_eq_true, true_implies, false_implies, implies_true, true_and, and_true, not_true_eq_false, not_false_eq_true, zPush_I, zPush_L, zPush_R, zPush_U, Int.reduceLT, Int.reduceLE, Int.reduceEq, Int.reduceNe, Int.reduceAdd, Int.reduceSub, Int.reduceMul, Int.reduceNeg, Int.reduceToNat, Nat.reduceAdd, Nat.reduceMul, Nat.reduceEqDiff, zw32_id, zw64_id, zupd_eq, zupd_na, zupd_ni, zupp_eq, zupp_na, zupp_ni, p14, p16, p36, s2, pt, eq_true hg]
    refine cReadQ hc ok hq4 (fun pp1 m1 hc1 a1 a2 => ?_)
    have zq := hQ pp1 m1 hc1 (frX_P a2 (by omega))
    have h := hc1.1
    have k13 := k_13 h
    have k36 := k_36 h
    have l36 := l_36 h
    have p36 := p_13_3 h
    obtain ⟨s1, s2⟩ := scL_of h hq4
    have ks := s1.1.1
    have e4 := a1.1
    simp (disch := first | assumption | omega) only [rX_fault_33, rX_fault_34, rX_fault_37, rX_fault_38, rX_fault_39, rX_fault_42, Bool.false_eq_true, true_implies, false_implies, implies_true, true_and, and_true, not_true_eq_false, not_false_eq_true, zPush_I, zPush_L, zPush_R, zPush_U, Int.reduceLT, Int.reduceLE, Int.reduceEq, Int.reduceNe, Int.reduceAdd, Int.reduceSub, Int.reduceMul, Int.reduceNeg, Int.reduceToNat, Nat.reduceAdd, Nat.reduceMul, Nat.reduceEqDiff, zw32_id, zw64_id, zupd_eq, zupd_na, zupd_ni, zupp_eq, zupp_na, zupp_ni, p36, s2, e4]
    exact zq
  · rw [if_neg hg] at hQ
    dsimp only at hQ
    have zq := cBadP hc (i := 0) (by decide) (by decide) (hQ pp)
    simp (disch := first | assumption | omega) only [rX_fault_0, rX_fault_1, rX_fault_4, rX_fault_7, rX_fault_8, rX_fault_9, rX_fault_11, rX_fault_14, kX_isProgram, kX_refuse h, Bool.false_eq_true, true_implies, false_implies, implies_true, true_and, and_true, not_true_eq_false, not_false_eq_true, zPush_I, zPush_L, zPush_R, zPush_U, Int.reduceLT, Int.reduceLE, Int.reduceEq, Int.reduceNe, Int.reduceAdd, Int.reduceSub, Int.reduceMul, Int.reduceNeg, Int.reduceToNat, Nat.reduceAdd, Nat.reduceMul, Nat.reduceEqDiff, zw32_id, zw64_id, zupd_eq, zupd_na, zupd_ni, zupp_eq, zupp_na, zupp_ni, eq_false hg]
    exact zq
theorem kD_cellsDrawn {d : Nat} (hL : drL sh pp d) {g : Int → Int} (h01 : ∀ i, g i = 0 ∨ g i = 1) (hg : ∀ i, 0 ≤ i → i < 384 → mm (d + 1) i = g i) : zS 28 0 [zR d, zU, zU] [] sh pp mm Q ↔ Q (zI (sumZ g 384)) sh pp mm := by
  obtain ⟨k0, ⟨k1, l1, p1⟩, -⟩ := hL
  have key : ∀ (t i : Nat), i + t = 384 → (zS 28 4 [zR d, zI (sumZ g i), zI (i : Int)] [] sh pp mm Q ↔ Q (zI (sumZ g 384)) sh pp mm) := by
    intro t
    induction t with
    | zero =>
      intro i hi
      have hi : i = 384 := by omega
      rw [rD_cellsDrawn_4]
      simp (disch := first | assumption | omega) only [rD_cellsDrawn_5, rD_cellsDrawn_8, rD_cellsDrawn_11, rD_cellsDrawn_12, rD_cellsDrawn_13, rD_cellsDrawn_16, rD_cellsDrawn_17, rD_cellsDrawn_18, rD_cellsDrawn_19, rD_cellsDrawn_20, rD_cellsDrawn_23, rD_cellsDrawn_26, rD_cellsDrawn_27, Bool.false_eq_true, true_implies, false_implies, implies_true, true_and, and_true, not_true_eq_false, not_false_eq_true, zPush_I, zPush_L, zPush_R, zPush_U, Int.reduceLT, Int.reduceLE, Int.reduceEq, Int.reduceNe, Int.reduceAdd, Int.reduceSub, Int.reduceMul, Int.reduceNeg, Int.reduceToNat, Nat.reduceAdd, Nat.reduceMul, Nat.reduceEqDiff, zw32_id, zw64_id, zupd_eq, zupd_na, zupd_ni, zupp_eq, zupp_na, zupp_ni, eq_false (show ¬ (i : Int) < 384 by omega)]
      rw [hi]
    | succ t ih =>
      intro i hi
      have zi := ih (i + 1) (by omega)
      rw [show ((i + 1 : Nat) : Int) = (i : Int) + 1 by omega] at zi
      have zs := sumZ_bd h01 i
      have z1 := hg (i : Int) (by omega) (by omega)
      have z2 := h01 (i : Int)
      have es : sumZ g (i + 1) = sumZ g i + g (i : Int) := rfl
      rw [← zi, rD_cellsDrawn_4, es]
      simp (disch := first | assumption | omega) only [rD_cellsDrawn_5, rD_cellsDrawn_8, rD_cellsDrawn_11, rD_cellsDrawn_12, rD_cellsDrawn_13, rD_cellsDrawn_16, rD_cellsDrawn_17, rD_cellsDrawn_18, rD_cellsDrawn_19, rD_cellsDrawn_20, rD_cellsDrawn_23, Bool.false_eq_true, true_implies, false_implies, implies_true, true_and, and_true, not_true_eq_false, not_false_eq_true, zPush_I, zPush_L, zPush_R, zPush_U, Int.reduceLT, Int.reduceLE, Int.reduceEq, Int.reduceNe, Int.reduceAdd, Int.reduceSub, Int.reduceMul, Int.reduceNeg, Int.reduceToNat, Nat.reduceAdd, Nat.reduceMul, Nat.reduceEqDiff, zw32_id, zw64_id, zupd_eq, zupd_na, zupd_ni, zupp_eq, zupp_na, zupp_ni, p1, eq_true (show (i : Int) < 384 by omega), z1]
  have := key 384 0 (by omega)
  simp (disch := first | assumption | omega) only [rD_cellsDrawn_0, rD_cellsDrawn_1, rD_cellsDrawn_2, rD_cellsDrawn_3, Bool.false_eq_true, true_implies, false_implies, implies_true, true_and, and_true, not_true_eq_false, not_false_eq_true, zPush_I, zPush_L, zPush_R, zPush_U, Int.reduceLT, Int.reduceLE, Int.reduceEq, Int.reduceNe, Int.reduceAdd, Int.reduceSub, Int.reduceMul, Int.reduceNeg, Int.reduceToNat, Nat.reduceAdd, Nat.reduceMul, Nat.reduceEqDiff, zw32_id, zw64_id, zupd_eq, zupd_na, zupd_ni, zupp_eq, zupp_na, zupp_ni]
  exact this
theorem kD_tell {d q : Nat} (hL : drL sh pp d) (ok : fOk f) (hq : q < 4) (hr : ft f q = -1) (hd : drwOk d f q mm) {w : Int} (w0 : 0 ≤ w) (w9 : w ≤ 9) : zS 29 0 [zR d, zI w] [] sh pp mm Q ↔ Q (zI (dAns f q w)) sh pp mm := by
  have hL' := hL
  obtain ⟨k0, ⟨k1, l1, p1⟩, ⟨k2, l2, p2⟩, ⟨k3, p3⟩, ⟨k4, p4⟩, -⟩ := hL'
  obtain ⟨z1, z2, z3, z4⟩ := dPl_ok ok (p := (q : Int)) (by omega) (by omega) hr
  obtain ⟨o1, o2, o3, o4, o5⟩ := z1
  unfold kOk at o1 o2
  obtain ⟨⟨r1, r2, r3, r4, r5⟩, r6, r7⟩ := hd
  have x0 : mm (d + 3) 0 = (dPl f q).1 0 := r1 0 (by decide) (by decide)
  have x1 : mm (d + 3) 1 = (dPl f q).1 1 := r1 1 (by decide) (by decide)
  have x2 : mm (d + 3) 2 = (dPl f q).1 2 := r1 2 (by decide) (by decide)
  have x3 : mm (d + 3) 3 = (dPl f q).1 3 := r1 3 (by decide) (by decide)
  have x4 : mm (d + 3) 4 = (dPl f q).1 4 := r1 4 (by decide) (by decide)
  have y0 : mm (d + 4) 0 = (dPl f q).2.1 0 := r2 0 (by decide) (by decide)
  have y1 : mm (d + 4) 1 = (dPl f q).2.1 1 := r2 1 (by decide) (by decide)
  have y2 : mm (d + 4) 2 = (dPl f q).2.1 2 := r2 2 (by decide) (by decide)
  have y3 : mm (d + 4) 3 = (dPl f q).2.1 3 := r2 3 (by decide) (by decide)
  have y4 : mm (d + 4) 4 = (dPl f q).2.1 4 := r2 4 (by decide) (by decide)
  have t2 : mm d 2 = (dPl f q).2.2.2.2 := r5
  have t3 : mm d 3 = sec f q := r6
  have c0 := fun (Q : zV → zSh → zPp → zMm → Prop) => kD_cellsDrawn (Q := Q) (mm := mm) hL (g := gDr f q) o4 r3
  unfold dAns
  rcases (show w = 0 ∨ w = 1 ∨ w = 2 ∨ w = 3 ∨ w = 4 ∨ w = 5 ∨ w = 6 ∨ w = 7 ∨ w = 8 ∨ w = 9 by omega) with rfl | rfl | rfl | rfl | rfl | rfl | rfl | rfl | rfl | rfl
  · simp (disch := first | assumption | omega) only [rD_tell_0, rD_tell_1_0, rD_tell_1_1, rD_tell_1_2, rD_tell_1_3, rD_tell_1_4, rD_tell_1_5, rD_tell_1_6, rD_tell_1_7, rD_tell_1_8, rD_tell_1_d, rD_tell_52, rD_tell_53, rD_tell_56, rD_tell_57, rD_tell_58, rD_tell_61, rD_tell_62, rD_tell_63, rD_tell_66, rD_tell_69, rD_tell_70, rD_tell_73, rD_tell_76, rD_tell_77, rD_tell_78, rD_tell_79, rD_tell_82, rD_tell_85, rD_tell_86, rD_tell_89, rD_tell_92, rD_tell_93, rD_tell_94, rD_tell_95, rD_tell_98, rD_tell_101, rD_tell_102, rD_tell_105, rD_tell_108, rD_tell_109, rD_tell_110, rD_tell_111, rD_tell_114, rD_tell_117, rD_tell_118, rD_tell_121, rD_tell_124, rD_tell_125, rD_tell_126, rD_tell_127, rD_tell_130, rD_tell_133, rD_tell_134, rD_tell_135, rD_tell_138, rD_tell_141, rD_tell_142, rD_tell_143, rD_tell_146, rD_tell_147, rD_tell_148, rD_tell_151, rD_tell_154, rD_tell_155, rD_tell_158, rD_tell_159, Bool.false_eq_true, true_implies, false_implies, implies_true, true_and, and_true, not_true_eq_false, not_false_eq_true, zPush_I, zPush_L, zPush_R, zPush_U, Int.reduceLT, Int.reduceLE, Int.reduceEq, Int.reduceNe, Int.reduceAdd, Int.reduceSub, Int.reduceMul, Int.reduceNeg, Int.reduceToNat, Nat.reduceAdd, Nat.reduceMul, Nat.reduceEqDiff, zw32_id, zw64_id, zupd_eq, zupd_na, zupd_ni, zupp_eq, zupp_na, zupp_ni, c0, if_true]
  · simp (disch := first | assumption | omega) only [rD_tell_0, rD_tell_1_0, rD_tell_1_1, rD_tell_1_2, rD_tell_1_3, rD_tell_1_4, rD_tell_1_5, rD_tell_1_6, rD_tell_1_7, rD_tell_1_8, rD_tell_1_d, rD_tell_52, rD_tell_53, rD_tell_56, rD_tell_57, rD_tell_58, rD_tell_61, rD_tell_62, rD_tell_63, rD_tell_66, rD_tell_69, rD_tell_70, rD_tell_73, rD_tell_76, rD_tell_77, rD_tell_78, rD_tell_79, rD_tell_82, rD_tell_85, rD_tell_86, rD_tell_89, rD_tell_92, rD_tell_93, rD_tell_94, rD_tell_95, rD_tell_98, rD_tell_101, rD_tell_102, rD_tell_105, rD_tell_108, rD_tell_109, rD_tell_110, rD_tell_111, rD_tell_114, rD_tell_117, rD_tell_118, rD_tell_121, rD_tell_124, rD_tell_125, rD_tell_126, rD_tell_127, rD_tell_130, rD_tell_133, rD_tell_134, rD_tell_135, rD_tell_138, rD_tell_141, rD_tell_142, rD_tell_143, rD_tell_146, rD_tell_147, rD_tell_148, rD_tell_151, rD_tell_154, rD_tell_155, rD_tell_158, rD_tell_159, Bool.false_eq_true, true_implies, false_implies, implies_true, true_and, and_true, not_true_eq_false, not_false_eq_true, zPush_I, zPush_L, zPush_R, zPush_U, Int.reduceLT, Int.reduceLE, Int.reduceEq, Int.reduceNe, Int.reduceAdd, Int.reduceSub, Int.reduceMul, Int.reduceNeg, Int.reduceToNat, Nat.reduceAdd, Nat.reduceMul, Nat.reduceEqDiff, zw32_id, zw64_id, zupd_eq, zupd_na, zupd_ni, zupp_eq, zupp_na, zupp_ni, t2, if_true, if_false]
  · simp (disch := first | assumption | omega) only [rD_tell_0, rD_tell_1_0, rD_tell_1_1, rD_tell_1_2, rD_tell_1_3, rD_tell_1_4, rD_tell_1_5, rD_tell_1_6, rD_tell_1_7, rD_tell_1_8, rD_tell_1_d, rD_tell_52, rD_tell_53, rD_tell_56, rD_tell_57, rD_tell_58, rD_tell_61, rD_tell_62, rD_tell_63, rD_tell_66, rD_tell_69, rD_tell_70, rD_tell_73, rD_tell_76, rD_tell_77, rD_tell_78, rD_tell_79, rD_tell_82, rD_tell_85, rD_tell_86, rD_tell_89, rD_tell_92, rD_tell_93, rD_tell_94, rD_tell_95, rD_tell_98, rD_tell_101, rD_tell_102, rD_tell_105, rD_tell_108, rD_tell_109, rD_tell_110, rD_tell_111, rD_tell_114, rD_tell_117, rD_tell_118, rD_tell_121, rD_tell_124, rD_tell_125, rD_tell_126, rD_tell_127, rD_tell_130, rD_tell_133, rD_tell_134, rD_tell_135, rD_tell_138, rD_tell_141, rD_tell_142, rD_tell_143, rD_tell_146, rD_tell_147, rD_tell_148, rD_tell_151, rD_tell_154, rD_tell_155, rD_tell_158, rD_tell_159, Bool.false_eq_true, true_implies, false_implies, implies_true, true_and, and_true, not_true_eq_false, not_false_eq_true, zPush_I, zPush_L, zPush_R, zPush_U, Int.reduceLT, Int.reduceLE, Int.reduceEq, Int.reduceNe, Int.reduceAdd, Int.reduceSub, Int.reduceMul, Int.reduceNeg, Int.reduceToNat, Nat.reduceAdd, Nat.reduceMul, Nat.reduceEqDiff, zw32_id, zw64_id, zupd_eq, zupd_na, zupd_ni, zupp_eq, zupp_na, zupp_ni, p3, p4, x1, y1, if_true, if_false]
  · simp (disch := first | assumption | omega) only [rD_tell_0, rD_tell_1_0, rD_tell_1_1, rD_tell_1_2, rD_tell_1_3, rD_tell_1_4, rD_tell_1_5, rD_tell_1_6, rD_tell_1_7, rD_tell_1_8, rD_tell_1_d, rD_tell_52, rD_tell_53, rD_tell_56, rD_tell_57, rD_tell_58, rD_tell_61, rD_tell_62, rD_tell_63, rD_tell_66, rD_tell_69, rD_tell_70, rD_tell_73, rD_tell_76, rD_tell_77, rD_tell_78, rD_tell_79, rD_tell_82, rD_tell_85, rD_tell_86, rD_tell_89, rD_tell_92, rD_tell_93, rD_tell_94, rD_tell_95, rD_tell_98, rD_tell_101, rD_tell_102, rD_tell_105, rD_tell_108, rD_tell_109, rD_tell_110, rD_tell_111, rD_tell_114, rD_tell_117, rD_tell_118, rD_tell_121, rD_tell_124, rD_tell_125, rD_tell_126, rD_tell_127, rD_tell_130, rD_tell_133, rD_tell_134, rD_tell_135, rD_tell_138, rD_tell_141, rD_tell_142, rD_tell_143, rD_tell_146, rD_tell_147, rD_tell_148, rD_tell_151, rD_tell_154, rD_tell_155, rD_tell_158, rD_tell_159, Bool.false_eq_true, true_implies, false_implies, implies_true, true_and, and_true, not_true_eq_false, not_false_eq_true, zPush_I, zPush_L, zPush_R, zPush_U, Int.reduceLT, Int.reduceLE, Int.reduceEq, Int.reduceNe, Int.reduceAdd, Int.reduceSub, Int.reduceMul, Int.reduceNeg, Int.reduceToNat, Nat.reduceAdd, Nat.reduceMul, Nat.reduceEqDiff, zw32_id, zw64_id, zupd_eq, zupd_na, zupd_ni, zupp_eq, zupp_na, zupp_ni, p3, p4, x2, y2, if_true, if_false]
  · simp (disch := first | assumption | omega) only [rD_tell_0, rD_tell_1_0, rD_tell_1_1, rD_tell_1_2, rD_tell_1_3, rD_tell_1_4, rD_tell_1_5, rD_tell_1_6, rD_tell_1_7, rD_tell_1_8, rD_tell_1_d, rD_tell_52, rD_tell_53, rD_tell_56, rD_tell_57, rD_tell_58, rD_tell_61, rD_tell_62, rD_tell_63, rD_tell_66, rD_tell_69, rD_tell_70, rD_tell_73, rD_tell_76, rD_tell_77, rD_tell_78, rD_tell_79, rD_tell_82, rD_tell_85, rD_tell_86, rD_tell_89, rD_tell_92, rD_tell_93, rD_tell_94, rD_tell_95, rD_tell_98, rD_tell_101, rD_tell_102, rD_tell_105, rD_tell_108, rD_tell_109, rD_tell_110, rD_tell_111, rD_tell_114, rD_tell_117, rD_tell_118, rD_tell_121, rD_tell_124, rD_tell_125, rD_tell_126, rD_tell_127, rD_tell_130, rD_tell_133, rD_tell_134, rD_tell_135, rD_tell_138, rD_tell_141, rD_tell_142, rD_tell_143, rD_tell_146, rD_tell_147, rD_tell_148, rD_tell_151, rD_tell_154, rD_tell_155, rD_tell_158, rD_tell_159, Bool.false_eq_true, true_implies, false_implies, implies_true, true_and, and_true, not_true_eq_false, not_false_eq_true, zPush_I, zPush_L, zPush_R, zPush_U, Int.reduceLT, Int.reduceLE, Int.reduceEq, Int.reduceNe, Int.reduceAdd, Int.reduceSub, Int.reduceMul, Int.reduceNeg, Int.reduceToNat, Nat.reduceAdd, Nat.reduceMul, Nat.reduceEqDiff, zw32_id, zw64_id, zupd_eq, zupd_na, zupd_ni, zupp_eq, zupp_na, zupp_ni, p3, p4, x3, y3, if_true, if_false]
  · simp (disch := first | assumption | omega) only [rD_tell_0, rD_tell_1_0, rD_tell_1_1, rD_tell_1_2, rD_tell_1_3, rD_tell_1_4, rD_tell_1_5, rD_tell_1_6, rD_tell_1_7, rD_tell_1_8, rD_tell_1_d, rD_tell_52, rD_tell_53, rD_tell_56, rD_tell_57, rD_tell_58, rD_tell_61, rD_tell_62, rD_tell_63, rD_tell_66, rD_tell_69, rD_tell_70, rD_tell_73, rD_tell_76, rD_tell_77, rD_tell_78, rD_tell_79, rD_tell_82, rD_tell_85, rD_tell_86, rD_tell_89, rD_tell_92, rD_tell_93, rD_tell_94, rD_tell_95, rD_tell_98, rD_tell_101, rD_tell_102, rD_tell_105, rD_tell_108, rD_tell_109, rD_tell_110, rD_tell_111, rD_tell_114, rD_tell_117, rD_tell_118, rD_tell_121, rD_tell_124, rD_tell_125, rD_tell_126, rD_tell_127, rD_tell_130, rD_tell_133, rD_tell_134, rD_tell_135, rD_tell_138, rD_tell_141, rD_tell_142, rD_tell_143, rD_tell_146, rD_tell_147, rD_tell_148, rD_tell_151, rD_tell_154, rD_tell_155, rD_tell_158, rD_tell_159, Bool.false_eq_true, true_implies, false_implies, implies_true, true_and, and_true, not_true_eq_false, not_false_eq_true, zPush_I, zPush_L, zPush_R, zPush_U, Int.reduceLT, Int.reduceLE, Int.reduceEq, Int.reduceNe, Int.reduceAdd, Int.reduceSub, Int.reduceMul, Int.reduceNeg, Int.reduceToNat, Nat.reduceAdd, Nat.reduceMul, Nat.reduceEqDiff, zw32_id, zw64_id, zupd_eq, zupd_na, zupd_ni, zupp_eq, zupp_na, zupp_ni, p3, p4, x4, y4, if_true, if_false]
  · simp (disch := first | assumption | omega) only [rD_tell_0, rD_tell_1_0, rD_tell_1_1, rD_tell_1_2, rD_tell_1_3, rD_tell_1_4, rD_tell_1_5, rD_tell_1_6, rD_tell_1_7, rD_tell_1_8, rD_tell_1_d, rD_tell_52, rD_tell_53, rD_tell_56, rD_tell_57, rD_tell_58, rD_tell_61, rD_tell_62, rD_tell_63, rD_tell_66, rD_tell_69, rD_tell_70, rD_tell_73, rD_tell_76, rD_tell_77, rD_tell_78, rD_tell_79, rD_tell_82, rD_tell_85, rD_tell_86, rD_tell_89, rD_tell_92, rD_tell_93, rD_tell_94, rD_tell_95, rD_tell_98, rD_tell_101, rD_tell_102, rD_tell_105, rD_tell_108, rD_tell_109, rD_tell_110, rD_tell_111, rD_tell_114, rD_tell_117, rD_tell_118, rD_tell_121, rD_tell_124, rD_tell_125, rD_tell_126, rD_tell_127, rD_tell_130, rD_tell_133, rD_tell_134, rD_tell_135, rD_tell_138, rD_tell_141, rD_tell_142, rD_tell_143, rD_tell_146, rD_tell_147, rD_tell_148, rD_tell_151, rD_tell_154, rD_tell_155, rD_tell_158, rD_tell_159, Bool.false_eq_true, true_implies, false_implies, implies_true, true_and, and_true, not_true_eq_false, not_false_eq_true, zPush_I, zPush_L, zPush_R, zPush_U, Int.reduceLT, Int.reduceLE, Int.reduceEq, Int.reduceNe, Int.reduceAdd, Int.reduceSub, Int.reduceMul, Int.reduceNeg, Int.reduceToNat, Nat.reduceAdd, Nat.reduceMul, Nat.reduceEqDiff, zw32_id, zw64_id, zupd_eq, zupd_na, zupd_ni, zupp_eq, zupp_na, zupp_ni, p3, p4, x0, if_true, if_false]
  · simp (disch := first | assumption | omega) only [rD_tell_0, rD_tell_1_0, rD_tell_1_1, rD_tell_1_2, rD_tell_1_3, rD_tell_1_4, rD_tell_1_5, rD_tell_1_6, rD_tell_1_7, rD_tell_1_8, rD_tell_1_d, rD_tell_52, rD_tell_53, rD_tell_56, rD_tell_57, rD_tell_58, rD_tell_61, rD_tell_62, rD_tell_63, rD_tell_66, rD_tell_69, rD_tell_70, rD_tell_73, rD_tell_76, rD_tell_77, rD_tell_78, rD_tell_79, rD_tell_82, rD_tell_85, rD_tell_86, rD_tell_89, rD_tell_92, rD_tell_93, rD_tell_94, rD_tell_95, rD_tell_98, rD_tell_101, rD_tell_102, rD_tell_105, rD_tell_108, rD_tell_109, rD_tell_110, rD_tell_111, rD_tell_114, rD_tell_117, rD_tell_118, rD_tell_121, rD_tell_124, rD_tell_125, rD_tell_126, rD_tell_127, rD_tell_130, rD_tell_133, rD_tell_134, rD_tell_135, rD_tell_138, rD_tell_141, rD_tell_142, rD_tell_143, rD_tell_146, rD_tell_147, rD_tell_148, rD_tell_151, rD_tell_154, rD_tell_155, rD_tell_158, rD_tell_159, Bool.false_eq_true, true_implies, false_implies, implies_true, true_and, and_true, not_true_eq_false, not_false_eq_true, zPush_I, zPush_L, zPush_R, zPush_U, Int.reduceLT, Int.reduceLE, Int.reduceEq, Int.reduceNe, Int.reduceAdd, Int.reduceSub, Int.reduceMul, Int.reduceNeg, Int.reduceToNat, Nat.reduceAdd, Nat.reduceMul, Nat.reduceEqDiff, zw32_id, zw64_id, zupd_eq, zupd_na, zupd_ni, zupp_eq, zupp_na, zupp_ni, p3, p4, y0, if_true, if_false]
  · simp (disch := first | assumption | omega) only [rD_tell_0, rD_tell_1_0, rD_tell_1_1, rD_tell_1_2, rD_tell_1_3, rD_tell_1_4, rD_tell_1_5, rD_tell_1_6, rD_tell_1_7, rD_tell_1_8, rD_tell_1_d, rD_tell_52, rD_tell_53, rD_tell_56, rD_tell_57, rD_tell_58, rD_tell_61, rD_tell_62, rD_tell_63, rD_tell_66, rD_tell_69, rD_tell_70, rD_tell_73, rD_tell_76, rD_tell_77, rD_tell_78, rD_tell_79, rD_tell_82, rD_tell_85, rD_tell_86, rD_tell_89, rD_tell_92, rD_tell_93, rD_tell_94, rD_tell_95, rD_tell_98, rD_tell_101, rD_tell_102, rD_tell_105, rD_tell_108, rD_tell_109, rD_tell_110, rD_tell_111, rD_tell_114, rD_tell_117, rD_tell_118, rD_tell_121, rD_tell_124, rD_tell_125, rD_tell_126, rD_tell_127, rD_tell_130, rD_tell_133, rD_tell_134, rD_tell_135, rD_tell_138, rD_tell_141, rD_tell_142, rD_tell_143, rD_tell_146, rD_tell_147, rD_tell_148, rD_tell_151, rD_tell_154, rD_tell_155, rD_tell_158, rD_tell_159, Bool.false_eq_true, true_implies, false_implies, implies_true, true_and, and_true, not_true_eq_false, not_false_eq_true, zPush_I, zPush_L, zPush_R, zPush_U, Int.reduceLT, Int.reduceLE, Int.reduceEq, Int.reduceNe, Int.reduceAdd, Int.reduceSub, Int.reduceMul, Int.reduceNeg, Int.reduceToNat, Nat.reduceAdd, Nat.reduceMul, Nat.reduceEqDiff, zw32_id, zw64_id, zupd_eq, zupd_na, zupd_ni, zupp_eq, zupp_na, zupp_ni, t3, if_true, if_false]
  · have hd9 : (9 : Int) < 0 ∨ 8 < (9 : Int) := by decide
    by_cases hs : (dOf f q).2.2.2.2.2.1 = true
    · rw [if_pos hs] at r7
      simp (disch := first | assumption | omega) only [rD_tell_0, rD_tell_1_0, rD_tell_1_1, rD_tell_1_2, rD_tell_1_3, rD_tell_1_4, rD_tell_1_5, rD_tell_1_6, rD_tell_1_7, rD_tell_1_8, rD_tell_1_d, rD_tell_52, rD_tell_53, rD_tell_56, rD_tell_57, rD_tell_58, rD_tell_61, rD_tell_62, rD_tell_63, rD_tell_66, rD_tell_69, rD_tell_70, rD_tell_73, rD_tell_76, rD_tell_77, rD_tell_78, rD_tell_79, rD_tell_82, rD_tell_85, rD_tell_86, rD_tell_89, rD_tell_92, rD_tell_93, rD_tell_94, rD_tell_95, rD_tell_98, rD_tell_101, rD_tell_102, rD_tell_105, rD_tell_108, rD_tell_109, rD_tell_110, rD_tell_111, rD_tell_114, rD_tell_117, rD_tell_118, rD_tell_121, rD_tell_124, rD_tell_125, rD_tell_126, rD_tell_127, rD_tell_130, rD_tell_133, rD_tell_134, rD_tell_135, rD_tell_138, rD_tell_141, rD_tell_142, rD_tell_143, rD_tell_146, rD_tell_147, rD_tell_148, rD_tell_151, rD_tell_154, rD_tell_155, rD_tell_158, rD_tell_159, Bool.false_eq_true, true_implies, false_implies, implies_true, true_and, and_true, not_true_eq_false, not_false_eq_true, zPush_I, zPush_L, zPush_R, zPush_U, Int.reduceLT, Int.reduceLE, Int.reduceEq, Int.reduceNe, Int.reduceAdd, Int.reduceSub, Int.reduceMul, Int.reduceNeg, Int.reduceToNat, Nat.reduceAdd, Nat.reduceMul, Nat.reduceEqDiff, zw32_id, zw64_id, zupd_eq, zupd_na, zupd_ni, zupp_eq, zupp_na, zupp_ni, r7, if_pos hs, if_true, if_false]
    · rw [if_neg hs] at r7
      simp (disch := first | assumption | omega) only [rD_tell_0, rD_tell_1_0, rD_tell_1_1, rD_tell_1_2, rD_tell_1_3, rD_tell_1_4, rD_tell_1_5, rD_tell_1_6, rD_tell_1_7, rD_tell_1_8, rD_tell_1_d, rD_tell_52, rD_tell_53, rD_tell_56, rD_tell_57, rD_tell_58, rD_tell_61, rD_tell_62, rD_tell_63, rD_tell_66, rD_tell_69, rD_tell_70, rD_tell_73, rD_tell_76, rD_tell_77, rD_tell_78, rD_tell_79, rD_tell_82, rD_tell_85, rD_tell_86, rD_tell_89, rD_tell_92, rD_tell_93, rD_tell_94, rD_tell_95, rD_tell_98, rD_tell_101, rD_tell_102, rD_tell_105, rD_tell_108, rD_tell_109, rD_tell_110, rD_tell_111, rD_tell_114, rD_tell_117, rD_tell_118, rD_tell_121, rD_tell_124, rD_tell_125, rD_tell_126, rD_tell_127, rD_tell_130, rD_tell_133, rD_tell_134, rD_tell_135, rD_tell_138, rD_tell_141, rD_tell_142, rD_tell_143, rD_tell_146, rD_tell_147, rD_tell_148, rD_tell_151, rD_tell_154, rD_tell_155, rD_tell_158, rD_tell_159, Bool.false_eq_true, true_implies, false_implies, implies_true, true_and, and_true, not_true_eq_false, not_false_eq_true, zPush_I, zPush_L, zPush_R, zPush_U, Int.reduceLT, Int.reduceLE, Int.reduceEq, Int.reduceNe, Int.reduceAdd, Int.reduceSub, Int.reduceMul, Int.reduceNeg, Int.reduceToNat, Nat.reduceAdd, Nat.reduceMul, Nat.reduceEqDiff, zw32_id, zw64_id, zupd_eq, zupd_na, zupd_ni, zupp_eq, zupp_na, zupp_ni, r7, if_neg hs, if_true, if_false]
theorem cDraws (hc : cOk f G cn N D sh pp mm) (ok : fOk f) {p w : Int} (hQ : ∀ pp1 m, cOk f G (oDraws f cn p w).1 N D sh pp1 m → frX sh mm sh m → Q (zI (oDraws f cn p w).2) sh pp1 m) : zS 107 0 [zR 13, zI p, zI w, zU] [] sh pp mm Q := by
  have h := hc.1
  have k13 := k_13 h
  unfold oDraws at hQ
  by_cases hg : (0 ≤ p ∧ p ≤ 3) ∧ (0 ≤ w ∧ w ≤ 9)
  · rw [if_pos hg] at hQ
    obtain ⟨q, hq⟩ : ∃ q : Nat, p = (q : Int) := ⟨p.toNat, by omega⟩
    subst hq
    have hq4 : q < 4 := by omega
    obtain ⟨hp, hw⟩ := hg
    simp (disch := first | assumption | omega) only [rX_draws_0, rX_draws_1, rX_draws_4, rX_draws_7, rX_draws_8, rX_draws_11, rX_draws_12, rX_draws_14, rX_draws_17, rX_draws_18, rX_draws_19, rX_draws_21, rX_draws_24, rX_draws_25, rX_draws_26, rX_draws_27, kX_isProgram, kX_refuse h, Bool.false_eq_true, true_implies, false_implies, implies_true, true_and, and_true, not_true_eq_false, not_false_eq_true, zPush_I, zPush_L, zPush_R, zPush_U, Int.reduceLT, Int.reduceLE, Int.reduceEq, Int.reduceNe, Int.reduceAdd, Int.reduceSub, Int.reduceMul, Int.reduceNeg, Int.reduceToNat, Nat.reduceAdd, Nat.reduceMul, Nat.reduceEqDiff, zw32_id, zw64_id, zupd_eq, zupd_na, zupd_ni, zupp_eq, zupp_na, zupp_ni, eq_true hp, eq_false (show ¬ w < 0 by omega), eq_false (show ¬ 9 < w by omega)]
    refine cDrawingOf hc ok hq4 (fun hr pp1 m1 hc1 a2 => ?_) (fun hr pp1 m1 hc1 a1 a2 => ?_)
    · rw [if_neg hr] at hQ
      dsimp only at hQ
      have zq := cBadP hc1 (i := 1) (by decide) (by decide) (fun m hm hx => hQ pp1 m hm (frX_tr (frX_P a2 (by omega)) hx))
      have h := hc1.1
      simp (disch := first | assumption | omega) only [rX_draws_30, rX_draws_31, rX_draws_32, rX_draws_35, rX_draws_36, rX_draws_37, rX_draws_39, rX_draws_42, kX_refuse h, Bool.false_eq_true, true_implies, false_implies, implies_true, true_and, and_true, not_true_eq_false, not_false_eq_true, zPush_I, zPush_L, zPush_R, zPush_U, Int.reduceLT, Int.reduceLE, Int.reduceEq, Int.reduceNe, Int.reduceAdd, Int.reduceSub, Int.reduceMul, Int.reduceNeg, Int.reduceToNat, Nat.reduceAdd, Nat.reduceMul, Nat.reduceEqDiff, zw32_id, zw64_id, zupd_eq, zupd_na, zupd_ni, zupp_eq, zupp_na, zupp_ni]
      exact zq
    · rw [if_pos hr] at hQ
      dsimp only at hQ
      have zq := hQ pp1 m1 hc1 (frX_P a2 (by omega))
      have h := hc1.1
      obtain ⟨d1, d2⟩ := drL_of h hq4
      have kd := d1.1
      simp (disch := first | assumption | omega) only [rX_draws_30, rX_draws_31, rX_draws_32, rX_draws_43, rX_draws_44, rX_draws_45, Bool.false_eq_true, true_implies, false_implies, implies_true, true_and, and_true, not_true_eq_false, not_false_eq_true, zPush_I, zPush_L, zPush_R, zPush_U, Int.reduceLT, Int.reduceLE, Int.reduceEq, Int.reduceNe, Int.reduceAdd, Int.reduceSub, Int.reduceMul, Int.reduceNeg, Int.reduceToNat, Nat.reduceAdd, Nat.reduceMul, Nat.reduceEqDiff, zw32_id, zw64_id, zupd_eq, zupd_na, zupd_ni, zupp_eq, zupp_na, zupp_ni, eq_false (show ¬ 73 + 14 * q = 0 by omega)]
      refine (kD_tell d1 ok hq4 hr a1 hw.1 hw.2).mpr ?_
      simp (disch := first | assumption | omega) only [rX_draws_48, Bool.false_eq_true, true_implies, false_implies, implies_true, true_and, and_true, not_true_eq_false, not_false_eq_true, zPush_I, zPush_L, zPush_R, zPush_U, Int.reduceLT, Int.reduceLE, Int.reduceEq, Int.reduceNe, Int.reduceAdd, Int.reduceSub, Int.reduceMul, Int.reduceNeg, Int.reduceToNat, Nat.reduceAdd, Nat.reduceMul, Nat.reduceEqDiff, zw32_id, zw64_id, zupd_eq, zupd_na, zupd_ni, zupp_eq, zupp_na, zupp_ni]
      exact zq
  · rw [if_neg hg] at hQ
    dsimp only at hQ
    have zq := cBadP hc (i := 0) (by decide) (by decide) (hQ pp)
    simp (disch := first | assumption | omega) only [rX_draws_0, rX_draws_1, rX_draws_4, rX_draws_7, rX_draws_8, rX_draws_11, rX_draws_12, rX_draws_14, rX_draws_17, rX_draws_18, rX_draws_19, rX_draws_21, rX_draws_24, kX_isProgram, kX_refuse h, Bool.false_eq_true, true_implies, false_implies, implies_true, true_and, and_true, not_true_eq_false, not_false_eq_true, zPush_I, zPush_L, zPush_R, zPush_U, Int.reduceLT, Int.reduceLE, Int.reduceEq, Int.reduceNe, Int.reduceAdd, Int.reduceSub, Int.reduceMul, Int.reduceNeg, Int.reduceToNat, Nat.reduceAdd, Nat.reduceMul, Nat.reduceEqDiff, zw32_id, zw64_id, zupd_eq, zupd_na, zupd_ni, zupp_eq, zupp_na, zupp_ni]
    (repeat' (first | apply And.intro | intro _)) <;> first | exact zq | (exfalso; omega)
theorem cCell (hc : cOk f G cn N D sh pp mm) (ok : fOk f) {p x y : Int} (hQ : ∀ pp1 m, cOk f G (oCell f cn p x y).1 N D sh pp1 m → frX sh mm sh m → Q (zI (oCell f cn p x y).2) sh pp1 m) : zS 108 0 [zR 13, zI p, zI x, zI y, zU] [] sh pp mm Q := by
  have h := hc.1
  have k13 := k_13 h
  unfold oCell at hQ
  by_cases hg : (0 ≤ p ∧ p ≤ 3) ∧ (0 ≤ x ∧ x ≤ 23) ∧ (0 ≤ y ∧ y ≤ 15)
  · rw [if_pos hg] at hQ
    obtain ⟨q, hq⟩ : ∃ q : Nat, p = (q : Int) := ⟨p.toNat, by omega⟩
    subst hq
    have hq4 : q < 4 := by omega
    obtain ⟨hp, hx, hy⟩ := hg
    have hxy : (0 ≤ x ∧ x ≤ 23) ∧ (0 ≤ y ∧ y ≤ 15) := ⟨hx, hy⟩
    simp (disch := first | assumption | omega) only [rX_cell_0, rX_cell_1, rX_cell_4, rX_cell_7, rX_cell_8, rX_cell_9, rX_cell_12, rX_cell_15, rX_cell_16, rX_cell_17, rX_cell_19, rX_cell_22, rX_cell_23, rX_cell_24, rX_cell_25, kX_isProgram, kX_isCell, kX_refuse h, Bool.false_eq_true, true_implies, false_implies, implies_true, true_and, and_true, not_true_eq_false, not_false_eq_true, zPush_I, zPush_L, zPush_R, zPush_U, Int.reduceLT, Int.reduceLE, Int.reduceEq, Int.reduceNe, Int.reduceAdd, Int.reduceSub, Int.reduceMul, Int.reduceNeg, Int.reduceToNat, Nat.reduceAdd, Nat.reduceMul, Nat.reduceEqDiff, zw32_id, zw64_id, zupd_eq, zupd_na, zupd_ni, zupp_eq, zupp_na, zupp_ni, eq_true hp, eq_true hxy]
    refine cDrawingOf hc ok hq4 (fun hr pp1 m1 hc1 a2 => ?_) (fun hr pp1 m1 hc1 a1 a2 => ?_)
    · rw [if_neg hr] at hQ
      dsimp only at hQ
      have zq := cBadP hc1 (i := 1) (by decide) (by decide) (fun m hm hx => hQ pp1 m hm (frX_tr (frX_P a2 (by omega)) hx))
      have h := hc1.1
      simp (disch := first | assumption | omega) only [rX_cell_28, rX_cell_30, rX_cell_32, rX_cell_35, rX_cell_36, rX_cell_37, rX_cell_39, rX_cell_42, kX_refuse h, Bool.false_eq_true, true_implies, false_implies, implies_true, true_and, and_true, not_true_eq_false, not_false_eq_true, zPush_I, zPush_L, zPush_R, zPush_U, Int.reduceLT, Int.reduceLE, Int.reduceEq, Int.reduceNe, Int.reduceAdd, Int.reduceSub, Int.reduceMul, Int.reduceNeg, Int.reduceToNat, Nat.reduceAdd, Nat.reduceMul, Nat.reduceEqDiff, zw32_id, zw64_id, zupd_eq, zupd_na, zupd_ni, zupp_eq, zupp_na, zupp_ni]
      exact zq
    · rw [if_pos hr] at hQ
      dsimp only at hQ
      have zq := hQ pp1 m1 hc1 (frX_P a2 (by omega))
      have h := hc1.1
      obtain ⟨d1, d2⟩ := drL_of h hq4
      obtain ⟨kd, ⟨k1, l1, p1⟩, -⟩ := d1
      have zc : m1 (73 + 14 * q + 1) (24 * y + x) = gDr f q (24 * y + x) := a1.1.2.2.1 (24 * y + x) (by omega) (by omega)
      simp (disch := first | assumption | omega) only [rX_cell_28, rX_cell_30, rX_cell_32, rX_cell_43, rX_cell_45, rX_cell_48, rX_cell_49, rX_cell_50, rX_cell_53, rX_cell_54, kX_cellAt hx hy, Bool.false_eq_true, true_implies, false_implies, implies_true, true_and, and_true, not_true_eq_false, not_false_eq_true, zPush_I, zPush_L, zPush_R, zPush_U, Int.reduceLT, Int.reduceLE, Int.reduceEq, Int.reduceNe, Int.reduceAdd, Int.reduceSub, Int.reduceMul, Int.reduceNeg, Int.reduceToNat, Nat.reduceAdd, Nat.reduceMul, Nat.reduceEqDiff, zw32_id, zw64_id, zupd_eq, zupd_na, zupd_ni, zupp_eq, zupp_na, zupp_ni, eq_false (show ¬ 73 + 14 * q = 0 by omega), p1, zc]
      exact zq
  · rw [if_neg hg] at hQ
    dsimp only at hQ
    have zq := cBadP hc (i := 0) (by decide) (by decide) (hQ pp)
    by_cases hp : 0 ≤ p ∧ p ≤ 3
    · simp (disch := first | assumption | omega) only [rX_cell_0, rX_cell_1, rX_cell_4, rX_cell_7, rX_cell_8, rX_cell_9, rX_cell_12, rX_cell_15, rX_cell_16, rX_cell_17, rX_cell_19, rX_cell_22, kX_isProgram, kX_isCell, kX_refuse h, Bool.false_eq_true, true_implies, false_implies, implies_true, true_and, and_true, not_true_eq_false, not_false_eq_true, zPush_I, zPush_L, zPush_R, zPush_U, Int.reduceLT, Int.reduceLE, Int.reduceEq, Int.reduceNe, Int.reduceAdd, Int.reduceSub, Int.reduceMul, Int.reduceNeg, Int.reduceToNat, Nat.reduceAdd, Nat.reduceMul, Nat.reduceEqDiff, zw32_id, zw64_id, zupd_eq, zupd_na, zupd_ni, zupp_eq, zupp_na, zupp_ni, eq_true hp, eq_false (show ¬ ((0 ≤ x ∧ x ≤ 23) ∧ (0 ≤ y ∧ y ≤ 15)) from fun hx => hg ⟨hp, hx⟩)]
      exact zq
    · simp (disch := first | assumption | omega) only [rX_cell_0, rX_cell_1, rX_cell_4, rX_cell_7, rX_cell_8, rX_cell_9, rX_cell_12, rX_cell_15, rX_cell_16, rX_cell_17, rX_cell_19, rX_cell_22, kX_isProgram, kX_isCell, kX_refuse h, Bool.false_eq_true, true_implies, false_implies, implies_true, true_and, and_true, not_true_eq_false, not_false_eq_true, zPush_I, zPush_L, zPush_R, zPush_U, Int.reduceLT, Int.reduceLE, Int.reduceEq, Int.reduceNe, Int.reduceAdd, Int.reduceSub, Int.reduceMul, Int.reduceNeg, Int.reduceToNat, Nat.reduceAdd, Nat.reduceMul, Nat.reduceEqDiff, zw32_id, zw64_id, zupd_eq, zupd_na, zupd_ni, zupp_eq, zupp_na, zupp_ni, eq_false hp]
      exact zq
theorem cPoint (hc : cOk f G cn N D sh pp mm) (ok : fOk f) {p k : Int} (hQ : ∀ pp1 m, cOk f G (oPoint f cn p k).1 N D sh pp1 m → frX sh mm sh m → Q (zI (oPoint f cn p k).2) sh pp1 m) : zS 109 0 [zR 13, zI p, zI k, zU] [] sh pp mm Q := by
  have h := hc.1
  have k13 := k_13 h
  unfold oPoint at hQ
  by_cases hg : (0 ≤ p ∧ p ≤ 3) ∧ 0 ≤ k
  · rw [if_pos hg] at hQ
    obtain ⟨q, hq⟩ : ∃ q : Nat, p = (q : Int) := ⟨p.toNat, by omega⟩
    subst hq
    have hq4 : q < 4 := by omega
    obtain ⟨hp, hk⟩ := hg
    simp (disch := first | assumption | omega) only [rX_point_0, rX_point_1, rX_point_4, rX_point_7, rX_point_8, rX_point_11, rX_point_12, rX_point_13, rX_point_15, rX_point_18, rX_point_19, rX_point_20, rX_point_21, kX_isProgram, kX_refuse h, Bool.false_eq_true, true_implies, false_implies, implies_true, true_and, and_true, not_true_eq_false, not_false_eq_true, zPush_I, zPush_L, zPush_R, zPush_U, Int.reduceLT, Int.reduceLE, Int.reduceEq, Int.reduceNe, Int.reduceAdd, Int.reduceSub, Int.reduceMul, Int.reduceNeg, Int.reduceToNat, Nat.reduceAdd, Nat.reduceMul, Nat.reduceEqDiff, zw32_id, zw64_id, zupd_eq, zupd_na, zupd_ni, zupp_eq, zupp_na, zupp_ni, eq_true hp, eq_false (show ¬ k < 0 by omega)]
    refine cDrawingOf hc ok hq4 (fun hr pp1 m1 hc1 a2 => ?_) (fun hr pp1 m1 hc1 a1 a2 => ?_)
    · rw [if_neg hr] at hQ
      dsimp only at hQ
      have zq := cBadP hc1 (i := 1) (by decide) (by decide) (fun m hm hx => hQ pp1 m hm (frX_tr (frX_P a2 (by omega)) hx))
      have h := hc1.1
      simp (disch := first | assumption | omega) only [rX_point_24, rX_point_25, rX_point_26, rX_point_29, rX_point_30, rX_point_31, rX_point_33, rX_point_36, kX_refuse h, Bool.false_eq_true, true_implies, false_implies, implies_true, true_and, and_true, not_true_eq_false, not_false_eq_true, zPush_I, zPush_L, zPush_R, zPush_U, Int.reduceLT, Int.reduceLE, Int.reduceEq, Int.reduceNe, Int.reduceAdd, Int.reduceSub, Int.reduceMul, Int.reduceNeg, Int.reduceToNat, Nat.reduceAdd, Nat.reduceMul, Nat.reduceEqDiff, zw32_id, zw64_id, zupd_eq, zupd_na, zupd_ni, zupp_eq, zupp_na, zupp_ni]
      exact zq
    · rw [if_pos hr] at hQ
      dsimp only at hQ
      have zq := hQ pp1 m1 hc1 (frX_P a2 (by omega))
      have h := hc1.1
      obtain ⟨d1, d2⟩ := drL_of h hq4
      obtain ⟨kd, -, ⟨k2, l2, p2⟩, -⟩ := d1
      obtain ⟨z1, z2, -⟩ := dPl_ok ok (p := (q : Int)) (by omega) (by omega) hr
      have e2 : m1 (73 + 14 * q) 2 = (dPl f q).2.2.2.2 := a1.1.2.2.2.2
      by_cases hm : k ≤ (dPl f q).2.2.2.2
      · rw [if_pos hm] at zq
        have zc : m1 (73 + 14 * q + 2) k = (dPl f q).2.2.2.1 k := a1.1.2.2.2.1 k hk hm
        simp (disch := first | assumption | omega) only [rX_point_24, rX_point_25, rX_point_26, rX_point_37, rX_point_38, rX_point_39, rX_point_42, rX_point_45, rX_point_47, rX_point_50, rX_point_51, rX_point_54, rX_point_55, rX_point_56, Bool.false_eq_true, true_implies, false_implies, implies_true, true_and, and_true, not_true_eq_false, not_false_eq_true, zPush_I, zPush_L, zPush_R, zPush_U, Int.reduceLT, Int.reduceLE, Int.reduceEq, Int.reduceNe, Int.reduceAdd, Int.reduceSub, Int.reduceMul, Int.reduceNeg, Int.reduceToNat, Nat.reduceAdd, Nat.reduceMul, Nat.reduceEqDiff, zw32_id, zw64_id, zupd_eq, zupd_na, zupd_ni, zupp_eq, zupp_na, zupp_ni, eq_false (show ¬ 73 + 14 * q = 0 by omega), e2, p2, zc, eq_false (show ¬ (dPl f q).2.2.2.2 < k by omega)]
        exact zq
      · rw [if_neg hm] at zq
        simp (disch := first | assumption | omega) only [rX_point_24, rX_point_25, rX_point_26, rX_point_37, rX_point_38, rX_point_39, rX_point_42, rX_point_45, rX_point_47, rX_point_50, rX_point_51, rX_point_54, rX_point_55, rX_point_56, Bool.false_eq_true, true_implies, false_implies, implies_true, true_and, and_true, not_true_eq_false, not_false_eq_true, zPush_I, zPush_L, zPush_R, zPush_U, Int.reduceLT, Int.reduceLE, Int.reduceEq, Int.reduceNe, Int.reduceAdd, Int.reduceSub, Int.reduceMul, Int.reduceNeg, Int.reduceToNat, Nat.reduceAdd, Nat.reduceMul, Nat.reduceEqDiff, zw32_id, zw64_id, zupd_eq, zupd_na, zupd_ni, zupp_eq, zupp_na, zupp_ni, eq_false (show ¬ 73 + 14 * q = 0 by omega), e2, eq_true (show (dPl f q).2.2.2.2 < k by omega)]
        exact zq
  · rw [if_neg hg] at hQ
    dsimp only at hQ
    have zq := cBadP hc (i := 0) (by decide) (by decide) (hQ pp)
    by_cases hp : 0 ≤ p ∧ p ≤ 3
    · simp (disch := first | assumption | omega) only [rX_point_0, rX_point_1, rX_point_4, rX_point_7, rX_point_8, rX_point_11, rX_point_12, rX_point_13, rX_point_15, rX_point_18, kX_isProgram, kX_refuse h, Bool.false_eq_true, true_implies, false_implies, implies_true, true_and, and_true, not_true_eq_false, not_false_eq_true, zPush_I, zPush_L, zPush_R, zPush_U, Int.reduceLT, Int.reduceLE, Int.reduceEq, Int.reduceNe, Int.reduceAdd, Int.reduceSub, Int.reduceMul, Int.reduceNeg, Int.reduceToNat, Nat.reduceAdd, Nat.reduceMul, Nat.reduceEqDiff, zw32_id, zw64_id, zupd_eq, zupd_na, zupd_ni, zupp_eq, zupp_na, zupp_ni, eq_true hp, eq_true (show k < 0 by omega)]
      exact zq
    · simp (disch := first | assumption | omega) only [rX_point_0, rX_point_1, rX_point_4, rX_point_7, rX_point_8, rX_point_11, rX_point_12, rX_point_13, rX_point_15, rX_point_18, kX_isProgram, kX_refuse h, Bool.false_eq_true, true_implies, false_implies, implies_true, true_and, and_true, not_true_eq_false, not_false_eq_true, zPush_I, zPush_L, zPush_R, zPush_U, Int.reduceLT, Int.reduceLE, Int.reduceEq, Int.reduceNe, Int.reduceAdd, Int.reduceSub, Int.reduceMul, Int.reduceNeg, Int.reduceToNat, Nat.reduceAdd, Nat.reduceMul, Nat.reduceEqDiff, zw32_id, zw64_id, zupd_eq, zupd_na, zupd_ni, zupp_eq, zupp_na, zupp_ni, eq_false hp]
      exact zq
end
