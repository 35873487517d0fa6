/-! ===== nets of the class: again, the call ===== -/
section
variable {sh : zSh} {pp : zPp} {mm : zMm} {Q : zV → zSh → zPp → zMm → Prop} {f : Int → Int} {G : Int → Option (Int → Int)} {cn : Int → Int} {N D : Nat}
theorem kN_lowest {i : Nat} (hi : i ≤ 4096) : zS 70 0 [zI (i : Int), zU] [] sh pp mm Q ↔ Q (zI ((lb i : Nat) : Int)) sh pp mm := by
  have key : ∀ (d e : Nat), e + d = 12 → (zS 70 2 [zI (i : Int), zI (e : Int)] [] sh pp mm Q ↔ Q (zI ((lbU i d e : Nat) : Int)) sh pp mm) := by
    intro d
    induction d with
    | zero =>
      intro e he
      rw [rN_lowestBit_2]
      simp (disch := first | assumption | omega) only [rN_lowestBit_3, rN_lowestBit_5, rN_lowestBit_22, rN_lowestBit_23, Bool.false_eq_true, true_implies, false_implies, implies_true, true_and, and_true, not_true_eq_false, not_false_eq_true, zPush_I, zPush_L, zPush_R, zPush_U, Int.reduceLT, Int.reduceLE, Int.reduceEq, Int.reduceNe, Int.reduceAdd, Int.reduceSub, Int.reduceMul, Int.reduceNeg, Int.reduceToNat, Nat.reduceAdd, Nat.reduceMul, Nat.reduceEqDiff, zw32_id, zw64_id, zupd_eq, zupd_na, zupd_ni, zupp_eq, zupp_na, zupp_ni, eq_false (show ¬ (e : Int) < 12 by omega)]
      exact Iff.rfl
    | succ d ih =>
      intro e he
      have zi := ih (e + 1) (by omega)
      rw [show ((e + 1 : Nat) : Int) = (e : Int) + 1 by omega] at zi
      have b := bit_i (R := i) (k := e) (by omega) (by omega)
      have eu : lbU i (d + 1) e = if i.testBit e = true then e else lbU i d (e + 1) := rfl
      rw [eu, rN_lowestBit_2]
      by_cases hb : i.testBit e = true
      · rw [if_pos hb] at b ⊢
        simp (disch := first | assumption | omega) only [rN_lowestBit_3, rN_lowestBit_5, rN_lowestBit_8, rN_lowestBit_9, rN_lowestBit_10, rN_lowestBit_11, rN_lowestBit_12, rN_lowestBit_13, rN_lowestBit_22, rN_lowestBit_23, Bool.false_eq_true, true_implies, false_implies, implies_true, true_and, and_true, not_true_eq_false, not_false_eq_true, zPush_I, zPush_L, zPush_R, zPush_U, Int.reduceLT, Int.reduceLE, Int.reduceEq, Int.reduceNe, Int.reduceAdd, Int.reduceSub, Int.reduceMul, Int.reduceNeg, Int.reduceToNat, Nat.reduceAdd, Nat.reduceMul, Nat.reduceEqDiff, zw32_id, zw64_id, zupd_eq, zupd_na, zupd_ni, zupp_eq, zupp_na, zupp_ni, eq_true (show (e : Int) < 12 by omega), b]
      · rw [if_neg hb] at b ⊢
        rw [← zi]
        simp (disch := first | assumption | omega) only [rN_lowestBit_3, rN_lowestBit_5, rN_lowestBit_8, rN_lowestBit_9, rN_lowestBit_10, rN_lowestBit_11, rN_lowestBit_12, rN_lowestBit_13, rN_lowestBit_16, rN_lowestBit_19, Bool.false_eq_true, true_implies, false_implies, implies_true, true_and, and_true, not_true_eq_false, not_false_eq_true, zPush_I, zPush_L, zPush_R, zPush_U, Int.reduceLT, Int.reduceLE, Int.reduceEq, Int.reduceNe, Int.reduceAdd, Int.reduceSub, Int.reduceMul, Int.reduceNeg, Int.reduceToNat, Nat.reduceAdd, Nat.reduceMul, Nat.reduceEqDiff, zw32_id, zw64_id, zupd_eq, zupd_na, zupd_ni, zupp_eq, zupp_na, zupp_ni, eq_true (show (e : Int) < 12 by omega), b]
  have k := key 12 0 (by omega)
  simp (disch := first | assumption | omega) only [rN_lowestBit_0, rN_lowestBit_1, Bool.false_eq_true, true_implies, false_implies, implies_true, true_and, and_true, not_true_eq_false, not_false_eq_true, zPush_I, zPush_L, zPush_R, zPush_U, Int.reduceLT, Int.reduceLE, Int.reduceEq, Int.reduceNe, Int.reduceAdd, Int.reduceSub, Int.reduceMul, Int.reduceNeg, Int.reduceToNat, Nat.reduceAdd, Nat.reduceMul, Nat.reduceEqDiff, zw32_id, zw64_id, zupd_eq, zupd_na, zupd_ni, zupp_eq, zupp_na, zupp_ni]
  exact k
theorem cAgA (h : zLy sh pp) (ok : fOk f) (h3 : mm 38 3 = (nE f : Int)) {L s : Int} {C o i : Nat} (hL : L ≤ 1000000) (ho : o < 1024) (hi : i ≤ 2 ^ nE f) : zS 69 29 [zR 38, zI L, zI s, zI (C : Int), zI (o : Int), zI (i : Int), zU] [] sh pp mm Q ↔ zS 69 56 [zR 38, zI (min L (if pcN o 12 ≤ 2 then s else 1000000)), zI s, zI (C : Int), zI (o : Int), zI (i : Int), zU] [] sh pp mm Q := by
  have k38 := k_38 h
  have p38 := p_13_5 h
  have l := nE_le ok
  have x1 := zshl1 (nE f) (by omega)
  have kb := fun (Q : zV → zSh → zPp → zMm → Prop) => kJ_bits (sh := sh) (pp := pp) (mm := mm) (Q := Q) ho
  have le : ¬ ((2 ^ nE f : Nat) : Int) < (i : Int) := by omega
  rw [rN_leastPrice_29]
  by_cases hs : s < L
  · by_cases hp : pcN o 12 ≤ 2
    · rw [if_pos hp, Int.min_eq_right (by omega)]
      simp (disch := first | assumption | omega) only [rN_leastPrice_31, rN_leastPrice_32, rN_leastPrice_33, rN_leastPrice_36, rN_leastPrice_37, rN_leastPrice_40, rN_leastPrice_41, rN_leastPrice_42, rN_leastPrice_45, rN_leastPrice_47, rN_leastPrice_50, rN_leastPrice_51, rN_leastPrice_54, rN_leastPrice_55, Bool.false_eq_true, true_implies, false_implies, implies_true, true_and, and_true, not_true_eq_false, not_false_eq_true, zPush_I, zPush_L, zPush_R, zPush_U, Int.reduceLT, Int.reduceLE, Int.reduceEq, Int.reduceNe, Int.reduceAdd, Int.reduceSub, Int.reduceMul, Int.reduceNeg, Int.reduceToNat, Nat.reduceAdd, Nat.reduceMul, Nat.reduceEqDiff, zw32_id, zw64_id, zupd_eq, zupd_na, zupd_ni, zupp_eq, zupp_na, zupp_ni, h3, x1, kb, eq_false le, eq_true hs, eq_false (show ¬ (2 : Int) < ((pcN o 12 : Nat) : Int) by omega)]
    · rw [if_neg hp, Int.min_eq_left hL]
      simp (disch := first | assumption | omega) only [rN_leastPrice_31, rN_leastPrice_32, rN_leastPrice_33, rN_leastPrice_36, rN_leastPrice_37, rN_leastPrice_40, rN_leastPrice_41, rN_leastPrice_42, rN_leastPrice_45, rN_leastPrice_47, rN_leastPrice_50, rN_leastPrice_51, rN_leastPrice_54, rN_leastPrice_55, Bool.false_eq_true, true_implies, false_implies, implies_true, true_and, and_true, not_true_eq_false, not_false_eq_true, zPush_I, zPush_L, zPush_R, zPush_U, Int.reduceLT, Int.reduceLE, Int.reduceEq, Int.reduceNe, Int.reduceAdd, Int.reduceSub, Int.reduceMul, Int.reduceNeg, Int.reduceToNat, Nat.reduceAdd, Nat.reduceMul, Nat.reduceEqDiff, zw32_id, zw64_id, zupd_eq, zupd_na, zupd_ni, zupp_eq, zupp_na, zupp_ni, h3, x1, kb, eq_false le, eq_true hs, eq_true (show (2 : Int) < ((pcN o 12 : Nat) : Int) by omega)]
  · rw [Int.min_eq_left (by split <;> omega)]
    simp (disch := first | assumption | omega) only [rN_leastPrice_31, rN_leastPrice_32, rN_leastPrice_33, rN_leastPrice_36, rN_leastPrice_37, rN_leastPrice_40, rN_leastPrice_41, rN_leastPrice_42, Bool.false_eq_true, true_implies, false_implies, implies_true, true_and, and_true, not_true_eq_false, not_false_eq_true, zPush_I, zPush_L, zPush_R, zPush_U, Int.reduceLT, Int.reduceLE, Int.reduceEq, Int.reduceNe, Int.reduceAdd, Int.reduceSub, Int.reduceMul, Int.reduceNeg, Int.reduceToNat, Nat.reduceAdd, Nat.reduceMul, Nat.reduceEqDiff, zw32_id, zw64_id, zupd_eq, zupd_na, zupd_ni, zupp_eq, zupp_na, zupp_ni, h3, x1, eq_false le, eq_false hs]
theorem cAgB (h : zLy sh pp) (ok : fOk f) (hr : ∀ e, e < nE f → nRw f mm e) {L s : Int} {C o i e : Nat} (hs : -100000 ≤ s ∧ s ≤ 100000) (hC : C < 4096) (ho : o < 1024) (hi : i ≤ 4096) (he : e < nE f) : zS 69 75 [zR 38, zI L, zI s, zI (C : Int), zI (o : Int), zI (i : Int), zI (e : Int)] [] sh pp mm Q ↔ zS 69 29 [zR 38, zI L, zI (s + (if C.testBit e = true then -nPr f e else nPr f e)), zI ((C ^^^ 2 ^ e : Nat) : Int), zI ((o ^^^ hgO (nA f) (nC f) e : Nat) : Int), zI ((i : Int) + 1), zU] [] sh pp mm Q := by
  have k38 := k_38 h
  have p38 := p_13_5 h
  have k41 := k_41 h
  have l41 := l_41 h
  have p41 := p_38_6 h
  have k45 := k_45 h
  have l45 := l_45 h
  have p45 := p_38_11 h
  have l := nE_le ok
  have x1 := zshl1 e (by omega)
  have p2 : 2 ^ e < 2 ^ 12 := Nat.pow_lt_pow_right (by decide) (by omega)
  have x2 : zxor (C : Int) ((2 ^ e : Nat) : Int) = ((C ^^^ 2 ^ e : Nat) : Int) := zxorN (by omega) (by omega)
  have ol := hgO_lt (A := nA f) (C := nC f) (e := e) (nAC ok he).2.2.2.2.2
  have x3 : zxor (o : Int) ((hgO (nA f) (nC f) e : Nat) : Int) = ((o ^^^ hgO (nA f) (nC f) e : Nat) : Int) := zxorN (by omega) (by omega)
  have cl : C ^^^ 2 ^ e < 2 ^ 12 := Nat.xor_lt_two_pow (by omega) p2
  have b := bit_i (R := C ^^^ 2 ^ e) (k := e) (by omega) (by omega)
  rw [tb_xs] at b
  obtain ⟨-, -, r3, -, -, -, r7⟩ := hr e he
  have pb := nPr_bd ok he
  by_cases hb : C.testBit e = true
  · rw [hb] at b
    simp only [Bool.not_true, Bool.false_eq_true, if_false] at b
    rw [if_pos hb]
    simp (disch := first | assumption | omega) only [rN_leastPrice_75, rN_leastPrice_76, rN_leastPrice_77, rN_leastPrice_79, rN_leastPrice_80, rN_leastPrice_81, rN_leastPrice_82, rN_leastPrice_84, rN_leastPrice_85, rN_leastPrice_88, rN_leastPrice_90, rN_leastPrice_91, rN_leastPrice_92, rN_leastPrice_94, rN_leastPrice_95, rN_leastPrice_96, rN_leastPrice_98, rN_leastPrice_99, rN_leastPrice_100, rN_leastPrice_101, rN_leastPrice_102, rN_leastPrice_105, rN_leastPrice_106, rN_leastPrice_109, rN_leastPrice_111, rN_leastPrice_112, rN_leastPrice_115, rN_leastPrice_116, rN_leastPrice_119, rN_leastPrice_121, rN_leastPrice_122, rN_leastPrice_123, rN_leastPrice_124, rN_leastPrice_125, rN_leastPrice_128, Bool.false_eq_true, true_implies, false_implies, implies_true, true_and, and_true, not_true_eq_false, not_false_eq_true, zPush_I, zPush_L, zPush_R, zPush_U, Int.reduceLT, Int.reduceLE, Int.reduceEq, Int.reduceNe, Int.reduceAdd, Int.reduceSub, Int.reduceMul, Int.reduceNeg, Int.reduceToNat, Nat.reduceAdd, Nat.reduceMul, Nat.reduceEqDiff, zw32_id, zw64_id, zupd_eq, zupd_na, zupd_ni, zupp_eq, zupp_na, zupp_ni, p41, p45, x1, x2, x3, b, r3, r7]
  · have hb' : C.testBit e = false := by simpa using hb
    rw [hb'] at b
    simp only [Bool.not_false, if_true] at b
    rw [if_neg hb]
    simp (disch := first | assumption | omega) only [rN_leastPrice_75, rN_leastPrice_76, rN_leastPrice_77, rN_leastPrice_79, rN_leastPrice_80, rN_leastPrice_81, rN_leastPrice_82, rN_leastPrice_84, rN_leastPrice_85, rN_leastPrice_88, rN_leastPrice_90, rN_leastPrice_91, rN_leastPrice_92, rN_leastPrice_94, rN_leastPrice_95, rN_leastPrice_96, rN_leastPrice_98, rN_leastPrice_99, rN_leastPrice_100, rN_leastPrice_101, rN_leastPrice_102, rN_leastPrice_105, rN_leastPrice_106, rN_leastPrice_109, rN_leastPrice_111, rN_leastPrice_112, rN_leastPrice_115, rN_leastPrice_116, rN_leastPrice_119, rN_leastPrice_121, rN_leastPrice_122, rN_leastPrice_123, rN_leastPrice_124, rN_leastPrice_125, rN_leastPrice_128, Bool.false_eq_true, true_implies, false_implies, implies_true, true_and, and_true, not_true_eq_false, not_false_eq_true, zPush_I, zPush_L, zPush_R, zPush_U, Int.reduceLT, Int.reduceLE, Int.reduceEq, Int.reduceNe, Int.reduceAdd, Int.reduceSub, Int.reduceMul, Int.reduceNeg, Int.reduceToNat, Nat.reduceAdd, Nat.reduceMul, Nat.reduceEqDiff, zw32_id, zw64_id, zupd_eq, zupd_na, zupd_ni, zupp_eq, zupp_na, zupp_ni, p41, p45, x1, x2, x3, b, r3, r7]
theorem cAgL (h : zLy sh pp) (ok : fOk f) (hK : cNtK f mm) (hQ : zS 69 131 [zR 38, zI (agF f), zU, zU, zU, zU, zU] [] sh pp mm Q) : ∀ (d j : Nat), j + d + 1 = 2 ^ nE f → zS 69 29 [zR 38, zI (mnF (fun q => agG f (gy q)) j), zI (prS f (gy j) (nE f)), zI ((gy j : Nat) : Int), zI ((oddS (nA f) (nC f) (2 ^ nE f - 1) (nE f) ^^^ oddS (nA f) (nC f) (gy j) (nE f) : Nat) : Int), zI ((j : Int) + 1), zU] [] sh pp mm Q := by
  have k38 := k_38 h
  have p38 := p_13_5 h
  have l := nE_le ok
  have t : 2 ^ nE f ≤ 4096 := by simpa using Nat.pow_le_pow_right (n := 2) (by omega) l
  have hac : ∀ e, e < nE f → nA f e ≤ 9 ∧ nC f e ≤ 9 := fun e he => (nAC ok he).2.2.2.2.2
  obtain ⟨⟨-, -, -, h3⟩, hr, -⟩ := hK
  have A : ∀ j, j < 2 ^ nE f → (zS 69 29 [zR 38, zI (mnF (fun q => agG f (gy q)) j), zI (prS f (gy j) (nE f)), zI ((gy j : Nat) : Int), zI ((oddS (nA f) (nC f) (2 ^ nE f - 1) (nE f) ^^^ oddS (nA f) (nC f) (gy j) (nE f) : Nat) : Int), zI ((j : Int) + 1), zU] [] sh pp mm Q ↔ zS 69 63 [zR 38, zI (mnF (fun q => agG f (gy q)) (j + 1)), zI (prS f (gy j) (nE f)), zI ((gy j : Nat) : Int), zI ((oddS (nA f) (nC f) (2 ^ nE f - 1) (nE f) ^^^ oddS (nA f) (nC f) (gy j) (nE f) : Nat) : Int), zI ((j : Int) + 1), zI ((lb (j + 1) : Nat) : Int)] [] sh pp mm Q) := by
    intro j hj
    have o1 := oddS_lt (R := 2 ^ nE f - 1) (nE f) hac
    have o2 := oddS_lt (R := gy j) (nE f) hac
    have ox : oddS (nA f) (nC f) (2 ^ nE f - 1) (nE f) ^^^ oddS (nA f) (nC f) (gy j) (nE f) < 1024 := Nat.xor_lt_two_pow (n := 10) o1 o2
    have eM : mnF (fun q => agG f (gy q)) (j + 1) = min (mnF (fun q => agG f (gy q)) j) (if pcN (oddS (nA f) (nC f) (2 ^ nE f - 1) (nE f) ^^^ oddS (nA f) (nC f) (gy j) (nE f)) 12 ≤ 2 then prS f (gy j) (nE f) else 1000000) := rfl
    have k1 := cAgA (Q := Q) h ok h3 (L := mnF (fun q => agG f (gy q)) j) (s := prS f (gy j) (nE f)) (C := gy j) (i := j + 1) (mnF_M _ _) ox (by omega)
    have k2 := fun (Q : zV → zSh → zPp → zMm → Prop) => kN_lowest (sh := sh) (pp := pp) (mm := mm) (Q := Q) (i := j + 1) (by omega)
    rw [show ((j + 1 : Nat) : Int) = (j : Int) + 1 by omega] at k1 k2
    rw [k1, eM]
    simp only [rN_leastPrice_56, rN_leastPrice_58, rN_leastPrice_61, k2, zPush_I]
  intro d
  induction d with
  | zero =>
    intro j hj
    have el : lb (j + 1) = nE f := by rw [show j + 1 = 2 ^ nE f by omega]; exact lb_2 l
    have em : mnF (fun q => agG f (gy q)) (j + 1) = agF f := by rw [show j + 1 = 2 ^ nE f by omega]; exact agF_gy ok
    rw [A j (by omega), el, em]
    simp (disch := first | assumption | omega) only [rN_leastPrice_63, rN_leastPrice_65, rN_leastPrice_66, rN_leastPrice_69, rN_leastPrice_72, Bool.false_eq_true, true_implies, false_implies, implies_true, true_and, and_true, not_true_eq_false, not_false_eq_true, zPush_I, zPush_L, zPush_R, zPush_U, Int.reduceLT, Int.reduceLE, Int.reduceEq, Int.reduceNe, Int.reduceAdd, Int.reduceSub, Int.reduceMul, Int.reduceNeg, Int.reduceToNat, Nat.reduceAdd, Nat.reduceMul, Nat.reduceEqDiff, zw32_id, zw64_id, zupd_eq, zupd_na, zupd_ni, zupp_eq, zupp_na, zupp_ni, h3, Int.lt_irrefl]
    exact hQ
  | succ d ih =>
    intro j hj
    have n := ih (j + 1) (by omega)
    obtain ⟨e1, e2⟩ := lb_lt (i := j + 1) (E := nE f) (by omega) (by omega) l
    have g1 : gy (j + 1) = gy j ^^^ 2 ^ lb (j + 1) := rfl
    have o1 := oddS_lt (R := 2 ^ nE f - 1) (nE f) hac
    have o2 := oddS_lt (R := gy j) (nE f) hac
    have ox : oddS (nA f) (nC f) (2 ^ nE f - 1) (nE f) ^^^ oddS (nA f) (nC f) (gy j) (nE f) < 1024 := Nat.xor_lt_two_pow (n := 10) o1 o2
    have gl := gy_lt l j (by omega)
    have pb := prS_bd ok (S := gy j) (nE f) (Nat.le_refl _)
    have eo : oddS (nA f) (nC f) (2 ^ nE f - 1) (nE f) ^^^ oddS (nA f) (nC f) (gy j ^^^ 2 ^ lb (j + 1)) (nE f) = oddS (nA f) (nC f) (2 ^ nE f - 1) (nE f) ^^^ oddS (nA f) (nC f) (gy j) (nE f) ^^^ hgO (nA f) (nC f) (lb (j + 1)) := by
      rw [oddS_x (nE f) e1, ← or_xor (nAC ok e1).2.2.2.2.1, Nat.xor_assoc]
      rfl
    rw [g1, prS_x (nE f) e1, eo] at n
    have k1 := cAgB (Q := Q) h ok hr (L := mnF (fun q => agG f (gy q)) (j + 1)) (s := prS f (gy j) (nE f)) (C := gy j) (o := oddS (nA f) (nC f) (2 ^ nE f - 1) (nE f) ^^^ oddS (nA f) (nC f) (gy j) (nE f)) (i := j + 1) (by omega) (by omega) ox (by omega) e1
    rw [show ((j + 1 : Nat) : Int) = (j : Int) + 1 by omega] at k1 n
    rw [A j (by omega)]
    have lt : ((lb (j + 1) : Nat) : Int) < (nE f : Int) := by omega
    simp (disch := assumption) only [rN_leastPrice_63, rN_leastPrice_65, rN_leastPrice_66, rN_leastPrice_69, h3, eq_true lt, true_implies, not_true_eq_false, false_implies, and_true]
    rw [k1]
    exact n
theorem cAgain (hc : cOk f G cn N D sh pp mm) (ok : fOk f) (hQ1 : ¬ hgB f = true → ∀ m, cOk f G (bump cn 1) N D sh pp m → frX sh mm sh m → Q (zI (-3)) sh pp m) (hQ2 : hgB f = true → ∀ m, cOk f G cn N D sh pp m → frX sh mm sh m → Q (zI (agF f)) sh pp m) : zS 123 0 [zR 13] [] sh pp mm Q := by
  have h := hc.1
  have k13 := k_13 h
  have k14 := k_14 h
  have p14 := p_13_0 h
  have k38 := k_38 h
  have p38 := p_13_5 h
  have l := nE_le ok
  have t0 : 0 < 2 ^ nE f := Nat.pow_pos (by omega)
  simp (disch := first | assumption | omega) only [rX_again_0, rX_again_1, rX_again_4, rX_again_5, rX_again_8, Bool.false_eq_true, true_implies, false_implies, implies_true, true_and, and_true, not_true_eq_false, not_false_eq_true, zPush_I, zPush_L, zPush_R, zPush_U, Int.reduceLT, Int.reduceLE, Int.reduceEq, Int.reduceNe, Int.reduceAdd, Int.reduceSub, Int.reduceMul, Int.reduceNeg, Int.reduceToNat, Nat.reduceAdd, Nat.reduceMul, Nat.reduceEqDiff, zw32_id, zw64_id, zupd_eq, zupd_na, zupd_ni, zupp_eq, zupp_na, zupp_ni, p14, p38]
  refine cLearn hc ok (fun m1 c1 k1 k10 f1 => ?_)
  have e1 := k1.1.2.1
  by_cases o : hgB f = true
  · rw [if_pos o] at e1
    simp (disch := first | assumption | omega) only [rX_again_11, rX_again_12, rX_again_15, rX_again_18, rX_again_29, rX_again_30, rX_again_33, Bool.false_eq_true, true_implies, false_implies, implies_true, true_and, and_true, not_true_eq_false, not_false_eq_true, zPush_I, zPush_L, zPush_R, zPush_U, Int.reduceLT, Int.reduceLE, Int.reduceEq, Int.reduceNe, Int.reduceAdd, Int.reduceSub, Int.reduceMul, Int.reduceNeg, Int.reduceToNat, Nat.reduceAdd, Nat.reduceMul, Nat.reduceEqDiff, zw32_id, zw64_id, zupd_eq, zupd_na, zupd_ni, zupp_eq, zupp_na, zupp_ni, p38, e1]
    by_cases e16 : m1 38 16 = -1
    · have q := hQ2 o
      have h0 := k1.1.1
      simp (disch := first | assumption | omega) only [rN_leastPrice_0, rN_leastPrice_1, rN_leastPrice_4, rN_leastPrice_5, rN_leastPrice_13, rN_leastPrice_15, rN_leastPrice_16, rN_leastPrice_17, rN_leastPrice_18, rN_leastPrice_19, rN_leastPrice_20, rN_leastPrice_21, rN_leastPrice_24, rN_leastPrice_26, rN_leastPrice_27, Bool.false_eq_true, true_implies, false_implies, implies_true, true_and, and_true, not_true_eq_false, not_false_eq_true, zPush_I, zPush_L, zPush_R, zPush_U, Int.reduceLT, Int.reduceLE, Int.reduceEq, Int.reduceNe, Int.reduceAdd, Int.reduceSub, Int.reduceMul, Int.reduceNeg, Int.reduceToNat, Nat.reduceAdd, Nat.reduceMul, Nat.reduceEqDiff, zw32_id, zw64_id, zupd_eq, zupd_na, zupd_ni, zupp_eq, zupp_na, zupp_ni, eq_true e16, h0]
      have k := cAgL (Q := fun v sh pp mm => zS 123 36 [zU] (zPush v []) sh pp mm Q) h ok k1 ?_ (2 ^ nE f - 1) 0 (by omega)
      · have z1 : mnF (fun q => agG f (gy q)) 0 = 1000000 := rfl
        have z2 : gy 0 = 0 := rfl
        have z3 : ∀ n, prS f 0 n = 0 := fun n => by
          induction n with
          | zero => rfl
          | succ n ih =>
            show prS f 0 n + (if (0 : Nat).testBit n = true then nPr f n else 0) = 0
            rw [ih, Nat.zero_testBit]
            rfl
        rw [z1, z2, z3, oddS_0, Nat.xor_zero] at k
        exact k
      · obtain ⟨m2, hm2⟩ : ∃ m2, m2 = zupd m1 38 16 (agF f) := ⟨_, rfl⟩
        have f2 : frP (fun x j => x = 38 ∧ j = 16) m1 m2 := by
          rw [hm2]
          exact frP_up (frP_rf _ _) ⟨rfl, rfl⟩
        have en : ∀ j, j ≠ 16 → m2 38 j = m1 38 j := fun j hj => f2 _ _ (by omega)
        have K2 : cNtK f m2 := by
          obtain ⟨⟨b1, b2, b3, b4⟩, b5, b6, b7, b8⟩ := k1
          refine ⟨⟨by rw [en 0 (by decide)]; exact b1, by rw [en 1 (by decide)]; exact b2, by rw [en 2 (by decide)]; exact b3, by rw [en 3 (by decide)]; exact b4⟩, fun e he => nRw_fr (b5 e he) (fun x a b => f2 _ _ (by omega)), ?_, by rw [en 15 (by decide)]; exact b7, Or.inr (by rw [hm2, zupd_eq])⟩
          rw [en 14 (by decide)]
          have eb : (fun k => m2 46 k) = (fun k => m1 46 k) := by funext k; exact f2 _ _ (by omega)
          rw [eb]
          exact b6
        have c2 := cOk_N c1 (frP_wd f2 (fun x j hj => by omega)) (Or.inr ⟨by rw [en 10 (by decide)]; exact k10, K2⟩)
        have q2 := q m2 c2 (frX_tr (frX_nt f1) (frX_P f2 (fun x j hj => by omega)))
        rw [hm2] at q2
        simp (disch := first | assumption | omega) only [rN_leastPrice_131, rN_leastPrice_132, rN_leastPrice_133, rN_leastPrice_136, rN_leastPrice_137, rN_leastPrice_140, rX_again_36, Bool.false_eq_true, true_implies, false_implies, implies_true, true_and, and_true, not_true_eq_false, not_false_eq_true, zPush_I, zPush_L, zPush_R, zPush_U, Int.reduceLT, Int.reduceLE, Int.reduceEq, Int.reduceNe, Int.reduceAdd, Int.reduceSub, Int.reduceMul, Int.reduceNeg, Int.reduceToNat, Nat.reduceAdd, Nat.reduceMul, Nat.reduceEqDiff, zw32_id, zw64_id, zupd_eq, zupd_na, zupd_ni, zupp_eq, zupp_na, zupp_ni]
        exact q2
    · have e : m1 38 16 = agF f := by
        rcases k1.2.2.2.2 with x | x
        · exact absurd x e16
        · exact x
      have q := hQ2 o m1 c1 (frX_nt f1)
      rw [← e] at q
      simp (disch := first | assumption | omega) only [rN_leastPrice_0, rN_leastPrice_1, rN_leastPrice_4, rN_leastPrice_5, rN_leastPrice_8, rN_leastPrice_9, rN_leastPrice_12, rX_again_36, Bool.false_eq_true, true_implies, false_implies, implies_true, true_and, and_true, not_true_eq_false, not_false_eq_true, zPush_I, zPush_L, zPush_R, zPush_U, Int.reduceLT, Int.reduceLE, Int.reduceEq, Int.reduceNe, Int.reduceAdd, Int.reduceSub, Int.reduceMul, Int.reduceNeg, Int.reduceToNat, Nat.reduceAdd, Nat.reduceMul, Nat.reduceEqDiff, zw32_id, zw64_id, zupd_eq, zupd_na, zupd_ni, zupp_eq, zupp_na, zupp_ni, eq_false e16]
      exact q
  · rw [if_neg o] at e1
    have q := cBadP c1 (i := 1) (by decide) (by decide) (fun m a1 a2 => hQ1 o m a1 (frX_tr (frX_nt f1) a2))
    simp (disch := first | assumption | omega) only [rX_again_11, rX_again_12, rX_again_15, rX_again_18, rX_again_21, rX_again_22, rX_again_23, rX_again_25, rX_again_28, kX_refuse h, Bool.false_eq_true, true_implies, false_implies, implies_true, true_and, and_true, not_true_eq_false, not_false_eq_true, zPush_I, zPush_L, zPush_R, zPush_U, Int.reduceLT, Int.reduceLE, Int.reduceEq, Int.reduceNe, Int.reduceAdd, Int.reduceSub, Int.reduceMul, Int.reduceNeg, Int.reduceToNat, Nat.reduceAdd, Nat.reduceMul, Nat.reduceEqDiff, zw32_id, zw64_id, zupd_eq, zupd_na, zupd_ni, zupp_eq, zupp_na, zupp_ni, p38, e1]
    exact q
end
