/-! ===== nets of the class: what is learned of an edge ===== -/
def bc1 (x : Int) : Int := zw32 (x - zand (zushr x 1) 1431655765)
def bc2 (x : Int) : Int := zw32 (zand x 858993459 + zand (zushr x 2) 858993459)
def bc3 (x : Int) : Int := zand (zw32 (x + zushr x 4)) 252645135
def bc4 (x : Int) : Int := zw32 (x + zushr x 8)
def bc5 (x : Int) : Int := zw32 (x + zushr x 16)
def bc6 (x : Int) : Int := zand x 63
theorem bc_f : (List.range 1024).all (fun O => decide (bc6 (bc5 (bc4 (bc3 (bc2 (bc1 (O : Int)))))) = ((pcN O 12 : Nat) : Int))) = true := by decide +kernel
theorem or_xor {a c : Nat} (h : a ≠ c) : 2 ^ a ||| 2 ^ c = 2 ^ a ^^^ 2 ^ c := by
  apply Nat.eq_of_testBit_eq
  intro i
  rw [Nat.testBit_or, Nat.testBit_xor, Nat.testBit_two_pow, Nat.testBit_two_pow]
  by_cases h1 : a = i
  · by_cases h2 : c = i
    · omega
    · simp [h1, h2]
  · simp [h1]
def nRw (f : Int → Int) (mm : zMm) (e : Nat) : Prop := mm 39 (e : Int) = (nA f e : Int) ∧ mm 40 (e : Int) = (nC f e : Int) ∧ mm 41 (e : Int) = (hgO (nA f) (nC f) e : Nat) ∧ mm 42 (e : Int) = sg (nX f (nC f e) - nX f (nA f e)) ∧ mm 43 (e : Int) = sg (nY f (nC f e) - nY f (nA f e)) ∧ mm 44 (e : Int) = (twN f e e : Nat) ∧ mm 45 (e : Int) = nPr f e
theorem twN_lt {f : Int → Int} {e : Nat} : ∀ i, twN f e i < 2 ^ i
  | 0 => by show 0 < 1; omega
  | i + 1 => by
    have ih := twN_lt (f := f) (e := e) i
    have p : 2 ^ (i + 1) = 2 ^ i + 2 ^ i := by rw [Nat.pow_succ]; omega
    unfold twN
    split
    · exact Nat.or_lt_two_pow (by omega) (by omega)
    · omega
section
variable {sh : zSh} {pp : zPp} {mm : zMm} {Q : zV → zSh → zPp → zMm → Prop} {f : Int → Int} {G : Int → Option (Int → Int)} {cn : Int → Int} {N D : Nat}
theorem kJ_cmp0 (x : Int) : zS 255 0 [zI x, zI 0] [] sh pp mm Q ↔ Q (zI (sg x)) sh pp mm := by
  unfold sg
  by_cases h1 : x < 0
  · simp (disch := first | assumption | omega) only [rJ_compare_0, rJ_compare_1, rJ_compare_2, rJ_compare_5, rJ_compare_6, rJ_compare_9, rJ_compare_10, rJ_compare_11, rJ_compare_14, rJ_compare_15, rJ_compare_18, rJ_compare_19, Bool.false_eq_true, true_implies, false_implies, implies_true, true_and, and_true, not_true_eq_false, not_false_eq_true, zPush_I, zPush_L, zPush_R, zPush_U, Int.reduceLT, Int.reduceLE, Int.reduceEq, Int.reduceNe, Int.reduceAdd, Int.reduceSub, Int.reduceMul, Int.reduceNeg, Int.reduceToNat, Nat.reduceAdd, Nat.reduceMul, Nat.reduceEqDiff, zw32_id, zw64_id, zupd_eq, zupd_na, zupd_ni, zupp_eq, zupp_na, zupp_ni, eq_true h1, if_true]
  · by_cases h2 : 0 < x
    · simp (disch := first | assumption | omega) only [rJ_compare_0, rJ_compare_1, rJ_compare_2, rJ_compare_5, rJ_compare_6, rJ_compare_9, rJ_compare_10, rJ_compare_11, rJ_compare_14, rJ_compare_15, rJ_compare_18, rJ_compare_19, Bool.false_eq_true, true_implies, false_implies, implies_true, true_and, and_true, not_true_eq_false, not_false_eq_true, zPush_I, zPush_L, zPush_R, zPush_U, Int.reduceLT, Int.reduceLE, Int.reduceEq, Int.reduceNe, Int.reduceAdd, Int.reduceSub, Int.reduceMul, Int.reduceNeg, Int.reduceToNat, Nat.reduceAdd, Nat.reduceMul, Nat.reduceEqDiff, zw32_id, zw64_id, zupd_eq, zupd_na, zupd_ni, zupp_eq, zupp_na, zupp_ni, eq_false h1, eq_true h2, eq_false (show ¬ x = 0 by omega), if_true, if_false]
    · simp (disch := first | assumption | omega) only [rJ_compare_0, rJ_compare_1, rJ_compare_2, rJ_compare_5, rJ_compare_6, rJ_compare_9, rJ_compare_10, rJ_compare_11, rJ_compare_14, rJ_compare_15, rJ_compare_18, rJ_compare_19, Bool.false_eq_true, true_implies, false_implies, implies_true, true_and, and_true, not_true_eq_false, not_false_eq_true, zPush_I, zPush_L, zPush_R, zPush_U, Int.reduceLT, Int.reduceLE, Int.reduceEq, Int.reduceNe, Int.reduceAdd, Int.reduceSub, Int.reduceMul, Int.reduceNeg, Int.reduceToNat, Nat.reduceAdd, Nat.reduceMul, Nat.reduceEqDiff, zw32_id, zw64_id, zupd_eq, zupd_na, zupd_ni, zupp_eq, zupp_na, zupp_ni, eq_false h1, eq_false h2, eq_true (show x = 0 by omega), if_false]
theorem kJ_bits {O : Nat} (hO : O < 1024) : zS 256 0 [zI (O : Int)] [] sh pp mm Q ↔ Q (zI ((pcN O 12 : Nat) : Int)) sh pp mm := by
  have z := List.all_eq_true.mp bc_f O (List.mem_range.mpr hO)
  rw [decide_eq_true_eq] at z
  rw [← z]
  have s1 : ∀ x : Int, zS 256 0 [zI x] [] sh pp mm Q ↔ zS 256 10 [zI (bc1 x)] [] sh pp mm Q := fun x => by
    unfold bc1
    simp only [rJ_bitCount_0, rJ_bitCount_1, rJ_bitCount_2, rJ_bitCount_3, rJ_bitCount_4, rJ_bitCount_7, rJ_bitCount_8, rJ_bitCount_9]
  have s2 : ∀ x : Int, zS 256 10 [zI x] [] sh pp mm Q ↔ zS 256 24 [zI (bc2 x)] [] sh pp mm Q := fun x => by
    unfold bc2
    simp only [rJ_bitCount_10, rJ_bitCount_11, rJ_bitCount_14, rJ_bitCount_15, rJ_bitCount_16, rJ_bitCount_17, rJ_bitCount_18, rJ_bitCount_21, rJ_bitCount_22, rJ_bitCount_23]
  have s3 : ∀ x : Int, zS 256 24 [zI x] [] sh pp mm Q ↔ zS 256 34 [zI (bc3 x)] [] sh pp mm Q := fun x => by
    unfold bc3
    simp only [rJ_bitCount_24, rJ_bitCount_25, rJ_bitCount_26, rJ_bitCount_27, rJ_bitCount_28, rJ_bitCount_29, rJ_bitCount_32, rJ_bitCount_33]
  have s4 : ∀ x : Int, zS 256 34 [zI x] [] sh pp mm Q ↔ zS 256 41 [zI (bc4 x)] [] sh pp mm Q := fun x => by
    unfold bc4
    simp only [rJ_bitCount_34, rJ_bitCount_35, rJ_bitCount_36, rJ_bitCount_38, rJ_bitCount_39, rJ_bitCount_40]
  have s5 : ∀ x : Int, zS 256 41 [zI x] [] sh pp mm Q ↔ zS 256 48 [zI (bc5 x)] [] sh pp mm Q := fun x => by
    unfold bc5
    simp only [rJ_bitCount_41, rJ_bitCount_42, rJ_bitCount_43, rJ_bitCount_45, rJ_bitCount_46, rJ_bitCount_47]
  have s6 : ∀ x : Int, zS 256 48 [zI x] [] sh pp mm Q ↔ Q (zI (bc6 x)) sh pp mm := fun x => by
    unfold bc6
    simp only [rJ_bitCount_48, rJ_bitCount_49, rJ_bitCount_51, rJ_bitCount_52]
  rw [s1, s2, s3, s4, s5, s6]
theorem kN_twins (h : zLy sh pp) (ok : fOk f) {e : Nat} (he : e < nE f) (hE : ∀ i : Nat, i ≤ e → mm 41 (i : Int) = (hgO (nA f) (nC f) i : Nat)) : zS 57 0 [zR 38, zI (e : Int), zU, zU] [] sh pp mm Q ↔ Q (zI (twN f e e : Nat)) sh pp mm := by
  have k38 := k_38 h
  have p38 := p_13_5 h
  have k41 := k_41 h
  have l41 := l_41 h
  have p41 := p_38_6 h
  have l := nE_le ok
  have ee := hE e (Nat.le_refl _)
  have key : ∀ (d i : Nat), i + d = e → (zS 57 4 [zR 38, zI (e : Int), zI (twN f e i : Nat), zI (i : Int)] [] sh pp mm Q ↔ Q (zI (twN f e e : Nat)) sh pp mm) := by
    intro d
    induction d with
    | zero =>
      intro i hi
      have hi : i = e := by omega
      subst hi
      rw [rN_twinsAhead_4]
      simp (disch := first | assumption | omega) only [rN_twinsAhead_5, rN_twinsAhead_6, rN_twinsAhead_40, rN_twinsAhead_41, Bool.false_eq_true, true_implies, false_implies, implies_true, true_and, and_true, not_true_eq_false, not_false_eq_true, zPush_I, zPush_L, zPush_R, zPush_U, Int.reduceLT, Int.reduceLE, Int.reduceEq, Int.reduceNe, Int.reduceAdd, Int.reduceSub, Int.reduceMul, Int.reduceNeg, Int.reduceToNat, Nat.reduceAdd, Nat.reduceMul, Nat.reduceEqDiff, zw32_id, zw64_id, zupd_eq, zupd_na, zupd_ni, zupp_eq, zupp_na, zupp_ni, Int.lt_irrefl]
    | succ d ih =>
      intro i hi
      have zi := ih (i + 1) (by omega)
      rw [show ((i + 1 : Nat) : Int) = (i : Int) + 1 by omega] at zi
      have ei := hE i (by omega)
      have tl := twN_lt (f := f) (e := e) i
      have p12 : 2 ^ i ≤ 2 ^ 12 := Nat.pow_le_pow_right (by decide) (by omega)
      have x1 := zshl1 i (by omega)
      have x2 : zor ((twN f e i : Nat) : Int) ((2 ^ i : Nat) : Int) = ((twN f e i ||| 2 ^ i : Nat) : Int) := zorN (by omega) (by omega)
      have x3 : zor ((twN f e i : Nat) : Int) 0 = ((twN f e i : Nat) : Int) := by
        have := zorN (a := twN f e i) (b := 0) (by omega) (by omega)
        rw [Nat.or_zero] at this
        exact this
      have et : twN f e (i + 1) = if hgO (nA f) (nC f) i = hgO (nA f) (nC f) e then twN f e i ||| 2 ^ i else twN f e i := rfl
      rw [← zi, et, rN_twinsAhead_4]
      by_cases hc : hgO (nA f) (nC f) i = hgO (nA f) (nC f) e
      · rw [if_pos hc]
        simp (disch := first | assumption | omega) only [rN_twinsAhead_5, rN_twinsAhead_6, rN_twinsAhead_9, rN_twinsAhead_10, rN_twinsAhead_11, rN_twinsAhead_14, rN_twinsAhead_15, rN_twinsAhead_16, rN_twinsAhead_17, rN_twinsAhead_20, rN_twinsAhead_21, rN_twinsAhead_22, rN_twinsAhead_25, rN_twinsAhead_26, rN_twinsAhead_27, rN_twinsAhead_28, rN_twinsAhead_31, rN_twinsAhead_32, rN_twinsAhead_33, rN_twinsAhead_34, rN_twinsAhead_37, Bool.false_eq_true, true_implies, false_implies, implies_true, true_and, and_true, not_true_eq_false, not_false_eq_true, zPush_I, zPush_L, zPush_R, zPush_U, Int.reduceLT, Int.reduceLE, Int.reduceEq, Int.reduceNe, Int.reduceAdd, Int.reduceSub, Int.reduceMul, Int.reduceNeg, Int.reduceToNat, Nat.reduceAdd, Nat.reduceMul, Nat.reduceEqDiff, zw32_id, zw64_id, zupd_eq, zupd_na, zupd_ni, zupp_eq, zupp_na, zupp_ni, p41, ei, ee, eq_true (show (i : Int) < (e : Int) by omega), hc, x1, x2]
      · rw [if_neg hc]
        have hc' : ¬ ((hgO (nA f) (nC f) i : Nat) : Int) = ((hgO (nA f) (nC f) e : Nat) : Int) := by omega
        simp (disch := first | assumption | omega) only [rN_twinsAhead_5, rN_twinsAhead_6, rN_twinsAhead_9, rN_twinsAhead_10, rN_twinsAhead_11, rN_twinsAhead_14, rN_twinsAhead_15, rN_twinsAhead_16, rN_twinsAhead_17, rN_twinsAhead_20, rN_twinsAhead_21, rN_twinsAhead_22, rN_twinsAhead_25, rN_twinsAhead_26, rN_twinsAhead_27, rN_twinsAhead_28, rN_twinsAhead_31, rN_twinsAhead_32, rN_twinsAhead_33, rN_twinsAhead_34, rN_twinsAhead_37, Bool.false_eq_true, true_implies, false_implies, implies_true, true_and, and_true, not_true_eq_false, not_false_eq_true, zPush_I, zPush_L, zPush_R, zPush_U, Int.reduceLT, Int.reduceLE, Int.reduceEq, Int.reduceNe, Int.reduceAdd, Int.reduceSub, Int.reduceMul, Int.reduceNeg, Int.reduceToNat, Nat.reduceAdd, Nat.reduceMul, Nat.reduceEqDiff, zw32_id, zw64_id, zupd_eq, zupd_na, zupd_ni, zupp_eq, zupp_na, zupp_ni, p41, ei, ee, eq_true (show (i : Int) < (e : Int) by omega), eq_false hc', x3]
  simp (disch := first | assumption | omega) only [rN_twinsAhead_0, rN_twinsAhead_1, rN_twinsAhead_2, rN_twinsAhead_3, Bool.false_eq_true, true_implies, false_implies, implies_true, true_and, and_true, not_true_eq_false, not_false_eq_true, zPush_I, zPush_L, zPush_R, zPush_U, Int.reduceLT, Int.reduceLE, Int.reduceEq, Int.reduceNe, Int.reduceAdd, Int.reduceSub, Int.reduceMul, Int.reduceNeg, Int.reduceToNat, Nat.reduceAdd, Nat.reduceMul, Nat.reduceEqDiff, zw32_id, zw64_id, zupd_eq, zupd_na, zupd_ni, zupp_eq, zupp_na, zupp_ni]
  exact key e 0 (by omega)
theorem kN_learnEdge (h : zLy sh pp) (ok : fOk f) (hS : stI 14 f mm) {e : Nat} (he : e < nE f) : zS 56 0 [zR 38, zI (e : Int), zR 14, zU, zU, zU, zU, zU] [] sh pp mm Q ↔ Q zU sh pp (zupd (zupd (zupd (zupd (zupd (zupd mm 39 (e : Int) (nA f e : Int)) 40 (e : Int) (nC f e : Int)) 41 (e : Int) (hgO (nA f) (nC f) e : Nat)) 42 (e : Int) (sg (nX f (nC f e) - nX f (nA f e)))) 43 (e : Int) (sg (nY f (nC f e) - nY f (nA f e)))) 45 (e : Int) (nPr f e)) := by
  have k38 := k_38 h
  have p38 := p_13_5 h
  have k39 := k_39 h
  have l39 := l_39 h
  have p39 := p_38_4 h
  have k40 := k_40 h
  have l40 := l_40 h
  have p40 := p_38_5 h
  have k41 := k_41 h
  have l41 := l_41 h
  have p41 := p_38_6 h
  have k42 := k_42 h
  have l42 := l_42 h
  have p42 := p_38_7 h
  have k43 := k_43 h
  have l43 := l_43 h
  have p43 := p_38_8 h
  have k45 := k_45 h
  have l45 := l_45 h
  have p45 := p_38_11 h
  have k14 := k_14 h
  have p14 := p_13_0 h
  have k15 := k_15 h
  have l15 := l_15 h
  have p15 := p_14_0 h
  have k19 := k_19 h
  have p19 := p_14_3 h
  have k21 := k_21 h
  have p21 := p_14_4 h
  have l := nE_le ok
  have l3 := nE_eq ok
  obtain ⟨eA, eC, hA, hC, hne, hA9, hC9⟩ := nAC ok he
  have xa := nXY_bd ok (c := nA f e) (by omega)
  have xc := nXY_bd ok (c := nC f e) (by omega)
  have c1 := ok.2.2.2.1.2.1
  have n7 : 0 ≤ f 7 ∧ f 7 ≤ 10 := ok.1 7 (by decide) (by decide)
  have m7 : mm 15 7 = f 7 := hS.1 7 (by decide) (by decide)
  have tE : tbL sh pp 21 36 := (stL_14 h).2.2.2.2.2.1.1
  have tC : tbL sh pp 19 20 := (stL_14 h).2.2.2.2.1.1
  have iE : tbI 21 3 12 (f 983) 537 f mm := hS.2.2.2.1
  have iC : tbI 19 2 10 (f 982) 517 f mm := hS.2.2.1
  have fa : f (537 + 3 * (e : Int) + 0) = (nA f e : Int) := by rw [Int.add_zero]; exact eA
  have fh := nH_e ok he
  have fxa : f (517 + 2 * (nA f e : Int) + 0) = nX f (nA f e) := by rw [Int.add_zero]; exact xa.1
  have fxc : f (517 + 2 * (nC f e : Int) + 0) = nX f (nC f e) := by rw [Int.add_zero]; exact xc.1
  have fya := xa.2.1
  have fyc := xc.2.1
  have bw := xa.2.2
  have bo := xc.2.2
  have a2 := two_lt10 hA9
  have c2 := two_lt10 hC9
  have x1 := zshl1 (nA f e) (by omega)
  have x2 := zshl1 (nC f e) (by omega)
  have x3 : zor ((2 ^ nA f e : Nat) : Int) ((2 ^ nC f e : Nat) : Int) = ((hgO (nA f) (nC f) e : Nat) : Int) := zorN (by omega) (by omega)
  have pb := nPr_bd ok he
  have r3 := fun (Q : zV → zSh → zPp → zMm → Prop) (c : Int) (c0 : 0 ≤ c) (c1 : c < 3) => kT_at3 (Q := Q) tE iE (i := (e : Int)) (c := c) (by omega) (by omega) c0 c1 (by omega) (by decide)
  have ra := fun (Q : zV → zSh → zPp → zMm → Prop) (c : Int) (c0 : 0 ≤ c) (c1 : c < 2) => kT_at2 (Q := Q) tC iC (i := (nA f e : Int)) (c := c) (by omega) (by omega) c0 c1 (by omega) (by decide)
  have rc := fun (Q : zV → zSh → zPp → zMm → Prop) (c : Int) (c0 : 0 ≤ c) (c1 : c < 2) => kT_at2 (Q := Q) tC iC (i := (nC f e : Int)) (c := c) (by omega) (by omega) c0 c1 (by omega) (by decide)
  unfold nPr at pb ⊢
  unfold sz at pb ⊢
  by_cases hh : nH f e = 1
  · rw [if_pos hh] at pb ⊢
    simp (disch := first | assumption | omega) only [rN_learnEdge_0, rN_learnEdge_1, rN_learnEdge_4, rN_learnEdge_5, rN_learnEdge_6, rN_learnEdge_9, rN_learnEdge_10, rN_learnEdge_11, rN_learnEdge_14, rN_learnEdge_15, rN_learnEdge_16, rN_learnEdge_19, rN_learnEdge_21, rN_learnEdge_22, rN_learnEdge_25, rN_learnEdge_27, rN_learnEdge_28, rN_learnEdge_31, rN_learnEdge_32, rN_learnEdge_35, rN_learnEdge_36, rN_learnEdge_37, rN_learnEdge_40, rN_learnEdge_41, rN_learnEdge_43, rN_learnEdge_44, rN_learnEdge_47, rN_learnEdge_49, rN_learnEdge_50, rN_learnEdge_53, rN_learnEdge_54, rN_learnEdge_57, rN_learnEdge_58, rN_learnEdge_59, rN_learnEdge_62, rN_learnEdge_63, rN_learnEdge_65, rN_learnEdge_66, rN_learnEdge_69, rN_learnEdge_70, rN_learnEdge_71, rN_learnEdge_74, rN_learnEdge_75, rN_learnEdge_78, rN_learnEdge_79, rN_learnEdge_82, rN_learnEdge_84, rN_learnEdge_85, rN_learnEdge_88, rN_learnEdge_90, rN_learnEdge_92, rN_learnEdge_93, rN_learnEdge_96, rN_learnEdge_97, rN_learnEdge_98, rN_learnEdge_99, rN_learnEdge_100, rN_learnEdge_103, rN_learnEdge_104, rN_learnEdge_106, rN_learnEdge_107, rN_learnEdge_108, rN_learnEdge_111, rN_learnEdge_112, rN_learnEdge_113, rN_learnEdge_114, rN_learnEdge_115, rN_learnEdge_116, rN_learnEdge_118, rN_learnEdge_119, rN_learnEdge_120, rN_learnEdge_121, rN_learnEdge_122, rN_learnEdge_125, rN_learnEdge_126, rN_learnEdge_128, rN_learnEdge_129, rN_learnEdge_132, rN_learnEdge_133, rN_learnEdge_134, rN_learnEdge_137, rN_learnEdge_138, rN_learnEdge_140, rN_learnEdge_141, rN_learnEdge_144, rN_learnEdge_145, rN_learnEdge_146, rN_learnEdge_149, rN_learnEdge_150, rN_learnEdge_152, rN_learnEdge_155, rN_learnEdge_157, rN_learnEdge_160, rN_learnEdge_163, rN_learnEdge_165, rN_learnEdge_166, rN_learnEdge_167, r3, ra, rc, kJ_cmp0, kJ_abs, kJ_max, Bool.false_eq_true, true_implies, false_implies, implies_true, true_and, and_true, not_true_eq_false, not_false_eq_true, zPush_I, zPush_L, zPush_R, zPush_U, Int.reduceLT, Int.reduceLE, Int.reduceEq, Int.reduceNe, Int.reduceAdd, Int.reduceSub, Int.reduceMul, Int.reduceNeg, Int.reduceToNat, Nat.reduceAdd, Nat.reduceMul, Nat.reduceEqDiff, zw32_id, zw64_id, zupd_eq, zupd_na, zupd_ni, zupp_eq, zupp_na, zupp_ni, p39, p40, p41, p42, p43, p45, p15, p19, p21, sz, fa, eC, fh, fxa, fxc, fya, fyc, m7, x1, x2, x3, eq_true hh]
  · rw [if_neg hh] at pb ⊢
    simp (disch := first | assumption | omega) only [rN_learnEdge_0, rN_learnEdge_1, rN_learnEdge_4, rN_learnEdge_5, rN_learnEdge_6, rN_learnEdge_9, rN_learnEdge_10, rN_learnEdge_11, rN_learnEdge_14, rN_learnEdge_15, rN_learnEdge_16, rN_learnEdge_19, rN_learnEdge_21, rN_learnEdge_22, rN_learnEdge_25, rN_learnEdge_27, rN_learnEdge_28, rN_learnEdge_31, rN_learnEdge_32, rN_learnEdge_35, rN_learnEdge_36, rN_learnEdge_37, rN_learnEdge_40, rN_learnEdge_41, rN_learnEdge_43, rN_learnEdge_44, rN_learnEdge_47, rN_learnEdge_49, rN_learnEdge_50, rN_learnEdge_53, rN_learnEdge_54, rN_learnEdge_57, rN_learnEdge_58, rN_learnEdge_59, rN_learnEdge_62, rN_learnEdge_63, rN_learnEdge_65, rN_learnEdge_66, rN_learnEdge_69, rN_learnEdge_70, rN_learnEdge_71, rN_learnEdge_74, rN_learnEdge_75, rN_learnEdge_78, rN_learnEdge_79, rN_learnEdge_82, rN_learnEdge_84, rN_learnEdge_85, rN_learnEdge_88, rN_learnEdge_90, rN_learnEdge_92, rN_learnEdge_93, rN_learnEdge_96, rN_learnEdge_97, rN_learnEdge_98, rN_learnEdge_99, rN_learnEdge_100, rN_learnEdge_103, rN_learnEdge_104, rN_learnEdge_106, rN_learnEdge_107, rN_learnEdge_108, rN_learnEdge_111, rN_learnEdge_112, rN_learnEdge_113, rN_learnEdge_114, rN_learnEdge_115, rN_learnEdge_116, rN_learnEdge_118, rN_learnEdge_119, rN_learnEdge_120, rN_learnEdge_121, rN_learnEdge_122, rN_learnEdge_125, rN_learnEdge_126, rN_learnEdge_128, rN_learnEdge_129, rN_learnEdge_132, rN_learnEdge_133, rN_learnEdge_134, rN_learnEdge_137, rN_learnEdge_138, rN_learnEdge_140, rN_learnEdge_141, rN_learnEdge_144, rN_learnEdge_145, rN_learnEdge_146, rN_learnEdge_149, rN_learnEdge_150, rN_learnEdge_152, rN_learnEdge_155, rN_learnEdge_157, rN_learnEdge_160, rN_learnEdge_163, rN_learnEdge_165, rN_learnEdge_166, rN_learnEdge_167, r3, ra, rc, kJ_cmp0, kJ_abs, kJ_max, Bool.false_eq_true, true_implies, false_implies, implies_true, true_and, and_true, not_true_eq_false, not_false_eq_true, zPush_I, zPush_L, zPush_R, zPush_U, Int.reduceLT, Int.reduceLE, Int.reduceEq, Int.reduceNe, Int.reduceAdd, Int.reduceSub, Int.reduceMul, Int.reduceNeg, Int.reduceToNat, Nat.reduceAdd, Nat.reduceMul, Nat.reduceEqDiff, zw32_id, zw64_id, zupd_eq, zupd_na, zupd_ni, zupp_eq, zupp_na, zupp_ni, p39, p40, p41, p42, p43, p45, p15, p19, p21, sz, fa, eC, fh, fxa, fxc, fya, fyc, m7, x1, x2, x3, eq_false hh]
end
