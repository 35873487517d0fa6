/-! ===== nets of the class: hanging on ===== -/
theorem hgT_i {A : Nat → Nat} {M : Nat} : ∀ n, hgT A M n = true ↔ ∀ e, e < n → M.testBit (A e) = true
  | 0 => ⟨fun _ e he => by omega, fun _ => rfl⟩
  | n + 1 => by
    unfold hgT
    rw [Bool.and_eq_true, hgT_i n]
    constructor
    · rintro ⟨h1, h2⟩ e he
      by_cases en : e = n
      · subst en; exact h2
      · exact h1 e (by omega)
    · intro h
      exact ⟨fun e he => h e (by omega), h n (by omega)⟩
theorem tb_all {E e : Nat} : (2 ^ E - 1).testBit e = true ↔ e < E := by
  rw [Nat.testBit_two_pow_sub_one, decide_eq_true_eq]
theorem hgN_st {A C : Nat → Nat} {E M s : Nat} (h : hgR A C (hgN A C E M s) E = hgN A C E M s) : ∀ j, hgN A C E M (s + j) = hgN A C E M s
  | 0 => rfl
  | j + 1 => by
    show hgR A C (hgN A C E M (s + j)) E = _
    rw [hgN_st h j]
    exact h
theorem hgB_s {f : Int → Int} (ok : fOk f) (h0 : 0 < nE f) : hgB f = true ↔ hgs (nA f) (nC f) (nA f 0) (2 ^ nE f - 1) := by
  have hac : ∀ e, e < nE f → nA f e ≤ 9 ∧ nC f e ≤ 9 := fun e he => (nAC ok he).2.2.2.2.2
  have a9 := (hac 0 h0).1
  unfold hgB hgM
  rw [if_neg (by omega), hgT_i]
  have hJ : ∀ r, hgJ (nA f) (nC f) (nA f 0) (2 ^ nE f - 1) (hgN (nA f) (nC f) (nE f) (2 ^ nA f 0) r) := hgN_J hgJ_0 (fun e he => tb_all.mpr he)
  constructor
  · intro h X h1 h2 e he
    exact (hJ 12).2 _ (h e (tb_all.mp he)) X h1 h2
  · intro hh
    have hlt := hgN_lt (A := nA f) (C := nC f) (E := nE f) (two_lt10 a9) hac
    have key : ∀ r, (∃ s, s ≤ r ∧ hgR (nA f) (nC f) (hgN (nA f) (nC f) (nE f) (2 ^ nA f 0) s) (nE f) = hgN (nA f) (nC f) (nE f) (2 ^ nA f 0) s) ∨ r + 1 ≤ pcN (hgN (nA f) (nC f) (nE f) (2 ^ nA f 0) r) 10 := by
      intro r
      induction r with
      | zero =>
        refine Or.inr ?_
        have z := pcN_lt (a := 0) (b := 2 ^ nA f 0) (k := nA f 0) (fun k hk => by rw [Nat.zero_testBit] at hk; cases hk) (Nat.zero_testBit _) (by rw [Nat.testBit_two_pow]; simp) 10 (by omega)
        show 0 + 1 ≤ pcN (2 ^ nA f 0) 10
        omega
      | succ r ih =>
        rcases ih with ⟨s, s1, s2⟩ | ih
        · exact Or.inl ⟨s, by omega, s2⟩
        · rcases hgR_fix (A := nA f) (C := nC f) (M := hgN (nA f) (nC f) (nE f) (2 ^ nA f 0) r) (nE f) with ⟨i1, -⟩ | ⟨k, k1, k2⟩
          · exact Or.inl ⟨r, by omega, i1⟩
          · refine Or.inr ?_
            have hk : k < 10 := lt_of_tb (hlt (r + 1)) k2
            have z := pcN_lt (fun j hj => hgR_sub (A := nA f) (C := nC f) (nE f) j hj) k1 k2 10 hk
            show r + 1 + 1 ≤ pcN (hgR (nA f) (nC f) (hgN (nA f) (nC f) (nE f) (2 ^ nA f 0) r) (nE f)) 10
            omega
    have hst : hgR (nA f) (nC f) (hgN (nA f) (nC f) (nE f) (2 ^ nA f 0) 12) (nE f) = hgN (nA f) (nC f) (nE f) (2 ^ nA f 0) 12 := by
      rcases key 12 with ⟨s, s1, s2⟩ | z
      · have e := hgN_st s2 (12 - s)
        rw [show s + (12 - s) = 12 by omega] at e
        rw [e]
        exact s2
      · have := pcN_le (hgN (nA f) (nC f) (nE f) (2 ^ nA f 0) 12) 10
        omega
    rcases hgR_fix (A := nA f) (C := nC f) (M := hgN (nA f) (nC f) (nE f) (2 ^ nA f 0) 12) (nE f) with ⟨-, i2⟩ | ⟨k, k1, k2⟩
    · intro e he
      refine hh (fun k => (hgN (nA f) (nC f) (nE f) (2 ^ nA f 0) 12).testBit k = true) (hJ 12).1 (fun i hi => ?_) e (tb_all.mpr he)
      dsimp only
      rcases i2 i (tb_all.mp hi) with z | z
      · rw [and_no z (tb_hgO.mpr (Or.inl rfl)), and_no z (tb_hgO.mpr (Or.inr rfl))]
      · rw [z _ (tb_hgO.mpr (Or.inl rfl)), z _ (tb_hgO.mpr (Or.inr rfl))]
    · rw [hst, k1] at k2
      cases k2
section
variable {sh : zSh} {pp : zPp} {mm : zMm} {Q : zV → zSh → zPp → zMm → Prop} {f : Int → Int} {G : Int → Option (Int → Int)} {cn : Int → Int} {N D : Nat}
theorem cHang1 (h : zLy sh pp) (ok : fOk f) (h3 : mm 38 3 = (nE f : Int)) (he : ∀ e : Nat, e < nE f → mm 41 (e : Int) = (hgO (nA f) (nC f) e : Nat)) {c R M0 L0 : Nat} {ps : Int} (hz : ∀ M L : Nat, M < 1024 → L < 2 ^ nE f → hgI (nA f) (nC f) c R M L → ((M = M0 ∧ L = L0 ∧ ∀ e, e < nE f → L.testBit e = true → hgO (nA f) (nC f) e &&& M = 0) ∨ pcN L (nE f) < pcN L0 (nE f)) → zS 60 90 [zR 38, zU, zU, zI (M : Int), zI (L : Int), zI ps, zI (L0 : Int), zU] [] sh pp mm Q) : ∀ (d i M L : Nat), i + d = nE f → M < 1024 → L < 2 ^ nE f → hgI (nA f) (nC f) c R M L → ((M = M0 ∧ L = L0 ∧ ∀ e, e < i → L.testBit e = true → hgO (nA f) (nC f) e &&& M = 0) ∨ pcN L (nE f) < pcN L0 (nE f)) → zS 60 31 [zR 38, zU, zU, zI (M : Int), zI (L : Int), zI ps, zI (L0 : Int), zI (i : Int)] [] sh pp mm Q := by
  have k38 := k_38 h
  have p38 := p_13_5 h
  have k41 := k_41 h
  have l41 := l_41 h
  have p41 := p_38_6 h
  have l := nE_le ok
  have t : 2 ^ nE f ≤ 4096 := by simpa using Nat.pow_le_pow_right (n := 2) (by omega) l
  intro d
  induction d with
  | zero =>
    intro i M L hi hM hL hI hx
    have q := hz M L hM hL hI (hx.imp_left (fun x => ⟨x.1, x.2.1, fun e e1 e2 => x.2.2 e (by omega) e2⟩))
    rw [rN_hangsOn_31]
    simp (disch := first | assumption | omega) only [rN_hangsOn_33, rN_hangsOn_34, rN_hangsOn_37, Bool.false_eq_true, true_implies, false_implies, implies_true, true_and, and_true, not_true_eq_false, not_false_eq_true, zPush_I, zPush_L, zPush_R, zPush_U, Int.reduceLT, Int.reduceLE, Int.reduceEq, Int.reduceNe, Int.reduceAdd, Int.reduceSub, Int.reduceMul, Int.reduceNeg, Int.reduceToNat, Nat.reduceAdd, Nat.reduceMul, Nat.reduceEqDiff, zw32_id, zw64_id, zupd_eq, zupd_na, zupd_ni, zupp_eq, zupp_na, zupp_ni, h3, eq_false (show ¬ (i : Int) < (nE f : Int) by omega)]
    exact q
  | succ d ih =>
    intro i M L hi hM hL hI hx
    have b := bit_i (show L < 2147483648 by omega) (show i < 31 by omega)
    have ei := he i (by omega)
    have ol := hgO_lt (A := nA f) (C := nC f) (e := i) (nAC ok (show i < nE f by omega)).2.2.2.2.2
    have lt : (i : Int) < (nE f : Int) := by omega
    have x4 : zand ((hgO (nA f) (nC f) i : Nat) : Int) (M : Int) = ((hgO (nA f) (nC f) i &&& M : Nat) : Int) := zandN (by omega) (by omega)
    have x5 : zor (M : Int) ((hgO (nA f) (nC f) i : Nat) : Int) = ((M ||| hgO (nA f) (nC f) i : Nat) : Int) := zorN (by omega) (by omega)
    have x1 := zshl1 i (by omega)
    have nx : ∀ M L : Nat, M < 1024 → L < 2 ^ nE f → hgI (nA f) (nC f) c R M L → ((M = M0 ∧ L = L0 ∧ ∀ e, e < i + 1 → L.testBit e = true → hgO (nA f) (nC f) e &&& M = 0) ∨ pcN L (nE f) < pcN L0 (nE f)) → zS 60 84 [zR 38, zU, zU, zI (M : Int), zI (L : Int), zI ps, zI (L0 : Int), zI (i : Int)] [] sh pp mm Q := fun M L a1 a2 a3 a4 => by
      have n := ih (i + 1) M L (by omega) a1 a2 a3 a4
      rw [show ((i + 1 : Nat) : Int) = (i : Int) + 1 by omega] at n
      simp (disch := first | assumption | omega) only [rN_hangsOn_84, rN_hangsOn_87, Bool.false_eq_true, true_implies, false_implies, implies_true, true_and, and_true, not_true_eq_false, not_false_eq_true, zPush_I, zPush_L, zPush_R, zPush_U, Int.reduceLT, Int.reduceLE, Int.reduceEq, Int.reduceNe, Int.reduceAdd, Int.reduceSub, Int.reduceMul, Int.reduceNeg, Int.reduceToNat, Nat.reduceAdd, Nat.reduceMul, Nat.reduceEqDiff, zw32_id, zw64_id, zupd_eq, zupd_na, zupd_ni, zupp_eq, zupp_na, zupp_ni]
      exact n
    rw [rN_hangsOn_31]
    by_cases hb : L.testBit i = true
    · rw [if_pos hb] at b
      by_cases ha : hgO (nA f) (nC f) i &&& M = 0
      · have q := nx M L hM hL hI (hx.imp_left (fun x => ⟨x.1, x.2.1, fun e e1 e2 => by
          by_cases ee : e = i
          · subst ee; exact ha
          · exact x.2.2 e (by omega) e2⟩))
        simp (disch := first | assumption | omega) only [rN_hangsOn_33, rN_hangsOn_34, rN_hangsOn_37, rN_hangsOn_40, rN_hangsOn_42, rN_hangsOn_44, rN_hangsOn_45, rN_hangsOn_46, rN_hangsOn_47, rN_hangsOn_48, rN_hangsOn_51, rN_hangsOn_52, rN_hangsOn_55, rN_hangsOn_57, rN_hangsOn_58, rN_hangsOn_59, rN_hangsOn_60, Bool.false_eq_true, true_implies, false_implies, implies_true, true_and, and_true, not_true_eq_false, not_false_eq_true, zPush_I, zPush_L, zPush_R, zPush_U, Int.reduceLT, Int.reduceLE, Int.reduceEq, Int.reduceNe, Int.reduceAdd, Int.reduceSub, Int.reduceMul, Int.reduceNeg, Int.reduceToNat, Nat.reduceAdd, Nat.reduceMul, Nat.reduceEqDiff, zw32_id, zw64_id, zupd_eq, zupd_na, zupd_ni, zupp_eq, zupp_na, zupp_ni, p41, h3, ei, eq_true lt, b, x4, eq_true (show ((hgO (nA f) (nC f) i &&& M : Nat) : Int) = 0 by omega)]
        exact q
      · have x6 := zan2 (L := L) (e := i) (by omega) (by omega) hb
        have lx := xor_lt hb
        have px := pcN_x hb (nE f) (by omega)
        have q := nx (M ||| hgO (nA f) (nC f) i) (L ^^^ 2 ^ i) (Nat.or_lt_two_pow (n := 10) hM ol) (by omega) (hgI_st hI hb ha) (Or.inr (by
          rcases hx with x | x
          · rw [x.2.1] at px ⊢; omega
          · omega))
        simp (disch := first | assumption | omega) only [rN_hangsOn_33, rN_hangsOn_34, rN_hangsOn_37, rN_hangsOn_40, rN_hangsOn_42, rN_hangsOn_44, rN_hangsOn_45, rN_hangsOn_46, rN_hangsOn_47, rN_hangsOn_48, rN_hangsOn_51, rN_hangsOn_52, rN_hangsOn_55, rN_hangsOn_57, rN_hangsOn_58, rN_hangsOn_59, rN_hangsOn_60, rN_hangsOn_63, rN_hangsOn_64, rN_hangsOn_65, rN_hangsOn_68, rN_hangsOn_70, rN_hangsOn_71, rN_hangsOn_72, rN_hangsOn_73, rN_hangsOn_75, rN_hangsOn_76, rN_hangsOn_78, rN_hangsOn_79, rN_hangsOn_80, rN_hangsOn_81, rN_hangsOn_82, Bool.false_eq_true, true_implies, false_implies, implies_true, true_and, and_true, not_true_eq_false, not_false_eq_true, zPush_I, zPush_L, zPush_R, zPush_U, Int.reduceLT, Int.reduceLE, Int.reduceEq, Int.reduceNe, Int.reduceAdd, Int.reduceSub, Int.reduceMul, Int.reduceNeg, Int.reduceToNat, Nat.reduceAdd, Nat.reduceMul, Nat.reduceEqDiff, zw32_id, zw64_id, zupd_eq, zupd_na, zupd_ni, zupp_eq, zupp_na, zupp_ni, p41, h3, ei, eq_true lt, b, x4, eq_false (show ¬ ((hgO (nA f) (nC f) i &&& M : Nat) : Int) = 0 by omega), x5, x1, x6]
        exact q
    · rw [if_neg hb] at b
      have q := nx M L hM hL hI (hx.imp_left (fun x => ⟨x.1, x.2.1, fun e e1 e2 => by
        by_cases ee : e = i
        · subst ee; exact absurd e2 hb
        · exact x.2.2 e (by omega) e2⟩))
      simp (disch := first | assumption | omega) only [rN_hangsOn_33, rN_hangsOn_34, rN_hangsOn_37, rN_hangsOn_40, rN_hangsOn_42, rN_hangsOn_44, rN_hangsOn_45, rN_hangsOn_46, rN_hangsOn_47, rN_hangsOn_48, Bool.false_eq_true, true_implies, false_implies, implies_true, true_and, and_true, not_true_eq_false, not_false_eq_true, zPush_I, zPush_L, zPush_R, zPush_U, Int.reduceLT, Int.reduceLE, Int.reduceEq, Int.reduceNe, Int.reduceAdd, Int.reduceSub, Int.reduceMul, Int.reduceNeg, Int.reduceToNat, Nat.reduceAdd, Nat.reduceMul, Nat.reduceEqDiff, zw32_id, zw64_id, zupd_eq, zupd_na, zupd_ni, zupp_eq, zupp_na, zupp_ni, h3, eq_true lt, b]
      exact q
theorem cHang (h : zLy sh pp) (ok : fOk f) (h3 : mm 38 3 = (nE f : Int)) (he : ∀ e : Nat, e < nE f → mm 41 (e : Int) = (hgO (nA f) (nC f) e : Nat)) {c R : Nat} (hc : c < 10) (hR : R < 2 ^ nE f) (hQ1 : hgs (nA f) (nC f) c R → Q (zI 1) sh pp mm) (hQ0 : ¬ hgs (nA f) (nC f) c R → Q (zI 0) sh pp mm) : zS 60 0 [zR 38, zI (c : Int), zI (R : Int), zU, zU, zU, zU, zU] [] sh pp mm Q := by
  have k38 := k_38 h
  have p38 := p_13_5 h
  have k41 := k_41 h
  have l41 := l_41 h
  have p41 := p_38_6 h
  have l := nE_le ok
  have t : 2 ^ nE f ≤ 4096 := by simpa using Nat.pow_le_pow_right (n := 2) (by omega) l
  have c10 := two_lt10 (show c ≤ 9 by omega)
  have yes : ∀ M : Nat, hgI (nA f) (nC f) c R M 0 → zS 60 106 [zU, zU, zU, zU, zI ((0 : Nat) : Int), zU, zU, zU] [] sh pp mm Q := fun M hI => by
    have q := hQ1 (hgI_yes hI)
    simp (disch := first | assumption | omega) only [rN_hangsOn_106, rN_hangsOn_108, rN_hangsOn_111, rN_hangsOn_112, rN_hangsOn_115, rN_hangsOn_116, Bool.false_eq_true, true_implies, false_implies, implies_true, true_and, and_true, not_true_eq_false, not_false_eq_true, zPush_I, zPush_L, zPush_R, zPush_U, Int.reduceLT, Int.reduceLE, Int.reduceEq, Int.reduceNe, Int.reduceAdd, Int.reduceSub, Int.reduceMul, Int.reduceNeg, Int.reduceToNat, Nat.reduceAdd, Nat.reduceMul, Nat.reduceEqDiff, zw32_id, zw64_id, zupd_eq, zupd_na, zupd_ni, zupp_eq, zupp_na, zupp_ni, Int.cast_ofNat_Int, true_or, or_true]
    exact q
  have key : ∀ (d i M L : Nat), i + d = nE f → M < 1024 → L < 2 ^ nE f → hgI (nA f) (nC f) c R M L → pcN L (nE f) + i ≤ nE f → zS 60 10 [zR 38, zU, zU, zI (M : Int), zI (L : Int), zI (i : Int), zU, zU] [] sh pp mm Q := by
    intro d
    induction d with
    | zero =>
      intro i M L hi hM hL hI hp
      have hz := pcN_0 (L := L) (nE f) (by omega)
      have h0 : L = 0 := by
        by_cases e : L = 0
        · exact e
        · obtain ⟨k, hk⟩ := tb_ex e
          rw [hz k (lt_of_tb hL hk)] at hk
          cases hk
      subst h0
      rw [rN_hangsOn_10]
      simp (disch := first | assumption | omega) only [rN_hangsOn_12, rN_hangsOn_13, rN_hangsOn_16, Bool.false_eq_true, true_implies, false_implies, implies_true, true_and, and_true, not_true_eq_false, not_false_eq_true, zPush_I, zPush_L, zPush_R, zPush_U, Int.reduceLT, Int.reduceLE, Int.reduceEq, Int.reduceNe, Int.reduceAdd, Int.reduceSub, Int.reduceMul, Int.reduceNeg, Int.reduceToNat, Nat.reduceAdd, Nat.reduceMul, Nat.reduceEqDiff, zw32_id, zw64_id, zupd_eq, zupd_na, zupd_ni, zupp_eq, zupp_na, zupp_ni, h3, eq_false (show ¬ (i : Int) < (nE f : Int) by omega)]
      exact yes M hI
    | succ d ih =>
      intro i M L hi hM hL hI hp
      have lt : (i : Int) < (nE f : Int) := by omega
      rw [rN_hangsOn_10]
      by_cases h0 : L = 0
      · subst h0
        have q := yes M hI
        simp (disch := first | assumption | omega) only [rN_hangsOn_12, rN_hangsOn_13, rN_hangsOn_16, rN_hangsOn_19, rN_hangsOn_21, Bool.false_eq_true, true_implies, false_implies, implies_true, true_and, and_true, not_true_eq_false, not_false_eq_true, zPush_I, zPush_L, zPush_R, zPush_U, Int.reduceLT, Int.reduceLE, Int.reduceEq, Int.reduceNe, Int.reduceAdd, Int.reduceSub, Int.reduceMul, Int.reduceNeg, Int.reduceToNat, Nat.reduceAdd, Nat.reduceMul, Nat.reduceEqDiff, zw32_id, zw64_id, zupd_eq, zupd_na, zupd_ni, zupp_eq, zupp_na, zupp_ni, h3, eq_true lt, Int.cast_ofNat_Int]
        exact q
      · simp (disch := first | assumption | omega) only [rN_hangsOn_12, rN_hangsOn_13, rN_hangsOn_16, rN_hangsOn_19, rN_hangsOn_21, rN_hangsOn_24, rN_hangsOn_26, rN_hangsOn_28, rN_hangsOn_29, Bool.false_eq_true, true_implies, false_implies, implies_true, true_and, and_true, not_true_eq_false, not_false_eq_true, zPush_I, zPush_L, zPush_R, zPush_U, Int.reduceLT, Int.reduceLE, Int.reduceEq, Int.reduceNe, Int.reduceAdd, Int.reduceSub, Int.reduceMul, Int.reduceNeg, Int.reduceToNat, Nat.reduceAdd, Nat.reduceMul, Nat.reduceEqDiff, zw32_id, zw64_id, zupd_eq, zupd_na, zupd_ni, zupp_eq, zupp_na, zupp_ni, h3, eq_true lt, eq_false (show ¬ (L : Int) = 0 by omega)]
        refine cHang1 h ok h3 he (c := c) (R := R) (M0 := M) (L0 := L) (fun M1 L1 a1 a2 a3 a4 => ?_) (nE f) 0 M L (by omega) hM hL hI (Or.inl ⟨rfl, rfl, fun e he => by omega⟩)
        rcases a4 with ⟨rfl, rfl, a4⟩ | a4
        · have q := hQ0 (hgI_nos a3 h0 (fun e he => a4 e (lt_of_tb a2 he) he))
          simp (disch := first | assumption | omega) only [rN_hangsOn_90, rN_hangsOn_92, rN_hangsOn_94, rN_hangsOn_97, rN_hangsOn_100, rN_hangsOn_103, rN_hangsOn_106, rN_hangsOn_108, rN_hangsOn_111, rN_hangsOn_112, rN_hangsOn_115, rN_hangsOn_116, Bool.false_eq_true, true_implies, false_implies, implies_true, true_and, and_true, not_true_eq_false, not_false_eq_true, zPush_I, zPush_L, zPush_R, zPush_U, Int.reduceLT, Int.reduceLE, Int.reduceEq, Int.reduceNe, Int.reduceAdd, Int.reduceSub, Int.reduceMul, Int.reduceNeg, Int.reduceToNat, Nat.reduceAdd, Nat.reduceMul, Nat.reduceEqDiff, zw32_id, zw64_id, zupd_eq, zupd_na, zupd_ni, zupp_eq, zupp_na, zupp_ni, eq_false (show ¬ (L1 : Int) = 0 by omega), true_or, or_true]
          exact q
        · have ne : ¬ (L1 : Int) = (L : Int) := fun e => by
            have : L1 = L := by omega
            subst this
            omega
          have n := ih (i + 1) M1 L1 (by omega) a1 a2 a3 (by omega)
          rw [show ((i + 1 : Nat) : Int) = (i : Int) + 1 by omega] at n
          simp (disch := first | assumption | omega) only [rN_hangsOn_90, rN_hangsOn_92, rN_hangsOn_94, rN_hangsOn_100, rN_hangsOn_103, Bool.false_eq_true, true_implies, false_implies, implies_true, true_and, and_true, not_true_eq_false, not_false_eq_true, zPush_I, zPush_L, zPush_R, zPush_U, Int.reduceLT, Int.reduceLE, Int.reduceEq, Int.reduceNe, Int.reduceAdd, Int.reduceSub, Int.reduceMul, Int.reduceNeg, Int.reduceToNat, Nat.reduceAdd, Nat.reduceMul, Nat.reduceEqDiff, zw32_id, zw64_id, zupd_eq, zupd_na, zupd_ni, zupp_eq, zupp_na, zupp_ni, eq_false ne]
          exact n
  have x1 := zshl1 c (by omega)
  have pc := pcN_le R (nE f)
  have k := key (nE f) 0 (2 ^ c) R (by omega) c10 hR ⟨hgJ_0, fun e he => he, fun e h1 h2 => by rw [h1] at h2; cases h2⟩ (by omega)
  simp (disch := first | assumption | omega) only [rN_hangsOn_0, rN_hangsOn_1, rN_hangsOn_2, rN_hangsOn_3, rN_hangsOn_4, rN_hangsOn_5, rN_hangsOn_7, rN_hangsOn_8, Bool.false_eq_true, true_implies, false_implies, implies_true, true_and, and_true, not_true_eq_false, not_false_eq_true, zPush_I, zPush_L, zPush_R, zPush_U, Int.reduceLT, Int.reduceLE, Int.reduceEq, Int.reduceNe, Int.reduceAdd, Int.reduceSub, Int.reduceMul, Int.reduceNeg, Int.reduceToNat, Nat.reduceAdd, Nat.reduceMul, Nat.reduceEqDiff, zw32_id, zw64_id, zupd_eq, zupd_na, zupd_ni, zupp_eq, zupp_na, zupp_ni, x1]
  exact k
end
