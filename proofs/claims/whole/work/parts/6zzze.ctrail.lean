/-! ===== nets of the class: the first line from a corner ===== -/
section
variable {f : Int → Int}
theorem rest_x {E S e : Nat} (h : S.testBit e = false) : (2 ^ E - 1) ^^^ (S ||| 2 ^ e) = ((2 ^ E - 1) ^^^ S) ^^^ 2 ^ e := by
  rw [or_x h, Nat.xor_assoc]
theorem rest_lt {E S : Nat} (h : S < 2 ^ E) : (2 ^ E - 1) ^^^ S < 2 ^ E := Nat.xor_lt_two_pow (by have : 0 < 2 ^ E := Nat.pow_pos (by decide); omega) h
theorem okE_h (ok : fOk f) {c S w e : Nat} (hc : c < 10) (hS : S < 2 ^ nE f) (hw : whB f c S = (w : Int)) (hP : cP f c S) (he : e < nE f) : okE f c S e ↔ (((2 ^ nE f - 1) ^^^ S).testBit e = true ∧ mts (nA f) (nC f) e w ∧ hgs (nA f) (nC f) (oth (nA f) (nC f) e w) (((2 ^ nE f - 1) ^^^ S) ^^^ 2 ^ e)) := by
  have w10 : w < 10 := by
    rcases whB_n ok hc S with h1 | ⟨w', hw', h1, _⟩ <;> omega
  have tb : ((2 ^ nE f - 1) ^^^ S).testBit e = !S.testBit e := by
    rw [tb_rest]
    simp [he]
  obtain ⟨w0, e0, hcan⟩ := hP
  have : w0 = w := by omega
  subst this
  unfold okE
  constructor
  · rintro ⟨-, h1, ⟨w', h2, h3⟩, w2, h4, h5⟩
    have : w' = w0 := by omega
    subst this
    have e2 := whB_st ok hc w10 e0 he h3
    rw [← or_x h1] at e2
    have : w2 = oth (nA f) (nC f) e w' := by omega
    subst this
    rw [rest_x h1] at h5
    exact ⟨by rw [tb, h1]; rfl, h3, hgs_of h5⟩
  · rintro ⟨h1, h2, h3⟩
    rw [tb] at h1
    have h1 : S.testBit e = false := by simpa using h1
    refine ⟨he, h1, ⟨w0, e0, h2⟩, oth (nA f) (nC f) e w0, ?_, ?_⟩
    · rw [or_x h1]; exact whB_st ok hc w10 e0 he h2
    · obtain ⟨t, ht⟩ := can_odd (rest_lt hS) hcan
      rw [rest_x h1]
      have hb : ((2 ^ nE f - 1) ^^^ S).testBit e = true := by rw [tb, h1]; rfl
      have hx := xor_lt hb
      have hl := rest_lt hS
      refine euler (E := nE f) (t := t) (by omega) h3 ?_
      rw [oddS_x (nE f) he, ht, oth_x h2, Nat.xor_comm (2 ^ w0) (2 ^ t), xor_mid, Nat.xor_comm]
end
section
variable {sh : zSh} {pp : zPp} {mm : zMm} {Q : zV → zSh → zPp → zMm → Prop} {f : Int → Int} {G : Int → Option (Int → Int)} {cn : Int → Int} {N D : Nat}
/-- what the line's calls read -/
def nLd (f : Int → Int) (mm : zMm) : Prop := mm 38 3 = (nE f : Int) ∧ ∀ e : Nat, e < nE f → mm 39 (e : Int) = (nA f e : Int) ∧ mm 40 (e : Int) = (nC f e : Int) ∧ mm 41 (e : Int) = (hgO (nA f) (nC f) e : Nat)
theorem nLd_of (h : cNtK f mm) : nLd f mm := ⟨h.1.2.2.2, fun e he => ⟨(h.2.1 e he).1, (h.2.1 e he).2.1, (h.2.1 e he).2.2.1⟩⟩
theorem nLd_fr {m m' : zMm} (h : nLd f m) (hn : m' 38 3 = m 38 3) (hf : ∀ x, 39 ≤ x → x ≤ 41 → m' x = m x) : nLd f m' := by
  unfold nLd at h ⊢
  rw [hn, hf 39 (by omega) (by omega), hf 40 (by omega) (by omega), hf 41 (by omega) (by omega)]
  exact h
theorem kN_other (h : zLy sh pp) (ok : fOk f) (hL : nLd f mm) {e w : Nat} (he : e < nE f) : zS 59 0 [zR 38, zI (e : Int), zI (w : Int)] [] sh pp mm Q ↔ Q (zI (oth (nA f) (nC f) e w : Nat)) sh pp mm := by
  have k38 := k_38 h
  have p38 := p_13_5 h
  have k39 := k_39 h
  have l39 := l_39 h
  have p39 := p_38_4 h
  have k40 := k_40 h
  have l40 := l_40 h
  have p40 := p_38_5 h
  have l := nE_le ok
  obtain ⟨r1, r2, -⟩ := hL.2 e he
  unfold oth
  by_cases h1 : nA f e = w
  · rw [if_pos h1]
    simp (disch := first | assumption | omega) only [rN_otherEnd_0, rN_otherEnd_1, rN_otherEnd_4, rN_otherEnd_5, rN_otherEnd_6, rN_otherEnd_7, rN_otherEnd_10, rN_otherEnd_11, rN_otherEnd_14, rN_otherEnd_15, rN_otherEnd_16, rN_otherEnd_19, rN_otherEnd_20, rN_otherEnd_23, rN_otherEnd_24, rN_otherEnd_25, Bool.false_eq_true, true_implies, false_implies, implies_true, true_and, and_true, not_true_eq_false, not_false_eq_true, zPush_I, zPush_L, zPush_R, zPush_U, Int.reduceLT, Int.reduceLE, Int.reduceEq, Int.reduceNe, Int.reduceAdd, Int.reduceSub, Int.reduceMul, Int.reduceNeg, Int.reduceToNat, Nat.reduceAdd, Nat.reduceMul, Nat.reduceEqDiff, zw32_id, zw64_id, zupd_eq, zupd_na, zupd_ni, zupp_eq, zupp_na, zupp_ni, p39, p40, r1, r2, eq_true (show (nA f e : Int) = (w : Int) by omega)]
  · rw [if_neg h1]
    simp (disch := first | assumption | omega) only [rN_otherEnd_0, rN_otherEnd_1, rN_otherEnd_4, rN_otherEnd_5, rN_otherEnd_6, rN_otherEnd_7, rN_otherEnd_10, rN_otherEnd_11, rN_otherEnd_14, rN_otherEnd_15, rN_otherEnd_16, rN_otherEnd_19, rN_otherEnd_20, rN_otherEnd_23, rN_otherEnd_24, rN_otherEnd_25, Bool.false_eq_true, true_implies, false_implies, implies_true, true_and, and_true, not_true_eq_false, not_false_eq_true, zPush_I, zPush_L, zPush_R, zPush_U, Int.reduceLT, Int.reduceLE, Int.reduceEq, Int.reduceNe, Int.reduceAdd, Int.reduceSub, Int.reduceMul, Int.reduceNeg, Int.reduceToNat, Nat.reduceAdd, Nat.reduceMul, Nat.reduceEqDiff, zw32_id, zw64_id, zupd_eq, zupd_na, zupd_ni, zupp_eq, zupp_na, zupp_ni, p39, p40, r1, r2, eq_false (show ¬ (nA f e : Int) = (w : Int) by omega)]
theorem tb_i {M k : Nat} (hM : M < 1024) (hk : k < 10) : zand (zshr (M : Int) (k : Int)) 1 = (if M.testBit k = true then 1 else 0) := bit_i (by omega) (by omega)
theorem cLeastStep (h : zLy sh pp) (ok : fOk f) (hL : nLd f mm) {c S w : Nat} (hc : c < 10) (hS : S < 2 ^ nE f) (hw : whB f c S = (w : Int)) (hP : cP f c S) {e0 : Nat} (he0 : lsE f c S e0) (hQ : Q (zI (e0 : Int)) sh pp mm) : zS 66 0 [zR 38, zI (w : Int), zI (((2 ^ nE f - 1) ^^^ S : Nat) : Int), zU, zU] [] sh pp mm Q := by
  have k38 := k_38 h
  have p38 := p_13_5 h
  have k41 := k_41 h
  have l41 := l_41 h
  have p41 := p_38_6 h
  have l := nE_le ok
  have t : 2 ^ nE f ≤ 4096 := by simpa using Nat.pow_le_pow_right (n := 2) (by omega) l
  have w10 : w < 10 := by
    rcases whB_n ok hc S with h1 | ⟨w', hw', h1, _⟩ <;> omega
  have hl := rest_lt hS
  have hle : e0 < nE f := he0.1.1
  have oke := fun e (he : e < nE f) => okE_h ok hc hS hw hP he
  obtain ⟨L, hLL⟩ : ∃ L, L = (2 ^ nE f - 1) ^^^ S := ⟨_, rfl⟩
  rw [← hLL] at hl oke ⊢
  have key : ∀ (d i : Nat), i + d = e0 → zS 66 2 [zR 38, zI (w : Int), zI (L : Int), zI (i : Int), zU] [] sh pp mm Q := by
    intro d
    induction d with
    | zero =>
      intro i hi
      have hi : i = e0 := by omega
      subst hi
      obtain ⟨o1, o2, o3⟩ := (oke i hle).mp he0.1
      have b := bit_i (show L < 2147483648 by omega) (show i < 31 by omega)
      rw [if_pos o1] at b
      have er := (hL.2 i hle).2.2
      have ol := hgO_lt (A := nA f) (C := nC f) (e := i) (nAC ok hle).2.2.2.2.2
      have b2 := tb_i ol w10
      rw [if_pos (tb_hgO.mpr o2)] at b2
      have x1 := zshl1 i (by omega)
      have x2 := zan2 (L := L) (e := i) (by omega) (by omega) o1
      have ko := fun (Q : zV → zSh → zPp → zMm → Prop) => kN_other (Q := Q) h ok hL (w := w) hle
      have hx := xor_lt o1
      rw [rN_leastStep_2]
      simp (disch := first | assumption | omega) only [rN_leastStep_3, rN_leastStep_4, rN_leastStep_7, rN_leastStep_10, rN_leastStep_11, rN_leastStep_12, rN_leastStep_13, rN_leastStep_14, rN_leastStep_15, rN_leastStep_16, rN_leastStep_19, rN_leastStep_20, rN_leastStep_23, rN_leastStep_24, rN_leastStep_25, rN_leastStep_26, rN_leastStep_27, rN_leastStep_28, rN_leastStep_29, rN_leastStep_30, rN_leastStep_33, rN_leastStep_34, rN_leastStep_37, rN_leastStep_38, rN_leastStep_40, rN_leastStep_42, rN_leastStep_45, rN_leastStep_46, rN_leastStep_47, rN_leastStep_48, rN_leastStep_49, rN_leastStep_52, rN_leastStep_53, rN_leastStep_54, rN_leastStep_55, rN_leastStep_56, rN_leastStep_57, rN_leastStep_58, rN_leastStep_59, Bool.false_eq_true, true_implies, false_implies, implies_true, true_and, and_true, not_true_eq_false, not_false_eq_true, zPush_I, zPush_L, zPush_R, zPush_U, Int.reduceLT, Int.reduceLE, Int.reduceEq, Int.reduceNe, Int.reduceAdd, Int.reduceSub, Int.reduceMul, Int.reduceNeg, Int.reduceToNat, Nat.reduceAdd, Nat.reduceMul, Nat.reduceEqDiff, zw32_id, zw64_id, zupd_eq, zupd_na, zupd_ni, zupp_eq, zupp_na, zupp_ni, p41, hL.1, eq_true (show (i : Int) < (nE f : Int) by omega), b, er, b2, ko, x1, x2]
      refine cHang h ok hL.1 (fun e he => (hL.2 e he).2.2) (oth_lt ok hle) (by omega) (fun _ => ?_) (fun hn => absurd o3 hn)
      simp (disch := first | assumption | omega) only [rN_leastStep_62, rN_leastStep_65, rN_leastStep_66, Bool.false_eq_true, true_implies, false_implies, implies_true, true_and, and_true, not_true_eq_false, not_false_eq_true, zPush_I, zPush_L, zPush_R, zPush_U, Int.reduceLT, Int.reduceLE, Int.reduceEq, Int.reduceNe, Int.reduceAdd, Int.reduceSub, Int.reduceMul, Int.reduceNeg, Int.reduceToNat, Nat.reduceAdd, Nat.reduceMul, Nat.reduceEqDiff, zw32_id, zw64_id, zupd_eq, zupd_na, zupd_ni, zupp_eq, zupp_na, zupp_ni]
      exact hQ
    | succ d ih =>
      intro i hi
      have hie : i < nE f := by omega
      have n := ih (i + 1) (by omega)
      rw [show ((i + 1 : Nat) : Int) = (i : Int) + 1 by omega] at n
      have no : ¬ okE f c S i := he0.2 i (by omega)
      rw [oke i hie] at no
      have b := bit_i (show L < 2147483648 by omega) (show i < 31 by omega)
      have er := (hL.2 i hie).2.2
      have ol := hgO_lt (A := nA f) (C := nC f) (e := i) (nAC ok hie).2.2.2.2.2
      have b2 := tb_i ol w10
      have lt : (i : Int) < (nE f : Int) := by omega
      rw [rN_leastStep_2]
      by_cases o1 : L.testBit i = true
      · rw [if_pos o1] at b
        by_cases o2 : mts (nA f) (nC f) i w
        · rw [if_pos (tb_hgO.mpr o2)] at b2
          have x1 := zshl1 i (by omega)
          have x2 := zan2 (L := L) (e := i) (by omega) (by omega) o1
          have ko := fun (Q : zV → zSh → zPp → zMm → Prop) => kN_other (Q := Q) h ok hL (w := w) hie
          have hx := xor_lt o1
          simp (disch := first | assumption | omega) only [rN_leastStep_3, rN_leastStep_4, rN_leastStep_7, rN_leastStep_10, rN_leastStep_11, rN_leastStep_12, rN_leastStep_13, rN_leastStep_14, rN_leastStep_15, rN_leastStep_16, rN_leastStep_19, rN_leastStep_20, rN_leastStep_23, rN_leastStep_24, rN_leastStep_25, rN_leastStep_26, rN_leastStep_27, rN_leastStep_28, rN_leastStep_29, rN_leastStep_30, rN_leastStep_33, rN_leastStep_34, rN_leastStep_37, rN_leastStep_38, rN_leastStep_40, rN_leastStep_42, rN_leastStep_45, rN_leastStep_46, rN_leastStep_47, rN_leastStep_48, rN_leastStep_49, rN_leastStep_52, rN_leastStep_53, rN_leastStep_54, rN_leastStep_55, rN_leastStep_56, rN_leastStep_57, rN_leastStep_58, rN_leastStep_59, Bool.false_eq_true, true_implies, false_implies, implies_true, true_and, and_true, not_true_eq_false, not_false_eq_true, zPush_I, zPush_L, zPush_R, zPush_U, Int.reduceLT, Int.reduceLE, Int.reduceEq, Int.reduceNe, Int.reduceAdd, Int.reduceSub, Int.reduceMul, Int.reduceNeg, Int.reduceToNat, Nat.reduceAdd, Nat.reduceMul, Nat.reduceEqDiff, zw32_id, zw64_id, zupd_eq, zupd_na, zupd_ni, zupp_eq, zupp_na, zupp_ni, p41, hL.1, eq_true lt, b, er, b2, ko, x1, x2]
          refine cHang h ok hL.1 (fun e he => (hL.2 e he).2.2) (oth_lt ok hie) (by omega) (fun hg => absurd ⟨o1, o2, hg⟩ no) (fun _ => ?_)
          simp (disch := first | assumption | omega) only [rN_leastStep_62, rN_leastStep_67, rN_leastStep_70, Bool.false_eq_true, true_implies, false_implies, implies_true, true_and, and_true, not_true_eq_false, not_false_eq_true, zPush_I, zPush_L, zPush_R, zPush_U, Int.reduceLT, Int.reduceLE, Int.reduceEq, Int.reduceNe, Int.reduceAdd, Int.reduceSub, Int.reduceMul, Int.reduceNeg, Int.reduceToNat, Nat.reduceAdd, Nat.reduceMul, Nat.reduceEqDiff, zw32_id, zw64_id, zupd_eq, zupd_na, zupd_ni, zupp_eq, zupp_na, zupp_ni]
          exact n
        · rw [if_neg (fun x => o2 (tb_hgO.mp x))] at b2
          simp (disch := first | assumption | omega) only [rN_leastStep_3, rN_leastStep_4, rN_leastStep_7, rN_leastStep_10, rN_leastStep_11, rN_leastStep_12, rN_leastStep_13, rN_leastStep_14, rN_leastStep_15, rN_leastStep_16, rN_leastStep_19, rN_leastStep_20, rN_leastStep_23, rN_leastStep_24, rN_leastStep_25, rN_leastStep_26, rN_leastStep_27, rN_leastStep_28, rN_leastStep_29, rN_leastStep_30, rN_leastStep_33, rN_leastStep_34, rN_leastStep_37, rN_leastStep_38, rN_leastStep_40, rN_leastStep_42, rN_leastStep_67, rN_leastStep_70, Bool.false_eq_true, true_implies, false_implies, implies_true, true_and, and_true, not_true_eq_false, not_false_eq_true, zPush_I, zPush_L, zPush_R, zPush_U, Int.reduceLT, Int.reduceLE, Int.reduceEq, Int.reduceNe, Int.reduceAdd, Int.reduceSub, Int.reduceMul, Int.reduceNeg, Int.reduceToNat, Nat.reduceAdd, Nat.reduceMul, Nat.reduceEqDiff, zw32_id, zw64_id, zupd_eq, zupd_na, zupd_ni, zupp_eq, zupp_na, zupp_ni, p41, hL.1, eq_true lt, b, er, b2]
          exact n
      · rw [if_neg o1] at b
        simp (disch := first | assumption | omega) only [rN_leastStep_3, rN_leastStep_4, rN_leastStep_7, rN_leastStep_10, rN_leastStep_11, rN_leastStep_12, rN_leastStep_13, rN_leastStep_14, rN_leastStep_15, rN_leastStep_16, rN_leastStep_19, rN_leastStep_20, rN_leastStep_23, rN_leastStep_24, rN_leastStep_25, rN_leastStep_26, rN_leastStep_27, rN_leastStep_28, rN_leastStep_29, rN_leastStep_30, rN_leastStep_33, rN_leastStep_34, rN_leastStep_37, rN_leastStep_38, rN_leastStep_40, rN_leastStep_42, rN_leastStep_67, rN_leastStep_70, Bool.false_eq_true, true_implies, false_implies, implies_true, true_and, and_true, not_true_eq_false, not_false_eq_true, zPush_I, zPush_L, zPush_R, zPush_U, Int.reduceLT, Int.reduceLE, Int.reduceEq, Int.reduceNe, Int.reduceAdd, Int.reduceSub, Int.reduceMul, Int.reduceNeg, Int.reduceToNat, Nat.reduceAdd, Nat.reduceMul, Nat.reduceEqDiff, zw32_id, zw64_id, zupd_eq, zupd_na, zupd_ni, zupp_eq, zupp_na, zupp_ni, p41, hL.1, eq_true lt, b, er]
        exact n
  simp (disch := first | assumption | omega) only [rN_leastStep_0, rN_leastStep_1, Bool.false_eq_true, true_implies, false_implies, implies_true, true_and, and_true, not_true_eq_false, not_false_eq_true, zPush_I, zPush_L, zPush_R, zPush_U, Int.reduceLT, Int.reduceLE, Int.reduceEq, Int.reduceNe, Int.reduceAdd, Int.reduceSub, Int.reduceMul, Int.reduceNeg, Int.reduceToNat, Nat.reduceAdd, Nat.reduceMul, Nat.reduceEqDiff, zw32_id, zw64_id, zupd_eq, zupd_na, zupd_ni, zupp_eq, zupp_na, zupp_ni]
  exact key e0 0 (by omega)
def tdF (x : Nat) (_ : Int) : Prop := x = 47
theorem cGoLeast (h : zLy sh pp) (ok : fOk f) (hL : nLd f mm) {c : Nat} (hc : c < 10) (hP : cP f c 0) (hQ : ∀ m', frP tdF mm m' → (∃ S, lnR f c (fun k => m' 47 k) (nE f) S) → Q zU sh pp m') : zS 65 0 [zR 38, zI (c : Int), zU, zU, zU, zU] [] sh pp mm Q := by
  have k38 := k_38 h
  have p38 := p_13_5 h
  have k47 := k_47 h
  have l47 := l_47 h
  have p47 := p_38_13 h
  have l := nE_le ok
  have t : 2 ^ nE f ≤ 4096 := by simpa using Nat.pow_le_pow_right (n := 2) (by omega) l
  have key : ∀ (d i S w : Nat) (m1 : zMm), i + d = nE f → frP tdF mm m1 → lnR f c (fun k => m1 47 k) i S → whB f c S = (w : Int) → zS 65 10 [zR 38, zU, zI (((2 ^ nE f - 1) ^^^ S : Nat) : Int), zI (w : Int), zI (i : Int), zU] [] sh pp m1 Q := by
    intro d
    induction d with
    | zero =>
      intro i S w m1 hi hf hl hw
      have hL1 : nLd f m1 := nLd_fr hL (hf _ _ (by unfold tdF; omega)) (fun x a b => by funext j; exact hf x j (by unfold tdF; omega))
      have hi : i = nE f := by omega
      rw [rN_goLeastFrom_10]
      simp (disch := first | assumption | omega) only [rN_goLeastFrom_12, rN_goLeastFrom_13, rN_goLeastFrom_16, rN_goLeastFrom_66, Bool.false_eq_true, true_implies, false_implies, implies_true, true_and, and_true, not_true_eq_false, not_false_eq_true, zPush_I, zPush_L, zPush_R, zPush_U, Int.reduceLT, Int.reduceLE, Int.reduceEq, Int.reduceNe, Int.reduceAdd, Int.reduceSub, Int.reduceMul, Int.reduceNeg, Int.reduceToNat, Nat.reduceAdd, Nat.reduceMul, Nat.reduceEqDiff, zw32_id, zw64_id, zupd_eq, zupd_na, zupd_ni, zupp_eq, zupp_na, zupp_ni, hL1.1, eq_false (show ¬ (i : Int) < (nE f : Int) by omega)]
      exact hQ m1 hf ⟨S, by rw [← hi]; exact hl⟩
    | succ d ih =>
      intro i S w m1 hi hf hl hw
      have hL1 : nLd f m1 := nLd_fr hL (hf _ _ (by unfold tdF; omega)) (fun x a b => by funext j; exact hf x j (by unfold tdF; omega))
      obtain ⟨hS, hpc⟩ := lnR_pc hl
      have hPS := lnR_cP hP hl
      obtain ⟨e0, he0⟩ := okE_ex ok hc hS (by omega) hPS
      have w10 : w < 10 := by
        rcases whB_n ok hc S with h1 | ⟨w', hw', h1, _⟩ <;> omega
      obtain ⟨-, hb, ⟨w', h1, h2⟩, -⟩ := id he0.1
      have hle : e0 < nE f := he0.1.1
      have : w' = w := by omega
      subst this
      have lt : (i : Int) < (nE f : Int) := by omega
      have hr := rest_lt hS
      have tb : ((2 ^ nE f - 1) ^^^ S).testBit e0 = true := by
        rw [tb_rest, hb]
        simp [hle]
      have x1 := zshl1 e0 (by omega)
      have x2 := zan2 (L := (2 ^ nE f - 1) ^^^ S) (e := e0) (by omega) (by omega) tb
      rw [rN_goLeastFrom_10]
      simp (disch := first | assumption | omega) only [rN_goLeastFrom_12, rN_goLeastFrom_13, rN_goLeastFrom_16, rN_goLeastFrom_19, rN_goLeastFrom_20, rN_goLeastFrom_21, rN_goLeastFrom_22, Bool.false_eq_true, true_implies, false_implies, implies_true, true_and, and_true, not_true_eq_false, not_false_eq_true, zPush_I, zPush_L, zPush_R, zPush_U, Int.reduceLT, Int.reduceLE, Int.reduceEq, Int.reduceNe, Int.reduceAdd, Int.reduceSub, Int.reduceMul, Int.reduceNeg, Int.reduceToNat, Nat.reduceAdd, Nat.reduceMul, Nat.reduceEqDiff, zw32_id, zw64_id, zupd_eq, zupd_na, zupd_ni, zupp_eq, zupp_na, zupp_ni, hL1.1, eq_true lt]
      refine cLeastStep h ok hL1 hc hS hw hPS he0 ?_
      have f2 : frP tdF mm (zupd m1 47 (i : Int) (e0 : Int)) := frP_up hf rfl
      have hL2 : nLd f (zupd m1 47 (i : Int) (e0 : Int)) := nLd_fr hL (f2 _ _ (by unfold tdF; omega)) (fun x a b => by funext j; exact f2 x j (by unfold tdF; omega))
      have ko := fun (Q : zV → zSh → zPp → zMm → Prop) => kN_other (Q := Q) h ok hL2 (w := w') hle
      have n := ih (i + 1) (S ||| 2 ^ e0) (oth (nA f) (nC f) e0 w') (zupd m1 47 (i : Int) (e0 : Int)) (by omega) f2 ⟨S, e0, lnR_ext (fun k hk => zupd_ni (by omega)) hl, zupd_eq _ _ _ _, he0, rfl⟩ (by
        rw [or_x hb]; exact whB_st ok hc w10 h1 hle h2)
      rw [show ((i + 1 : Nat) : Int) = (i : Int) + 1 by omega, rest_x hb] at n
      simp (disch := first | assumption | omega) only [rN_goLeastFrom_25, rN_goLeastFrom_27, rN_goLeastFrom_29, rN_goLeastFrom_30, rN_goLeastFrom_33, rN_goLeastFrom_34, rN_goLeastFrom_35, rN_goLeastFrom_38, rN_goLeastFrom_40, rN_goLeastFrom_42, rN_goLeastFrom_43, rN_goLeastFrom_44, rN_goLeastFrom_45, rN_goLeastFrom_47, rN_goLeastFrom_48, rN_goLeastFrom_49, rN_goLeastFrom_50, rN_goLeastFrom_51, rN_goLeastFrom_52, rN_goLeastFrom_53, rN_goLeastFrom_55, rN_goLeastFrom_56, rN_goLeastFrom_59, rN_goLeastFrom_60, rN_goLeastFrom_63, Bool.false_eq_true, true_implies, false_implies, implies_true, true_and, and_true, not_true_eq_false, not_false_eq_true, zPush_I, zPush_L, zPush_R, zPush_U, Int.reduceLT, Int.reduceLE, Int.reduceEq, Int.reduceNe, Int.reduceAdd, Int.reduceSub, Int.reduceMul, Int.reduceNeg, Int.reduceToNat, Nat.reduceAdd, Nat.reduceMul, Nat.reduceEqDiff, zw32_id, zw64_id, zupd_eq, zupd_na, zupd_ni, zupp_eq, zupp_na, zupp_ni, p47, eq_false (show ¬ (e0 : Int) = -1 by omega), x1, x2, ko]
      exact n
  have ka := fun (Q : zV → zSh → zPp → zMm → Prop) => kN_all (Q := Q) h ok hL.1
  have k := key (nE f) 0 0 c mm (by omega) (frP_rf _ _) rfl (whB_e hc hc (by rw [oddS_0, Nat.xor_self]))
  rw [Nat.xor_zero] at k
  simp (disch := first | assumption | omega) only [rN_goLeastFrom_0, rN_goLeastFrom_1, rN_goLeastFrom_4, rN_goLeastFrom_5, rN_goLeastFrom_6, rN_goLeastFrom_7, rN_goLeastFrom_8, Bool.false_eq_true, true_implies, false_implies, implies_true, true_and, and_true, not_true_eq_false, not_false_eq_true, zPush_I, zPush_L, zPush_R, zPush_U, Int.reduceLT, Int.reduceLE, Int.reduceEq, Int.reduceNe, Int.reduceAdd, Int.reduceSub, Int.reduceMul, Int.reduceNeg, Int.reduceToNat, Nat.reduceAdd, Nat.reduceMul, Nat.reduceEqDiff, zw32_id, zw64_id, zupd_eq, zupd_na, zupd_ni, zupp_eq, zupp_na, zupp_ni, ka]
  exact k
end
