/-! ===== the class's guesses: begin, compare, isEmpty ===== -/
section
variable {sh : zSh} {pp : zPp} {mm m' : zMm} {Q : zV → zSh → zPp → zMm → Prop} {f f' g : Int → Int}
theorem kX_isShakenOff {c k : Int} (c0 : 0 ≤ c) (c1 : c < 384) (k0 : 0 ≤ k) (k1 : k ≤ 2) : zS 144 0 [zI c, zI k] [] sh pp mm Q ↔ (((c % 24 + 2 * (c / 24) + k) % 3 = 0 → Q (zI 1) sh pp mm) ∧ (¬ (c % 24 + 2 * (c / 24) + k) % 3 = 0 → Q (zI 0) sh pp mm)) := by
  have e1 : c.tmod 24 = c % 24 := Int.tmod_eq_emod_of_nonneg c0
  have e2 : zw32 (c.tdiv 24) = c / 24 := kdiv c0 (by omega) (by decide)
  have e3 : (c % 24 + 2 * (c / 24) + k).tmod 3 = (c % 24 + 2 * (c / 24) + k) % 3 := Int.tmod_eq_emod_of_nonneg (by omega)
  simp (disch := first | assumption | omega) only [rX_isShakenOff_0, rX_isShakenOff_1, rX_isShakenOff_3, rX_isShakenOff_4, rX_isShakenOff_5, rX_isShakenOff_6, rX_isShakenOff_8, rX_isShakenOff_9, rX_isShakenOff_10, rX_isShakenOff_11, rX_isShakenOff_12, rX_isShakenOff_13, rX_isShakenOff_14, rX_isShakenOff_15, rX_isShakenOff_18, rX_isShakenOff_19, rX_isShakenOff_22, rX_isShakenOff_23, Bool.false_eq_true, true_implies, false_implies, implies_true, true_and, and_true, not_true_eq_false, not_false_eq_true, zPush_I, zPush_L, zPush_R, zPush_U, Int.reduceLT, Int.reduceLE, Int.reduceEq, Int.reduceNe, Int.reduceAdd, Int.reduceSub, Int.reduceMul, Int.reduceNeg, Int.reduceToNat, Nat.reduceAdd, Nat.reduceMul, Nat.reduceEqDiff, zw32_id, zw64_id, zupd_eq, zupd_na, zupd_ni, zupp_eq, zupp_na, zupp_ni, e1, e2, e3, true_or, or_true]
theorem kD_endCell {d : Nat} (hL : drL sh pp d) {κ lam : Int → Int} {m : Int} (h1 : kOk κ 23 m) (h2 : kOk lam 15 m) (r1 : rowIs mm (d + 3) κ) (r2 : rowIs mm (d + 4) lam) : zS 26 0 [zR d] [] sh pp mm Q ↔ Q (zI (24 * lam 0 + κ 0)) sh pp mm := by
  obtain ⟨k0, -, -, ⟨k3, p3⟩, ⟨k4, p4⟩, -⟩ := hL
  have e1 := r1 0 (by decide) (by decide)
  have e2 := r2 0 (by decide) (by decide)
  simp (disch := first | assumption | omega) only [rD_endCell_0, rD_endCell_1, rD_endCell_4, rD_endCell_7, rD_endCell_8, rD_endCell_11, rD_endCell_14, rD_endCell_17, Bool.false_eq_true, true_implies, false_implies, implies_true, true_and, and_true, not_true_eq_false, not_false_eq_true, zPush_I, zPush_L, zPush_R, zPush_U, Int.reduceLT, Int.reduceLE, Int.reduceEq, Int.reduceNe, Int.reduceAdd, Int.reduceSub, Int.reduceMul, Int.reduceNeg, Int.reduceToNat, Nat.reduceAdd, Nat.reduceMul, Nat.reduceEqDiff, zw32_id, zw64_id, zupd_eq, zupd_na, zupd_ni, zupp_eq, zupp_na, zupp_ni, p3, p4, e1, e2, kX_cellAt h1.1 h2.1]
/-- the inner loop: the four ways in which one cell may have come to be -/
theorem cCmp1 (h : zLy sh pp) {d q : Nat} (hq : q < 4) (hL : drL sh pp d) (hd : d < 52 ∨ 56 < d) (hd2 : d + 1 < 52 ∨ 56 < d + 1) {E : Int} (hE : E = pHere (dPl f q)) {i : Nat} (hi : i < 384) (hs : f (573 + (i : Int)) ≠ -1) (hz : ∀ m : zMm, (∀ r : Nat, r < 4 → m 56 (4 * (q : Int) + (r : Int)) = ((rcN f (gDv f q r) (i + 1) : Nat) : Int)) → frP (fun x j => x = 56 ∧ 4 * (q : Int) ≤ j ∧ j < 4 * (q : Int) + 4) mm m → zS 40 120 [zR 52, zI (q : Int), zR d, zR 25, zI E, zI (i : Int), zU, zU, zU] [] sh pp m Q) (hcl : mm (d + 1) (i : Int) = gDr f q (i : Int)) (hsn : mm 25 (i : Int) = f (573 + (i : Int))) : ∀ (t s : Nat) (m : zMm), s + t = 4 → (∀ r : Nat, r < 4 → m 56 (4 * (q : Int) + (r : Int)) = ((rcN f (gDv f q r) (if r < s then i + 1 else i) : Nat) : Int)) → frP (fun x j => x = 56 ∧ 4 * (q : Int) ≤ j ∧ j < 4 * (q : Int) + 4) mm m → zS 40 35 [zR 52, zI (q : Int), zR d, zR 25, zI E, zI (i : Int), zI (s : Int), zU, zU] [] sh pp m Q := by
  have k52 := k_52 h
  have p52 := p_13_7 h
  have k56 := k_56 h
  have l56 := l_56 h
  have p56 := p_52_5 h
  have k25 := k_25 h
  have l25 := l_25 h
  have p25 := p_14_6 h
  obtain ⟨kd, ⟨k1, l1, p1⟩, -⟩ := hL
  intro t
  induction t with
  | zero =>
    intro s m hst hR hfr
    rw [rG_compare_35]
    simp (disch := first | assumption | omega) only [rG_compare_37, rG_compare_38, Bool.false_eq_true, true_implies, false_implies, implies_true, true_and, and_true, not_true_eq_false, not_false_eq_true, zPush_I, zPush_L, zPush_R, zPush_U, Int.reduceLT, Int.reduceLE, Int.reduceEq, Int.reduceNe, Int.reduceAdd, Int.reduceSub, Int.reduceMul, Int.reduceNeg, Int.reduceToNat, Nat.reduceAdd, Nat.reduceMul, Nat.reduceEqDiff, zw32_id, zw64_id, zupd_eq, zupd_na, zupd_ni, zupp_eq, zupp_na, zupp_ni, eq_false (show ¬ (s : Int) < 4 by omega)]
    exact hz m (fun r hr => by have := hR r hr; rw [if_pos (by omega)] at this; exact this) hfr
  | succ t ih =>
    intro s m hst hR hfr
    have hs4 : s < 4 := by omega
    have zRr := hR s hs4
    rw [if_neg (by omega)] at zRr
    have zc : m (d + 1) (i : Int) = gDr f q (i : Int) := by rw [hfr _ _ (by omega)]; exact hcl
    have zsn : m 25 (i : Int) = f (573 + (i : Int)) := by rw [hfr _ _ (by omega)]; exact hsn
    have rb := rc_le f (gDv f q s) i
    have sb : seenN f i ≤ i := by
      have : ∀ (R : Int → Bool) (n : Nat), cnt R n ≤ n := by
        intro R n
        induction n with
        | zero => exact Nat.le_refl 0
        | succ n ihn => unfold cnt; split <;> omega
      exact this _ _
    have e92 : ∀ V : Int, V = gDv f q s (i : Int) → zS 40 92 [zR 52, zI (q : Int), zR d, zR 25, zI E, zI (i : Int), zI (s : Int), zU, zU] [zI V] sh pp m Q := by
      intro V hV
      have er : rcN f (gDv f q s) (i + 1) = rcN f (gDv f q s) i + (if decide (f (573 + (i : Int)) ≠ -1 ∧ gDv f q s (i : Int) = f (573 + (i : Int))) = true then 1 else 0) := rfl
      by_cases hv : V = f (573 + (i : Int))
      · rw [if_pos (by rw [decide_eq_true_eq]; exact ⟨hs, hV ▸ hv⟩)] at er
        have zi := ih (s + 1) (zupd m 56 ((q : Int) * 4 + (s : Int)) (((rcN f (gDv f q s) i : Nat) : Int) + 1)) (by omega) (fun r hr => ?_) (frP_up hfr (by omega))
        · rw [show ((s + 1 : Nat) : Int) = (s : Int) + 1 by omega] at zi
          rw [show 4 * (q : Int) + (s : Int) = (q : Int) * 4 + (s : Int) by omega] at zRr
          simp (disch := first | assumption | omega) only [rG_compare_92, rG_compare_93, rG_compare_95, rG_compare_96, rG_compare_99, rG_compare_100, rG_compare_103, rG_compare_104, rG_compare_105, rG_compare_106, rG_compare_108, rG_compare_109, rG_compare_110, rG_compare_111, rG_compare_112, rG_compare_113, rG_compare_114, rG_compare_117, Bool.false_eq_true, true_implies, false_implies, implies_true, true_and, and_true, not_true_eq_false, not_false_eq_true, zPush_I, zPush_L, zPush_R, zPush_U, Int.reduceLT, Int.reduceLE, Int.reduceEq, Int.reduceNe, Int.reduceAdd, Int.reduceSub, Int.reduceMul, Int.reduceNeg, Int.reduceToNat, Nat.reduceAdd, Nat.reduceMul, Nat.reduceEqDiff, zw32_id, zw64_id, zupd_eq, zupd_na, zupd_ni, zupp_eq, zupp_na, zupp_ni, zsn, eq_true hv, p56, zRr]
          exact zi
        · by_cases hrs : r = s
          · subst hrs
            rw [show 4 * (q : Int) + (r : Int) = (q : Int) * 4 + (r : Int) by omega, zupd_eq, if_pos (by omega), er]
            push_cast
            rfl
          · rw [zupd_ni (by omega), hR r hr]
            by_cases hlt : r < s
            · rw [if_pos hlt, if_pos (by omega)]
            · rw [if_neg hlt, if_neg (by omega)]
      · rw [if_neg (by rw [decide_eq_true_eq]; exact fun hx => hv (hV.trans hx.2))] at er
        have zi := ih (s + 1) m (by omega) (fun r hr => ?_) hfr
        · rw [show ((s + 1 : Nat) : Int) = (s : Int) + 1 by omega] at zi
          simp (disch := first | assumption | omega) only [rG_compare_92, rG_compare_93, rG_compare_95, rG_compare_96, rG_compare_114, rG_compare_117, Bool.false_eq_true, true_implies, false_implies, implies_true, true_and, and_true, not_true_eq_false, not_false_eq_true, zPush_I, zPush_L, zPush_R, zPush_U, Int.reduceLT, Int.reduceLE, Int.reduceEq, Int.reduceNe, Int.reduceAdd, Int.reduceSub, Int.reduceMul, Int.reduceNeg, Int.reduceToNat, Nat.reduceAdd, Nat.reduceMul, Nat.reduceEqDiff, zw32_id, zw64_id, zupd_eq, zupd_na, zupd_ni, zupp_eq, zupp_na, zupp_ni, zsn, eq_false hv]
          exact zi
        · rw [hR r hr]
          by_cases hrs : r = s
          · subst hrs
            rw [if_neg (by omega), if_pos (by omega), er]
            rfl
          · by_cases hlt : r < s
            · rw [if_pos hlt, if_pos (by omega)]
            · rw [if_neg hlt, if_neg (by omega)]
    rw [rG_compare_35]
    by_cases s0 : s = 0
    · subst s0
      have zq := e92 _ (show gDr f q (i : Int) = gDv f q 0 (i : Int) from rfl)
      simp (disch := first | assumption | omega) only [rG_compare_37, rG_compare_38, rG_compare_41, rG_compare_43, rG_compare_46, rG_compare_48, rG_compare_50, rG_compare_53, rG_compare_55, rG_compare_57, rG_compare_58, rG_compare_59, rG_compare_62, rG_compare_65, rG_compare_66, rG_compare_69, rG_compare_70, rG_compare_72, rG_compare_74, rG_compare_77, rG_compare_78, rG_compare_81, rG_compare_82, rG_compare_85, rG_compare_87, rG_compare_88, rG_compare_90, Bool.false_eq_true, true_implies, false_implies, implies_true, true_and, and_true, not_true_eq_false, not_false_eq_true, zPush_I, zPush_L, zPush_R, zPush_U, Int.reduceLT, Int.reduceLE, Int.reduceEq, Int.reduceNe, Int.reduceAdd, Int.reduceSub, Int.reduceMul, Int.reduceNeg, Int.reduceToNat, Nat.reduceAdd, Nat.reduceMul, Nat.reduceEqDiff, zw32_id, zw64_id, zupd_eq, zupd_na, zupd_ni, zupp_eq, zupp_na, zupp_ni, Int.natCast_zero, p1, zc]
      simp only [Int.natCast_zero] at zq
      exact zq
    · have hdv : gDv f q s (i : Int) = (if ((i : Int) % 24 + 2 * ((i : Int) / 24) + ((s : Int) - 1)) % 3 = 0 ∧ (i : Int) ≠ E then 0 else gDr f q (i : Int)) := by
        unfold gDv
        rw [if_neg s0, hE]
        rfl
      have hk := fun (Q : zV → zSh → zPp → zMm → Prop) => kX_isShakenOff (sh := sh) (pp := pp) (mm := m) (Q := Q) (c := (i : Int)) (k := (s : Int) - 1) (by omega) (by omega) (by omega) (by omega)
      by_cases cE : (i : Int) = E
      · rw [if_neg (fun hx => hx.2 cE)] at hdv
        have zq := e92 _ hdv.symm
        simp (disch := first | assumption | omega) only [rG_compare_37, rG_compare_38, rG_compare_41, rG_compare_43, rG_compare_46, rG_compare_48, rG_compare_50, rG_compare_53, rG_compare_55, rG_compare_57, rG_compare_58, rG_compare_59, rG_compare_62, rG_compare_65, rG_compare_66, rG_compare_69, rG_compare_70, rG_compare_72, rG_compare_74, rG_compare_77, rG_compare_78, rG_compare_81, rG_compare_82, rG_compare_85, rG_compare_87, rG_compare_88, rG_compare_90, Bool.false_eq_true, true_implies, false_implies, implies_true, true_and, and_true, not_true_eq_false, not_false_eq_true, zPush_I, zPush_L, zPush_R, zPush_U, Int.reduceLT, Int.reduceLE, Int.reduceEq, Int.reduceNe, Int.reduceAdd, Int.reduceSub, Int.reduceMul, Int.reduceNeg, Int.reduceToNat, Nat.reduceAdd, Nat.reduceMul, Nat.reduceEqDiff, zw32_id, zw64_id, zupd_eq, zupd_na, zupd_ni, zupp_eq, zupp_na, zupp_ni, eq_true (show (s : Int) < 4 by omega), eq_true (show 0 < (s : Int) by omega), eq_true cE, p1, zc]
        exact zq
      · by_cases cS : ((i : Int) % 24 + 2 * ((i : Int) / 24) + ((s : Int) - 1)) % 3 = 0
        · rw [if_pos ⟨cS, cE⟩] at hdv
          have zq := e92 _ hdv.symm
          simp (disch := first | assumption | omega) only [rG_compare_37, rG_compare_38, rG_compare_41, rG_compare_43, rG_compare_46, rG_compare_48, rG_compare_50, rG_compare_53, rG_compare_55, rG_compare_57, rG_compare_58, rG_compare_59, rG_compare_62, rG_compare_65, rG_compare_66, rG_compare_69, rG_compare_70, rG_compare_72, rG_compare_74, rG_compare_77, rG_compare_78, rG_compare_81, rG_compare_82, rG_compare_85, rG_compare_87, rG_compare_88, rG_compare_90, Bool.false_eq_true, true_implies, false_implies, implies_true, true_and, and_true, not_true_eq_false, not_false_eq_true, zPush_I, zPush_L, zPush_R, zPush_U, Int.reduceLT, Int.reduceLE, Int.reduceEq, Int.reduceNe, Int.reduceAdd, Int.reduceSub, Int.reduceMul, Int.reduceNeg, Int.reduceToNat, Nat.reduceAdd, Nat.reduceMul, Nat.reduceEqDiff, zw32_id, zw64_id, zupd_eq, zupd_na, zupd_ni, zupp_eq, zupp_na, zupp_ni, eq_true (show (s : Int) < 4 by omega), eq_true (show 0 < (s : Int) by omega), eq_false cE, hk, eq_true cS, p1, zc]
          exact zq
        · rw [if_neg (fun hx => cS hx.1)] at hdv
          have zq := e92 _ hdv.symm
          simp (disch := first | assumption | omega) only [rG_compare_37, rG_compare_38, rG_compare_41, rG_compare_43, rG_compare_46, rG_compare_48, rG_compare_50, rG_compare_53, rG_compare_55, rG_compare_57, rG_compare_58, rG_compare_59, rG_compare_62, rG_compare_65, rG_compare_66, rG_compare_69, rG_compare_70, rG_compare_72, rG_compare_74, rG_compare_77, rG_compare_78, rG_compare_81, rG_compare_82, rG_compare_85, rG_compare_87, rG_compare_88, rG_compare_90, Bool.false_eq_true, true_implies, false_implies, implies_true, true_and, and_true, not_true_eq_false, not_false_eq_true, zPush_I, zPush_L, zPush_R, zPush_U, Int.reduceLT, Int.reduceLE, Int.reduceEq, Int.reduceNe, Int.reduceAdd, Int.reduceSub, Int.reduceMul, Int.reduceNeg, Int.reduceToNat, Nat.reduceAdd, Nat.reduceMul, Nat.reduceEqDiff, zw32_id, zw64_id, zupd_eq, zupd_na, zupd_ni, zupp_eq, zupp_na, zupp_ni, eq_true (show (s : Int) < 4 by omega), eq_true (show 0 < (s : Int) by omega), eq_false cE, hk, eq_false cS, p1, zc]
          exact zq
theorem cCompare (h : zLy sh pp) {q : Nat} (hq : q < 4) (ok : fOk f) (hr : ft f q = -1) (hd : drwOk (73 + 14 * q) f q mm) (hsn : ∀ i, 0 ≤ i → i < 384 → mm 25 i = f (573 + i)) (h0 : ∀ r : Nat, r < 4 → mm 56 (4 * (q : Int) + (r : Int)) = 0) (hQ : ∀ m : zMm, (∀ r : Nat, r < 4 → m 56 (4 * (q : Int) + (r : Int)) = ((rcN f (gDv f q r) 384 : Nat) : Int)) → m 55 (q : Int) = 1 → frP (fun x j => (x = 56 ∧ 4 * (q : Int) ≤ j ∧ j < 4 * (q : Int) + 4) ∨ (x = 55 ∧ j = (q : Int))) mm m → Q zU sh pp m) : zS 40 0 [zR 52, zI (q : Int), zR (73 + 14 * q), zR 25, zU, zU, zU, zU, zU] [] sh pp mm Q := by
  have k52 := k_52 h
  have p52 := p_13_7 h
  have k56 := k_56 h
  have l56 := l_56 h
  have p56 := p_52_5 h
  have k55 := k_55 h
  have l55 := l_55 h
  have p55 := p_52_4 h
  have k25 := k_25 h
  have l25 := l_25 h
  have p25 := p_14_6 h
  obtain ⟨d1, d2⟩ := drL_of h hq
  have kd := d1.1
  obtain ⟨z1, -⟩ := dPl_ok ok (p := (q : Int)) (by omega) (by omega) hr
  obtain ⟨E, hE⟩ : ∃ E, E = pHere (dPl f q) := ⟨_, rfl⟩
  have f0 : frP (fun x j => (x = 56 ∧ 4 * (q : Int) ≤ j ∧ j < 4 * (q : Int) + 4) ∨ (x = 55 ∧ j = (q : Int))) mm (zupd mm 55 (q : Int) 1) := frP_up (frP_rf _ _) (by omega)
  have ec := fun (Q : zV → zSh → zPp → zMm → Prop) => kD_endCell (sh := sh) (pp := pp) (mm := zupd mm 55 (q : Int) 1) (Q := Q) (κ := (dPl f q).1) (lam := (dPl f q).2.1) d1 z1.1 z1.2.1 (rowIs_fr hd.1.1 f0 (by omega)) (rowIs_fr hd.1.2.1 f0 (by omega))
  have eE : 24 * (dPl f q).2.1 0 + (dPl f q).1 0 = E := by rw [hE]; rfl
  have key : ∀ (t i : Nat) (m : zMm), i + t = 384 → (∀ r : Nat, r < 4 → m 56 (4 * (q : Int) + (r : Int)) = ((rcN f (gDv f q r) i : Nat) : Int)) → m 55 (q : Int) = 1 → frP (fun x j => (x = 56 ∧ 4 * (q : Int) ≤ j ∧ j < 4 * (q : Int) + 4) ∨ (x = 55 ∧ j = (q : Int))) mm m → zS 40 16 [zR 52, zI (q : Int), zR (73 + 14 * q), zR 25, zI E, zI (i : Int), zU, zU, zU] [] sh pp m Q := by
    intro t
    induction t with
    | zero =>
      intro i m hi hR hg hfr
      have hi : i = 384 := by omega
      subst hi
      rw [rG_compare_16]
      simp (disch := first | assumption | omega) only [rG_compare_18, rG_compare_21, rG_compare_126, Bool.false_eq_true, true_implies, false_implies, implies_true, true_and, and_true, not_true_eq_false, not_false_eq_true, zPush_I, zPush_L, zPush_R, zPush_U, Int.reduceLT, Int.reduceLE, Int.reduceEq, Int.reduceNe, Int.reduceAdd, Int.reduceSub, Int.reduceMul, Int.reduceNeg, Int.reduceToNat, Nat.reduceAdd, Nat.reduceMul, Nat.reduceEqDiff, zw32_id, zw64_id, zupd_eq, zupd_na, zupd_ni, zupp_eq, zupp_na, zupp_ni, eq_false (show ¬ ((384 : Nat) : Int) < 384 by decide)]
      exact hQ m hR hg hfr
    | succ t ih =>
      intro i m hi hR hg hfr
      have zs : m 25 (i : Int) = f (573 + (i : Int)) := by rw [hfr _ _ (by omega)]; exact hsn (i : Int) (by omega) (by omega)
      have zc : m (73 + 14 * q + 1) (i : Int) = gDr f q (i : Int) := by rw [hfr _ _ (by omega)]; exact hd.1.2.2.1 (i : Int) (by omega) (by omega)
      rw [rG_compare_16]
      by_cases hs : f (573 + (i : Int)) = -1
      · have zi := ih (i + 1) m (by omega) (fun r hr4 => by
          rw [hR r hr4]
          have er : rcN f (gDv f q r) (i + 1) = rcN f (gDv f q r) i + (if decide (f (573 + (i : Int)) ≠ -1 ∧ gDv f q r (i : Int) = f (573 + (i : Int))) = true then 1 else 0) := rfl
          rw [if_neg (by rw [decide_eq_true_eq]; exact fun hx => hx.1 hs)] at er
          rw [er]
          rfl) hg hfr
        rw [show ((i + 1 : Nat) : Int) = (i : Int) + 1 by omega] at zi
        simp (disch := first | assumption | omega) only [rG_compare_18, rG_compare_21, rG_compare_24, rG_compare_25, rG_compare_27, rG_compare_28, rG_compare_29, rG_compare_120, rG_compare_123, Bool.false_eq_true, true_implies, false_implies, implies_true, true_and, and_true, not_true_eq_false, not_false_eq_true, zPush_I, zPush_L, zPush_R, zPush_U, Int.reduceLT, Int.reduceLE, Int.reduceEq, Int.reduceNe, Int.reduceAdd, Int.reduceSub, Int.reduceMul, Int.reduceNeg, Int.reduceToNat, Nat.reduceAdd, Nat.reduceMul, Nat.reduceEqDiff, zw32_id, zw64_id, zupd_eq, zupd_na, zupd_ni, zupp_eq, zupp_na, zupp_ni, eq_true (show (i : Int) < 384 by omega), zs, hs]
        exact zi
      · simp (disch := first | assumption | omega) only [rG_compare_18, rG_compare_21, rG_compare_24, rG_compare_25, rG_compare_27, rG_compare_28, rG_compare_29, rG_compare_32, rG_compare_33, Bool.false_eq_true, true_implies, false_implies, implies_true, true_and, and_true, not_true_eq_false, not_false_eq_true, zPush_I, zPush_L, zPush_R, zPush_U, Int.reduceLT, Int.reduceLE, Int.reduceEq, Int.reduceNe, Int.reduceAdd, Int.reduceSub, Int.reduceMul, Int.reduceNeg, Int.reduceToNat, Nat.reduceAdd, Nat.reduceMul, Nat.reduceEqDiff, zw32_id, zw64_id, zupd_eq, zupd_na, zupd_ni, zupp_eq, zupp_na, zupp_ni, eq_true (show (i : Int) < 384 by omega), zs, eq_false hs]
        refine cCmp1 h hq d1 (by omega) (by omega) hE (i := i) (by omega) hs (fun m2 a1 a2 => ?_) zc zs 4 0 m (by omega) (fun r hr4 => by rw [if_neg (by omega)]; exact hR r hr4) (frP_rf _ _)
        have zi := ih (i + 1) m2 (by omega) a1 (by rw [a2 _ _ (by omega)]; exact hg) (frP_tr hfr (frP_wd a2 (fun x j hj => by omega)))
        rw [show ((i + 1 : Nat) : Int) = (i : Int) + 1 by omega] at zi
        simp (disch := first | assumption | omega) only [rG_compare_120, rG_compare_123, Bool.false_eq_true, true_implies, false_implies, implies_true, true_and, and_true, not_true_eq_false, not_false_eq_true, zPush_I, zPush_L, zPush_R, zPush_U, Int.reduceLT, Int.reduceLE, Int.reduceEq, Int.reduceNe, Int.reduceAdd, Int.reduceSub, Int.reduceMul, Int.reduceNeg, Int.reduceToNat, Nat.reduceAdd, Nat.reduceMul, Nat.reduceEqDiff, zw32_id, zw64_id, zupd_eq, zupd_na, zupd_ni, zupp_eq, zupp_na, zupp_ni]
        exact zi
  simp (disch := first | assumption | omega) only [rG_compare_0, rG_compare_1, rG_compare_4, rG_compare_5, rG_compare_6, rG_compare_7, rG_compare_8, rG_compare_11, rG_compare_13, rG_compare_14, Bool.false_eq_true, true_implies, false_implies, implies_true, true_and, and_true, not_true_eq_false, not_false_eq_true, zPush_I, zPush_L, zPush_R, zPush_U, Int.reduceLT, Int.reduceLE, Int.reduceEq, Int.reduceNe, Int.reduceAdd, Int.reduceSub, Int.reduceMul, Int.reduceNeg, Int.reduceToNat, Nat.reduceAdd, Nat.reduceMul, Nat.reduceEqDiff, zw32_id, zw64_id, zupd_eq, zupd_na, zupd_ni, zupp_eq, zupp_na, zupp_ni, p55, ec, eE, true_or, or_true]
  exact key 384 0 _ (by omega) (fun r hr4 => by rw [zupd_na (by decide)]; exact h0 r hr4) (zupd_eq _ _ _ _) f0
end
