/-! ===== nets of the class: trail ===== -/
def ctF (x : Nat) (j : Int) : Prop := (x = 38 ∧ j = 14) ∨ x = 46 ∨ x = 47
section
variable {sh : zSh} {pp : zPp} {mm : zMm} {Q : zV → zSh → zPp → zMm → Prop} {f : Int → Int} {G : Int → Option (Int → Int)} {cn : Int → Int} {N D : Nat}
theorem cTriedFirst (h : zLy sh pp) (ok : fOk f) (hL : mm 38 3 = (nE f : Int)) (hQ1 : lxL (fun k => mm 47 k) (fun k => mm 46 k) (nE f) → Q (zI 1) sh pp mm) (hQ0 : ¬ lxL (fun k => mm 47 k) (fun k => mm 46 k) (nE f) → Q (zI 0) sh pp mm) : zS 67 0 [zR 38, zU] [] sh pp mm Q := by
  have k38 := k_38 h
  have p38 := p_13_5 h
  have k46 := k_46 h
  have l46 := l_46 h
  have p46 := p_38_12 h
  have k47 := k_47 h
  have l47 := l_47 h
  have p47 := p_38_13 h
  have l := nE_le ok
  have key : ∀ (d i : Nat), i + d = nE f → (∀ j : Nat, j < i → mm 47 (j : Int) = mm 46 (j : Int)) → zS 67 2 [zR 38, zI (i : Int)] [] sh pp mm Q := by
    intro d
    induction d with
    | zero =>
      intro i hi hj
      have q := hQ0 (fun ⟨k, h1, h2, h3⟩ => by
        have := hj k (by omega)
        try dsimp only at h2
        omega)
      rw [rN_isTriedFirst_2]
      simp (disch := first | assumption | omega) only [rN_isTriedFirst_3, rN_isTriedFirst_4, rN_isTriedFirst_7, rN_isTriedFirst_52, rN_isTriedFirst_53, Bool.false_eq_true, true_implies, false_implies, implies_true, true_and, and_true, not_true_eq_false, not_false_eq_true, zPush_I, zPush_L, zPush_R, zPush_U, Int.reduceLT, Int.reduceLE, Int.reduceEq, Int.reduceNe, Int.reduceAdd, Int.reduceSub, Int.reduceMul, Int.reduceNeg, Int.reduceToNat, Nat.reduceAdd, Nat.reduceMul, Nat.reduceEqDiff, zw32_id, zw64_id, zupd_eq, zupd_na, zupd_ni, zupp_eq, zupp_na, zupp_ni, hL, eq_false (show ¬ (i : Int) < (nE f : Int) by omega), true_or, or_true]
      exact q
    | succ d ih =>
      intro i hi hj
      have lt : (i : Int) < (nE f : Int) := by omega
      rw [rN_isTriedFirst_2]
      by_cases e : mm 47 (i : Int) = mm 46 (i : Int)
      · have n := ih (i + 1) (by omega) (fun j hj2 => by
          by_cases ej : j = i
          · subst ej; exact e
          · exact hj j (by omega))
        rw [show ((i + 1 : Nat) : Int) = (i : Int) + 1 by omega] at n
        simp (disch := first | assumption | omega) only [rN_isTriedFirst_3, rN_isTriedFirst_4, rN_isTriedFirst_7, rN_isTriedFirst_10, rN_isTriedFirst_11, rN_isTriedFirst_14, rN_isTriedFirst_15, rN_isTriedFirst_16, rN_isTriedFirst_17, rN_isTriedFirst_20, rN_isTriedFirst_21, rN_isTriedFirst_22, rN_isTriedFirst_46, rN_isTriedFirst_49, Bool.false_eq_true, true_implies, false_implies, implies_true, true_and, and_true, not_true_eq_false, not_false_eq_true, zPush_I, zPush_L, zPush_R, zPush_U, Int.reduceLT, Int.reduceLE, Int.reduceEq, Int.reduceNe, Int.reduceAdd, Int.reduceSub, Int.reduceMul, Int.reduceNeg, Int.reduceToNat, Nat.reduceAdd, Nat.reduceMul, Nat.reduceEqDiff, zw32_id, zw64_id, zupd_eq, zupd_na, zupd_ni, zupp_eq, zupp_na, zupp_ni, p46, p47, hL, eq_true lt, eq_true e]
        exact n
      · by_cases e2 : mm 47 (i : Int) < mm 46 (i : Int)
        · have q := hQ1 ⟨i, by omega, e2, hj⟩
          simp (disch := first | assumption | omega) only [rN_isTriedFirst_3, rN_isTriedFirst_4, rN_isTriedFirst_7, rN_isTriedFirst_10, rN_isTriedFirst_11, rN_isTriedFirst_14, rN_isTriedFirst_15, rN_isTriedFirst_16, rN_isTriedFirst_17, rN_isTriedFirst_20, rN_isTriedFirst_21, rN_isTriedFirst_22, rN_isTriedFirst_25, rN_isTriedFirst_26, rN_isTriedFirst_29, rN_isTriedFirst_30, rN_isTriedFirst_31, rN_isTriedFirst_32, rN_isTriedFirst_35, rN_isTriedFirst_36, rN_isTriedFirst_37, rN_isTriedFirst_40, rN_isTriedFirst_41, rN_isTriedFirst_44, rN_isTriedFirst_45, Bool.false_eq_true, true_implies, false_implies, implies_true, true_and, and_true, not_true_eq_false, not_false_eq_true, zPush_I, zPush_L, zPush_R, zPush_U, Int.reduceLT, Int.reduceLE, Int.reduceEq, Int.reduceNe, Int.reduceAdd, Int.reduceSub, Int.reduceMul, Int.reduceNeg, Int.reduceToNat, Nat.reduceAdd, Nat.reduceMul, Nat.reduceEqDiff, zw32_id, zw64_id, zupd_eq, zupd_na, zupd_ni, zupp_eq, zupp_na, zupp_ni, p46, p47, hL, eq_true lt, eq_false e, eq_true e2, true_or, or_true]
          exact q
        · have q := hQ0 (fun ⟨k, h1, h2, h3⟩ => by
            try dsimp only at h2 h3
            by_cases k1 : k < i
            · have := hj k k1
              omega
            · by_cases k2 : k = i
              · subst k2; omega
              · have := h3 i (by omega)
                omega)
          simp (disch := first | assumption | omega) only [rN_isTriedFirst_3, rN_isTriedFirst_4, rN_isTriedFirst_7, rN_isTriedFirst_10, rN_isTriedFirst_11, rN_isTriedFirst_14, rN_isTriedFirst_15, rN_isTriedFirst_16, rN_isTriedFirst_17, rN_isTriedFirst_20, rN_isTriedFirst_21, rN_isTriedFirst_22, rN_isTriedFirst_25, rN_isTriedFirst_26, rN_isTriedFirst_29, rN_isTriedFirst_30, rN_isTriedFirst_31, rN_isTriedFirst_32, rN_isTriedFirst_35, rN_isTriedFirst_36, rN_isTriedFirst_37, rN_isTriedFirst_40, rN_isTriedFirst_41, rN_isTriedFirst_44, rN_isTriedFirst_45, Bool.false_eq_true, true_implies, false_implies, implies_true, true_and, and_true, not_true_eq_false, not_false_eq_true, zPush_I, zPush_L, zPush_R, zPush_U, Int.reduceLT, Int.reduceLE, Int.reduceEq, Int.reduceNe, Int.reduceAdd, Int.reduceSub, Int.reduceMul, Int.reduceNeg, Int.reduceToNat, Nat.reduceAdd, Nat.reduceMul, Nat.reduceEqDiff, zw32_id, zw64_id, zupd_eq, zupd_na, zupd_ni, zupp_eq, zupp_na, zupp_ni, p46, p47, hL, eq_true lt, eq_false e, eq_false e2, true_or, or_true]
          exact q
  simp (disch := first | assumption | omega) only [rN_isTriedFirst_0, rN_isTriedFirst_1, Bool.false_eq_true, true_implies, false_implies, implies_true, true_and, and_true, not_true_eq_false, not_false_eq_true, zPush_I, zPush_L, zPush_R, zPush_U, Int.reduceLT, Int.reduceLE, Int.reduceEq, Int.reduceNe, Int.reduceAdd, Int.reduceSub, Int.reduceMul, Int.reduceNeg, Int.reduceToNat, Nat.reduceAdd, Nat.reduceMul, Nat.reduceEqDiff, zw32_id, zw64_id, zupd_eq, zupd_na, zupd_ni, zupp_eq, zupp_na, zupp_ni]
  exact key (nE f) 0 (by omega) (fun j hj => by omega)
theorem trR_cut (ok : fOk f) (h0 : 0 < nE f) {b : Int} {g : Int → Int} (h : trR f 10 b g) : trR f (f 982).toNat b g := by
  have c1 := ok.2.2.2.1.2.1
  rcases h with ⟨h1, h2⟩ | ⟨c, h1, h2, h3, h4, h5⟩
  · exact Or.inl ⟨h1, fun c hc => h2 c (by omega)⟩
  · exact Or.inr ⟨c, h1, cP_lt ok h0 h2 h3, h3, h4, fun c' hc' => h5 c' (by omega)⟩
theorem cFindTrail (h : zLy sh pp) (ok : fOk f) (hK : cNtK f mm) (h14 : mm 38 14 = -1) (h0 : onB f = true ∧ 0 < nE f) (hQ : ∀ m', frP ctF mm m' → trR f (f 982).toNat (m' 38 14) (fun k => m' 46 k) → Q zU sh pp m') : zS 64 0 [zR 38, zU, zU] [] sh pp mm Q := by
  have k38 := k_38 h
  have p38 := p_13_5 h
  have k46 := k_46 h
  have l46 := l_46 h
  have p46 := p_38_12 h
  have k47 := k_47 h
  have l47 := l_47 h
  have p47 := p_38_13 h
  have l := nE_le ok
  have kf := fun (Q : zV → zSh → zPp → zMm → Prop) => kN_first (Q := Q) h ok hK
  have hfc := fC_lt ok
  have key : ∀ (d i : Nat) (m1 : zMm), i + d = 10 → frP ctF mm m1 → trR f i (m1 38 14) (fun k => m1 46 k) → zS 64 7 [zR 38, zI ((fC f : Nat) : Int), zI (i : Int)] [] sh pp m1 Q := by
    intro d
    induction d with
    | zero =>
      intro i m1 hi hf hr
      have hi : i = 10 := by omega
      subst hi
      rw [rN_findTrail_7]
      simp (disch := first | assumption | omega) only [rN_findTrail_8, rN_findTrail_10, rN_findTrail_70, Bool.false_eq_true, true_implies, false_implies, implies_true, true_and, and_true, not_true_eq_false, not_false_eq_true, zPush_I, zPush_L, zPush_R, zPush_U, Int.reduceLT, Int.reduceLE, Int.reduceEq, Int.reduceNe, Int.reduceAdd, Int.reduceSub, Int.reduceMul, Int.reduceNeg, Int.reduceToNat, Nat.reduceAdd, Nat.reduceMul, Nat.reduceEqDiff, zw32_id, zw64_id, zupd_eq, zupd_na, zupd_ni, zupp_eq, zupp_na, zupp_ni, Int.cast_ofNat_Int, Int.lt_irrefl]
      exact hQ m1 hf (trR_cut ok h0.2 hr)
    | succ d ih =>
      intro i m1 hi hf hr
      have i10 : i < 10 := by omega
      have hL1 : nLd f m1 := nLd_fr (nLd_of hK) (hf _ _ (by unfold ctF; omega)) (fun x a b => by funext j; exact hf x j (by unfold ctF; omega))
      have b := tb_i hfc i10
      have back : ∀ m2, frP ctF mm m2 → trR f (i + 1) (m2 38 14) (fun k => m2 46 k) → zS 64 64 [zR 38, zI ((fC f : Nat) : Int), zI (i : Int)] [] sh pp m2 Q := fun m2 a1 a2 => by
        have n := ih (i + 1) m2 (by omega) a1 a2
        rw [show ((i + 1 : Nat) : Int) = (i : Int) + 1 by omega] at n
        simp (disch := first | assumption | omega) only [rN_findTrail_64, rN_findTrail_67, Bool.false_eq_true, true_implies, false_implies, implies_true, true_and, and_true, not_true_eq_false, not_false_eq_true, zPush_I, zPush_L, zPush_R, zPush_U, Int.reduceLT, Int.reduceLE, Int.reduceEq, Int.reduceNe, Int.reduceAdd, Int.reduceSub, Int.reduceMul, Int.reduceNeg, Int.reduceToNat, Nat.reduceAdd, Nat.reduceMul, Nat.reduceEqDiff, zw32_id, zw64_id, zupd_eq, zupd_na, zupd_ni, zupp_eq, zupp_na, zupp_ni]
        exact n
      rw [rN_findTrail_7]
      by_cases hb : (fC f).testBit i = true
      · rw [if_pos hb] at b
        have hp := ((fC_tb ok).mp hb).2.2
        simp (disch := first | assumption | omega) only [rN_findTrail_8, rN_findTrail_10, rN_findTrail_13, rN_findTrail_14, rN_findTrail_15, rN_findTrail_16, rN_findTrail_17, rN_findTrail_18, rN_findTrail_19, rN_findTrail_22, rN_findTrail_23, rN_findTrail_24, Bool.false_eq_true, true_implies, false_implies, implies_true, true_and, and_true, not_true_eq_false, not_false_eq_true, zPush_I, zPush_L, zPush_R, zPush_U, Int.reduceLT, Int.reduceLE, Int.reduceEq, Int.reduceNe, Int.reduceAdd, Int.reduceSub, Int.reduceMul, Int.reduceNeg, Int.reduceToNat, Nat.reduceAdd, Nat.reduceMul, Nat.reduceEqDiff, zw32_id, zw64_id, zupd_eq, zupd_na, zupd_ni, zupp_eq, zupp_na, zupp_ni, eq_true (show (i : Int) < 10 by omega), b]
        refine cGoLeast h ok hL1 i10 hp (fun m2 f2 hS => ?_)
        obtain ⟨S, hl⟩ := hS
        have f2' : frP ctF mm m2 := frP_tr hf (frP_wd f2 (fun x j hj => by unfold tdF at hj; unfold ctF; omega))
        have e14 : m2 38 14 = m1 38 14 := f2 _ _ (by unfold tdF; omega)
        have e3 : m2 38 3 = (nE f : Int) := by rw [f2 _ _ (by unfold tdF; omega)]; exact hL1.1
        have hr2 : trR f i (m2 38 14) (fun k => m2 46 k) := by rw [e14]; exact trR_ext hr (fun k _ => f2 _ _ (by unfold tdF; omega))
        have take : (m2 38 14 = -1 ∨ lxL (fun k => m2 47 k) (fun k => m2 46 k) (nE f)) → zS 64 42 [zR 38, zI ((fC f : Nat) : Int), zI (i : Int)] [] sh pp m2 Q := by
          intro hn
          have r := trR_new hr2 hp hl hn
          simp (disch := first | assumption | omega) only [rN_findTrail_42, rN_findTrail_43, rN_findTrail_46, rN_findTrail_47, rN_findTrail_48, rN_findTrail_51, rN_findTrail_52, rN_findTrail_53, rN_findTrail_56, rN_findTrail_59, rN_findTrail_60, rN_findTrail_61, Bool.false_eq_true, true_implies, false_implies, implies_true, true_and, and_true, not_true_eq_false, not_false_eq_true, zPush_I, zPush_L, zPush_R, zPush_U, Int.reduceLT, Int.reduceLE, Int.reduceEq, Int.reduceNe, Int.reduceAdd, Int.reduceSub, Int.reduceMul, Int.reduceNeg, Int.reduceToNat, Nat.reduceAdd, Nat.reduceMul, Nat.reduceEqDiff, zw32_id, zw64_id, zupd_eq, zupd_na, zupd_ni, zupp_eq, zupp_na, zupp_ni, p46, p47, e3]
          refine back _ (frP_up (frP_tr f2' (fun x j hx => ?_)) (Or.inl ⟨rfl, rfl⟩)) ?_
          · exact zcpy_na (fun e => hx (Or.inr (Or.inl e)))
          · rw [zupd_eq]
            refine trR_ext r (fun k hk => ?_)
            show zupd _ _ _ _ _ _ = _
            rw [zupd_na (by decide), zcpy_in (by omega) (by omega), show (0 : Int) + ((k : Int) - 0) = (k : Int) by omega]
        by_cases b1 : m2 38 14 = -1
        · simp (disch := first | assumption | omega) only [rN_findTrail_27, rN_findTrail_28, rN_findTrail_31, rN_findTrail_32, Bool.false_eq_true, true_implies, false_implies, implies_true, true_and, and_true, not_true_eq_false, not_false_eq_true, zPush_I, zPush_L, zPush_R, zPush_U, Int.reduceLT, Int.reduceLE, Int.reduceEq, Int.reduceNe, Int.reduceAdd, Int.reduceSub, Int.reduceMul, Int.reduceNeg, Int.reduceToNat, Nat.reduceAdd, Nat.reduceMul, Nat.reduceEqDiff, zw32_id, zw64_id, zupd_eq, zupd_na, zupd_ni, zupp_eq, zupp_na, zupp_ni, eq_true b1]
          exact take (Or.inl b1)
        · simp (disch := first | assumption | omega) only [rN_findTrail_27, rN_findTrail_28, rN_findTrail_31, rN_findTrail_32, rN_findTrail_35, rN_findTrail_36, Bool.false_eq_true, true_implies, false_implies, implies_true, true_and, and_true, not_true_eq_false, not_false_eq_true, zPush_I, zPush_L, zPush_R, zPush_U, Int.reduceLT, Int.reduceLE, Int.reduceEq, Int.reduceNe, Int.reduceAdd, Int.reduceSub, Int.reduceMul, Int.reduceNeg, Int.reduceToNat, Nat.reduceAdd, Nat.reduceMul, Nat.reduceEqDiff, zw32_id, zw64_id, zupd_eq, zupd_na, zupd_ni, zupp_eq, zupp_na, zupp_ni, eq_false b1]
          refine cTriedFirst h ok e3 (fun x => ?_) (fun x => ?_)
          · have q := take (Or.inr x)
            simp (disch := first | assumption | omega) only [rN_findTrail_39, Bool.false_eq_true, true_implies, false_implies, implies_true, true_and, and_true, not_true_eq_false, not_false_eq_true, zPush_I, zPush_L, zPush_R, zPush_U, Int.reduceLT, Int.reduceLE, Int.reduceEq, Int.reduceNe, Int.reduceAdd, Int.reduceSub, Int.reduceMul, Int.reduceNeg, Int.reduceToNat, Nat.reduceAdd, Nat.reduceMul, Nat.reduceEqDiff, zw32_id, zw64_id, zupd_eq, zupd_na, zupd_ni, zupp_eq, zupp_na, zupp_ni]
            exact q
          · simp (disch := first | assumption | omega) only [rN_findTrail_39, Bool.false_eq_true, true_implies, false_implies, implies_true, true_and, and_true, not_true_eq_false, not_false_eq_true, zPush_I, zPush_L, zPush_R, zPush_U, Int.reduceLT, Int.reduceLE, Int.reduceEq, Int.reduceNe, Int.reduceAdd, Int.reduceSub, Int.reduceMul, Int.reduceNeg, Int.reduceToNat, Nat.reduceAdd, Nat.reduceMul, Nat.reduceEqDiff, zw32_id, zw64_id, zupd_eq, zupd_na, zupd_ni, zupp_eq, zupp_na, zupp_ni]
            apply back m2 f2'
            rcases hr2 with y | ⟨c, hc, y⟩
            · exact absurd y.1 b1
            · rw [hc]
              exact trR_keep (Or.inr ⟨c, rfl, y⟩) hl x
      · rw [if_neg hb] at b
        have nc : ¬ cP f i 0 := fun x => hb ((fC_tb ok).mpr ⟨cP_lt ok h0.2 i10 x, h0.2, x⟩)
        have q := back m1 hf (trR_skip hr nc)
        simp (disch := first | assumption | omega) only [rN_findTrail_8, rN_findTrail_10, rN_findTrail_13, rN_findTrail_14, rN_findTrail_15, rN_findTrail_16, rN_findTrail_17, rN_findTrail_18, rN_findTrail_19, Bool.false_eq_true, true_implies, false_implies, implies_true, true_and, and_true, not_true_eq_false, not_false_eq_true, zPush_I, zPush_L, zPush_R, zPush_U, Int.reduceLT, Int.reduceLE, Int.reduceEq, Int.reduceNe, Int.reduceAdd, Int.reduceSub, Int.reduceMul, Int.reduceNeg, Int.reduceToNat, Nat.reduceAdd, Nat.reduceMul, Nat.reduceEqDiff, zw32_id, zw64_id, zupd_eq, zupd_na, zupd_ni, zupp_eq, zupp_na, zupp_ni, eq_true (show (i : Int) < 10 by omega), b]
        exact q
  simp (disch := first | assumption | omega) only [rN_findTrail_0, rN_findTrail_1, rN_findTrail_4, rN_findTrail_5, rN_findTrail_6, Bool.false_eq_true, true_implies, false_implies, implies_true, true_and, and_true, not_true_eq_false, not_false_eq_true, zPush_I, zPush_L, zPush_R, zPush_U, Int.reduceLT, Int.reduceLE, Int.reduceEq, Int.reduceNe, Int.reduceAdd, Int.reduceSub, Int.reduceMul, Int.reduceNeg, Int.reduceToNat, Nat.reduceAdd, Nat.reduceMul, Nat.reduceEqDiff, zw32_id, zw64_id, zupd_eq, zupd_na, zupd_ni, zupp_eq, zupp_na, zupp_ni, kf]
  exact key 10 0 mm (by omega) (frP_rf _ _) (Or.inl ⟨h14, fun c hc => by omega⟩)
theorem cOk_N (hc : cOk f G cn N D sh pp mm) {m' : zMm} (hf : frP (fun x _ => 38 ≤ x ∧ x ≤ 47) mm m') (hn : cNt f m') : cOk f G cn N D sh pp m' := by
  obtain ⟨c1, c2, c3, c4, c5, c6, c7, c8, c9, c10, c11⟩ := id hc
  exact cOk_mk hc (sm_fr hf (fun x j hj => by omega)) (stI_sm c3 (sm_fr hf (fun x j hj => by omega))) (fun j j0 j1 => by rw [hf _ _ (by omega)]; exact c5 j j0 j1) (fun p hp => cPr_sm (c6 p hp) (sm_fr hf (fun x j hj => by omega))) hn (cQu_sm c8 (sm_fr hf (fun x j hj => by omega))) ⟨bG_sm c9.1 (sm_fr hf (fun x j hj => by omega)), bG_sm c9.2 (sm_fr hf (fun x j hj => by omega))⟩ (fun x hx => by funext j; exact hf x j (by omega))
theorem cP_ex (ok : fOk f) (h0 : onB f = true ∧ 0 < nE f) : ∃ c, c < (f 982).toNat ∧ cP f c 0 := by
  have oo := oddS_lt (R := 2 ^ nE f - 1) (nE f) (fun i hi => (nAC ok hi).2.2.2.2.2)
  by_cases z : oddS (nA f) (nC f) (2 ^ nE f - 1) (nE f) = 0
  · have ac := nAC ok h0.2
    exact ⟨nA f 0, ac.2.2.1, (cP_0 ok (by omega)).mpr ((can_all ok h0.2 (by omega)).mpr ⟨h0.1, fun _ => ⟨0, h0.2, Or.inl rfl⟩, fun x => absurd z x⟩)⟩
  · obtain ⟨k, hk⟩ := tb_ex z
    have k10 : k < 10 := lt_of_tb (E := 10) oo hk
    have := (cP_0 ok k10).mpr ((can_all ok h0.2 k10).mpr ⟨h0.1, fun x => absurd x z, fun _ => hk⟩)
    exact ⟨k, cP_lt ok h0.2 k10 this, this⟩
theorem cTrail (hc : cOk f G cn N D sh pp mm) (ok : fOk f) {i : Int} (hQ1 : i < -1 → ∀ m, cOk f G (bump cn 0) N D sh pp m → frX sh mm sh m → Q (zI (-2)) sh pp m) (hQ2 : -1 ≤ i → ¬ (onB f = true ∧ 0 < nE f) → ∀ m, cOk f G (bump cn 1) N D sh pp m → frX sh mm sh m → Q (zI (-3)) sh pp m) (hQ3 : -1 ≤ i → onB f = true → 0 < nE f → ∀ m v, cOk f G cn N D sh pp m → frX sh mm sh m → trA f i v → Q (zI v) sh pp m) : zS 120 0 [zR 13, zI i] [] sh pp mm Q := by
  have h := hc.1
  have k13 := k_13 h
  have k14 := k_14 h
  have p14 := p_13_0 h
  have k38 := k_38 h
  have p38 := p_13_5 h
  have k46 := k_46 h
  have l46 := l_46 h
  have p46 := p_38_12 h
  have l := nE_le ok
  by_cases i1 : i < -1
  · have q := cBadP hc (i := 0) (by decide) (by decide) (hQ1 i1)
    simp (disch := first | assumption | omega) only [rX_trail_0, rX_trail_1, rX_trail_2, rX_trail_5, rX_trail_6, rX_trail_7, rX_trail_9, rX_trail_12, kX_refuse h, Bool.false_eq_true, true_implies, false_implies, implies_true, true_and, and_true, not_true_eq_false, not_false_eq_true, zPush_I, zPush_L, zPush_R, zPush_U, Int.reduceLT, Int.reduceLE, Int.reduceEq, Int.reduceNe, Int.reduceAdd, Int.reduceSub, Int.reduceMul, Int.reduceNeg, Int.reduceToNat, Nat.reduceAdd, Nat.reduceMul, Nat.reduceEqDiff, zw32_id, zw64_id, zupd_eq, zupd_na, zupd_ni, zupp_eq, zupp_na, zupp_ni, eq_true i1]
    exact q
  · simp (disch := first | assumption | omega) only [rX_trail_0, rX_trail_1, rX_trail_2, rX_trail_13, rX_trail_14, rX_trail_17, rX_trail_18, rX_trail_21, Bool.false_eq_true, true_implies, false_implies, implies_true, true_and, and_true, not_true_eq_false, not_false_eq_true, zPush_I, zPush_L, zPush_R, zPush_U, Int.reduceLT, Int.reduceLE, Int.reduceEq, Int.reduceNe, Int.reduceAdd, Int.reduceSub, Int.reduceMul, Int.reduceNeg, Int.reduceToNat, Nat.reduceAdd, Nat.reduceMul, Nat.reduceEqDiff, zw32_id, zw64_id, zupd_eq, zupd_na, zupd_ni, zupp_eq, zupp_na, zupp_ni, p14, p38, eq_false i1]
    refine cLearn hc ok (fun m1 c1 k1 k10 f1 => ?_)
    have hl := fun (Q : zV → zSh → zPp → zMm → Prop) => kN_hasLine (Q := Q) h k1
    by_cases o : onB f = true ∧ 0 < nE f
    · rw [if_pos o] at hl
      have fin : ∀ m2, cOk f G cn N D sh pp m2 → frX sh mm sh m2 → m2 38 3 = (nE f : Int) → trR f (f 982).toNat (m2 38 14) (fun k => m2 46 k) → zS 63 12 [zR 38, zI i] [] sh pp m2 (fun v sh pp mm => zS 120 50 [zU, zU] (zPush v []) sh pp mm Q) := fun m2 a1 a2 a3 a4 => by
        have kq := fun v hv => hQ3 (by omega) o.1 o.2 m2 v a1 a2 hv
        by_cases x : i = -1
        · have q := kq _ ⟨_, _, a4, by rw [if_pos x]⟩
          simp (disch := first | assumption | omega) only [rN_placeOfTrail_12, rN_placeOfTrail_13, rN_placeOfTrail_14, rN_placeOfTrail_17, rN_placeOfTrail_18, rN_placeOfTrail_21, rX_trail_50, Bool.false_eq_true, true_implies, false_implies, implies_true, true_and, and_true, not_true_eq_false, not_false_eq_true, zPush_I, zPush_L, zPush_R, zPush_U, Int.reduceLT, Int.reduceLE, Int.reduceEq, Int.reduceNe, Int.reduceAdd, Int.reduceSub, Int.reduceMul, Int.reduceNeg, Int.reduceToNat, Nat.reduceAdd, Nat.reduceMul, Nat.reduceEqDiff, zw32_id, zw64_id, zupd_eq, zupd_na, zupd_ni, zupp_eq, zupp_na, zupp_ni, eq_true x]
          exact q
        · by_cases y : i < (nE f : Int)
          · have q := kq (m2 46 i) ⟨_, _, a4, by rw [if_neg x, if_pos y]⟩
            simp (disch := first | assumption | omega) only [rN_placeOfTrail_12, rN_placeOfTrail_13, rN_placeOfTrail_14, rN_placeOfTrail_22, rN_placeOfTrail_23, rN_placeOfTrail_26, rN_placeOfTrail_27, rN_placeOfTrail_28, rN_placeOfTrail_31, rN_placeOfTrail_34, rN_placeOfTrail_36, rN_placeOfTrail_39, rN_placeOfTrail_40, rN_placeOfTrail_43, rN_placeOfTrail_44, rN_placeOfTrail_45, rX_trail_50, Bool.false_eq_true, true_implies, false_implies, implies_true, true_and, and_true, not_true_eq_false, not_false_eq_true, zPush_I, zPush_L, zPush_R, zPush_U, Int.reduceLT, Int.reduceLE, Int.reduceEq, Int.reduceNe, Int.reduceAdd, Int.reduceSub, Int.reduceMul, Int.reduceNeg, Int.reduceToNat, Nat.reduceAdd, Nat.reduceMul, Nat.reduceEqDiff, zw32_id, zw64_id, zupd_eq, zupd_na, zupd_ni, zupp_eq, zupp_na, zupp_ni, p46, a3, eq_false x, eq_false (show ¬ i < 0 by omega), eq_true y]
            exact q
          · have q := kq (-5) ⟨_, _, a4, by rw [if_neg x, if_neg y]⟩
            simp (disch := first | assumption | omega) only [rN_placeOfTrail_12, rN_placeOfTrail_13, rN_placeOfTrail_14, rN_placeOfTrail_22, rN_placeOfTrail_23, rN_placeOfTrail_26, rN_placeOfTrail_27, rN_placeOfTrail_28, rN_placeOfTrail_31, rN_placeOfTrail_34, rN_placeOfTrail_36, rN_placeOfTrail_39, rN_placeOfTrail_40, rN_placeOfTrail_43, rN_placeOfTrail_44, rN_placeOfTrail_45, rX_trail_50, Bool.false_eq_true, true_implies, false_implies, implies_true, true_and, and_true, not_true_eq_false, not_false_eq_true, zPush_I, zPush_L, zPush_R, zPush_U, Int.reduceLT, Int.reduceLE, Int.reduceEq, Int.reduceNe, Int.reduceAdd, Int.reduceSub, Int.reduceMul, Int.reduceNeg, Int.reduceToNat, Nat.reduceAdd, Nat.reduceMul, Nat.reduceEqDiff, zw32_id, zw64_id, zupd_eq, zupd_na, zupd_ni, zupp_eq, zupp_na, zupp_ni, a3, eq_false x, eq_false (show ¬ i < 0 by omega), eq_false y]
            exact q
      simp (disch := first | assumption | omega) only [rX_trail_24, rX_trail_25, rX_trail_28, rX_trail_31, rX_trail_42, rX_trail_43, rX_trail_46, rX_trail_47, Bool.false_eq_true, true_implies, false_implies, implies_true, true_and, and_true, not_true_eq_false, not_false_eq_true, zPush_I, zPush_L, zPush_R, zPush_U, Int.reduceLT, Int.reduceLE, Int.reduceEq, Int.reduceNe, Int.reduceAdd, Int.reduceSub, Int.reduceMul, Int.reduceNeg, Int.reduceToNat, Nat.reduceAdd, Nat.reduceMul, Nat.reduceEqDiff, zw32_id, zw64_id, zupd_eq, zupd_na, zupd_ni, zupp_eq, zupp_na, zupp_ni, p38, hl]
      by_cases e14 : m1 38 14 = -1
      · simp (disch := first | assumption | omega) only [rN_placeOfTrail_0, rN_placeOfTrail_1, rN_placeOfTrail_4, rN_placeOfTrail_5, rN_placeOfTrail_8, rN_placeOfTrail_9, Bool.false_eq_true, true_implies, false_implies, implies_true, true_and, and_true, not_true_eq_false, not_false_eq_true, zPush_I, zPush_L, zPush_R, zPush_U, Int.reduceLT, Int.reduceLE, Int.reduceEq, Int.reduceNe, Int.reduceAdd, Int.reduceSub, Int.reduceMul, Int.reduceNeg, Int.reduceToNat, Nat.reduceAdd, Nat.reduceMul, Nat.reduceEqDiff, zw32_id, zw64_id, zupd_eq, zupd_na, zupd_ni, zupp_eq, zupp_na, zupp_ni, eq_true e14]
        refine cFindTrail h ok k1 e14 o (fun m2 f2 r2 => ?_)
        have nb := cP_on r2 (cP_ex ok o)
        have e10 : m2 38 10 = 1 := by rw [f2 _ _ (by unfold ctF; omega)]; exact k10
        have e3 : m2 38 3 = (nE f : Int) := by rw [f2 _ _ (by unfold ctF; omega)]; exact k1.1.2.2.2
        have en : ∀ j, j ≠ 14 → m2 38 j = m1 38 j := fun j hj => f2 _ _ (by unfold ctF; omega)
        have K2 : cNtK f m2 := by
          obtain ⟨⟨b1, b2, b3, b4⟩, b5, b6, b7, b8⟩ := k1
          refine ⟨⟨by rw [en 0 (by decide)]; exact b1, by rw [en 1 (by decide)]; exact b2, by rw [en 2 (by decide)]; exact b3, e3⟩, fun e he => nRw_fr (b5 e he) (fun x a b => f2 _ _ (by unfold ctF; omega)), Or.inr ⟨nb, r2⟩, by rw [en 15 (by decide)]; exact b7, by rw [en 16 (by decide)]; exact b8⟩
        have c2 := cOk_N c1 (frP_wd f2 (fun x j hj => by unfold ctF at hj; omega)) (Or.inr ⟨e10, K2⟩)
        have q := fin m2 c2 (frX_tr (frX_nt f1) (frX_P f2 (fun x j hj => by unfold ctF at hj; omega))) e3 r2
        simp only [zPush_U]
        exact q
      · have r := k1.2.2.1
        have q := fin m1 c1 (frX_nt f1) k1.1.2.2.2 (by
          rcases r with x | x
          · exact absurd x e14
          · exact x.2)
        simp (disch := first | assumption | omega) only [rN_placeOfTrail_0, rN_placeOfTrail_1, rN_placeOfTrail_4, rN_placeOfTrail_5, Bool.false_eq_true, true_implies, false_implies, implies_true, true_and, and_true, not_true_eq_false, not_false_eq_true, zPush_I, zPush_L, zPush_R, zPush_U, Int.reduceLT, Int.reduceLE, Int.reduceEq, Int.reduceNe, Int.reduceAdd, Int.reduceSub, Int.reduceMul, Int.reduceNeg, Int.reduceToNat, Nat.reduceAdd, Nat.reduceMul, Nat.reduceEqDiff, zw32_id, zw64_id, zupd_eq, zupd_na, zupd_ni, zupp_eq, zupp_na, zupp_ni, eq_false e14]
        exact q
    · rw [if_neg o] at hl
      have q := cBadP c1 (i := 1) (by decide) (by decide) (fun m a1 a2 => hQ2 (by omega) o m a1 (frX_tr (frX_nt f1) a2))
      simp (disch := first | assumption | omega) only [rX_trail_24, rX_trail_25, rX_trail_28, rX_trail_31, rX_trail_34, rX_trail_35, rX_trail_36, rX_trail_38, rX_trail_41, kX_refuse h, Bool.false_eq_true, true_implies, false_implies, implies_true, true_and, and_true, not_true_eq_false, not_false_eq_true, zPush_I, zPush_L, zPush_R, zPush_U, Int.reduceLT, Int.reduceLE, Int.reduceEq, Int.reduceNe, Int.reduceAdd, Int.reduceSub, Int.reduceMul, Int.reduceNeg, Int.reduceToNat, Nat.reduceAdd, Nat.reduceMul, Nat.reduceEqDiff, zw32_id, zw64_id, zupd_eq, zupd_na, zupd_ni, zupp_eq, zupp_na, zupp_ni, p38, hl]
      exact q
end
