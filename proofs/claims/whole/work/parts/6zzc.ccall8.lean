/-! ===== calls of the class: same, quickest ===== -/
section
variable {sh : zSh} {pp : zPp} {mm m' : zMm} {Q : zV → zSh → zPp → zMm → Prop} {f f' : Int → Int} {G : Int → Option (Int → Int)} {cn cn' : Int → Int} {N D N' D' : Nat}
theorem kD_looksLike {a b : Nat} (hA : drL sh pp a) (hB : drL sh pp b) {g g' : Int → Int} (ha : ∀ i, 0 ≤ i → i < 384 → mm (a + 1) i = g i) (hb : ∀ i, 0 ≤ i → i < 384 → mm (b + 1) i = g' i) : zS 27 0 [zR a, zR b, zU] [] sh pp mm Q ↔ Q (zI (if look g g' 384 = true then 1 else 0)) sh pp mm := by
  obtain ⟨k0, ⟨k1, l1, p1⟩, -⟩ := hA
  obtain ⟨j0, ⟨j1, n1, q1⟩, -⟩ := hB
  have key : ∀ (t i : Nat), i + t = 384 → (∀ j : Nat, j < i → g (j : Int) = g' (j : Int)) → (zS 27 2 [zR a, zR b, zI (i : Int)] [] sh pp mm Q ↔ Q (zI (if look g g' 384 = true then 1 else 0)) sh pp mm) := by
    intro t
    induction t with
    | zero =>
      intro i hi hj
      have hl : look g g' 384 = true := (look_iff g g' 384).mpr (fun j hj2 => hj j (by omega))
      rw [rD_looksLike_2, if_pos hl]
      simp (disch := first | assumption | omega) only [rD_looksLike_3, rD_looksLike_6, rD_looksLike_32, rD_looksLike_33, Bool.false_eq_true, true_implies, false_implies, implies_true, true_and, and_true, not_true_eq_false, not_false_eq_true, zPush_I, zPush_L, zPush_R, zPush_U, Int.reduceLT, Int.reduceLE, Int.reduceEq, Int.reduceNe, Int.reduceAdd, Int.reduceSub, Int.reduceMul, Int.reduceNeg, Int.reduceToNat, Nat.reduceAdd, Nat.reduceMul, Nat.reduceEqDiff, zw32_id, zw64_id, zupd_eq, zupd_na, zupd_ni, zupp_eq, zupp_na, zupp_ni, eq_false (show ¬ (i : Int) < 384 by omega), true_or, or_true]
    | succ t ih =>
      intro i hi hj
      have z1 := ha (i : Int) (by omega) (by omega)
      have z2 := hb (i : Int) (by omega) (by omega)
      rw [rD_looksLike_2]
      by_cases hc : g (i : Int) = g' (i : Int)
      · have zi := ih (i + 1) (by omega) (fun j hj2 => by
          by_cases hx : j = i
          · subst hx; exact hc
          · exact hj j (by omega))
        rw [show ((i + 1 : Nat) : Int) = (i : Int) + 1 by omega] at zi
        rw [← zi]
        simp (disch := first | assumption | omega) only [rD_looksLike_3, rD_looksLike_6, rD_looksLike_9, rD_looksLike_10, rD_looksLike_13, rD_looksLike_14, rD_looksLike_15, rD_looksLike_16, rD_looksLike_19, rD_looksLike_20, rD_looksLike_21, rD_looksLike_24, rD_looksLike_25, rD_looksLike_26, rD_looksLike_29, Bool.false_eq_true, true_implies, false_implies, implies_true, true_and, and_true, not_true_eq_false, not_false_eq_true, zPush_I, zPush_L, zPush_R, zPush_U, Int.reduceLT, Int.reduceLE, Int.reduceEq, Int.reduceNe, Int.reduceAdd, Int.reduceSub, Int.reduceMul, Int.reduceNeg, Int.reduceToNat, Nat.reduceAdd, Nat.reduceMul, Nat.reduceEqDiff, zw32_id, zw64_id, zupd_eq, zupd_na, zupd_ni, zupp_eq, zupp_na, zupp_ni, p1, q1, eq_true (show (i : Int) < 384 by omega), z1, z2, eq_true hc]
      · have hl : ¬ look g g' 384 = true := fun hx => hc ((look_iff g g' 384).mp hx i (by omega))
        rw [if_neg hl]
        simp (disch := first | assumption | omega) only [rD_looksLike_3, rD_looksLike_6, rD_looksLike_9, rD_looksLike_10, rD_looksLike_13, rD_looksLike_14, rD_looksLike_15, rD_looksLike_16, rD_looksLike_19, rD_looksLike_20, rD_looksLike_21, rD_looksLike_24, rD_looksLike_25, rD_looksLike_26, rD_looksLike_29, Bool.false_eq_true, true_implies, false_implies, implies_true, true_and, and_true, not_true_eq_false, not_false_eq_true, zPush_I, zPush_L, zPush_R, zPush_U, Int.reduceLT, Int.reduceLE, Int.reduceEq, Int.reduceNe, Int.reduceAdd, Int.reduceSub, Int.reduceMul, Int.reduceNeg, Int.reduceToNat, Nat.reduceAdd, Nat.reduceMul, Nat.reduceEqDiff, zw32_id, zw64_id, zupd_eq, zupd_na, zupd_ni, zupp_eq, zupp_na, zupp_ni, p1, q1, eq_true (show (i : Int) < 384 by omega), z1, z2, eq_false hc, true_or, or_true]
  have := key 384 0 (by omega) (fun j hj => by omega)
  simp (disch := first | assumption | omega) only [rD_looksLike_0, rD_looksLike_1, Bool.false_eq_true, true_implies, false_implies, implies_true, true_and, and_true, not_true_eq_false, not_false_eq_true, zPush_I, zPush_L, zPush_R, zPush_U, Int.reduceLT, Int.reduceLE, Int.reduceEq, Int.reduceNe, Int.reduceAdd, Int.reduceSub, Int.reduceMul, Int.reduceNeg, Int.reduceToNat, Nat.reduceAdd, Nat.reduceMul, Nat.reduceEqDiff, zw32_id, zw64_id, zupd_eq, zupd_na, zupd_ni, zupp_eq, zupp_na, zupp_ni]
  exact this
theorem drwOk_keep {q r : Nat} {m1 m2 : zMm} (hqr : q ≠ r) (hd : drwOk (73 + 14 * q) f q m1) (hr : frP (fun x _ => 66 + 14 * r ≤ x ∧ x ≤ 79 + 14 * r) m1 m2) : drwOk (73 + 14 * q) f q m2 := drwOk_sm hd (sm_fr hr (by omega))
theorem cSame (hc : cOk f G cn N D sh pp mm) (ok : fOk f) {a b : Int} (hQ : ∀ pp1 m, cOk f G (oSame f cn a b).1 N D sh pp1 m → frX sh mm sh m → Q (zI (oSame f cn a b).2) sh pp1 m) : zS 110 0 [zR 13, zI a, zI b, zU, zU] [] sh pp mm Q := by
  have h := hc.1
  have k13 := k_13 h
  unfold oSame at hQ
  by_cases hg : (0 ≤ a ∧ a ≤ 3) ∧ (0 ≤ b ∧ b ≤ 3)
  · rw [if_pos hg] at hQ
    obtain ⟨q, hq⟩ : ∃ q : Nat, a = (q : Int) := ⟨a.toNat, by omega⟩
    obtain ⟨r, hr⟩ : ∃ r : Nat, b = (r : Int) := ⟨b.toNat, by omega⟩
    subst hq
    subst hr
    have hq4 : q < 4 := by omega
    have hr4 : r < 4 := by omega
    simp (disch := first | assumption | omega) only [rX_same_0, rX_same_1, rX_same_4, rX_same_7, rX_same_8, rX_same_11, rX_same_14, rX_same_15, rX_same_16, rX_same_18, rX_same_21, rX_same_22, rX_same_23, rX_same_24, kX_isProgram, kX_refuse h, Bool.false_eq_true, true_implies, false_implies, implies_true, true_and, and_true, not_true_eq_false, not_false_eq_true, zPush_I, zPush_L, zPush_R, zPush_U, Int.reduceLT, Int.reduceLE, Int.reduceEq, Int.reduceNe, Int.reduceAdd, Int.reduceSub, Int.reduceMul, Int.reduceNeg, Int.reduceToNat, Nat.reduceAdd, Nat.reduceMul, Nat.reduceEqDiff, zw32_id, zw64_id, zupd_eq, zupd_na, zupd_ni, zupp_eq, zupp_na, zupp_ni, eq_true hg.1, eq_true hg.2]
    have step2 : ∀ pp1 m1 (u : Nat), cOk f G cn N D sh pp1 m1 → frX sh mm sh m1 → ((u = 0 ∧ ft f q ≠ -1) ∨ (u = 73 + 14 * q ∧ ft f q = -1 ∧ drwOk (73 + 14 * q) f q m1)) → zS 110 27 [zR 13, zU, zI (r : Int), zU, zU] [zR u] sh pp1 m1 Q := by
      intro pp1 m1 u hc1 fx hu
      have h := hc1.1
      have k13 := k_13 h
      simp (disch := first | assumption | omega) only [rX_same_27, rX_same_28, rX_same_29, rX_same_30, Bool.false_eq_true, true_implies, false_implies, implies_true, true_and, and_true, not_true_eq_false, not_false_eq_true, zPush_I, zPush_L, zPush_R, zPush_U, Int.reduceLT, Int.reduceLE, Int.reduceEq, Int.reduceNe, Int.reduceAdd, Int.reduceSub, Int.reduceMul, Int.reduceNeg, Int.reduceToNat, Nat.reduceAdd, Nat.reduceMul, Nat.reduceEqDiff, zw32_id, zw64_id, zupd_eq, zupd_na, zupd_ni, zupp_eq, zupp_na, zupp_ni]
      refine cDrawingOf hc1 ok hr4 (fun hf pp2 m2 hc2 a2 => ?_) (fun hf pp2 m2 hc2 a1 a2 => ?_)
      · have hn : ¬ (ft f q = -1 ∧ ft f r = -1) := fun hx => hf hx.2
        rw [if_neg hn] at hQ
        dsimp only at hQ
        have zq := cBadP hc2 (i := 1) (by decide) (by decide) (fun m hm hx => hQ pp2 m hm (frX_tr (frX_tr fx (frX_P a2 (by omega))) hx))
        have h := hc2.1
        by_cases hu0 : u = 0
        · simp (disch := first | assumption | omega) only [rX_same_33, rX_same_35, rX_same_36, rX_same_39, rX_same_41, rX_same_44, rX_same_45, rX_same_46, rX_same_48, rX_same_51, kX_refuse h, Bool.false_eq_true, true_implies, false_implies, implies_true, true_and, and_true, not_true_eq_false, not_false_eq_true, zPush_I, zPush_L, zPush_R, zPush_U, Int.reduceLT, Int.reduceLE, Int.reduceEq, Int.reduceNe, Int.reduceAdd, Int.reduceSub, Int.reduceMul, Int.reduceNeg, Int.reduceToNat, Nat.reduceAdd, Nat.reduceMul, Nat.reduceEqDiff, zw32_id, zw64_id, zupd_eq, zupd_na, zupd_ni, zupp_eq, zupp_na, zupp_ni, eq_true hu0]
          exact zq
        · simp (disch := first | assumption | omega) only [rX_same_33, rX_same_35, rX_same_36, rX_same_39, rX_same_41, rX_same_44, rX_same_45, rX_same_46, rX_same_48, rX_same_51, kX_refuse h, Bool.false_eq_true, true_implies, false_implies, implies_true, true_and, and_true, not_true_eq_false, not_false_eq_true, zPush_I, zPush_L, zPush_R, zPush_U, Int.reduceLT, Int.reduceLE, Int.reduceEq, Int.reduceNe, Int.reduceAdd, Int.reduceSub, Int.reduceMul, Int.reduceNeg, Int.reduceToNat, Nat.reduceAdd, Nat.reduceMul, Nat.reduceEqDiff, zw32_id, zw64_id, zupd_eq, zupd_na, zupd_ni, zupp_eq, zupp_na, zupp_ni, eq_false hu0]
          exact zq
      · rcases hu with ⟨hu, hf1⟩ | ⟨hu, hf1, hd1⟩
        · have hn : ¬ (ft f q = -1 ∧ ft f r = -1) := fun hx => hf1 hx.1
          rw [if_neg hn] at hQ
          dsimp only at hQ
          have zq := cBadP hc2 (i := 1) (by decide) (by decide) (fun m hm hx => hQ pp2 m hm (frX_tr (frX_tr fx (frX_P a2 (by omega))) hx))
          have h := hc2.1
          simp (disch := first | assumption | omega) only [rX_same_33, rX_same_35, rX_same_36, rX_same_39, rX_same_41, rX_same_44, rX_same_45, rX_same_46, rX_same_48, rX_same_51, kX_refuse h, Bool.false_eq_true, true_implies, false_implies, implies_true, true_and, and_true, not_true_eq_false, not_false_eq_true, zPush_I, zPush_L, zPush_R, zPush_U, Int.reduceLT, Int.reduceLE, Int.reduceEq, Int.reduceNe, Int.reduceAdd, Int.reduceSub, Int.reduceMul, Int.reduceNeg, Int.reduceToNat, Nat.reduceAdd, Nat.reduceMul, Nat.reduceEqDiff, zw32_id, zw64_id, zupd_eq, zupd_na, zupd_ni, zupp_eq, zupp_na, zupp_ni, eq_true hu]
          exact zq
        · rw [if_pos ⟨hf1, hf⟩] at hQ
          dsimp only at hQ
          have zq := hQ pp2 m2 hc2 (frX_tr fx (frX_P a2 (by omega)))
          have hd2 : drwOk (73 + 14 * q) f q m2 := by
            by_cases hqr : q = r
            · subst hqr; exact a1
            · exact drwOk_keep hqr hd1 a2
          have h := hc2.1
          obtain ⟨d1, e1⟩ := drL_of h hq4
          obtain ⟨d2, e2⟩ := drL_of h hr4
          have kq := d1.1
          subst hu
          simp (disch := first | assumption | omega) only [rX_same_33, rX_same_35, rX_same_36, rX_same_39, rX_same_41, rX_same_52, rX_same_53, rX_same_55, Bool.false_eq_true, true_implies, false_implies, implies_true, true_and, and_true, not_true_eq_false, not_false_eq_true, zPush_I, zPush_L, zPush_R, zPush_U, Int.reduceLT, Int.reduceLE, Int.reduceEq, Int.reduceNe, Int.reduceAdd, Int.reduceSub, Int.reduceMul, Int.reduceNeg, Int.reduceToNat, Nat.reduceAdd, Nat.reduceMul, Nat.reduceEqDiff, zw32_id, zw64_id, zupd_eq, zupd_na, zupd_ni, zupp_eq, zupp_na, zupp_ni, eq_false (show ¬ 73 + 14 * q = 0 by omega), eq_false (show ¬ 73 + 14 * r = 0 by omega)]
          refine (kD_looksLike d1 d2 (g := gDr f q) (g' := gDr f r) hd2.1.2.2.1 a1.1.2.2.1).mpr ?_
          by_cases hl : look (gDr f q) (gDr f r) 384 = true
          · rw [if_pos hl] at zq ⊢
            simp (disch := first | assumption | omega) only [rX_same_58, rX_same_61, rX_same_62, rX_same_65, rX_same_66, Bool.false_eq_true, true_implies, false_implies, implies_true, true_and, and_true, not_true_eq_false, not_false_eq_true, zPush_I, zPush_L, zPush_R, zPush_U, Int.reduceLT, Int.reduceLE, Int.reduceEq, Int.reduceNe, Int.reduceAdd, Int.reduceSub, Int.reduceMul, Int.reduceNeg, Int.reduceToNat, Nat.reduceAdd, Nat.reduceMul, Nat.reduceEqDiff, zw32_id, zw64_id, zupd_eq, zupd_na, zupd_ni, zupp_eq, zupp_na, zupp_ni]
            exact zq
          · rw [if_neg hl] at zq ⊢
            simp (disch := first | assumption | omega) only [rX_same_58, rX_same_61, rX_same_62, rX_same_65, rX_same_66, Bool.false_eq_true, true_implies, false_implies, implies_true, true_and, and_true, not_true_eq_false, not_false_eq_true, zPush_I, zPush_L, zPush_R, zPush_U, Int.reduceLT, Int.reduceLE, Int.reduceEq, Int.reduceNe, Int.reduceAdd, Int.reduceSub, Int.reduceMul, Int.reduceNeg, Int.reduceToNat, Nat.reduceAdd, Nat.reduceMul, Nat.reduceEqDiff, zw32_id, zw64_id, zupd_eq, zupd_na, zupd_ni, zupp_eq, zupp_na, zupp_ni]
            exact zq
    refine cDrawingOf hc ok hq4 (fun hf pp1 m1 hc1 a2 => ?_) (fun hf pp1 m1 hc1 a1 a2 => ?_)
    · simp only [zPush_R]
      exact step2 pp1 m1 0 hc1 (frX_P a2 (by omega)) (Or.inl ⟨rfl, hf⟩)
    · simp only [zPush_R]
      exact step2 pp1 m1 (73 + 14 * q) hc1 (frX_P a2 (by omega)) (Or.inr ⟨rfl, hf, a1⟩)
  · rw [if_neg hg] at hQ
    dsimp only at hQ
    have zq := cBadP hc (i := 0) (by decide) (by decide) (hQ pp)
    by_cases hp : 0 ≤ a ∧ a ≤ 3
    · simp (disch := first | assumption | omega) only [rX_same_0, rX_same_1, rX_same_4, rX_same_7, rX_same_8, rX_same_11, rX_same_14, rX_same_15, rX_same_16, rX_same_18, rX_same_21, kX_isProgram, kX_refuse h, Bool.false_eq_true, true_implies, false_implies, implies_true, true_and, and_true, not_true_eq_false, not_false_eq_true, zPush_I, zPush_L, zPush_R, zPush_U, Int.reduceLT, Int.reduceLE, Int.reduceEq, Int.reduceNe, Int.reduceAdd, Int.reduceSub, Int.reduceMul, Int.reduceNeg, Int.reduceToNat, Nat.reduceAdd, Nat.reduceMul, Nat.reduceEqDiff, zw32_id, zw64_id, zupd_eq, zupd_na, zupd_ni, zupp_eq, zupp_na, zupp_ni, eq_true hp, eq_false (show ¬ (0 ≤ b ∧ b ≤ 3) from fun hx => hg ⟨hp, hx⟩)]
      exact zq
    · simp (disch := first | assumption | omega) only [rX_same_0, rX_same_1, rX_same_4, rX_same_7, rX_same_8, rX_same_11, rX_same_14, rX_same_15, rX_same_16, rX_same_18, rX_same_21, kX_isProgram, kX_refuse h, Bool.false_eq_true, true_implies, false_implies, implies_true, true_and, and_true, not_true_eq_false, not_false_eq_true, zPush_I, zPush_L, zPush_R, zPush_U, Int.reduceLT, Int.reduceLE, Int.reduceEq, Int.reduceNe, Int.reduceAdd, Int.reduceSub, Int.reduceMul, Int.reduceNeg, Int.reduceToNat, Nat.reduceAdd, Nat.reduceMul, Nat.reduceEqDiff, zw32_id, zw64_id, zupd_eq, zupd_na, zupd_ni, zupp_eq, zupp_na, zupp_ni, eq_false hp]
      exact zq
theorem qk_keep (f : Int → Int) (p : Int) {n : Nat} (h : qk f p n ≠ -1) : ∀ k, n ≤ k → qk f p k ≠ -1 := by
  intro k hk
  induction k with
  | zero => exact (by rw [show n = 0 by omega] at h; exact h)
  | succ k ih =>
    by_cases hx : n = k + 1
    · subst hx; exact h
    · have zi := ih (by omega)
      unfold qk
      split
      · omega
      · exact zi
theorem cQuickL (ok : fOk f) {q : Nat} (hq4 : q < 4) (hfq : ft f q = -1) (hQ : ∀ pp1 m, cOk f G cn N D sh pp1 m → frX sh mm sh m → Q (zI (if qk f q 4 = -1 then (q : Int) else qk f q 4)) sh pp1 m) : ∀ (t i : Nat) (pp1 : zPp) (m1 : zMm), i + t = 4 → cOk f G cn N D sh pp1 m1 → frX sh mm sh m1 → drwOk (73 + 14 * q) f q m1 → zS 111 42 [zR 13, zU, zR (73 + 14 * q), zI (if qk f q i = -1 then (q : Int) else qk f q i), zI (if qk f q i = -1 then 1000000 else sec f (qk f q i)), zI (i : Int), zU] [] sh pp1 m1 Q := by
  intro t
  induction t with
  | zero =>
    intro i pp1 m1 hi hc1 fx hd
    have hi4 : i = 4 := by omega
    rw [rX_quickest_42]
    simp (disch := first | assumption | omega) only [rX_quickest_44, rX_quickest_45, rX_quickest_96, rX_quickest_97, Bool.false_eq_true, true_implies, false_implies, implies_true, true_and, and_true, not_true_eq_false, not_false_eq_true, zPush_I, zPush_L, zPush_R, zPush_U, Int.reduceLT, Int.reduceLE, Int.reduceEq, Int.reduceNe, Int.reduceAdd, Int.reduceSub, Int.reduceMul, Int.reduceNeg, Int.reduceToNat, Nat.reduceAdd, Nat.reduceMul, Nat.reduceEqDiff, zw32_id, zw64_id, zupd_eq, zupd_na, zupd_ni, zupp_eq, zupp_na, zupp_ni, eq_false (show ¬ (i : Int) < 4 by omega)]
    rw [hi4]
    exact hQ pp1 m1 hc1 fx
  | succ t ih =>
    intro i pp1 m1 hi hc1 fx hd
    have hi4 : i < 4 := by omega
    have h := hc1.1
    have k13 := k_13 h
    have eq1 : qk f q (i + 1) = if ft f (i : Int) = -1 ∧ look (gDr f q) (gDr f (i : Int)) 384 = true ∧ (qk f q i = -1 ∨ sec f (i : Int) < sec f (qk f q i)) then (i : Int) else qk f q i := rfl
    rw [rX_quickest_42]
    simp (disch := first | assumption | omega) only [rX_quickest_44, rX_quickest_45, rX_quickest_48, rX_quickest_49, rX_quickest_51, Bool.false_eq_true, true_implies, false_implies, implies_true, true_and, and_true, not_true_eq_false, not_false_eq_true, zPush_I, zPush_L, zPush_R, zPush_U, Int.reduceLT, Int.reduceLE, Int.reduceEq, Int.reduceNe, Int.reduceAdd, Int.reduceSub, Int.reduceMul, Int.reduceNeg, Int.reduceToNat, Nat.reduceAdd, Nat.reduceMul, Nat.reduceEqDiff, zw32_id, zw64_id, zupd_eq, zupd_na, zupd_ni, zupp_eq, zupp_na, zupp_ni, eq_true (show (i : Int) < 4 by omega)]
    refine cDrawingOf hc1 ok hi4 (fun hf pp2 m2 hc2 a2 => ?_) (fun hf pp2 m2 hc2 a1 a2 => ?_)
    · have hd2 : drwOk (73 + 14 * q) f q m2 := by
        by_cases hqr : q = i
        · subst hqr; exact absurd hfq hf
        · exact drwOk_keep hqr hd a2
      have zi := ih (i + 1) pp2 m2 (by omega) hc2 (frX_tr fx (frX_P a2 (by omega))) hd2
      rw [eq1.trans (if_neg (fun hx => hf hx.1)), show ((i + 1 : Nat) : Int) = (i : Int) + 1 by omega] at zi
      simp (disch := first | assumption | omega) only [rX_quickest_54, rX_quickest_56, rX_quickest_58, rX_quickest_90, rX_quickest_93, Bool.false_eq_true, true_implies, false_implies, implies_true, true_and, and_true, not_true_eq_false, not_false_eq_true, zPush_I, zPush_L, zPush_R, zPush_U, Int.reduceLT, Int.reduceLE, Int.reduceEq, Int.reduceNe, Int.reduceAdd, Int.reduceSub, Int.reduceMul, Int.reduceNeg, Int.reduceToNat, Nat.reduceAdd, Nat.reduceMul, Nat.reduceEqDiff, zw32_id, zw64_id, zupd_eq, zupd_na, zupd_ni, zupp_eq, zupp_na, zupp_ni]
      exact zi
    · have hd2 : drwOk (73 + 14 * q) f q m2 := by
        by_cases hqr : q = i
        · subst hqr; exact a1
        · exact drwOk_keep hqr hd a2
      have zi := ih (i + 1) pp2 m2 (by omega) hc2 (frX_tr fx (frX_P a2 (by omega))) hd2
      rw [show ((i + 1 : Nat) : Int) = (i : Int) + 1 by omega] at zi
      have h := hc2.1
      obtain ⟨d1, e1⟩ := drL_of h hq4
      obtain ⟨d2, e2⟩ := drL_of h hi4
      have ki := d2.1
      have es : m2 (73 + 14 * i) 3 = sec f i := a1.2.1
      obtain ⟨-, -, b3, b4⟩ := dPl_ok ok (p := (i : Int)) (by omega) (by omega) hf
      have hlk : look (gDr f (i : Int)) (gDr f q) 384 = true ↔ look (gDr f q) (gDr f (i : Int)) 384 = true := by
        rw [look_iff, look_iff]
        exact ⟨fun hx j hj => (hx j hj).symm, fun hx j hj => (hx j hj).symm⟩
      obtain ⟨F, hF⟩ : ∃ F : Int, F = (if qk f q i = -1 then 1000000 else sec f (qk f q i)) := ⟨_, rfl⟩
      have hFe : sec f i < F ↔ (qk f q i = -1 ∨ sec f (i : Int) < sec f (qk f q i)) := by
        rw [hF]
        by_cases hk : qk f q i = -1
        · rw [if_pos hk]
          exact ⟨fun _ => Or.inl hk, fun _ => by omega⟩
        · rw [if_neg hk]
          exact ⟨fun hx => Or.inr hx, fun hx => hx.elim (fun hy => absurd hy hk) id⟩
      rw [← hF]
      by_cases c1 : sec f i < F
      · have z2 := kD_looksLike (Q := fun v sh pp mm => zS 111 77 [zR 13, zU, zR (73 + 14 * q), zI (if qk f q i = -1 then (q : Int) else qk f q i), zI F, zI (i : Int), zR (73 + 14 * i)] (zPush v []) sh pp mm Q) (mm := m2) d2 d1 (g := gDr f i) (g' := gDr f q) a1.1.2.2.1 hd2.1.2.2.1
        simp (disch := first | assumption | omega) only [rX_quickest_54, rX_quickest_56, rX_quickest_58, rX_quickest_61, rX_quickest_63, rX_quickest_66, rX_quickest_68, rX_quickest_71, rX_quickest_73, rX_quickest_74, Bool.false_eq_true, true_implies, false_implies, implies_true, true_and, and_true, not_true_eq_false, not_false_eq_true, zPush_I, zPush_L, zPush_R, zPush_U, Int.reduceLT, Int.reduceLE, Int.reduceEq, Int.reduceNe, Int.reduceAdd, Int.reduceSub, Int.reduceMul, Int.reduceNeg, Int.reduceToNat, Nat.reduceAdd, Nat.reduceMul, Nat.reduceEqDiff, zw32_id, zw64_id, zupd_eq, zupd_na, zupd_ni, zupp_eq, zupp_na, zupp_ni, eq_false (show ¬ 73 + 14 * i = 0 by omega), es, eq_true c1]
        refine z2.mpr ?_
        by_cases c2 : look (gDr f (i : Int)) (gDr f q) 384 = true
        · rw [eq1.trans (if_pos ⟨hf, hlk.mp c2, hFe.mp c1⟩), if_neg (show ¬ (i : Int) = -1 by omega), if_neg (show ¬ (i : Int) = -1 by omega)] at zi
          rw [if_pos c2]
          simp (disch := first | assumption | omega) only [rX_quickest_77, rX_quickest_80, rX_quickest_82, rX_quickest_83, rX_quickest_85, rX_quickest_88, rX_quickest_90, rX_quickest_93, Bool.false_eq_true, true_implies, false_implies, implies_true, true_and, and_true, not_true_eq_false, not_false_eq_true, zPush_I, zPush_L, zPush_R, zPush_U, Int.reduceLT, Int.reduceLE, Int.reduceEq, Int.reduceNe, Int.reduceAdd, Int.reduceSub, Int.reduceMul, Int.reduceNeg, Int.reduceToNat, Nat.reduceAdd, Nat.reduceMul, Nat.reduceEqDiff, zw32_id, zw64_id, zupd_eq, zupd_na, zupd_ni, zupp_eq, zupp_na, zupp_ni, es]
          exact zi
        · rw [eq1.trans (if_neg (fun hx => c2 (hlk.mpr hx.2.1))), ← hF] at zi
          rw [if_neg c2]
          simp (disch := first | assumption | omega) only [rX_quickest_77, rX_quickest_90, rX_quickest_93, Bool.false_eq_true, true_implies, false_implies, implies_true, true_and, and_true, not_true_eq_false, not_false_eq_true, zPush_I, zPush_L, zPush_R, zPush_U, Int.reduceLT, Int.reduceLE, Int.reduceEq, Int.reduceNe, Int.reduceAdd, Int.reduceSub, Int.reduceMul, Int.reduceNeg, Int.reduceToNat, Nat.reduceAdd, Nat.reduceMul, Nat.reduceEqDiff, zw32_id, zw64_id, zupd_eq, zupd_na, zupd_ni, zupp_eq, zupp_na, zupp_ni]
          exact zi
      · rw [eq1.trans (if_neg (fun hx => c1 (hFe.mpr hx.2.2))), ← hF] at zi
        simp (disch := first | assumption | omega) only [rX_quickest_54, rX_quickest_56, rX_quickest_58, rX_quickest_61, rX_quickest_63, rX_quickest_66, rX_quickest_68, rX_quickest_90, rX_quickest_93, Bool.false_eq_true, true_implies, false_implies, implies_true, true_and, and_true, not_true_eq_false, not_false_eq_true, zPush_I, zPush_L, zPush_R, zPush_U, Int.reduceLT, Int.reduceLE, Int.reduceEq, Int.reduceNe, Int.reduceAdd, Int.reduceSub, Int.reduceMul, Int.reduceNeg, Int.reduceToNat, Nat.reduceAdd, Nat.reduceMul, Nat.reduceEqDiff, zw32_id, zw64_id, zupd_eq, zupd_na, zupd_ni, zupp_eq, zupp_na, zupp_ni, eq_false (show ¬ 73 + 14 * i = 0 by omega), es, eq_false c1]
        exact zi
theorem cQuick (hc : cOk f G cn N D sh pp mm) (ok : fOk f) {p : Int} (hQ : ∀ pp1 m, cOk f G (oQuick f cn p).1 N D sh pp1 m → frX sh mm sh m → Q (zI (oQuick f cn p).2) sh pp1 m) : zS 111 0 [zR 13, zI p, zU, zU, zU, zU, zU] [] sh pp mm Q := by
  have h := hc.1
  have k13 := k_13 h
  unfold oQuick at hQ
  by_cases hg : 0 ≤ p ∧ p ≤ 3
  · rw [if_pos hg] at hQ
    obtain ⟨q, hq⟩ : ∃ q : Nat, p = (q : Int) := ⟨p.toNat, by omega⟩
    subst hq
    have hq4 : q < 4 := by omega
    simp (disch := first | assumption | omega) only [rX_quickest_0, rX_quickest_1, rX_quickest_4, rX_quickest_7, rX_quickest_8, rX_quickest_9, rX_quickest_11, rX_quickest_14, rX_quickest_15, rX_quickest_16, rX_quickest_17, kX_isProgram, kX_refuse h, Bool.false_eq_true, true_implies, false_implies, implies_true, true_and, and_true, not_true_eq_false, not_false_eq_true, zPush_I, zPush_L, zPush_R, zPush_U, Int.reduceLT, Int.reduceLE, Int.reduceEq, Int.reduceNe, Int.reduceAdd, Int.reduceSub, Int.reduceMul, Int.reduceNeg, Int.reduceToNat, Nat.reduceAdd, Nat.reduceMul, Nat.reduceEqDiff, zw32_id, zw64_id, zupd_eq, zupd_na, zupd_ni, zupp_eq, zupp_na, zupp_ni, eq_true hg]
    refine cDrawingOf hc ok hq4 (fun hr pp1 m1 hc1 a2 => ?_) (fun hr pp1 m1 hc1 a1 a2 => ?_)
    · rw [if_neg hr] at hQ
      dsimp only at hQ
      have zq := cBadP hc1 (i := 1) (by decide) (by decide) (fun m hm hx => hQ pp1 m hm (frX_tr (frX_P a2 (by omega)) hx))
      have h := hc1.1
      simp (disch := first | assumption | omega) only [rX_quickest_20, rX_quickest_21, rX_quickest_22, rX_quickest_25, rX_quickest_26, rX_quickest_27, rX_quickest_29, rX_quickest_32, kX_refuse h, Bool.false_eq_true, true_implies, false_implies, implies_true, true_and, and_true, not_true_eq_false, not_false_eq_true, zPush_I, zPush_L, zPush_R, zPush_U, Int.reduceLT, Int.reduceLE, Int.reduceEq, Int.reduceNe, Int.reduceAdd, Int.reduceSub, Int.reduceMul, Int.reduceNeg, Int.reduceToNat, Nat.reduceAdd, Nat.reduceMul, Nat.reduceEqDiff, zw32_id, zw64_id, zupd_eq, zupd_na, zupd_ni, zupp_eq, zupp_na, zupp_ni]
      exact zq
    · rw [if_pos hr] at hQ
      dsimp only at hQ
      have hne : qk f q 4 ≠ -1 := by
        refine qk_keep f q (n := q + 1) ?_ 4 (by omega)
        unfold qk
        by_cases hk : qk f q q = -1
        · rw [if_pos ⟨hr, (look_iff _ _ 384).mpr (fun _ _ => rfl), Or.inl hk⟩]
          omega
        · split
          · omega
          · exact hk
      have zl := cQuickL (Q := Q) (mm := mm) ok hq4 hr (fun pp2 m2 hc2 fx => by rw [if_neg hne]; exact hQ pp2 m2 hc2 fx) 4 0 pp1 m1 (by omega) hc1 (frX_P a2 (by omega)) a1
      have e0 : qk f q 0 = -1 := rfl
      rw [e0, if_pos rfl, if_pos rfl] at zl
      simp (disch := first | assumption | omega) only [rX_quickest_20, rX_quickest_21, rX_quickest_22, rX_quickest_33, rX_quickest_34, rX_quickest_35, rX_quickest_37, rX_quickest_39, rX_quickest_40, Bool.false_eq_true, true_implies, false_implies, implies_true, true_and, and_true, not_true_eq_false, not_false_eq_true, zPush_I, zPush_L, zPush_R, zPush_U, Int.reduceLT, Int.reduceLE, Int.reduceEq, Int.reduceNe, Int.reduceAdd, Int.reduceSub, Int.reduceMul, Int.reduceNeg, Int.reduceToNat, Nat.reduceAdd, Nat.reduceMul, Nat.reduceEqDiff, zw32_id, zw64_id, zupd_eq, zupd_na, zupd_ni, zupp_eq, zupp_na, zupp_ni, eq_false (show ¬ 73 + 14 * q = 0 by omega)]
      exact zl
  · rw [if_neg hg] at hQ
    dsimp only at hQ
    have zq := cBadP hc (i := 0) (by decide) (by decide) (hQ pp)
    simp (disch := first | assumption | omega) only [rX_quickest_0, rX_quickest_1, rX_quickest_4, rX_quickest_7, rX_quickest_8, rX_quickest_9, rX_quickest_11, rX_quickest_14, kX_isProgram, kX_refuse h, Bool.false_eq_true, true_implies, false_implies, implies_true, true_and, and_true, not_true_eq_false, not_false_eq_true, zPush_I, zPush_L, zPush_R, zPush_U, Int.reduceLT, Int.reduceLE, Int.reduceEq, Int.reduceNe, Int.reduceAdd, Int.reduceSub, Int.reduceMul, Int.reduceNeg, Int.reduceToNat, Nat.reduceAdd, Nat.reduceMul, Nat.reduceEqDiff, zw32_id, zw64_id, zupd_eq, zupd_na, zupd_ni, zupp_eq, zupp_na, zupp_ni, eq_false hg]
    exact zq
end
