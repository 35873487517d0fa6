/-! ===== round of the class: the call ===== -/
theorem rG_no {r : Int} {n t q : Nat} (h : ¬ rC r t q) : rG r n t q = 1000000 := if_neg h
theorem rG_xx {r : Int} {n t q : Nat} (h : r < ((q % 8 : Nat) : Int)) : 1000000 ≤ rG r n t q := rG_hi (by rw [rT_x n q h]; omega)
theorem qI_cg {r x y l u x' y' l' u' : Int} {m : zMm} (r7 : r ≤ 7) (h : qI r x y l u m) (hP : ∀ a b xq yq : Int, 0 ≤ a → a ≤ r → 0 ≤ b → b ≤ r → 0 ≤ xq → xq ≤ r → 0 ≤ yq → yq ≤ r → a ≤ xq → yq ≤ b → ¬ (a = xq ∧ b = yq) → (((x < xq ∨ (xq = x ∧ yq < y)) ∨ ((xq = x ∧ yq = y) ∧ (l < a ∨ (a = l ∧ b < u)))) ↔ ((x' < xq ∨ (xq = x' ∧ yq < y')) ∨ ((xq = x' ∧ yq = y') ∧ (l' < a ∨ (a = l' ∧ b < u')))))) : qI r x' y' l' u' m := by
  intro a b ha hb
  refine ⟨(h a b ha hb).1, fun n hn => ?_⟩
  rw [(h a b ha hb).2 n hn]
  refine (qV_cg (fun q hq => ?_)).symm
  by_cases hc : rC r (8 * b + a) q
  · by_cases hx : ((q % 8 : Nat) : Int) ≤ r
    · refine Or.inl ?_
      unfold rC at hc
      have e1 : (8 * b + a) % 8 = a := by omega
      have e2 : (8 * b + a) / 8 = b := by omega
      rw [e1, e2] at hc
      unfold qP
      rw [e1, e2, decide_eq_true_eq, decide_eq_true_eq]
      have z := hP (a : Int) (b : Int) ((q % 8 : Nat) : Int) ((q / 8 : Nat) : Int) (by omega) ha (by omega) hb (by omega) hx (by omega) (by omega) (by omega) (by omega) (by omega)
      rw [z]
    · exact Or.inr (rG_xx (by omega))
  · exact Or.inr (by rw [rG_no hc]; exact Int.le_refl _)
section
variable {sh : zSh} {pp : zPp} {mm : zMm} {Q : zV → zSh → zPp → zMm → Prop} {f : Int → Int} {G : Int → Option (Int → Int)} {cn : Int → Int} {N D : Nat}
/-- what is kept of a place when it is gone from -/
theorem qI_rT {r x y : Nat} {l u : Int} {m : zMm} (r7 : r ≤ 7) (hx : x ≤ r) (hy : y ≤ r) (h : qI r x y l u m) {n : Nat} (hn : n < 6) : m 51 (((x : Int) * 8 + (y : Int)) * 7 + (n : Int)) = rT r n (8 * y + x) := by
  obtain ⟨h0, h1⟩ := h x y (by omega) (by omega)
  cases n with
  | zero => rw [← h0, show (((x : Int) * 8 + (y : Int)) * 7 + ((0 : Nat) : Int)) = ((x : Int) * 8 + (y : Int)) * 7 by omega]
  | succ n =>
    have z := h1 n (by omega)
    rw [show (((x : Int) * 8 + (y : Int)) * 7 + ((n + 1 : Nat) : Int)) = ((x : Int) * 8 + (y : Int)) * 7 + (n : Int) + 1 by omega, z, rT_s]
    refine mnF_ex2 64 (fun q hq => ?_)
    try dsimp only
    by_cases hp : qP r x y l u (8 * y + x) q = true
    · rw [if_pos hp]
    · rw [if_neg hp]
      have : (1000000 : Int) ≤ rG r n (8 * y + x) q := by
        by_cases hc : rC r (8 * y + x) q
        · by_cases hxq : ((q % 8 : Nat) : Int) ≤ (r : Int)
          · exfalso
            apply hp
            unfold rC at hc
            unfold qP
            rw [decide_eq_true_eq]
            omega
          · exact rG_xx (by omega)
        · rw [rG_no hc]; exact Int.le_refl _
      omega
theorem cUp (h : zLy sh pp) {r x y l : Nat} (r7 : r ≤ 7) (hx : x ≤ r) (hy : y ≤ r) (hl : l ≤ x) (hz : ∀ m', frP oqF mm m' → qI r x y l ((r : Int) + 1) m' → zS 74 65 [zR 48, zI (r : Int), zI (x : Int), zI (y : Int), zI (l : Int), zU] [] sh pp m' Q) : ∀ (d u : Nat) (m1 : zMm), u + d = r + 1 → y ≤ u → frP oqF mm m1 → qI r x y l u m1 → zS 74 11 [zR 48, zI (r : Int), zI (x : Int), zI (y : Int), zI (l : Int), zI (u : Int)] [] sh pp m1 Q := by
  have k48 := k_48 h
  have p48 := p_13_6 h
  have k51 := k_51 h
  have l51 := l_51 h
  have p51 := p_48_2 h
  intro d
  induction d with
  | zero =>
    intro u m1 hu hyu hf hI
    have eu : (u : Int) = (r : Int) + 1 := by omega
    rw [eu] at hI
    rw [rQ_goOn_11]
    simp (disch := first | assumption | omega) only [rQ_goOn_13, rQ_goOn_14, Bool.false_eq_true, true_implies, false_implies, implies_true, true_and, and_true, not_true_eq_false, not_false_eq_true, zPush_I, zPush_L, zPush_R, zPush_U, Int.reduceLT, Int.reduceLE, Int.reduceEq, Int.reduceNe, Int.reduceAdd, Int.reduceSub, Int.reduceMul, Int.reduceNeg, Int.reduceToNat, Nat.reduceAdd, Nat.reduceMul, Nat.reduceEqDiff, zw32_id, zw64_id, zupd_eq, zupd_na, zupd_ni, zupp_eq, zupp_na, zupp_ni, eq_true (show (r : Int) < (u : Int) by omega)]
    exact hz m1 hf hI
  | succ d ih =>
    intro u m1 hu hyu hf hI
    have nx : ∀ m2, frP oqF mm m2 → qI r x y l ((u : Int) + 1) m2 → zS 74 59 [zR 48, zI (r : Int), zI (x : Int), zI (y : Int), zI (l : Int), zI (u : Int)] [] sh pp m2 Q := fun m2 a1 a2 => by
      have n := ih (u + 1) m2 (by omega) (by omega) a1 (by rw [show ((u + 1 : Nat) : Int) = (u : Int) + 1 by omega]; exact a2)
      rw [show ((u + 1 : Nat) : Int) = (u : Int) + 1 by omega] at n
      simp (disch := first | assumption | omega) only [rQ_goOn_59, rQ_goOn_62, Bool.false_eq_true, true_implies, false_implies, implies_true, true_and, and_true, not_true_eq_false, not_false_eq_true, zPush_I, zPush_L, zPush_R, zPush_U, Int.reduceLT, Int.reduceLE, Int.reduceEq, Int.reduceNe, Int.reduceAdd, Int.reduceSub, Int.reduceMul, Int.reduceNeg, Int.reduceToNat, Nat.reduceAdd, Nat.reduceMul, Nat.reduceEqDiff, zw32_id, zw64_id, zupd_eq, zupd_na, zupd_ni, zupp_eq, zupp_na, zupp_ni]
      exact n
    have ge : ¬ (r : Int) < (u : Int) := by omega
    have go : ¬ ((l : Int) = (x : Int) ∧ (u : Int) = (y : Int)) → zS 74 29 [zR 48, zI (r : Int), zI (x : Int), zI (y : Int), zI (l : Int), zI (u : Int)] [] sh pp m1 Q := by
      intro hne
      have so := fun (Q : zV → zSh → zPp → zMm → Prop) => kQ_strokeOff (sh := sh) (pp := pp) (mm := m1) (Q := Q) (x := (x : Int)) (y := (y : Int)) (x' := (l : Int)) (y' := (u : Int)) (r := (r : Int)) (by omega) (by omega) (by omega)
      simp (disch := first | assumption | omega) only [rQ_goOn_29, rQ_goOn_30, rQ_goOn_31, rQ_goOn_32, rQ_goOn_35, rQ_goOn_37, rQ_goOn_39, rQ_goOn_42, rQ_goOn_43, rQ_goOn_44, rQ_goOn_45, rQ_goOn_47, rQ_goOn_48, rQ_goOn_50, rQ_goOn_51, rQ_goOn_52, rQ_goOn_53, rQ_goOn_56, kQ_row, so, Bool.false_eq_true, true_implies, false_implies, implies_true, true_and, and_true, not_true_eq_false, not_false_eq_true, zPush_I, zPush_L, zPush_R, zPush_U, Int.reduceLT, Int.reduceLE, Int.reduceEq, Int.reduceNe, Int.reduceAdd, Int.reduceSub, Int.reduceMul, Int.reduceNeg, Int.reduceToNat, Nat.reduceAdd, Nat.reduceMul, Nat.reduceEqDiff, zw32_id, zw64_id, zupd_eq, zupd_na, zupd_ni, zupp_eq, zupp_na, zupp_ni]
      refine cStroke h (by omega) (by omega) (by omega) (by omega) (by omega) (fun m2 f2 e1 e2 => ?_)
      simp only [zPush_U]
      refine nx m2 (frP_tr hf f2) (fun a b ha hb => ?_)
      obtain ⟨i0, i1⟩ := hI a b ha hb
      by_cases hab : a = l ∧ b = u
      · obtain ⟨rfl, rfl⟩ := hab
        refine ⟨by rw [e2 _ (by omega)]; exact i0, fun n hn => ?_⟩
        rw [e1 n hn, i1 n hn, qI_rT r7 hx hy hI hn]
        have c1 : rC r (8 * b + a) (8 * y + x) := by
          unfold rC
          omega
        have eg : rG r n (8 * b + a) (8 * y + x) = max (rT r n (8 * y + x)) (ofS (x : Int) (y : Int) (a : Int) (b : Int) r) := by
          unfold rC at c1
          unfold rG
          rw [if_pos c1, show (8 * y + x) % 8 = x by omega, show (8 * y + x) / 8 = y by omega, show (8 * b + a) % 8 = a by omega, show (8 * b + a) / 8 = b by omega]
        rw [← eg]
        have p0 : ¬ qP r x y a b (8 * b + a) (8 * y + x) = true := by
          unfold qP
          rw [decide_eq_true_eq]
          omega
        have p1 : qP r x y a ((b : Int) + 1) (8 * b + a) (8 * y + x) = true := by
          unfold qP
          rw [decide_eq_true_eq]
          omega
        have z := mnF_add (g := fun q => if qP r x y a b (8 * b + a) q = true then rG r n (8 * b + a) q else 1000000) (g' := fun q => if qP r x y a ((b : Int) + 1) (8 * b + a) q = true then rG r n (8 * b + a) q else 1000000) (n := 64) (q0 := 8 * y + x) (by omega) (fun q hq hne => by
          try dsimp only
          have e : qP r x y a ((b : Int) + 1) (8 * b + a) q = qP r x y a b (8 * b + a) q := by
            unfold qP
            rw [decide_eq_decide]
            omega
          rw [e]) (if_neg p0)
        try dsimp only at z
        rw [if_pos p1] at z
        exact z.symm
      · refine ⟨by rw [e2 _ (by omega)]; exact i0, fun n hn => ?_⟩
        rw [e2 _ (by omega), i1 n hn]
        refine (qV_cg (fun q hq => Or.inl ?_)).symm
        unfold qP
        rw [decide_eq_true_eq, decide_eq_true_eq]
        omega
    rw [rQ_goOn_11]
    by_cases e1 : (l : Int) = (x : Int)
    · by_cases e2 : (u : Int) = (y : Int)
      · simp (disch := first | assumption | omega) only [rQ_goOn_13, rQ_goOn_14, rQ_goOn_17, rQ_goOn_19, rQ_goOn_20, rQ_goOn_23, rQ_goOn_25, rQ_goOn_26, Bool.false_eq_true, true_implies, false_implies, implies_true, true_and, and_true, not_true_eq_false, not_false_eq_true, zPush_I, zPush_L, zPush_R, zPush_U, Int.reduceLT, Int.reduceLE, Int.reduceEq, Int.reduceNe, Int.reduceAdd, Int.reduceSub, Int.reduceMul, Int.reduceNeg, Int.reduceToNat, Nat.reduceAdd, Nat.reduceMul, Nat.reduceEqDiff, zw32_id, zw64_id, zupd_eq, zupd_na, zupd_ni, zupp_eq, zupp_na, zupp_ni, eq_false ge, eq_true e1, eq_true e2]
        exact nx m1 hf (qI_cg (by omega) hI (by omega))
      · simp (disch := first | assumption | omega) only [rQ_goOn_13, rQ_goOn_14, rQ_goOn_17, rQ_goOn_19, rQ_goOn_20, rQ_goOn_23, rQ_goOn_25, rQ_goOn_26, Bool.false_eq_true, true_implies, false_implies, implies_true, true_and, and_true, not_true_eq_false, not_false_eq_true, zPush_I, zPush_L, zPush_R, zPush_U, Int.reduceLT, Int.reduceLE, Int.reduceEq, Int.reduceNe, Int.reduceAdd, Int.reduceSub, Int.reduceMul, Int.reduceNeg, Int.reduceToNat, Nat.reduceAdd, Nat.reduceMul, Nat.reduceEqDiff, zw32_id, zw64_id, zupd_eq, zupd_na, zupd_ni, zupp_eq, zupp_na, zupp_ni, eq_false ge, eq_true e1, eq_false e2]
        exact go (by omega)
    · simp (disch := first | assumption | omega) only [rQ_goOn_13, rQ_goOn_14, rQ_goOn_17, rQ_goOn_19, rQ_goOn_20, Bool.false_eq_true, true_implies, false_implies, implies_true, true_and, and_true, not_true_eq_false, not_false_eq_true, zPush_I, zPush_L, zPush_R, zPush_U, Int.reduceLT, Int.reduceLE, Int.reduceEq, Int.reduceNe, Int.reduceAdd, Int.reduceSub, Int.reduceMul, Int.reduceNeg, Int.reduceToNat, Nat.reduceAdd, Nat.reduceMul, Nat.reduceEqDiff, zw32_id, zw64_id, zupd_eq, zupd_na, zupd_ni, zupp_eq, zupp_na, zupp_ni, eq_false ge, eq_false e1]
      exact go (by omega)
theorem cGoOn (h : zLy sh pp) {r x y : Nat} (r7 : r ≤ 7) (hx : x ≤ r) (hy : y ≤ r) (hI : qI r x y x y mm) (hQ : ∀ m', frP oqF mm m' → qI r x ((y : Int) + 1) x ((y : Int) + 1) m' → Q zU sh pp m') : zS 74 0 [zR 48, zI (r : Int), zI (x : Int), zI (y : Int), zU, zU] [] sh pp mm Q := by
  have k48 := k_48 h
  have p48 := p_13_6 h
  have key : ∀ (L : Nat) (m1 : zMm), L ≤ x + 1 → frP oqF mm m1 → qI r x y ((L : Int) - 1) y m1 → zS 74 3 [zR 48, zI (r : Int), zI (x : Int), zI (y : Int), zI ((L : Int) - 1), zU] [] sh pp m1 Q := by
    intro L
    induction L with
    | zero =>
      intro m1 _ hf h1
      rw [rQ_goOn_3]
      simp (disch := first | assumption | omega) only [rQ_goOn_5, rQ_goOn_71, Bool.false_eq_true, true_implies, false_implies, implies_true, true_and, and_true, not_true_eq_false, not_false_eq_true, zPush_I, zPush_L, zPush_R, zPush_U, Int.reduceLT, Int.reduceLE, Int.reduceEq, Int.reduceNe, Int.reduceAdd, Int.reduceSub, Int.reduceMul, Int.reduceNeg, Int.reduceToNat, Nat.reduceAdd, Nat.reduceMul, Nat.reduceEqDiff, zw32_id, zw64_id, zupd_eq, zupd_na, zupd_ni, zupp_eq, zupp_na, zupp_ni, Int.cast_ofNat_Int]
      exact hQ m1 hf (qI_cg (by omega) h1 (by omega))
    | succ L ih =>
      intro m1 hL hf h1
      rw [show ((L + 1 : Nat) : Int) - 1 = (L : Int) by omega] at h1 ⊢
      rw [rQ_goOn_3]
      simp (disch := first | assumption | omega) only [rQ_goOn_5, rQ_goOn_8, rQ_goOn_9, Bool.false_eq_true, true_implies, false_implies, implies_true, true_and, and_true, not_true_eq_false, not_false_eq_true, zPush_I, zPush_L, zPush_R, zPush_U, Int.reduceLT, Int.reduceLE, Int.reduceEq, Int.reduceNe, Int.reduceAdd, Int.reduceSub, Int.reduceMul, Int.reduceNeg, Int.reduceToNat, Nat.reduceAdd, Nat.reduceMul, Nat.reduceEqDiff, zw32_id, zw64_id, zupd_eq, zupd_na, zupd_ni, zupp_eq, zupp_na, zupp_ni, eq_false (show ¬ (L : Int) < 0 by omega)]
      refine cUp h r7 hx hy (by omega) (fun m2 f2 e2 => ?_) (r + 1 - y) y m1 (by omega) (Nat.le_refl _) (frP_rf _ _) h1
      have n := ih m2 (by omega) (frP_tr hf f2) (qI_cg (by omega) e2 (by omega))
      simp (disch := first | assumption | omega) only [rQ_goOn_65, rQ_goOn_68, Bool.false_eq_true, true_implies, false_implies, implies_true, true_and, and_true, not_true_eq_false, not_false_eq_true, zPush_I, zPush_L, zPush_R, zPush_U, Int.reduceLT, Int.reduceLE, Int.reduceEq, Int.reduceNe, Int.reduceAdd, Int.reduceSub, Int.reduceMul, Int.reduceNeg, Int.reduceToNat, Nat.reduceAdd, Nat.reduceMul, Nat.reduceEqDiff, zw32_id, zw64_id, zupd_eq, zupd_na, zupd_ni, zupp_eq, zupp_na, zupp_ni]
      exact n
  have k := key (x + 1) mm (Nat.le_refl _) (frP_rf _ _) (by rw [show ((x + 1 : Nat) : Int) - 1 = (x : Int) by omega]; exact hI)
  rw [show ((x + 1 : Nat) : Int) - 1 = (x : Int) by omega] at k
  simp (disch := first | assumption | omega) only [rQ_goOn_0, rQ_goOn_1, Bool.false_eq_true, true_implies, false_implies, implies_true, true_and, and_true, not_true_eq_false, not_false_eq_true, zPush_I, zPush_L, zPush_R, zPush_U, Int.reduceLT, Int.reduceLE, Int.reduceEq, Int.reduceNe, Int.reduceAdd, Int.reduceSub, Int.reduceMul, Int.reduceNeg, Int.reduceToNat, Nat.reduceAdd, Nat.reduceMul, Nat.reduceEqDiff, zw32_id, zw64_id, zupd_eq, zupd_na, zupd_ni, zupp_eq, zupp_na, zupp_ni]
  exact k
end
