/-! ===== round of the reference: how far off a stroke is ===== -/
theorem sq_bd {v c : Int} (h1 : -c ≤ v) (h2 : v ≤ c) : 0 ≤ v * v ∧ v * v ≤ c * c := by
  by_cases h : 0 ≤ v
  · exact mul_bd h h2 h h2
  · have z := mul_bd (x := -v) (y := -v) (a := c) (b := c) (by omega) (by omega) (by omega) (by omega)
    rw [Int.neg_mul_neg] at z
    exact z
section
variable {sh : zSh} {pp : zPp} {mm : zMm} {Q : zV → zSh → zPp → zMm → Prop}
theorem kM_offAt {x y r : Int} (x0 : -60 ≤ x) (x1 : x ≤ 60) (y0 : -60 ≤ y) (y1 : y ≤ 60) (r0 : 0 ≤ r) (r1 : r ≤ 7) : zS 233 0 [zI x, zI y, zI r] [] sh pp mm Q ↔ Q (zI (sz (x * x + y * y - r * r))) sh pp mm := by
  have bx := sq_bd (c := 60) x0 x1
  have bY := sq_bd (c := 60) y0 y1
  have br := sq_bd (v := r) (c := 7) (by omega) r1
  unfold sz
  simp (disch := first | assumption | omega) only [rM_offAt_0, rM_offAt_1, rM_offAt_2, rM_offAt_3, rM_offAt_4, rM_offAt_5, rM_offAt_6, rM_offAt_7, rM_offAt_8, rM_offAt_9, rM_offAt_10, rM_offAt_11, rM_offAt_14, kM_size, Bool.false_eq_true, true_implies, false_implies, implies_true, true_and, and_true, not_true_eq_false, not_false_eq_true, zPush_I, zPush_L, zPush_R, zPush_U, Int.reduceLT, Int.reduceLE, Int.reduceEq, Int.reduceNe, Int.reduceAdd, Int.reduceSub, Int.reduceMul, Int.reduceNeg, Int.reduceToNat, Nat.reduceAdd, Nat.reduceMul, Nat.reduceEqDiff, zw32_id, zw64_id, zupd_eq, zupd_na, zupd_ni, zupp_eq, zupp_na, zupp_ni]
theorem kM_offAlong {x y x' y' r : Int} (hx : 0 ≤ x' ∧ x' ≤ x ∧ x ≤ 7) (hy : 0 ≤ y ∧ y ≤ y' ∧ y' ≤ 7) (hr : 0 ≤ r ∧ r ≤ 7) : zS 234 0 [zI x, zI y, zI x', zI y', zI r, zU, zU, zU, zU, zU] [] sh pp mm Q ↔ Q (zI (ofS x y x' y' r)) sh pp mm := by
  obtain ⟨n, hn⟩ : ∃ n, n = max (x - x') (y' - y) := ⟨_, rfl⟩
  have n0 : 0 ≤ n := by omega
  have n7 : n ≤ 7 := by omega
  have key : ∀ (d k : Nat), (k : Int) + (d : Int) = n → (zS 234 25 [zI x, zI y, zU, zU, zI r, zI (x - x'), zI (y' - y), zI n, zI (ofA x y (x - x') (y' - y) r k), zI ((k : Int) + 1)] [] sh pp mm Q ↔ Q (zI (ofS x y x' y' r)) sh pp mm) := by
    intro d
    induction d with
    | zero =>
      intro k hk
      have eS : ofS x y x' y' r = ofA x y (x - x') (y' - y) r k := by
        unfold ofS
        rw [← hn, show n.toNat = k by omega]
      rw [rM_offAlong_25, eS]
      simp (disch := first | assumption | omega) only [rM_offAlong_27, rM_offAlong_29, rM_offAlong_70, rM_offAlong_72, Bool.false_eq_true, true_implies, false_implies, implies_true, true_and, and_true, not_true_eq_false, not_false_eq_true, zPush_I, zPush_L, zPush_R, zPush_U, Int.reduceLT, Int.reduceLE, Int.reduceEq, Int.reduceNe, Int.reduceAdd, Int.reduceSub, Int.reduceMul, Int.reduceNeg, Int.reduceToNat, Nat.reduceAdd, Nat.reduceMul, Nat.reduceEqDiff, zw32_id, zw64_id, zupd_eq, zupd_na, zupd_ni, zupp_eq, zupp_na, zupp_ni, eq_true (show n < (k : Int) + 1 by omega)]
    | succ d ih =>
      intro k hk
      have zi := ih (k + 1) (by push_cast at hk ⊢; omega)
      rw [show ((k + 1 : Nat) : Int) = (k : Int) + 1 by omega] at zi
      have eA : ofA x y (x - x') (y' - y) r (k + 1) = max (ofA x y (x - x') (y' - y) r k) (sz ((x - ((k : Int) + 1) * (x - x') / n) * (x - ((k : Int) + 1) * (x - x') / n) + (y + ((k : Int) + 1) * (y' - y) / n) * (y + ((k : Int) + 1) * (y' - y) / n) - r * r)) := by rw [hn]; rfl
      push_cast at hk
      have b1 := mul_bd (x := (k : Int) + 1) (y := x - x') (a := 7) (b := 7) (by omega) (by omega) (by omega) (by omega)
      have b2 := mul_bd (x := (k : Int) + 1) (y := y' - y) (a := 7) (b := 7) (by omega) (by omega) (by omega) (by omega)
      rw [← zi, rM_offAlong_25, eA]
      generalize ofA x y (x - x') (y' - y) r k = L
      generalize hp1 : ((k : Int) + 1) * (x - x') = p1 at *
      generalize hp2 : ((k : Int) + 1) * (y' - y) = p2 at *
      have hn1 : 1 ≤ n := by omega
      have q1 : 0 ≤ p1 / n ∧ p1 / n ≤ 49 := ⟨Int.ediv_nonneg b1.1 n0, Int.le_trans (Int.ediv_le_self n b1.1) b1.2⟩
      have q2 : 0 ≤ p2 / n ∧ p2 / n ≤ 49 := ⟨Int.ediv_nonneg b2.1 n0, Int.le_trans (Int.ediv_le_self n b2.1) b2.2⟩
      have w1 := zw32_id (x := p1) (by omega) (by omega)
      have w2 := zw32_id (x := p2) (by omega) (by omega)
      have e1 := kdiv (x := p1) (n := n) b1.1 (by omega) hn1
      have e2 := kdiv (x := p2) (n := n) b2.1 (by omega) hn1
      generalize p1 / n = d1 at *
      generalize p2 / n = d2 at *
      have nz : n ≠ 0 := by clear e1 e2 w1 w2; omega
      have u1 : zw32 (x - d1) = x - d1 := by clear e1 e2 w1 w2; exact zw32_id (by omega) (by omega)
      have u2 : zw32 (y + d2) = y + d2 := by clear e1 e2 w1 w2 u1; exact zw32_id (by omega) (by omega)
      have hlt : ¬ n < (k : Int) + 1 := by clear e1 e2 w1 w2 u1 u2; omega
      have ho := fun (Q : zV → zSh → zPp → zMm → Prop) => kM_offAt (sh := sh) (pp := pp) (mm := mm) (Q := Q) (x := x - d1) (y := y + d2) (r := r) (by clear e1 e2 w1 w2 u1 u2; omega) (by clear e1 e2 w1 w2 u1 u2; omega) (by clear e1 e2 w1 w2 u1 u2; omega) (by clear e1 e2 w1 w2 u1 u2; omega) hr.1 hr.2
      have ek : zw32 ((k : Int) + 1 + 1) = (k : Int) + 1 + 1 := by clear e1 e2 w1 w2 u1 u2; exact zw32_id (by omega) (by omega)
      clear ih zi b1 b2
      simp (disch := assumption) only [rM_offAlong_27, rM_offAlong_29, rM_offAlong_32, rM_offAlong_34, rM_offAlong_35, rM_offAlong_37, rM_offAlong_39, rM_offAlong_40, rM_offAlong_42, rM_offAlong_43, rM_offAlong_44, rM_offAlong_45, rM_offAlong_47, rM_offAlong_49, rM_offAlong_50, rM_offAlong_52, rM_offAlong_53, rM_offAlong_54, rM_offAlong_56, rM_offAlong_59, rM_offAlong_62, rM_offAlong_64, rM_offAlong_67, kM_greater, ho, hp1, hp2, w1, w2, e1, e2, u1, u2, eq_false hlt, ek, Bool.false_eq_true, true_implies, false_implies, implies_true, true_and, and_true, not_true_eq_false, not_false_eq_true, zPush_I]
  have zk := key n.toNat 0 (by omega)
  have w1 : zw32 (x - x') = x - x' := zw32_id (by omega) (by omega)
  have w2 : zw32 (y' - y) = y' - y := zw32_id (by clear w1; omega) (by clear w1; omega)
  simp (disch := assumption) only [rM_offAlong_0, rM_offAlong_1, rM_offAlong_2, rM_offAlong_3, rM_offAlong_5, rM_offAlong_6, rM_offAlong_7, rM_offAlong_8, rM_offAlong_10, rM_offAlong_12, rM_offAlong_14, rM_offAlong_17, rM_offAlong_19, rM_offAlong_20, rM_offAlong_22, rM_offAlong_23, kM_greater, w1, w2, zPush_I]
  rw [← hn]
  exact zk
end
