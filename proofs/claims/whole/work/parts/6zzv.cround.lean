/-! ===== round of the class: strokes ===== -/
theorem mnF_ex2 {g g' : Nat → Int} : ∀ n, (∀ q, q < n → min (g' q) 1000000 = min (g q) 1000000) → mnF g' n = mnF g n
  | 0, _ => rfl
  | n + 1, h => by
    have z1 := mnF_ex2 n (fun q hq => h q (by omega))
    have z2 := h n (by omega)
    have z3 := mnF_M g n
    show min (mnF g' n) (g' n) = min (mnF g n) (g n)
    omega
theorem rT_M (r : Int) : ∀ (n t : Nat), rT r n t ≤ 1000000
  | 0, t => by
    show (if (t : Int) = r then (0 : Int) else 1000000) ≤ 1000000
    split <;> omega
  | n + 1, t => by rw [rT_s]; exact mnF_M _ _
/-- places beyond r are never come to -/
theorem rT_x {r : Int} : ∀ (n t : Nat), r < ((t % 8 : Nat) : Int) → rT r n t = 1000000
  | 0, t, h => by
    show (if (t : Int) = r then (0 : Int) else 1000000) = 1000000
    rw [if_neg (by omega)]
  | n + 1, t, h => by
    have z1 := mnF_M (rG r n t) 64
    have z2 : (1000000 : Int) ≤ mnF (rG r n t) 64 := mnF_ge (Int.le_refl _) 64 (fun q _ => by
      by_cases hq : rC r t q
      · refine rG_hi (fun hl => ?_)
        unfold rC at hq
        rw [rT_x n q (by omega)] at hl
        omega
      · unfold rC at hq
        unfold rG
        rw [if_neg hq]
        exact Int.le_refl _)
    rw [rT_s]
    omega
theorem rT_y {r : Int} (r7 : r ≤ 7) : ∀ (n t : Nat), r < ((t / 8 : Nat) : Int) → rT r n t = 1000000
  | 0, t, h => by
    show (if (t : Int) = r then (0 : Int) else 1000000) = 1000000
    rw [if_neg (by omega)]
  | n + 1, t, h => by
    have z1 := mnF_M (rG r n t) 64
    have z2 : (1000000 : Int) ≤ mnF (rG r n t) 64 := mnF_ge (Int.le_refl _) 64 (fun q _ => by
      unfold rG
      rw [if_neg (by omega)]
      exact Int.le_refl _)
    rw [rT_s]
    omega
/-- of the ways from q to t, those that are gone: all from places ahead of x, y, and from there those to places ahead of l, u -/
def qP (r x y l u : Int) (t q : Nat) : Bool := decide ((((q % 8 : Nat) : Int) ≤ r ∧ ((q / 8 : Nat) : Int) ≤ r) ∧ ((x < ((q % 8 : Nat) : Int) ∨ (((q % 8 : Nat) : Int) = x ∧ ((q / 8 : Nat) : Int) < y)) ∨ ((((q % 8 : Nat) : Int) = x ∧ ((q / 8 : Nat) : Int) = y) ∧ (l < ((t % 8 : Nat) : Int) ∨ (((t % 8 : Nat) : Int) = l ∧ ((t / 8 : Nat) : Int) < u)))))
def qV (r x y l u : Int) (n t : Nat) : Int := mnF (fun q => if qP r x y l u t q = true then rG r n t q else 1000000) 64
def qI (r x y l u : Int) (m : zMm) : Prop := ∀ a b : Nat, (a : Int) ≤ r → (b : Int) ≤ r → m 51 (((a : Int) * 8 + (b : Int)) * 7) = rT r 0 (8 * b + a) ∧ ∀ n : Nat, n < 6 → m 51 (((a : Int) * 8 + (b : Int)) * 7 + (n : Int) + 1) = qV r x y l u n (8 * b + a)
theorem qV_cg {r x y l u x' y' l' u' : Int} {n t : Nat} (h : ∀ q, q < 64 → (qP r x' y' l' u' t q = true ↔ qP r x y l u t q = true) ∨ 1000000 ≤ rG r n t q) : qV r x' y' l' u' n t = qV r x y l u n t := by
  refine mnF_ex2 64 (fun q hq => ?_)
  try dsimp only
  rcases h q hq with e | e
  · by_cases c : qP r x y l u t q = true
    · rw [if_pos c, if_pos (e.mpr c)]
    · rw [if_neg c, if_neg (fun x => c (e.mp x))]
  · split <;> split <;> omega
def oqF (x : Nat) (_ : Int) : Prop := x = 51
section
variable {sh : zSh} {pp : zPp} {mm : zMm} {Q : zV → zSh → zPp → zMm → Prop} {f : Int → Int} {G : Int → Option (Int → Int)} {cn : Int → Int} {N D : Nat}
theorem kQ_row {x y : Int} (hx : 0 ≤ x ∧ x ≤ 7) (hy : 0 ≤ y ∧ y ≤ 7) : zS 73 0 [zI x, zI y] [] sh pp mm Q ↔ Q (zI ((x * 8 + y) * 7)) sh pp mm := by
  simp (disch := first | assumption | omega) only [rQ_row_0, rQ_row_1, rQ_row_3, rQ_row_4, rQ_row_5, rQ_row_6, rQ_row_8, rQ_row_9, Bool.false_eq_true, true_implies, false_implies, implies_true, true_and, and_true, not_true_eq_false, not_false_eq_true, zPush_I, zPush_L, zPush_R, zPush_U, Int.reduceLT, Int.reduceLE, Int.reduceEq, Int.reduceNe, Int.reduceAdd, Int.reduceSub, Int.reduceMul, Int.reduceNeg, Int.reduceToNat, Nat.reduceAdd, Nat.reduceMul, Nat.reduceEqDiff, zw32_id, zw64_id, zupd_eq, zupd_na, zupd_ni, zupp_eq, zupp_na, zupp_ni]
theorem kQ_strokeOff {x y x' y' r : Int} (hx : 0 ≤ x' ∧ x' ≤ x ∧ x ≤ 7) (hy : 0 ≤ y ∧ y ≤ y' ∧ y' ≤ 7) (hr : 0 ≤ r ∧ r ≤ 7) : zS 76 0 [zI x, zI y, zI (x - x'), zI (y' - y), zI r, zU, zU, zU, zU, zU] [] sh pp mm Q ↔ Q (zI (ofS x y x' y' r)) sh pp mm := by
  obtain ⟨n, hn⟩ : ∃ n, n = max (x - x') (y' - y) := ⟨_, rfl⟩
  have n0 : 0 ≤ n := by omega
  have n7 : n ≤ 7 := by omega
  have key : ∀ (d k : Nat), (k : Int) + (d : Int) = n → (zS 76 13 [zI x, zI y, zI (x - x'), zI (y' - y), zI r, zI n, zI (ofA x y (x - x') (y' - y) r k), zI ((k : Int) + 1), zU, zU] [] sh pp mm Q ↔ Q (zI (ofS x y x' y' r)) sh pp mm) := by
    intro d
    induction d with
    | zero =>
      intro k hk
      have eS : ofS x y x' y' r = ofA x y (x - x') (y' - y) r k := by
        unfold ofS
        rw [← hn, show n.toNat = k by omega]
      rw [rQ_strokeOff_13, eS]
      simp (disch := first | assumption | omega) only [rQ_strokeOff_15, rQ_strokeOff_17, rQ_strokeOff_75, rQ_strokeOff_77, Bool.false_eq_true, true_implies, false_implies, implies_true, true_and, and_true, not_true_eq_false, not_false_eq_true, zPush_I, zPush_L, zPush_R, zPush_U, Int.reduceLT, Int.reduceLE, Int.reduceEq, Int.reduceNe, Int.reduceAdd, Int.reduceSub, Int.reduceMul, Int.reduceNeg, Int.reduceToNat, Nat.reduceAdd, Nat.reduceMul, Nat.reduceEqDiff, zw32_id, zw64_id, zupd_eq, zupd_na, zupd_ni, zupp_eq, zupp_na, zupp_ni, eq_true (show n < (k : Int) + 1 by omega)]
    | succ d ih =>
      intro k hk
      have zi := ih (k + 1) (by push_cast at hk ⊢; omega)
      rw [show ((k + 1 : Nat) : Int) = (k : Int) + 1 by omega] at zi
      have eA : ofA x y (x - x') (y' - y) r (k + 1) = max (ofA x y (x - x') (y' - y) r k) (sz ((x - ((k : Int) + 1) * (x - x') / n) * (x - ((k : Int) + 1) * (x - x') / n) + (y + ((k : Int) + 1) * (y' - y) / n) * (y + ((k : Int) + 1) * (y' - y) / n) - r * r)) := by rw [hn]; rfl
      push_cast at hk
      have b1 := mul_bd (x := (k : Int) + 1) (y := x - x') (a := 7) (b := 7) (by omega) (by omega) (by omega) (by omega)
      have b2 := mul_bd (x := (k : Int) + 1) (y := y' - y) (a := 7) (b := 7) (by omega) (by omega) (by omega) (by omega)
      rw [← zi, rQ_strokeOff_13, eA]
      generalize ofA x y (x - x') (y' - y) r k = L
      generalize hp1 : ((k : Int) + 1) * (x - x') = p1 at *
      generalize hp2 : ((k : Int) + 1) * (y' - y) = p2 at *
      have hn1 : 1 ≤ n := by omega
      have q1 : 0 ≤ p1 / n ∧ p1 / n ≤ 49 := ⟨Int.ediv_nonneg b1.1 n0, Int.le_trans (Int.ediv_le_self n b1.1) b1.2⟩
      have q2 : 0 ≤ p2 / n ∧ p2 / n ≤ 49 := ⟨Int.ediv_nonneg b2.1 n0, Int.le_trans (Int.ediv_le_self n b2.1) b2.2⟩
      have w1 := zw32_id (x := p1) (by omega) (by omega)
      have w2 := zw32_id (x := p2) (by omega) (by omega)
      have e1 := kdiv (x := p1) (n := n) b1.1 (by omega) hn1
      have e2 := kdiv (x := p2) (n := n) b2.1 (by omega) hn1
      generalize p1 / n = d1 at *
      generalize p2 / n = d2 at *
      have nz : n ≠ 0 := by clear e1 e2 w1 w2; omega
      have u1 : zw32 (x - d1) = x - d1 := by clear e1 e2 w1 w2; exact zw32_id (by omega) (by omega)
      have u2 : zw32 (y + d2) = y + d2 := by clear e1 e2 w1 w2 u1; exact zw32_id (by omega) (by omega)
      have hlt : ¬ n < (k : Int) + 1 := by clear e1 e2 w1 w2 u1 u2; omega
      have v1 := sq_bd (v := x - d1) (c := 60) (by clear e1 e2 w1 w2 u1 u2; omega) (by clear e1 e2 w1 w2 u1 u2; omega)
      have v2 := sq_bd (v := y + d2) (c := 60) (by clear e1 e2 w1 w2 u1 u2; omega) (by clear e1 e2 w1 w2 u1 u2; omega)
      have v3 := sq_bd (v := r) (c := 7) (by clear e1 e2 w1 w2 u1 u2; omega) hr.2
      have s1 : zw32 ((x - d1) * (x - d1)) = (x - d1) * (x - d1) := by clear e1 e2 w1 w2 u1 u2; exact zw32_id (by omega) (by omega)
      have s2 : zw32 ((y + d2) * (y + d2)) = (y + d2) * (y + d2) := by clear e1 e2 w1 w2 u1 u2 s1; exact zw32_id (by omega) (by omega)
      have s3 : zw32 (r * r) = r * r := by clear e1 e2 w1 w2 u1 u2 s1 s2; exact zw32_id (by omega) (by omega)
      have s4 : zw32 ((x - d1) * (x - d1) + (y + d2) * (y + d2)) = (x - d1) * (x - d1) + (y + d2) * (y + d2) := by clear e1 e2 w1 w2 u1 u2 s1 s2 s3; exact zw32_id (by omega) (by omega)
      have s5 : zw32 ((x - d1) * (x - d1) + (y + d2) * (y + d2) - r * r) = (x - d1) * (x - d1) + (y + d2) * (y + d2) - r * r := by clear e1 e2 w1 w2 u1 u2 s1 s2 s3 s4; exact zw32_id (by omega) (by omega)
      have g1 : -2147483647 ≤ (x - d1) * (x - d1) + (y + d2) * (y + d2) - r * r := by clear e1 e2 w1 w2 u1 u2 s1 s2 s3 s4 s5; omega
      have g2 : (x - d1) * (x - d1) + (y + d2) * (y + d2) - r * r ≤ 2147483647 := by clear e1 e2 w1 w2 u1 u2 s1 s2 s3 s4 s5; omega
      have ek : zw32 ((k : Int) + 1 + 1) = (k : Int) + 1 + 1 := by clear e1 e2 w1 w2 u1 u2 s1 s2 s3 s4 s5; exact zw32_id (by omega) (by omega)
      clear ih zi b1 b2
      simp (disch := assumption) only [rQ_strokeOff_15, rQ_strokeOff_17, rQ_strokeOff_20, rQ_strokeOff_21, rQ_strokeOff_23, rQ_strokeOff_24, rQ_strokeOff_25, rQ_strokeOff_27, rQ_strokeOff_28, rQ_strokeOff_29, rQ_strokeOff_31, rQ_strokeOff_32, rQ_strokeOff_34, rQ_strokeOff_35, rQ_strokeOff_36, rQ_strokeOff_38, rQ_strokeOff_39, rQ_strokeOff_40, rQ_strokeOff_42, rQ_strokeOff_44, rQ_strokeOff_46, rQ_strokeOff_48, rQ_strokeOff_49, rQ_strokeOff_51, rQ_strokeOff_53, rQ_strokeOff_54, rQ_strokeOff_55, rQ_strokeOff_57, rQ_strokeOff_59, rQ_strokeOff_60, rQ_strokeOff_61, rQ_strokeOff_64, rQ_strokeOff_67, rQ_strokeOff_69, rQ_strokeOff_72, kJ_max, kJ_abs, hp1, hp2, w1, w2, e1, e2, u1, u2, s1, s2, s3, s4, s5, eq_false hlt, ek, Bool.false_eq_true, true_implies, false_implies, implies_true, true_and, and_true, not_true_eq_false, not_false_eq_true, zPush_I]
  have zk := key n.toNat 0 (by omega)
  simp (disch := assumption) only [rQ_strokeOff_0, rQ_strokeOff_1, rQ_strokeOff_2, rQ_strokeOff_5, rQ_strokeOff_7, rQ_strokeOff_8, rQ_strokeOff_10, rQ_strokeOff_11, kJ_max, zPush_I]
  rw [← hn]
  exact zk
theorem cStroke (h : zLy sh pp) {a b o : Int} (a0 : 0 ≤ a) (a1 : a ≤ 441) (b0 : 0 ≤ b) (b1 : b ≤ 441) (hab : a + 7 ≤ b ∨ b + 7 ≤ a) (hQ : ∀ m', frP oqF mm m' → (∀ n : Nat, n < 6 → m' 51 (b + (n : Int) + 1) = min (mm 51 (b + (n : Int) + 1)) (max (mm 51 (a + (n : Int))) o)) → (∀ i, (i < b + 1 ∨ b + 7 ≤ i) → m' 51 i = mm 51 i) → Q zU sh pp m') : zS 75 0 [zR 48, zI a, zI b, zI o, zU, zU] [] sh pp mm Q := by
  have k48 := k_48 h
  have p48 := p_13_6 h
  have k51 := k_51 h
  have l51 := l_51 h
  have p51 := p_48_2 h
  have key : ∀ (d i : Nat) (m1 : zMm), i + d = 6 → frP oqF mm m1 → (∀ n : Nat, n < i → m1 51 (b + (n : Int) + 1) = min (mm 51 (b + (n : Int) + 1)) (max (mm 51 (a + (n : Int))) o)) → (∀ j, (j < b + 1 ∨ b + (i : Int) + 1 ≤ j) → m1 51 j = mm 51 j) → zS 75 3 [zR 48, zI a, zI b, zI o, zI (i : Int), zU] [] sh pp m1 Q := by
    intro d
    induction d with
    | zero =>
      intro i m1 hi hf h1 h2
      have hi : i = 6 := by omega
      subst hi
      rw [rQ_stroke_3]
      simp (disch := first | assumption | omega) only [rQ_stroke_5, rQ_stroke_7, rQ_stroke_58, Bool.false_eq_true, true_implies, false_implies, implies_true, true_and, and_true, not_true_eq_false, not_false_eq_true, zPush_I, zPush_L, zPush_R, zPush_U, Int.reduceLT, Int.reduceLE, Int.reduceEq, Int.reduceNe, Int.reduceAdd, Int.reduceSub, Int.reduceMul, Int.reduceNeg, Int.reduceToNat, Nat.reduceAdd, Nat.reduceMul, Nat.reduceEqDiff, zw32_id, zw64_id, zupd_eq, zupd_na, zupd_ni, zupp_eq, zupp_na, zupp_ni, Int.cast_ofNat_Int, Int.lt_irrefl]
      exact hQ m1 hf h1 (fun j hj => h2 j (by omega))
    | succ d ih =>
      intro i m1 hi hf h1 h2
      have ea := h2 (a + (i : Int)) (by omega)
      have eb := h2 (b + (i : Int) + 1) (by omega)
      have n := ih (i + 1) (zupd m1 51 (b + (i : Int) + 1) (min (mm 51 (b + (i : Int) + 1)) (max (mm 51 (a + (i : Int))) o))) (by omega) (frP_up hf rfl) (fun n hn => by
        by_cases e : n = i
        · subst e; rw [zupd_eq]
        · rw [zupd_ni (by omega)]; exact h1 n (by omega)) (fun j hj => by rw [zupd_ni (by omega)]; exact h2 j (by omega))
      rw [show ((i + 1 : Nat) : Int) = (i : Int) + 1 by omega] at n
      rw [rQ_stroke_3]
      simp (disch := first | assumption | omega) only [rQ_stroke_5, rQ_stroke_7, rQ_stroke_10, rQ_stroke_11, rQ_stroke_14, rQ_stroke_15, rQ_stroke_17, rQ_stroke_18, rQ_stroke_19, rQ_stroke_20, rQ_stroke_23, rQ_stroke_25, rQ_stroke_26, rQ_stroke_29, rQ_stroke_30, rQ_stroke_32, rQ_stroke_33, rQ_stroke_34, rQ_stroke_35, rQ_stroke_36, rQ_stroke_39, rQ_stroke_40, rQ_stroke_42, rQ_stroke_43, rQ_stroke_44, rQ_stroke_45, rQ_stroke_46, rQ_stroke_48, rQ_stroke_51, rQ_stroke_52, rQ_stroke_55, kJ_max, kJ_min, Bool.false_eq_true, true_implies, false_implies, implies_true, true_and, and_true, not_true_eq_false, not_false_eq_true, zPush_I, zPush_L, zPush_R, zPush_U, Int.reduceLT, Int.reduceLE, Int.reduceEq, Int.reduceNe, Int.reduceAdd, Int.reduceSub, Int.reduceMul, Int.reduceNeg, Int.reduceToNat, Nat.reduceAdd, Nat.reduceMul, Nat.reduceEqDiff, zw32_id, zw64_id, zupd_eq, zupd_na, zupd_ni, zupp_eq, zupp_na, zupp_ni, p51, ea, eb, eq_true (show (i : Int) < 6 by omega)]
      exact n
  simp (disch := first | assumption | omega) only [rQ_stroke_0, rQ_stroke_1, Bool.false_eq_true, true_implies, false_implies, implies_true, true_and, and_true, not_true_eq_false, not_false_eq_true, zPush_I, zPush_L, zPush_R, zPush_U, Int.reduceLT, Int.reduceLE, Int.reduceEq, Int.reduceNe, Int.reduceAdd, Int.reduceSub, Int.reduceMul, Int.reduceNeg, Int.reduceToNat, Nat.reduceAdd, Nat.reduceMul, Nat.reduceEqDiff, zw32_id, zw64_id, zupd_eq, zupd_na, zupd_ni, zupp_eq, zupp_na, zupp_ni]
  exact key 6 0 mm (by omega) (frP_rf _ _) (fun n hn => by omega) (fun j hj => rfl)
end
