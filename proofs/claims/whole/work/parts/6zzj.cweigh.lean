/-! ===== the class's fraction becomes the weights' ===== -/
section
variable {sh : zSh} {pp : zPp} {mm m' : zMm} {Q : zV → zSh → zPp → zMm → Prop}
theorem cFWeigh (h : zLy sh pp) {a b : Nat} (ha : a = 58 ∨ a = 60) (kb : zKd sh b = 20) (lb : zLn sh b = 61) (hb : 53 ≤ b ∧ b ≤ 54) {w : Nat → Nat} {R lo hi : Nat} (hR : 1 ≤ R ∧ R ≤ 9) (hw : ∀ j, w j ≤ 24) (hlo : lo ≤ hi) (hhi : hi ≤ 60) (hm : ∀ l : Nat, l ≤ 60 → mm b (l : Int) = ((w l : Nat) : Int)) (m2 : mm 52 2 = (lo : Int)) (m3 : mm 52 3 = (hi : Int)) (hQ : ∀ m, bG a (hS w R lo (hi + 1 - lo)) m → frP (fun x _ => x = a ∨ x = a + 1 ∨ x = 62 ∨ x = 63) mm m → Q zU sh pp m) : zS 32 0 [zR 57, zR a, zR b, zR 52, zI (R : Int), zU, zU] [] sh pp mm Q := by
  have k57 := k_57 h
  have p57 := p_13_8 h
  have k62 := k_62 h
  have p62 := p_57_2 h
  have k52 := k_52 h
  have p52 := p_13_7 h
  obtain ⟨g1, g2, g3, -⟩ := bgs_of h
  have gA : bgL sh pp a := by
    rcases ha with rfl | rfl
    · exact g1
    · exact g2
  have kA := gA.1
  have key : ∀ (d k : Nat) (m : zMm), k + d = hi + 1 - lo → bG a (hS w R lo k) m → bG 62 (R ^ k) m → frP (fun x _ => x = a ∨ x = a + 1 ∨ x = 62 ∨ x = 63) mm m → zS 32 23 [zU, zR a, zR b, zR 52, zI (R : Int), zR 62, zI ((lo : Int) + (k : Int))] [] sh pp m Q := by
    intro d
    induction d with
    | zero =>
      intro k m hk b1 b2 hfr
      have z3 : m 52 3 = (hi : Int) := by rw [hfr _ _ (by omega)]; exact m3
      rw [rF_weigh_23]
      simp (disch := first | assumption | omega) only [rF_weigh_25, rF_weigh_26, rF_weigh_29, rF_weigh_64, Bool.false_eq_true, true_implies, false_implies, implies_true, true_and, and_true, not_true_eq_false, not_false_eq_true, zPush_I, zPush_L, zPush_R, zPush_U, Int.reduceLT, Int.reduceLE, Int.reduceEq, Int.reduceNe, Int.reduceAdd, Int.reduceSub, Int.reduceMul, Int.reduceNeg, Int.reduceToNat, Nat.reduceAdd, Nat.reduceMul, Nat.reduceEqDiff, zw32_id, zw64_id, zupd_eq, zupd_na, zupd_ni, zupp_eq, zupp_na, zupp_ni, z3, eq_true (show (hi : Int) < (lo : Int) + (k : Int) by omega)]
      rw [show hi + 1 - lo = k by omega] at hQ
      exact hQ m b1 hfr
    | succ d ih =>
      intro k m hk b1 b2 hfr
      have z3 : m 52 3 = (hi : Int) := by rw [hfr _ _ (by omega)]; exact m3
      have hk61 : k ≤ 61 := by omega
      have B := bd_61 hk61
      have v1 := hS_bd (w := w) (lo := lo) hR hw k
      have v2 : R ^ k ≤ 9 ^ k := Nat.pow_le_pow_left hR.2 k
      have v3 : hS w R lo k * (10 - R) ≤ 24 * k * 9 ^ k * 9 := Nat.mul_le_mul v1 (by omega)
      have v4 : R ^ k * w (lo + k) ≤ 9 ^ k * 30 := Nat.mul_le_mul v2 (Nat.le_trans (hw _) (by decide))
      have v5 : R ^ k * R ≤ 9 ^ k * 30 := Nat.mul_le_mul v2 (by omega)
      generalize 24 * k * 9 ^ k * 9 = y1 at *
      generalize 9 ^ k = y2 at *
      rw [rF_weigh_23]
      simp (disch := first | assumption | omega) only [rF_weigh_25, rF_weigh_26, rF_weigh_29, rF_weigh_32, rF_weigh_33, rF_weigh_35, rF_weigh_37, rF_weigh_38, Bool.false_eq_true, true_implies, false_implies, implies_true, true_and, and_true, not_true_eq_false, not_false_eq_true, zPush_I, zPush_L, zPush_R, zPush_U, Int.reduceLT, Int.reduceLE, Int.reduceEq, Int.reduceNe, Int.reduceAdd, Int.reduceSub, Int.reduceMul, Int.reduceNeg, Int.reduceToNat, Nat.reduceAdd, Nat.reduceMul, Nat.reduceEqDiff, zw32_id, zw64_id, zupd_eq, zupd_na, zupd_ni, zupp_eq, zupp_na, zupp_ni, z3, eq_false (show ¬ (hi : Int) < (lo : Int) + (k : Int) by omega)]
      rw [show (10 : Int) - (R : Int) = ((10 - R : Nat) : Int) by omega]
      refine cMultiply gA b1.1 (by omega) (by omega) (fun ma c1 f1 => ?_)
      have b2a : bG 62 (R ^ k) ma := bG_fr b2 f1 (fun j => by unfold pB; omega) (by unfold pB; omega)
      have zw : ma b ((lo : Int) + (k : Int)) = ((w (lo + k) : Nat) : Int) := by
        rw [f1 _ _ (by unfold pB; omega), hfr _ _ (by omega), show (lo : Int) + (k : Int) = ((lo + k : Nat) : Int) by omega]
        exact hm (lo + k) (by omega)
      simp (disch := first | assumption | omega) only [rF_weigh_41, rF_weigh_42, rF_weigh_44, rF_weigh_45, rF_weigh_47, rF_weigh_48, Bool.false_eq_true, true_implies, false_implies, implies_true, true_and, and_true, not_true_eq_false, not_false_eq_true, zPush_I, zPush_L, zPush_R, zPush_U, Int.reduceLT, Int.reduceLE, Int.reduceEq, Int.reduceNe, Int.reduceAdd, Int.reduceSub, Int.reduceMul, Int.reduceNeg, Int.reduceToNat, Nat.reduceAdd, Nat.reduceMul, Nat.reduceEqDiff, zw32_id, zw64_id, zupd_eq, zupd_na, zupd_ni, zupp_eq, zupp_na, zupp_ni, zw]
      refine cAddTimes gA g3 (by omega) c1.1 b2a.1 (Nat.le_trans (hw _) (by decide)) (by omega) (fun mb c2 f2 => ?_)
      have b2b : bG 62 (R ^ k) mb := bG_fr b2a f2 (fun j => by unfold pB; omega) (by unfold pB; omega)
      simp (disch := first | assumption | omega) only [rF_weigh_51, rF_weigh_53, rF_weigh_55, Bool.false_eq_true, true_implies, false_implies, implies_true, true_and, and_true, not_true_eq_false, not_false_eq_true, zPush_I, zPush_L, zPush_R, zPush_U, Int.reduceLT, Int.reduceLE, Int.reduceEq, Int.reduceNe, Int.reduceAdd, Int.reduceSub, Int.reduceMul, Int.reduceNeg, Int.reduceToNat, Nat.reduceAdd, Nat.reduceMul, Nat.reduceEqDiff, zw32_id, zw64_id, zupd_eq, zupd_na, zupd_ni, zupp_eq, zupp_na, zupp_ni]
      refine cMultiply g3 b2b.1 (by omega) (by omega) (fun mc c3 f3 => ?_)
      have c2c : bG a (hS w R lo k * (10 - R) + R ^ k * w (lo + k)) mc := bG_fr c2 f3 (fun j => by unfold pB; omega) (by unfold pB; omega)
      simp (disch := first | assumption | omega) only [rF_weigh_58, rF_weigh_61, Bool.false_eq_true, true_implies, false_implies, implies_true, true_and, and_true, not_true_eq_false, not_false_eq_true, zPush_I, zPush_L, zPush_R, zPush_U, Int.reduceLT, Int.reduceLE, Int.reduceEq, Int.reduceNe, Int.reduceAdd, Int.reduceSub, Int.reduceMul, Int.reduceNeg, Int.reduceToNat, Nat.reduceAdd, Nat.reduceMul, Nat.reduceEqDiff, zw32_id, zw64_id, zupd_eq, zupd_na, zupd_ni, zupp_eq, zupp_na, zupp_ni]
      have zi := ih (k + 1) mc (by omega) c2c (by rw [Nat.pow_succ]; exact c3) (frP_tr hfr (frP_tr (frP_wd f1 (fun x j hj => by unfold pB at hj; omega)) (frP_tr (frP_wd f2 (fun x j hj => by unfold pB at hj; omega)) (frP_wd f3 (fun x j hj => by unfold pB at hj; omega)))))
      rw [show (lo : Int) + ((k + 1 : Nat) : Int) = (lo : Int) + (k : Int) + 1 by omega] at zi
      exact zi
  simp (disch := first | assumption | omega) only [rF_weigh_0, rF_weigh_1, rF_weigh_4, rF_weigh_6, rF_weigh_8, rF_weigh_9, Bool.false_eq_true, true_implies, false_implies, implies_true, true_and, and_true, not_true_eq_false, not_false_eq_true, zPush_I, zPush_L, zPush_R, zPush_U, Int.reduceLT, Int.reduceLE, Int.reduceEq, Int.reduceNe, Int.reduceAdd, Int.reduceSub, Int.reduceMul, Int.reduceNeg, Int.reduceToNat, Nat.reduceAdd, Nat.reduceMul, Nat.reduceEqDiff, zw32_id, zw64_id, zupd_eq, zupd_na, zupd_ni, zupp_eq, zupp_na, zupp_ni, p62]
  refine cBecome g3 (t := 1) (by decide) (fun ma c1 f1 => ?_)
  simp (disch := first | assumption | omega) only [rF_weigh_12, rF_weigh_13, rF_weigh_14, Bool.false_eq_true, true_implies, false_implies, implies_true, true_and, and_true, not_true_eq_false, not_false_eq_true, zPush_I, zPush_L, zPush_R, zPush_U, Int.reduceLT, Int.reduceLE, Int.reduceEq, Int.reduceNe, Int.reduceAdd, Int.reduceSub, Int.reduceMul, Int.reduceNeg, Int.reduceToNat, Nat.reduceAdd, Nat.reduceMul, Nat.reduceEqDiff, zw32_id, zw64_id, zupd_eq, zupd_na, zupd_ni, zupp_eq, zupp_na, zupp_ni]
  refine cBecome gA (t := 0) (by decide) (fun mb c2 f2 => ?_)
  have z2 : mb 52 2 = (lo : Int) := by rw [f2 _ _ (by unfold pB; omega), f1 _ _ (by unfold pB; omega)]; exact m2
  simp (disch := first | assumption | omega) only [rF_weigh_17, rF_weigh_18, rF_weigh_21, Bool.false_eq_true, true_implies, false_implies, implies_true, true_and, and_true, not_true_eq_false, not_false_eq_true, zPush_I, zPush_L, zPush_R, zPush_U, Int.reduceLT, Int.reduceLE, Int.reduceEq, Int.reduceNe, Int.reduceAdd, Int.reduceSub, Int.reduceMul, Int.reduceNeg, Int.reduceToNat, Nat.reduceAdd, Nat.reduceMul, Nat.reduceEqDiff, zw32_id, zw64_id, zupd_eq, zupd_na, zupd_ni, zupp_eq, zupp_na, zupp_ni, z2]
  have zk := key (hi + 1 - lo) 0 mb (by omega) c2 (bG_fr c1 f2 (fun j => by unfold pB; omega) (by unfold pB; omega)) (frP_tr (frP_wd f1 (fun x j hj => by unfold pB at hj; omega)) (frP_wd f2 (fun x j hj => by unfold pB at hj; omega)))
  rw [show (lo : Int) + ((0 : Nat) : Int) = (lo : Int) by omega] at zk
  exact zk
theorem cFBecome (h : zLy sh pp) {wP wA : Nat → Nat} {R lo hi : Nat} (hR : 1 ≤ R ∧ R ≤ 9) (hwP : ∀ j, wP j ≤ 24) (hwA : ∀ j, wA j ≤ 24) (hlo : lo ≤ hi) (hhi : hi ≤ 60) (hmP : ∀ l : Nat, l ≤ 60 → mm 53 (l : Int) = ((wP l : Nat) : Int)) (hmA : ∀ l : Nat, l ≤ 60 → mm 54 (l : Int) = ((wA l : Nat) : Int)) (m2 : mm 52 2 = (lo : Int)) (m3 : mm 52 3 = (hi : Int)) (hQ : ∀ m, bG 58 (hS wP R lo (hi + 1 - lo)) m → bG 60 (hS wA R lo (hi + 1 - lo)) m → frP (fun x _ => 58 ≤ x ∧ x ≤ 63) mm m → Q zU sh pp m) : zS 31 0 [zR 57, zR 52, zI (R : Int)] [] sh pp mm Q := by
  have k57 := k_57 h
  have p57 := p_13_8 h
  have k58 := k_58 h
  have p58 := p_57_0 h
  have k60 := k_60 h
  have p60 := p_57_1 h
  have k52 := k_52 h
  have p52 := p_13_7 h
  have k53 := k_53 h
  have l53 := l_53 h
  have p53 := p_52_0 h
  have k54 := k_54 h
  have l54 := l_54 h
  have p54 := p_52_1 h
  simp (disch := first | assumption | omega) only [rF_become_0, rF_become_1, rF_become_2, rF_become_5, rF_become_6, rF_become_9, rF_become_10, rF_become_11, Bool.false_eq_true, true_implies, false_implies, implies_true, true_and, and_true, not_true_eq_false, not_false_eq_true, zPush_I, zPush_L, zPush_R, zPush_U, Int.reduceLT, Int.reduceLE, Int.reduceEq, Int.reduceNe, Int.reduceAdd, Int.reduceSub, Int.reduceMul, Int.reduceNeg, Int.reduceToNat, Nat.reduceAdd, Nat.reduceMul, Nat.reduceEqDiff, zw32_id, zw64_id, zupd_eq, zupd_na, zupd_ni, zupp_eq, zupp_na, zupp_ni, p58, p53]
  refine cFWeigh h (Or.inl rfl) k53 l53 (by decide) hR hwP hlo hhi hmP m2 m3 (fun ma c1 f1 => ?_)
  simp (disch := first | assumption | omega) only [rF_become_14, rF_become_15, rF_become_16, rF_become_19, rF_become_20, rF_become_23, rF_become_24, rF_become_25, Bool.false_eq_true, true_implies, false_implies, implies_true, true_and, and_true, not_true_eq_false, not_false_eq_true, zPush_I, zPush_L, zPush_R, zPush_U, Int.reduceLT, Int.reduceLE, Int.reduceEq, Int.reduceNe, Int.reduceAdd, Int.reduceSub, Int.reduceMul, Int.reduceNeg, Int.reduceToNat, Nat.reduceAdd, Nat.reduceMul, Nat.reduceEqDiff, zw32_id, zw64_id, zupd_eq, zupd_na, zupd_ni, zupp_eq, zupp_na, zupp_ni, p60, p54]
  refine cFWeigh h (Or.inr rfl) k54 l54 (by decide) hR hwA hlo hhi (fun l hl => by rw [f1 _ _ (by omega)]; exact hmA l hl) (by rw [f1 _ _ (by omega)]; exact m2) (by rw [f1 _ _ (by omega)]; exact m3) (fun mb c2 f2 => ?_)
  simp (disch := first | assumption | omega) only [rF_become_28, Bool.false_eq_true, true_implies, false_implies, implies_true, true_and, and_true, not_true_eq_false, not_false_eq_true, zPush_I, zPush_L, zPush_R, zPush_U, Int.reduceLT, Int.reduceLE, Int.reduceEq, Int.reduceNe, Int.reduceAdd, Int.reduceSub, Int.reduceMul, Int.reduceNeg, Int.reduceToNat, Nat.reduceAdd, Nat.reduceMul, Nat.reduceEqDiff, zw32_id, zw64_id, zupd_eq, zupd_na, zupd_ni, zupp_eq, zupp_na, zupp_ni]
  exact hQ mb (bG_fr c1 f2 (by omega) (by omega)) c2 (frP_tr (frP_wd f1 (fun x j hj => by omega)) (frP_wd f2 (fun x j hj => by omega)))
theorem cGBegin (h : zLy sh pp) (hQ : ∀ m, (∀ i, 0 ≤ i → i < 16 → m 56 i = 0) → (∀ p : Nat, p < 4 → m 55 (p : Int) = 0) → frP (fun x _ => x = 56 ∨ x = 55) mm m → Q zU sh pp m) : zS 38 0 [zR 52, zU] [] sh pp mm Q := by
  have k52 := k_52 h
  have p52 := p_13_7 h
  have k56 := k_56 h
  have l56 := l_56 h
  have p56 := p_52_5 h
  have k55 := k_55 h
  have l55 := l_55 h
  have p55 := p_52_4 h
  simp (disch := first | assumption | omega) only [rG_begin_0, rG_begin_1, rG_begin_3, rG_begin_4, rG_begin_7, rG_begin_8, rG_begin_11, rG_begin_12, rG_begin_13, rG_begin_14, rG_begin_17, rG_begin_20, rG_begin_21, rG_begin_24, rG_begin_25, rG_begin_2, Bool.false_eq_true, true_implies, false_implies, implies_true, true_and, and_true, not_true_eq_false, not_false_eq_true, zPush_I, zPush_L, zPush_R, zPush_U, Int.reduceLT, Int.reduceLE, Int.reduceEq, Int.reduceNe, Int.reduceAdd, Int.reduceSub, Int.reduceMul, Int.reduceNeg, Int.reduceToNat, Nat.reduceAdd, Nat.reduceMul, Nat.reduceEqDiff, zw32_id, zw64_id, zupd_eq, zupd_na, zupd_ni, zupp_eq, zupp_na, zupp_ni, p56, p55, true_or, or_true]
  refine cFill k56 l56 (by decide) (by decide) (fun m1 a1 a2 => ?_)
  simp (disch := first | assumption | omega) only [rG_begin_28, Bool.false_eq_true, true_implies, false_implies, implies_true, true_and, and_true, not_true_eq_false, not_false_eq_true, zPush_I, zPush_L, zPush_R, zPush_U, Int.reduceLT, Int.reduceLE, Int.reduceEq, Int.reduceNe, Int.reduceAdd, Int.reduceSub, Int.reduceMul, Int.reduceNeg, Int.reduceToNat, Nat.reduceAdd, Nat.reduceMul, Nat.reduceEqDiff, zw32_id, zw64_id, zupd_eq, zupd_na, zupd_ni, zupp_eq, zupp_na, zupp_ni]
  have f0 : frP (fun x _ => x = 55) mm (zupd (zupd (zupd (zupd mm 55 0 0) 55 1 0) 55 2 0) 55 3 0) := frP_up (frP_up (frP_up (frP_up (frP_rf _ _) rfl) rfl) rfl) rfl
  refine hQ m1 a1 (fun p hp => ?_) (frP_tr (frP_wd f0 (fun x j hj => Or.inr hj)) (frP_wd a2 (fun x j hj => Or.inl hj)))
  rw [a2 _ _ (show ¬ (55 = 56) by decide)]
  rcases (show p = 0 ∨ p = 1 ∨ p = 2 ∨ p = 3 by omega) with rfl | rfl | rfl | rfl <;> simp [zupd]
theorem kG_isEmpty (h : zLy sh pp) {b0 b1 b2 b3 : Bool} (h0 : mm 55 0 = if b0 = true then 1 else 0) (h1 : mm 55 1 = if b1 = true then 1 else 0) (h2 : mm 55 2 = if b2 = true then 1 else 0) (h3 : mm 55 3 = if b3 = true then 1 else 0) : zS 39 0 [zR 52, zU] [] sh pp mm Q ↔ Q (zI (if (((false || b0) || b1) || b2 || b3) = true then 0 else 1)) sh pp mm := by
  have k52 := k_52 h
  have p52 := p_13_7 h
  have k55 := k_55 h
  have l55 := l_55 h
  have p55 := p_52_4 h
  cases b0 <;> cases b1 <;> cases b2 <;> cases b3 <;> simp at h0 h1 h2 h3 <;> simp (disch := first | assumption | omega) only [rG_isEmpty_0, rG_isEmpty_1, rG_isEmpty_3, rG_isEmpty_4, rG_isEmpty_7, rG_isEmpty_8, rG_isEmpty_11, rG_isEmpty_12, rG_isEmpty_13, rG_isEmpty_16, rG_isEmpty_17, rG_isEmpty_18, rG_isEmpty_21, rG_isEmpty_24, rG_isEmpty_25, rG_isEmpty_2, Bool.false_eq_true, true_implies, false_implies, implies_true, true_and, and_true, not_true_eq_false, not_false_eq_true, zPush_I, zPush_L, zPush_R, zPush_U, Int.reduceLT, Int.reduceLE, Int.reduceEq, Int.reduceNe, Int.reduceAdd, Int.reduceSub, Int.reduceMul, Int.reduceNeg, Int.reduceToNat, Nat.reduceAdd, Nat.reduceMul, Nat.reduceEqDiff, zw32_id, zw64_id, zupd_eq, zupd_na, zupd_ni, zupp_eq, zupp_na, zupp_ni, p55, h0, h1, h2, h3, true_or, or_true, Bool.false_or, Bool.true_or, Bool.or_true, Bool.or_false, if_true, if_false]
end
