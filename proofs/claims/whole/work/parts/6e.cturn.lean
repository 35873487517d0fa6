/-! ===== the class turns and shakes ===== -/
section
variable {sh : zSh} {pp : zPp} {mm : zMm} {Q : zV → zSh → zPp → zMm → Prop} {P : zPl} {d : Nat}
theorem rowIs_fr {a : Nat} {κ : Int → Int} {m m' : zMm} {R : Nat → Int → Prop} (h : rowIs m a κ) (hf : frP R m m') (hR : ∀ j, ¬ R a j) : rowIs m' a κ := fun j j0 j1 => by rw [hf a j (hR j)]; exact h j j0 j1
theorem cTurn1 (hL : drL sh pp d) {a b n : Int} (ha : -99 ≤ a ∧ a ≤ 99) (hb : -99 ≤ b ∧ b ≤ 99) (hn : n = max (sz a) (sz b)) (hok : pOk P) (hmo : P.2.2.2.2 + n ≤ 2000) (hQ : ∀ m, cPk (pTurn a b P) d m → frP (pDt d) mm m → Q zU sh pp m) : ∀ (t j : Nat) (m : zMm), (j : Int) + t = n → cPk (pTurnN a b n j P) d m → frP (pDt d) mm m → zS 23 21 [zR d, zI a, zI b, zI n, zI (sz a), zI (sz b), zI ((j : Int) + 1)] [] sh pp m Q := by
  have hL' := hL
  obtain ⟨k0, ⟨k1, l1, p1⟩, ⟨k2, l2, p2⟩, ⟨k3, p3⟩, ⟨k4, p4⟩, -⟩ := hL'
  have na : 0 ≤ sz a ∧ sz a ≤ 99 := by unfold sz; omega
  have nb : 0 ≤ sz b ∧ sz b ≤ 99 := by unfold sz; omega
  intro t
  induction t with
  | zero =>
    intro j m hj hk hf
    rw [rD_turn_21]
    simp (disch := first | assumption | omega) only [rD_turn_23, rD_turn_24, rD_turn_127, Bool.false_eq_true, true_implies, false_implies, implies_true, true_and, and_true, not_true_eq_false, not_false_eq_true, zPush_I, zPush_L, zPush_R, zPush_U, Int.reduceLT, Int.reduceLE, Int.reduceEq, Int.reduceNe, Int.reduceAdd, Int.reduceSub, Int.reduceMul, Int.reduceNeg, Int.reduceToNat, Nat.reduceAdd, Nat.reduceMul, Nat.reduceEqDiff, zw32_id, zw64_id, zupd_eq, zupd_na, zupd_ni, zupp_eq, zupp_na, zupp_ni, show n < (j : Int) + 1 by omega]
    refine hQ m ?_ hf
    unfold pTurn
    rw [← hn, show n.toNat = j by omega]
    exact hk
  | succ t ih =>
    intro j m hj hk hf
    have hn1 : 1 ≤ n := by omega
    have A1 := mul_bd (x := (j : Int) + 1) (y := sz a) (a := 99) (b := 99) (by omega) (by omega) na.1 na.2
    have A2 := mul_bd (x := (j : Int)) (y := sz a) (a := 99) (b := 99) (by omega) (by omega) na.1 na.2
    have B1 := mul_bd (x := (j : Int) + 1) (y := sz b) (a := 99) (b := 99) (by omega) (by omega) nb.1 nb.2
    have B2 := mul_bd (x := (j : Int)) (y := sz b) (a := 99) (b := 99) (by omega) (by omega) nb.1 nb.2
    have hokj := pTurnN_ok (a := a) (b := b) (n := n) hok j
    have hmj := pTurnN_mo a b n P j
    obtain ⟨⟨κ, lam, dr, pt, mo⟩, hPj⟩ : ∃ R, pTurnN a b n j P = R := ⟨_, rfl⟩
    rw [hPj] at hk hokj hmj
    dsimp only at hmj
    obtain ⟨q1, q2, q3, q4, q5⟩ := hokj
    dsimp only at q1 q2 q3 q4 q5
    obtain ⟨r1, r2, r3, r4, r5⟩ := hk
    dsimp only at r1 r2 r3 r4 r5
    have nx := fun m' c1 c2 => ih (j + 1) m' (by push_cast; omega) c1 c2
    have e0 : pTurnN a b n (j + 1) P = pMark (kMv a n ((j : Int) + 1) κ, kMv b n ((j : Int) + 1) lam, dr, pt, mo + 1) := by
      show pMom a b n ((j : Int) + 1) (pTurnN a b n j P) = _
      rw [hPj]
      rfl
    have z97 : ∀ m2, rowIs m2 (d + 3) (kMv a n ((j : Int) + 1) κ) → rowIs m2 (d + 4) (kMv b n ((j : Int) + 1) lam) → frP (fun x _ => x = d + 3 ∨ x = d + 4) m m2 → zS 23 97 [zR d, zI a, zI b, zI n, zI (sz a), zI (sz b), zI ((j : Int) + 1)] [] sh pp m2 Q := by
      intro m2 s1 s2 sf
      have g2 : m2 d 2 = mo := by rw [sf d 2 (by omega)]; exact r5
      have o1 := kMv_ok (a := a) (n := n) (k := (j : Int) + 1) q1
      have o2 := kMv_ok (a := b) (n := n) (k := (j : Int) + 1) q2
      have fl : frP (fun x _ => x = d) m2 (zupd m2 d 2 (mo + 1)) := frP_up (frP_rf _ _) rfl
      simp (disch := first | assumption | omega) only [rD_turn_97, rD_turn_98, rD_turn_101, rD_turn_104, rD_turn_107, rD_turn_108, rD_turn_109, rD_turn_112, rD_turn_113, rD_turn_114, rD_turn_117, rD_turn_118, Bool.false_eq_true, true_implies, false_implies, implies_true, true_and, and_true, not_true_eq_false, not_false_eq_true, zPush_I, zPush_L, zPush_R, zPush_U, Int.reduceLT, Int.reduceLE, Int.reduceEq, Int.reduceNe, Int.reduceAdd, Int.reduceSub, Int.reduceMul, Int.reduceNeg, Int.reduceToNat, Nat.reduceAdd, Nat.reduceMul, Nat.reduceEqDiff, zw32_id, zw64_id, zupd_eq, zupd_na, zupd_ni, zupp_eq, zupp_na, zupp_ni, g2, show mo < 2000 by omega]
      refine cMark hL (dr := dr) (pt := pt) (mo := mo + 1) o1 o2 (by omega) (rowIs_fr s1 fl (by omega)) (rowIs_fr s2 fl (by omega)) (fun i i0 i1 => ?_) (fun i i0 i1 => ?_) (zupd_eq _ _ _ _) (fun m3 c3 f3 => ?_)
      · rw [zupd_na (by omega), sf _ _ (by omega)]; exact r3 i i0 i1
      · rw [zupd_na (by omega), sf _ _ (by omega)]; exact r4 i i0 (by omega)
      · simp (disch := first | assumption | omega) only [rD_turn_121, rD_turn_124, Bool.false_eq_true, true_implies, false_implies, implies_true, true_and, and_true, not_true_eq_false, not_false_eq_true, zPush_I, zPush_L, zPush_R, zPush_U, Int.reduceLT, Int.reduceLE, Int.reduceEq, Int.reduceNe, Int.reduceAdd, Int.reduceSub, Int.reduceMul, Int.reduceNeg, Int.reduceToNat, Nat.reduceAdd, Nat.reduceMul, Nat.reduceEqDiff, zw32_id, zw64_id, zupd_eq, zupd_na, zupd_ni, zupp_eq, zupp_na, zupp_ni]
        have := nx m3 (by rw [e0]; exact c3) (frP_tr (frP_tr (frP_tr hf (frP_wd sf (fun x y hy => by unfold pDt; omega))) (frP_up (frP_rf _ _) (by unfold pDt; omega))) (frP_wd f3 (fun x y hy => by unfold pDt; omega)))
        push_cast at this
        exact this
    have z62 : ∀ m1, rowIs m1 (d + 3) (kMv a n ((j : Int) + 1) κ) → frP (fun x _ => x = d + 3) m m1 → zS 23 62 [zR d, zI a, zI b, zI n, zI (sz a), zI (sz b), zI ((j : Int) + 1)] [] sh pp m1 Q := by
      intro m1 s1 sf
      have s2 : rowIs m1 (d + 4) lam := rowIs_fr r2 sf (by omega)
      by_cases c : (j : Int) * sz b / n < ((j : Int) + 1) * sz b / n
      · have c' : ((j : Int) + 1 - 1) * sz b / n < ((j : Int) + 1) * sz b / n := by rw [Int.add_sub_cancel]; exact c
        have e : kMv b n ((j : Int) + 1) lam = kClick lam (wy b) := by unfold kMv; rw [if_pos c']
        have go : zS 45 0 [zR (d + 4), zI (wy b), zU] [] sh pp m1 (fun v sh pp mm => zS 23 97 [zR d, zI a, zI b, zI n, zI (sz a), zI (sz b), zI ((j : Int) + 1)] (zPush v []) sh pp mm Q) := by
          refine kK_click k4 s2 q2 (by omega) (by decide) (wy_1 b) (fun m2 c2 f2 => ?_)
          simp (disch := first | assumption | omega) only [Bool.false_eq_true, true_implies, false_implies, implies_true, true_and, and_true, not_true_eq_false, not_false_eq_true, zPush_I, zPush_L, zPush_R, zPush_U, Int.reduceLT, Int.reduceLE, Int.reduceEq, Int.reduceNe, Int.reduceAdd, Int.reduceSub, Int.reduceMul, Int.reduceNeg, Int.reduceToNat, Nat.reduceAdd, Nat.reduceMul, Nat.reduceEqDiff, zw32_id, zw64_id, zupd_eq, zupd_na, zupd_ni, zupp_eq, zupp_na, zupp_ni]
          exact z97 m2 (rowIs_fr s1 f2 (by omega)) (by rw [e]; exact c2) (frP_tr (frP_wd sf (fun x y hy => by omega)) (frP_wd f2 (fun x y hy => by omega)))
        by_cases hb0 : 0 < b
        · rw [show wy b = 1 by unfold wy; rw [if_pos hb0]] at go
          simp (disch := first | assumption | omega) only [rD_turn_62, rD_turn_64, rD_turn_66, rD_turn_67, rD_turn_68, rD_turn_69, rD_turn_71, rD_turn_72, rD_turn_73, rD_turn_75, rD_turn_76, rD_turn_77, rD_turn_78, rD_turn_81, rD_turn_82, rD_turn_85, rD_turn_86, rD_turn_89, rD_turn_90, rD_turn_93, rD_turn_94, Bool.false_eq_true, true_implies, false_implies, implies_true, true_and, and_true, not_true_eq_false, not_false_eq_true, zPush_I, zPush_L, zPush_R, zPush_U, Int.reduceLT, Int.reduceLE, Int.reduceEq, Int.reduceNe, Int.reduceAdd, Int.reduceSub, Int.reduceMul, Int.reduceNeg, Int.reduceToNat, Nat.reduceAdd, Nat.reduceMul, Nat.reduceEqDiff, zw32_id, zw64_id, zupd_eq, zupd_na, zupd_ni, zupp_eq, zupp_na, zupp_ni, Int.add_sub_cancel, kdiv, c, p4, hb0]
          exact go
        · rw [show wy b = -1 by unfold wy; rw [if_neg hb0]] at go
          simp (disch := first | assumption | omega) only [rD_turn_62, rD_turn_64, rD_turn_66, rD_turn_67, rD_turn_68, rD_turn_69, rD_turn_71, rD_turn_72, rD_turn_73, rD_turn_75, rD_turn_76, rD_turn_77, rD_turn_78, rD_turn_81, rD_turn_82, rD_turn_85, rD_turn_86, rD_turn_89, rD_turn_90, rD_turn_93, rD_turn_94, Bool.false_eq_true, true_implies, false_implies, implies_true, true_and, and_true, not_true_eq_false, not_false_eq_true, zPush_I, zPush_L, zPush_R, zPush_U, Int.reduceLT, Int.reduceLE, Int.reduceEq, Int.reduceNe, Int.reduceAdd, Int.reduceSub, Int.reduceMul, Int.reduceNeg, Int.reduceToNat, Nat.reduceAdd, Nat.reduceMul, Nat.reduceEqDiff, zw32_id, zw64_id, zupd_eq, zupd_na, zupd_ni, zupp_eq, zupp_na, zupp_ni, Int.add_sub_cancel, kdiv, c, p4, hb0]
          exact go
      · have c' : ¬ ((j : Int) + 1 - 1) * sz b / n < ((j : Int) + 1) * sz b / n := by rw [Int.add_sub_cancel]; exact c
        have e : kMv b n ((j : Int) + 1) lam = lam := by unfold kMv; rw [if_neg c']
        simp (disch := first | assumption | omega) only [rD_turn_62, rD_turn_64, rD_turn_66, rD_turn_67, rD_turn_68, rD_turn_69, rD_turn_71, rD_turn_72, rD_turn_73, rD_turn_75, rD_turn_76, rD_turn_77, rD_turn_78, rD_turn_81, rD_turn_82, rD_turn_85, rD_turn_86, rD_turn_89, rD_turn_90, rD_turn_93, rD_turn_94, Bool.false_eq_true, true_implies, false_implies, implies_true, true_and, and_true, not_true_eq_false, not_false_eq_true, zPush_I, zPush_L, zPush_R, zPush_U, Int.reduceLT, Int.reduceLE, Int.reduceEq, Int.reduceNe, Int.reduceAdd, Int.reduceSub, Int.reduceMul, Int.reduceNeg, Int.reduceToNat, Nat.reduceAdd, Nat.reduceMul, Nat.reduceEqDiff, zw32_id, zw64_id, zupd_eq, zupd_na, zupd_ni, zupp_eq, zupp_na, zupp_ni, Int.add_sub_cancel, kdiv, c]
        exact z97 m1 s1 (by rw [e]; exact s2) (frP_wd sf (fun x y hy => by omega))
    rw [rD_turn_21]
    by_cases c : (j : Int) * sz a / n < ((j : Int) + 1) * sz a / n
    · have c' : ((j : Int) + 1 - 1) * sz a / n < ((j : Int) + 1) * sz a / n := by rw [Int.add_sub_cancel]; exact c
      have e : kMv a n ((j : Int) + 1) κ = kClick κ (wy a) := by unfold kMv; rw [if_pos c']
      have go : zS 45 0 [zR (d + 3), zI (wy a), zU] [] sh pp m (fun v sh pp mm => zS 23 62 [zR d, zI a, zI b, zI n, zI (sz a), zI (sz b), zI ((j : Int) + 1)] (zPush v []) sh pp mm Q) := by
        refine kK_click k3 r1 q1 (by omega) (by decide) (wy_1 a) (fun m2 c2 f2 => ?_)
        simp (disch := first | assumption | omega) only [Bool.false_eq_true, true_implies, false_implies, implies_true, true_and, and_true, not_true_eq_false, not_false_eq_true, zPush_I, zPush_L, zPush_R, zPush_U, Int.reduceLT, Int.reduceLE, Int.reduceEq, Int.reduceNe, Int.reduceAdd, Int.reduceSub, Int.reduceMul, Int.reduceNeg, Int.reduceToNat, Nat.reduceAdd, Nat.reduceMul, Nat.reduceEqDiff, zw32_id, zw64_id, zupd_eq, zupd_na, zupd_ni, zupp_eq, zupp_na, zupp_ni]
        exact z62 m2 (by rw [e]; exact c2) f2
      by_cases ha0 : 0 < a
      · rw [show wy a = 1 by unfold wy; rw [if_pos ha0]] at go
        simp (disch := first | assumption | omega) only [rD_turn_23, rD_turn_24, rD_turn_27, rD_turn_29, rD_turn_31, rD_turn_32, rD_turn_33, rD_turn_34, rD_turn_36, rD_turn_37, rD_turn_38, rD_turn_40, rD_turn_41, rD_turn_42, rD_turn_43, rD_turn_46, rD_turn_47, rD_turn_50, rD_turn_51, rD_turn_54, rD_turn_55, rD_turn_58, rD_turn_59, Bool.false_eq_true, true_implies, false_implies, implies_true, true_and, and_true, not_true_eq_false, not_false_eq_true, zPush_I, zPush_L, zPush_R, zPush_U, Int.reduceLT, Int.reduceLE, Int.reduceEq, Int.reduceNe, Int.reduceAdd, Int.reduceSub, Int.reduceMul, Int.reduceNeg, Int.reduceToNat, Nat.reduceAdd, Nat.reduceMul, Nat.reduceEqDiff, zw32_id, zw64_id, zupd_eq, zupd_na, zupd_ni, zupp_eq, zupp_na, zupp_ni, show ¬ n < (j : Int) + 1 by omega, Int.add_sub_cancel, kdiv, c, p3, ha0]
        exact go
      · rw [show wy a = -1 by unfold wy; rw [if_neg ha0]] at go
        simp (disch := first | assumption | omega) only [rD_turn_23, rD_turn_24, rD_turn_27, rD_turn_29, rD_turn_31, rD_turn_32, rD_turn_33, rD_turn_34, rD_turn_36, rD_turn_37, rD_turn_38, rD_turn_40, rD_turn_41, rD_turn_42, rD_turn_43, rD_turn_46, rD_turn_47, rD_turn_50, rD_turn_51, rD_turn_54, rD_turn_55, rD_turn_58, rD_turn_59, Bool.false_eq_true, true_implies, false_implies, implies_true, true_and, and_true, not_true_eq_false, not_false_eq_true, zPush_I, zPush_L, zPush_R, zPush_U, Int.reduceLT, Int.reduceLE, Int.reduceEq, Int.reduceNe, Int.reduceAdd, Int.reduceSub, Int.reduceMul, Int.reduceNeg, Int.reduceToNat, Nat.reduceAdd, Nat.reduceMul, Nat.reduceEqDiff, zw32_id, zw64_id, zupd_eq, zupd_na, zupd_ni, zupp_eq, zupp_na, zupp_ni, show ¬ n < (j : Int) + 1 by omega, Int.add_sub_cancel, kdiv, c, p3, ha0]
        exact go
    · have c' : ¬ ((j : Int) + 1 - 1) * sz a / n < ((j : Int) + 1) * sz a / n := by rw [Int.add_sub_cancel]; exact c
      have e : kMv a n ((j : Int) + 1) κ = κ := by unfold kMv; rw [if_neg c']
      simp (disch := first | assumption | omega) only [rD_turn_23, rD_turn_24, rD_turn_27, rD_turn_29, rD_turn_31, rD_turn_32, rD_turn_33, rD_turn_34, rD_turn_36, rD_turn_37, rD_turn_38, rD_turn_40, rD_turn_41, rD_turn_42, rD_turn_43, rD_turn_46, rD_turn_47, rD_turn_50, rD_turn_51, rD_turn_54, rD_turn_55, rD_turn_58, rD_turn_59, Bool.false_eq_true, true_implies, false_implies, implies_true, true_and, and_true, not_true_eq_false, not_false_eq_true, zPush_I, zPush_L, zPush_R, zPush_U, Int.reduceLT, Int.reduceLE, Int.reduceEq, Int.reduceNe, Int.reduceAdd, Int.reduceSub, Int.reduceMul, Int.reduceNeg, Int.reduceToNat, Nat.reduceAdd, Nat.reduceMul, Nat.reduceEqDiff, zw32_id, zw64_id, zupd_eq, zupd_na, zupd_ni, zupp_eq, zupp_na, zupp_ni, show ¬ n < (j : Int) + 1 by omega, Int.add_sub_cancel, kdiv, c]
      exact z62 m (by rw [e]; exact r1) (frP_rf _ _)
theorem cTurn (hL : drL sh pp d) (hk : cPk P d mm) {a b : Int} (ha : -99 ≤ a ∧ a ≤ 99) (hb : -99 ≤ b ∧ b ≤ 99) (hok : pOk P) (hmo : P.2.2.2.2 + max (sz a) (sz b) ≤ 2000) (hQ : ∀ m, cPk (pTurn a b P) d m → frP (pDt d) mm m → Q zU sh pp m) : zS 23 0 [zR d, zI a, zI b, zU, zU, zU, zU] [] sh pp mm Q := by
  have na : 0 ≤ sz a ∧ sz a ≤ 99 := by unfold sz; omega
  have nb : 0 ≤ sz b ∧ sz b ≤ 99 := by unfold sz; omega
  simp (disch := first | assumption | omega) only [rD_turn_0, rD_turn_1, rD_turn_2, rD_turn_5, rD_turn_6, rD_turn_7, rD_turn_10, rD_turn_12, rD_turn_13, rD_turn_16, rD_turn_18, rD_turn_19, kD_longer ha hb, kJ_abs, Bool.false_eq_true, true_implies, false_implies, implies_true, true_and, and_true, not_true_eq_false, not_false_eq_true, zPush_I, zPush_L, zPush_R, zPush_U, Int.reduceLT, Int.reduceLE, Int.reduceEq, Int.reduceNe, Int.reduceAdd, Int.reduceSub, Int.reduceMul, Int.reduceNeg, Int.reduceToNat, Nat.reduceAdd, Nat.reduceMul, Nat.reduceEqDiff, zw32_id, zw64_id, zupd_eq, zupd_na, zupd_ni, zupp_eq, zupp_na, zupp_ni]
  exact cTurn1 hL ha hb rfl hok hmo hQ (max (sz a) (sz b)).toNat 0 mm (by omega) hk (frP_rf _ _)
def shE (f : Int) (dr : Int → Int) (c i : Int) : Int := if i < c ∧ (i % 24 + 2 * (i / 24) + f) % 3 = 0 then 0 else dr i
theorem cShake1 (hL : drL sh pp d) {f y : Int} {dr : Int → Int} (f0 : 0 ≤ f ∧ f ≤ 2) (y0 : 0 ≤ y) (y1 : y < 16) (hz : ∀ m, (∀ i, 0 ≤ i → i < 384 → m (d + 1) i = shE f dr (24 * y + 24) i) → frP (fun x _ => x = d + 1) mm m → zS 25 42 [zR d, zI f, zI y, zU] [] sh pp m Q) : ∀ (n : Nat) (x : Int) (m : zMm), 24 - x < (n : Int) → 0 ≤ x → x ≤ 26 → (x + 2 * y + f) % 3 = 0 → (∀ i, 0 ≤ i → i < 384 → m (d + 1) i = shE f dr (24 * y + min x 24) i) → frP (fun x _ => x = d + 1) mm m → zS 25 19 [zR d, zI f, zI y, zI x] [] sh pp m Q := by
  obtain ⟨k0, ⟨k1, l1, p1⟩, -⟩ := hL
  have base : ∀ (x : Int) (m : zMm), 24 ≤ x → (∀ i, 0 ≤ i → i < 384 → m (d + 1) i = shE f dr (24 * y + min x 24) i) → frP (fun x _ => x = d + 1) mm m → zS 25 19 [zR d, zI f, zI y, zI x] [] sh pp m Q := by
    intro x m hx hm hf
    rw [rD_shake_19]
    simp (disch := first | assumption | omega) only [rD_shake_20, rD_shake_22, Bool.false_eq_true, true_implies, false_implies, implies_true, true_and, and_true, not_true_eq_false, not_false_eq_true, zPush_I, zPush_L, zPush_R, zPush_U, Int.reduceLT, Int.reduceLE, Int.reduceEq, Int.reduceNe, Int.reduceAdd, Int.reduceSub, Int.reduceMul, Int.reduceNeg, Int.reduceToNat, Nat.reduceAdd, Nat.reduceMul, Nat.reduceEqDiff, zw32_id, zw64_id, zupd_eq, zupd_na, zupd_ni, zupp_eq, zupp_na, zupp_ni, show ¬ x < 24 by omega]
    exact hz m (fun i i0 i1 => by rw [hm i i0 i1, show min x 24 = 24 by omega]) hf
  intro n
  induction n with
  | zero => intro x m hn x0 x1 hx hm hf; exact base x m (by omega) hm hf
  | succ n ih =>
    intro x m hn x0 x1 hx hm hf
    by_cases hc : x < 24
    · rw [rD_shake_19]
      simp (disch := first | assumption | omega) only [rD_shake_20, rD_shake_22, rD_shake_25, rD_shake_26, rD_shake_29, rD_shake_30, rD_shake_31, rD_shake_34, rD_shake_35, rD_shake_36, rD_shake_39, rX_cellAt_0, rX_cellAt_2, rX_cellAt_3, rX_cellAt_4, rX_cellAt_5, rX_cellAt_6, Bool.false_eq_true, true_implies, false_implies, implies_true, true_and, and_true, not_true_eq_false, not_false_eq_true, zPush_I, zPush_L, zPush_R, zPush_U, Int.reduceLT, Int.reduceLE, Int.reduceEq, Int.reduceNe, Int.reduceAdd, Int.reduceSub, Int.reduceMul, Int.reduceNeg, Int.reduceToNat, Nat.reduceAdd, Nat.reduceMul, Nat.reduceEqDiff, zw32_id, zw64_id, zupd_eq, zupd_na, zupd_ni, zupp_eq, zupp_na, zupp_ni, hc, p1]
      refine ih (x + 3) _ (by push_cast at hn; omega) (by omega) (by omega) (by omega) (fun i i0 i1 => ?_) (frP_up hf rfl)
      by_cases e : i = 24 * y + x
      · rw [e, zupd_eq]
        unfold shE
        rw [if_pos ⟨by omega, by rw [show (24 * y + x) % 24 = x by omega, show (24 * y + x) / 24 = y by omega]; exact hx⟩]
      · rw [zupd_ni e, hm i i0 i1]
        unfold shE
        by_cases e2 : i < 24 * y + min x 24
        · by_cases e3 : (i % 24 + 2 * (i / 24) + f) % 3 = 0
          · rw [if_pos ⟨e2, e3⟩, if_pos ⟨by omega, e3⟩]
          · rw [if_neg (fun h => e3 h.2), if_neg (fun h => e3 h.2)]
        · rw [if_neg (fun h => e2 h.1), if_neg (fun h => ?_)]
          have h2 : i / 24 = y := by omega
          have h3 : i % 24 = i - 24 * y := by omega
          rw [h2, h3] at h
          omega
    · exact base x m (by omega) hm hf
theorem cShake (hL : drL sh pp d) (hk : cPk P d mm) {f : Int} (f0 : 0 ≤ f ∧ f ≤ 2) (hok : pOk P) (hQ : ∀ m, cPk (pShake f P) d m → frP (fun x _ => x = d + 1) mm m → Q zU sh pp m) : zS 25 0 [zR d, zI f, zU, zU] [] sh pp mm Q := by
  have hL' := hL
  obtain ⟨k0, ⟨k1, l1, p1⟩, ⟨k2, l2, p2⟩, ⟨k3, p3⟩, ⟨k4, p4⟩, -⟩ := hL'
  have hH := pHere_bd hok
  obtain ⟨q1, q2, q3, q4, q5⟩ := hok
  obtain ⟨r1, r2, r3, r4, r5⟩ := hk
  have kk1 := q1
  have kk2 := q2
  unfold kOk at kk1 kk2
  have hh : 24 * P.2.1 0 + P.1 0 = pHere P := rfl
  have key : ∀ y, 0 ≤ y → y ≤ 16 → ∀ m, (∀ i, 0 ≤ i → i < 384 → m (d + 1) i = shE f P.2.2.1 (24 * y) i) → frP (fun x _ => x = d + 1) mm m → zS 25 2 [zR d, zI f, zI y, zU] [] sh pp m Q := by
    refine zdn ?_ ?_
    · intro m hm hf
      have s1 := rowIs_fr r1 hf (by omega)
      have s2 := rowIs_fr r2 hf (by omega)
      have g1 := s1 0 (by decide) (by decide)
      have g2 := s2 0 (by decide) (by decide)
      rw [rD_shake_2]
      simp (disch := first | assumption | omega) only [rD_shake_3, rD_shake_5, rD_shake_8, rD_shake_10, rD_shake_11, rD_shake_12, rD_shake_13, rD_shake_14, rD_shake_15, rD_shake_48, rD_shake_49, rD_shake_52, rD_shake_53, rD_shake_56, rD_shake_57, rD_shake_58, rD_endCell_0, rD_endCell_1, rD_endCell_4, rD_endCell_7, rD_endCell_8, rD_endCell_11, rD_endCell_14, rD_endCell_17, rX_cellAt_0, rX_cellAt_2, rX_cellAt_3, rX_cellAt_4, rX_cellAt_5, rX_cellAt_6, Bool.false_eq_true, true_implies, false_implies, implies_true, true_and, and_true, not_true_eq_false, not_false_eq_true, zPush_I, zPush_L, zPush_R, zPush_U, Int.reduceLT, Int.reduceLE, Int.reduceEq, Int.reduceNe, Int.reduceAdd, Int.reduceSub, Int.reduceMul, Int.reduceNeg, Int.reduceToNat, Nat.reduceAdd, Nat.reduceMul, Nat.reduceEqDiff, zw32_id, zw64_id, zupd_eq, zupd_na, zupd_ni, zupp_eq, zupp_na, zupp_ni, p1, p3, p4, g1, g2, hh]
      have fz : frP (fun x _ => x = d + 1) mm (zupd m (d + 1) (pHere P) 1) := frP_up hf rfl
      refine hQ _ ⟨rowIs_fr r1 fz (by omega), rowIs_fr r2 fz (by omega), fun i i0 i1 => ?_, fun i i0 i1 => by rw [fz _ _ (by omega)]; exact r4 i i0 i1, by rw [fz _ _ (by omega)]; exact r5⟩ fz
      show _ = pShk f P.2.2.1 (pHere P) i
      unfold pShk
      by_cases e : i = pHere P
      · rw [e, zupd_eq, if_neg (fun h => h.2 rfl), q5]
      · rw [zupd_ni e, hm i i0 i1]
        unfold shE
        by_cases e2 : (i % 24 + 2 * (i / 24) + f) % 3 = 0
        · rw [if_pos ⟨by omega, e2⟩, if_pos ⟨e2, e⟩]
        · rw [if_neg (fun h => e2 h.2), if_neg (fun h => e2 h.1)]
    · intro y y0 y1 ih m hm hf
      rw [rD_shake_2]
      simp (disch := first | assumption | omega) only [rD_shake_3, rD_shake_5, rD_shake_8, rD_shake_10, rD_shake_11, rD_shake_12, rD_shake_13, rD_shake_14, rD_shake_15, rD_shake_18, kJ_floorMod3, Bool.false_eq_true, true_implies, false_implies, implies_true, true_and, and_true, not_true_eq_false, not_false_eq_true, zPush_I, zPush_L, zPush_R, zPush_U, Int.reduceLT, Int.reduceLE, Int.reduceEq, Int.reduceNe, Int.reduceAdd, Int.reduceSub, Int.reduceMul, Int.reduceNeg, Int.reduceToNat, Nat.reduceAdd, Nat.reduceMul, Nat.reduceEqDiff, zw32_id, zw64_id, zupd_eq, zupd_na, zupd_ni, zupp_eq, zupp_na, zupp_ni, y1]
      refine cShake1 (mm := m) (dr := P.2.2.1) hL f0 y0 y1 (fun m2 hm2 hf2 => ?_) 25 ((-2 * y - f) % 3) m (by omega) (by omega) (by omega) (by omega) (fun i i0 i1 => ?_) (frP_rf _ _)
      · simp (disch := first | assumption | omega) only [rD_shake_42, rD_shake_45, Bool.false_eq_true, true_implies, false_implies, implies_true, true_and, and_true, not_true_eq_false, not_false_eq_true, zPush_I, zPush_L, zPush_R, zPush_U, Int.reduceLT, Int.reduceLE, Int.reduceEq, Int.reduceNe, Int.reduceAdd, Int.reduceSub, Int.reduceMul, Int.reduceNeg, Int.reduceToNat, Nat.reduceAdd, Nat.reduceMul, Nat.reduceEqDiff, zw32_id, zw64_id, zupd_eq, zupd_na, zupd_ni, zupp_eq, zupp_na, zupp_ni]
        exact ih m2 (by rw [show 24 * (y + 1) = 24 * y + 24 by omega]; exact hm2) (frP_tr hf hf2)
      · rw [hm i i0 i1]
        unfold shE
        by_cases e2 : i < 24 * y
        · by_cases e3 : (i % 24 + 2 * (i / 24) + f) % 3 = 0
          · rw [if_pos ⟨e2, e3⟩, if_pos ⟨by omega, e3⟩]
          · rw [if_neg (fun h => e3 h.2), if_neg (fun h => e3 h.2)]
        · rw [if_neg (fun h => e2 h.1), if_neg (fun h => ?_)]
          have h2 : i / 24 = y := by omega
          have h3 : i % 24 = i - 24 * y := by omega
          rw [h2, h3] at h
          omega
  simp (disch := first | assumption | omega) only [rD_shake_0, rD_shake_1, Bool.false_eq_true, true_implies, false_implies, implies_true, true_and, and_true, not_true_eq_false, not_false_eq_true, zPush_I, zPush_L, zPush_R, zPush_U, Int.reduceLT, Int.reduceLE, Int.reduceEq, Int.reduceNe, Int.reduceAdd, Int.reduceSub, Int.reduceMul, Int.reduceNeg, Int.reduceToNat, Nat.reduceAdd, Nat.reduceMul, Nat.reduceEqDiff, zw32_id, zw64_id, zupd_eq, zupd_na, zupd_ni, zupp_eq, zupp_na, zupp_ni]
  exact key 0 (by decide) (by decide) mm (fun i i0 i1 => by rw [r3 i i0 i1]; unfold shE; rw [if_neg (by omega)]) (frP_rf _ _)
end
