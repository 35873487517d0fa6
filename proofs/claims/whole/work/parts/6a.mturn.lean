/-! ===== the reference turns ===== -/
def pTn (x : Nat) (j : Int) : Prop := (129 ≤ x ∧ x ≤ 133) ∨ (x = 122 ∧ 20 ≤ j ∧ j ≤ 25)
theorem kdiv {x n : Int} (h0 : 0 ≤ x) (h1 : x ≤ 100000) (hn : 1 ≤ n) : zw32 (x.tdiv n) = x / n := by
  rw [Int.tdiv_eq_ediv_of_nonneg h0]
  have h2 : 0 ≤ x / n := Int.ediv_nonneg h0 (by omega)
  have h3 : x / n ≤ x := Int.ediv_le_self n h0
  exact zw32_id (by omega) (by omega)
theorem mul_bd {x y a b : Int} (h0 : 0 ≤ x) (h1 : x ≤ a) (h2 : 0 ≤ y) (h3 : y ≤ b) : 0 ≤ x * y ∧ x * y ≤ a * b := ⟨Int.mul_nonneg h0 h2, Int.mul_le_mul h1 h3 h2 (by omega)⟩
theorem pCl_Tn {a b : zMm} (h : frP pCl a b) : frP pTn a b := frP_wd h (fun x j hj => by unfold pCl at hj; unfold pTn; omega)
section
variable {sh : zSh} {pp : zPp} {mm : zMm} {Q : zV → zSh → zPp → zMm → Prop} {P : zPl}
theorem kMv_sg {a n k : Int} {κ : Int → Int} (hn : 1 ≤ n) (h : (k - 1) * sz a / n < k * sz a / n) : sg a = wy a := by
  have ha : a ≠ 0 := by
    intro h0
    subst h0
    have e : sz 0 = 0 := rfl
    rw [e, Int.mul_zero, Int.mul_zero] at h
    omega
  unfold sg wy
  split
  · rw [if_neg (by omega)]
  · split <;> omega
theorem mTurn1 (h : zLy sh pp) {a b n had : Int} (ha : -99 ≤ a ∧ a ≤ 99) (hb : -99 ≤ b ∧ b ≤ 99) (hn : n = max (sz a) (sz b)) (hok : pOk P) (hmo : P.2.2.2.2 + n ≤ 2000) (h0 : mm 123 0 = P.1 5) (h1 : mm 123 1 = P.2.1 5) (hz : ∀ m, mPk (pTurn a b P) m → frP pTn mm m → m 122 25 = mm 122 25 → zS 193 130 [zR 122, zI a, zI b, zU, zI had, zU] [] sh pp m Q) : ∀ (d j : Nat) (m : zMm), (j : Int) + d = n → mPk (pTurnN a b n j P) m → frP pTn mm m → m 122 25 = mm 122 25 → zS 193 21 [zR 122, zI a, zI b, zI n, zI had, zI ((j : Int) + 1)] [] sh pp m Q := by
  have k122 := k_122 h
  have k130 := k_130 h
  have l130 := l_130 h
  have p130 := p_122_16 h
  have k132 := k_132 h
  have l132 := l_132 h
  have p132 := p_122_18 h
  have k133 := k_133 h
  have l133 := l_133 h
  have p133 := p_122_19 h
  have hsa : max a (-a) = sz a := rfl
  have hsb : max b (-b) = sz b := rfl
  have na : 0 ≤ sz a ∧ sz a ≤ 99 := by unfold sz; omega
  have nb : 0 ≤ sz b ∧ sz b ≤ 99 := by unfold sz; omega
  intro d
  induction d with
  | zero =>
    intro j m hj hk hf h25
    rw [rM_turn_21]
    simp (disch := first | assumption | omega) only [rM_turn_23, rM_turn_24, Bool.false_eq_true, true_implies, false_implies, implies_true, true_and, and_true, not_true_eq_false, not_false_eq_true, zPush_I, zPush_L, zPush_R, zPush_U, Int.reduceLT, Int.reduceLE, Int.reduceEq, Int.reduceNe, Int.reduceAdd, Int.reduceSub, Int.reduceMul, Int.reduceNeg, Int.reduceToNat, Nat.reduceAdd, Nat.reduceMul, Nat.reduceEqDiff, zw32_id, zw64_id, zupd_eq, zupd_na, zupd_ni, zupp_eq, zupp_na, zupp_ni, show n < (j : Int) + 1 by omega]
    refine hz m ?_ hf h25
    unfold pTurn
    rw [← hn, show n.toNat = j by omega]
    exact hk
  | succ d ih =>
    intro j m hj hk hf h25
    have hn1 : 1 ≤ n := by omega
    have A1 := mul_bd (x := (j : Int) + 1) (y := sz a) (a := 99) (b := 99) (by omega) (by omega) na.1 na.2
    have A2 := mul_bd (x := (j : Int)) (y := sz a) (a := 99) (b := 99) (by omega) (by omega) na.1 na.2
    have B1 := mul_bd (x := (j : Int) + 1) (y := sz b) (a := 99) (b := 99) (by omega) (by omega) nb.1 nb.2
    have B2 := mul_bd (x := (j : Int)) (y := sz b) (a := 99) (b := 99) (by omega) (by omega) nb.1 nb.2
    have hokj := pTurnN_ok (a := a) (b := b) (n := n) hok j
    have hmj := pTurnN_mo a b n P j
    have h57 := pTurnN_57 a b n P j
    obtain ⟨⟨κ, lam, dr, pt, mo⟩, hPj⟩ : ∃ R, pTurnN a b n j P = R := ⟨_, rfl⟩
    rw [hPj] at hk hokj hmj h57
    dsimp only at hmj h57
    obtain ⟨q1, q2, q3, q4, q5⟩ := hokj
    dsimp only at q1 q2 q3 q4 q5
    have z91 : ∀ m2, mPk (kMv a n ((j : Int) + 1) κ, kMv b n ((j : Int) + 1) lam, dr, pt, mo) m2 → frP pTn mm m2 → m2 122 25 = mm 122 25 → zS 193 91 [zR 122, zI a, zI b, zI n, zI had, zI ((j : Int) + 1)] [] sh pp m2 Q := by
      intro m2 k2 f2 e25
      have o1 := kMv_ok (a := a) (n := n) (k := (j : Int) + 1) q1
      have o2 := kMv_ok (a := b) (n := n) (k := (j : Int) + 1) q2
      obtain ⟨x1, ⟨t0, t1⟩, x3, x4, x5, x6, x7, x8, x9, x10⟩ := k2
      dsimp only at t0 t1 x4 x5 x6
      unfold kOk at o1 o2
      simp (disch := first | assumption | omega) only [rM_turn_91, rM_turn_92, rM_turn_93, rM_turn_96, rM_turn_97, rM_turn_98, rM_turn_101, rM_turn_102, rM_turn_105, rM_turn_106, rM_turn_109, rM_turn_110, rM_turn_111, rM_turn_112, rM_turn_115, rM_turn_116, rM_turn_119, rM_turn_120, rM_turn_123, rM_turn_124, rM_turn_127, rM_place_0, rM_place_2, rM_place_3, rM_place_6, rM_place_7, rM_place_8, rM_place_9, rM_place_10, rM_place_13, rM_place_14, rM_place_15, rM_place_16, Bool.false_eq_true, true_implies, false_implies, implies_true, true_and, and_true, not_true_eq_false, not_false_eq_true, zPush_I, zPush_L, zPush_R, zPush_U, Int.reduceLT, Int.reduceLE, Int.reduceEq, Int.reduceNe, Int.reduceAdd, Int.reduceSub, Int.reduceMul, Int.reduceNeg, Int.reduceToNat, Nat.reduceAdd, Nat.reduceMul, Nat.reduceEqDiff, zw32_id, zw64_id, zupd_eq, zupd_na, zupd_ni, zupp_eq, zupp_na, zupp_ni, p130, p132, p133, x6, t0, t1]
      have nx := ih (j + 1) (zupd (zupd (zupd m2 122 20 (mo + 1)) 132 (24 * kMv b n ((j : Int) + 1) lam 0 + kMv a n ((j : Int) + 1) κ 0) 1) 133 (mo + 1) (24 * kMv b n ((j : Int) + 1) lam 0 + kMv a n ((j : Int) + 1) κ 0)) (by push_cast; omega) ?_ (frP_up (frP_up (frP_up f2 (by unfold pTn; omega)) (by unfold pTn; omega)) (by unfold pTn; omega)) (by simp (disch := first | assumption | omega) only [Bool.false_eq_true, true_implies, false_implies, implies_true, true_and, and_true, not_true_eq_false, not_false_eq_true, zPush_I, zPush_L, zPush_R, zPush_U, Int.reduceLT, Int.reduceLE, Int.reduceEq, Int.reduceNe, Int.reduceAdd, Int.reduceSub, Int.reduceMul, Int.reduceNeg, Int.reduceToNat, Nat.reduceAdd, Nat.reduceMul, Nat.reduceEqDiff, zw32_id, zw64_id, zupd_eq, zupd_na, zupd_ni, zupp_eq, zupp_na, zupp_ni, e25])
      · push_cast at nx
        exact nx
      · show mPk (pMom a b n ((j : Int) + 1) (pTurnN a b n j P)) _
        rw [hPj]
        refine ⟨?_, ?_, ?_, fun i i0 i1 => ?_, fun i i0 i1 => ?_, ?_, ?_, ?_, ?_, ?_⟩
        · simp (disch := first | assumption | omega) only [Bool.false_eq_true, true_implies, false_implies, implies_true, true_and, and_true, not_true_eq_false, not_false_eq_true, zPush_I, zPush_L, zPush_R, zPush_U, Int.reduceLT, Int.reduceLE, Int.reduceEq, Int.reduceNe, Int.reduceAdd, Int.reduceSub, Int.reduceMul, Int.reduceNeg, Int.reduceToNat, Nat.reduceAdd, Nat.reduceMul, Nat.reduceEqDiff, zw32_id, zw64_id, zupd_eq, zupd_na, zupd_ni, zupp_eq, zupp_na, zupp_ni]; exact x1
        · simp (disch := first | assumption | omega) only [Bool.false_eq_true, true_implies, false_implies, implies_true, true_and, and_true, not_true_eq_false, not_false_eq_true, zPush_I, zPush_L, zPush_R, zPush_U, Int.reduceLT, Int.reduceLE, Int.reduceEq, Int.reduceNe, Int.reduceAdd, Int.reduceSub, Int.reduceMul, Int.reduceNeg, Int.reduceToNat, Nat.reduceAdd, Nat.reduceMul, Nat.reduceEqDiff, zw32_id, zw64_id, zupd_eq, zupd_na, zupd_ni, zupp_eq, zupp_na, zupp_ni]; exact ⟨t0, t1⟩
        · simp (disch := first | assumption | omega) only [Bool.false_eq_true, true_implies, false_implies, implies_true, true_and, and_true, not_true_eq_false, not_false_eq_true, zPush_I, zPush_L, zPush_R, zPush_U, Int.reduceLT, Int.reduceLE, Int.reduceEq, Int.reduceNe, Int.reduceAdd, Int.reduceSub, Int.reduceMul, Int.reduceNeg, Int.reduceToNat, Nat.reduceAdd, Nat.reduceMul, Nat.reduceEqDiff, zw32_id, zw64_id, zupd_eq, zupd_na, zupd_ni, zupp_eq, zupp_na, zupp_ni]; exact x3
        · rw [zupd_na (by decide)]
          show zupd _ _ _ _ _ _ = fup dr (24 * kMv b n ((j : Int) + 1) lam 0 + kMv a n ((j : Int) + 1) κ 0) 1 i
          unfold zupd fup
          by_cases e : i = 24 * kMv b n ((j : Int) + 1) lam 0 + kMv a n ((j : Int) + 1) κ 0
          · simp [e]
          · simp [e]
            exact x4 i i0 i1
        · show zupd _ _ _ _ _ _ = fup pt (mo + 1) (24 * kMv b n ((j : Int) + 1) lam 0 + kMv a n ((j : Int) + 1) κ 0) i
          have i1' : i ≤ mo + 1 := i1
          by_cases e : i = mo + 1
          · rw [e, zupd_eq, fup_eq]
          · rw [zupd_ni e, fup_ne e, zupd_na (by decide), zupd_na (by decide)]
            exact x5 i i0 (by omega)
        · simp (disch := first | assumption | omega) only [Bool.false_eq_true, true_implies, false_implies, implies_true, true_and, and_true, not_true_eq_false, not_false_eq_true, zPush_I, zPush_L, zPush_R, zPush_U, Int.reduceLT, Int.reduceLE, Int.reduceEq, Int.reduceNe, Int.reduceAdd, Int.reduceSub, Int.reduceMul, Int.reduceNeg, Int.reduceToNat, Nat.reduceAdd, Nat.reduceMul, Nat.reduceEqDiff, zw32_id, zw64_id, zupd_eq, zupd_na, zupd_ni, zupp_eq, zupp_na, zupp_ni]; rfl
        · simp (disch := first | assumption | omega) only [Bool.false_eq_true, true_implies, false_implies, implies_true, true_and, and_true, not_true_eq_false, not_false_eq_true, zPush_I, zPush_L, zPush_R, zPush_U, Int.reduceLT, Int.reduceLE, Int.reduceEq, Int.reduceNe, Int.reduceAdd, Int.reduceSub, Int.reduceMul, Int.reduceNeg, Int.reduceToNat, Nat.reduceAdd, Nat.reduceMul, Nat.reduceEqDiff, zw32_id, zw64_id, zupd_eq, zupd_na, zupd_ni, zupp_eq, zupp_na, zupp_ni]; exact x7
        · simp (disch := first | assumption | omega) only [Bool.false_eq_true, true_implies, false_implies, implies_true, true_and, and_true, not_true_eq_false, not_false_eq_true, zPush_I, zPush_L, zPush_R, zPush_U, Int.reduceLT, Int.reduceLE, Int.reduceEq, Int.reduceNe, Int.reduceAdd, Int.reduceSub, Int.reduceMul, Int.reduceNeg, Int.reduceToNat, Nat.reduceAdd, Nat.reduceMul, Nat.reduceEqDiff, zw32_id, zw64_id, zupd_eq, zupd_na, zupd_ni, zupp_eq, zupp_na, zupp_ni]; exact x8
        · simp (disch := first | assumption | omega) only [Bool.false_eq_true, true_implies, false_implies, implies_true, true_and, and_true, not_true_eq_false, not_false_eq_true, zPush_I, zPush_L, zPush_R, zPush_U, Int.reduceLT, Int.reduceLE, Int.reduceEq, Int.reduceNe, Int.reduceAdd, Int.reduceSub, Int.reduceMul, Int.reduceNeg, Int.reduceToNat, Nat.reduceAdd, Nat.reduceMul, Nat.reduceEqDiff, zw32_id, zw64_id, zupd_eq, zupd_na, zupd_ni, zupp_eq, zupp_na, zupp_ni]; exact x9
        · simp (disch := first | assumption | omega) only [Bool.false_eq_true, true_implies, false_implies, implies_true, true_and, and_true, not_true_eq_false, not_false_eq_true, zPush_I, zPush_L, zPush_R, zPush_U, Int.reduceLT, Int.reduceLE, Int.reduceEq, Int.reduceNe, Int.reduceAdd, Int.reduceSub, Int.reduceMul, Int.reduceNeg, Int.reduceToNat, Nat.reduceAdd, Nat.reduceMul, Nat.reduceEqDiff, zw32_id, zw64_id, zupd_eq, zupd_na, zupd_ni, zupp_eq, zupp_na, zupp_ni]; exact x10
    have z59 : ∀ m1, mPk (kMv a n ((j : Int) + 1) κ, lam, dr, pt, mo) m1 → frP pTn mm m1 → m1 122 25 = mm 122 25 → zS 193 59 [zR 122, zI a, zI b, zI n, zI had, zI ((j : Int) + 1)] [] sh pp m1 Q := by
      intro m1 k1 f1 e25
      by_cases c : (j : Int) * sz b / n < ((j : Int) + 1) * sz b / n
      · have c' : ((j : Int) + 1 - 1) * sz b / n < ((j : Int) + 1) * sz b / n := by rw [Int.add_sub_cancel]; exact c
        have hsg := kMv_sg (κ := κ) hn1 c'
        simp (disch := first | assumption | omega) only [rM_turn_59, rM_turn_61, rM_turn_62, rM_turn_65, rM_turn_66, rM_turn_67, rM_turn_68, rM_turn_70, rM_turn_71, rM_turn_72, rM_turn_73, rM_turn_76, rM_turn_77, rM_turn_78, rM_turn_79, rM_turn_82, rM_turn_83, rM_turn_84, rM_turn_85, rM_turn_88, kM_size, kM_sign1, Bool.false_eq_true, true_implies, false_implies, implies_true, true_and, and_true, not_true_eq_false, not_false_eq_true, zPush_I, zPush_L, zPush_R, zPush_U, Int.reduceLT, Int.reduceLE, Int.reduceEq, Int.reduceNe, Int.reduceAdd, Int.reduceSub, Int.reduceMul, Int.reduceNeg, Int.reduceToNat, Nat.reduceAdd, Nat.reduceMul, Nat.reduceEqDiff, zw32_id, zw64_id, zupd_eq, zupd_na, zupd_ni, zupp_eq, zupp_na, zupp_ni, hsb, Int.add_sub_cancel, kdiv, c, hsg]
        refine mClick1 h k1 (m := mo + 1) ⟨kMv_ok q1, kOk_mono q2 (by omega)⟩ (by omega) (wy_1 b) (by rw [f1 123 1 (by unfold pTn; omega), h1]; exact h57.2.symm) (fun m2 k2 f2 => ?_)
        simp (disch := first | assumption | omega) only [Bool.false_eq_true, true_implies, false_implies, implies_true, true_and, and_true, not_true_eq_false, not_false_eq_true, zPush_I, zPush_L, zPush_R, zPush_U, Int.reduceLT, Int.reduceLE, Int.reduceEq, Int.reduceNe, Int.reduceAdd, Int.reduceSub, Int.reduceMul, Int.reduceNeg, Int.reduceToNat, Nat.reduceAdd, Nat.reduceMul, Nat.reduceEqDiff, zw32_id, zw64_id, zupd_eq, zupd_na, zupd_ni, zupp_eq, zupp_na, zupp_ni]
        refine z91 m2 ?_ (frP_tr f1 (pCl_Tn f2)) (by rw [f2 122 25 (by unfold pCl; omega), e25])
        have e : kMv b n ((j : Int) + 1) lam = kClick lam (wy b) := by unfold kMv; rw [if_pos c']
        rw [e]
        exact k2
      · have c' : ¬ ((j : Int) + 1 - 1) * sz b / n < ((j : Int) + 1) * sz b / n := by rw [Int.add_sub_cancel]; exact c
        simp (disch := first | assumption | omega) only [rM_turn_59, rM_turn_61, rM_turn_62, rM_turn_65, rM_turn_66, rM_turn_67, rM_turn_68, rM_turn_70, rM_turn_71, rM_turn_72, rM_turn_73, rM_turn_76, rM_turn_77, rM_turn_78, rM_turn_79, rM_turn_82, rM_turn_83, rM_turn_84, rM_turn_85, rM_turn_88, kM_size, kM_sign1, Bool.false_eq_true, true_implies, false_implies, implies_true, true_and, and_true, not_true_eq_false, not_false_eq_true, zPush_I, zPush_L, zPush_R, zPush_U, Int.reduceLT, Int.reduceLE, Int.reduceEq, Int.reduceNe, Int.reduceAdd, Int.reduceSub, Int.reduceMul, Int.reduceNeg, Int.reduceToNat, Nat.reduceAdd, Nat.reduceMul, Nat.reduceEqDiff, zw32_id, zw64_id, zupd_eq, zupd_na, zupd_ni, zupp_eq, zupp_na, zupp_ni, hsb, Int.add_sub_cancel, kdiv, c]
        refine z91 m1 ?_ f1 e25
        have e : kMv b n ((j : Int) + 1) lam = lam := by unfold kMv; rw [if_neg c']
        rw [e]
        exact k1
    rw [rM_turn_21]
    by_cases c : (j : Int) * sz a / n < ((j : Int) + 1) * sz a / n
    · have c' : ((j : Int) + 1 - 1) * sz a / n < ((j : Int) + 1) * sz a / n := by rw [Int.add_sub_cancel]; exact c
      have hsg := kMv_sg (κ := κ) hn1 c'
      simp (disch := first | assumption | omega) only [rM_turn_23, rM_turn_24, rM_turn_27, rM_turn_29, rM_turn_30, rM_turn_33, rM_turn_34, rM_turn_35, rM_turn_36, rM_turn_38, rM_turn_39, rM_turn_40, rM_turn_41, rM_turn_44, rM_turn_45, rM_turn_46, rM_turn_47, rM_turn_50, rM_turn_51, rM_turn_52, rM_turn_53, rM_turn_56, kM_size, kM_sign1, Bool.false_eq_true, true_implies, false_implies, implies_true, true_and, and_true, not_true_eq_false, not_false_eq_true, zPush_I, zPush_L, zPush_R, zPush_U, Int.reduceLT, Int.reduceLE, Int.reduceEq, Int.reduceNe, Int.reduceAdd, Int.reduceSub, Int.reduceMul, Int.reduceNeg, Int.reduceToNat, Nat.reduceAdd, Nat.reduceMul, Nat.reduceEqDiff, zw32_id, zw64_id, zupd_eq, zupd_na, zupd_ni, zupp_eq, zupp_na, zupp_ni, show ¬ n < (j : Int) + 1 by omega, hsa, Int.add_sub_cancel, kdiv, c, hsg]
      refine mClick0 h hk (m := mo) ⟨q1, q2⟩ (by omega) (wy_1 a) (by rw [hf 123 0 (by unfold pTn; omega), h0]; exact h57.1.symm) (fun m2 k2 f2 => ?_)
      simp (disch := first | assumption | omega) only [Bool.false_eq_true, true_implies, false_implies, implies_true, true_and, and_true, not_true_eq_false, not_false_eq_true, zPush_I, zPush_L, zPush_R, zPush_U, Int.reduceLT, Int.reduceLE, Int.reduceEq, Int.reduceNe, Int.reduceAdd, Int.reduceSub, Int.reduceMul, Int.reduceNeg, Int.reduceToNat, Nat.reduceAdd, Nat.reduceMul, Nat.reduceEqDiff, zw32_id, zw64_id, zupd_eq, zupd_na, zupd_ni, zupp_eq, zupp_na, zupp_ni]
      refine z59 m2 ?_ (frP_tr hf (pCl_Tn f2)) (by rw [f2 122 25 (by unfold pCl; omega), h25])
      have e : kMv a n ((j : Int) + 1) κ = kClick κ (wy a) := by unfold kMv; rw [if_pos c']
      rw [e]
      exact k2
    · have c' : ¬ ((j : Int) + 1 - 1) * sz a / n < ((j : Int) + 1) * sz a / n := by rw [Int.add_sub_cancel]; exact c
      simp (disch := first | assumption | omega) only [rM_turn_23, rM_turn_24, rM_turn_27, rM_turn_29, rM_turn_30, rM_turn_33, rM_turn_34, rM_turn_35, rM_turn_36, rM_turn_38, rM_turn_39, rM_turn_40, rM_turn_41, rM_turn_44, rM_turn_45, rM_turn_46, rM_turn_47, rM_turn_50, rM_turn_51, rM_turn_52, rM_turn_53, rM_turn_56, kM_size, kM_sign1, Bool.false_eq_true, true_implies, false_implies, implies_true, true_and, and_true, not_true_eq_false, not_false_eq_true, zPush_I, zPush_L, zPush_R, zPush_U, Int.reduceLT, Int.reduceLE, Int.reduceEq, Int.reduceNe, Int.reduceAdd, Int.reduceSub, Int.reduceMul, Int.reduceNeg, Int.reduceToNat, Nat.reduceAdd, Nat.reduceMul, Nat.reduceEqDiff, zw32_id, zw64_id, zupd_eq, zupd_na, zupd_ni, zupp_eq, zupp_na, zupp_ni, show ¬ n < (j : Int) + 1 by omega, hsa, Int.add_sub_cancel, kdiv, c]
      refine z59 m ?_ hf h25
      have e : kMv a n ((j : Int) + 1) κ = κ := by unfold kMv; rw [if_neg c']
      rw [e]
      exact hk
theorem mTurn (h : zLy sh pp) (hk : mPk P mm) {a b px py ab : Int} (ha : -99 ≤ a ∧ a ≤ 99) (hb : -99 ≤ b ∧ b ≤ 99) (hok : pOk P) (hmo : P.2.2.2.2 + max (sz a) (sz b) ≤ 2000) (h0 : mm 123 0 = P.1 5) (h1 : mm 123 1 = P.2.1 5) (h4 : mm 123 4 = px) (h5 : mm 123 5 = py) (h6 : mm 123 6 = ab) (hpx : 1 ≤ px ∧ px ≤ 9) (hpy : 1 ≤ py ∧ py ≤ 9) (hab : 0 ≤ ab ∧ ab ≤ 9) (h25 : 0 ≤ mm 122 25 ∧ mm 122 25 ≤ 100000) (hQ : ∀ m, mPk (pTurn a b P) m → frP pTn mm m → m 122 25 = mm 122 25 + (max (cei a px) (cei b py) + ab * ((pTurn a b P).1 4 + (pTurn a b P).2.1 4 - (P.1 4 + P.2.1 4))) → Q zU sh pp m) : zS 193 0 [zR 122, zI a, zI b, zU, zU, zU] [] sh pp mm Q := by
  have k122 := k_122 h
  have k123 := k_123 h
  have l123 := l_123 h
  have p123 := p_122_0 h
  have hsa : max a (-a) = sz a := rfl
  have hsb : max b (-b) = sz b := rfl
  have na : 0 ≤ sz a ∧ sz a ≤ 99 := by unfold sz; omega
  have nb : 0 ≤ sz b ∧ sz b ≤ 99 := by unfold sz; omega
  have g24 := hk.2.2.2.2.2.2.2.2.2
  simp (disch := first | assumption | omega) only [rM_turn_0, rM_turn_1, rM_turn_4, rM_turn_5, rM_turn_8, rM_turn_11, rM_turn_12, rM_turn_13, rM_turn_16, rM_turn_18, rM_turn_19, kM_size, kM_greater, Bool.false_eq_true, true_implies, false_implies, implies_true, true_and, and_true, not_true_eq_false, not_false_eq_true, zPush_I, zPush_L, zPush_R, zPush_U, Int.reduceLT, Int.reduceLE, Int.reduceEq, Int.reduceNe, Int.reduceAdd, Int.reduceSub, Int.reduceMul, Int.reduceNeg, Int.reduceToNat, Nat.reduceAdd, Nat.reduceMul, Nat.reduceEqDiff, zw32_id, zw64_id, zupd_eq, zupd_na, zupd_ni, zupp_eq, zupp_na, zupp_ni, hsa, hsb, g24]
  refine mTurn1 h ha hb rfl hok hmo h0 h1 (fun m k2 f2 e25 => ?_) (max (sz a) (sz b)).toNat 0 mm (by omega) hk (frP_rf _ _) rfl
  have c1 := cei_bd ha hpx.1
  have c2 := cei_bd hb hpy.1
  have e1 : zw32 ((sz a + px - 1).tdiv px) = cei a px := kdiv (by omega) (by omega) hpx.1
  have e2 : zw32 ((sz b + py - 1).tdiv py) = cei b py := kdiv (by omega) (by omega) hpy.1
  have g4 : m 123 4 = px := by rw [f2 123 4 (by unfold pTn; omega), h4]
  have g5 : m 123 5 = py := by rw [f2 123 5 (by unfold pTn; omega), h5]
  have g6 : m 123 6 = ab := by rw [f2 123 6 (by unfold pTn; omega), h6]
  have k24 := k2.2.2.2.2.2.2.2.2.2
  have okT := pTurn_ok (a := a) (b := b) hok
  have okT1 := okT.1
  have okT2 := okT.2.1
  have mT := pTurn_mo a b P
  have ok1 := hok.1
  have ok2 := hok.2.1
  unfold kOk at okT1 okT2 ok1 ok2
  obtain ⟨D, hD⟩ : ∃ D, (pTurn a b P).1 4 + (pTurn a b P).2.1 4 - (P.1 4 + P.2.1 4) = D := ⟨_, rfl⟩
  rw [hD] at hQ
  have hDb : -4000 ≤ D ∧ D ≤ 4000 := by omega
  have hX : -36000 ≤ ab * D ∧ ab * D ≤ 36000 := by
    have i1 : ab * D ≤ ab * 4000 := Int.mul_le_mul_of_nonneg_left (by omega) (by omega)
    have i2 : ab * (-4000) ≤ ab * D := Int.mul_le_mul_of_nonneg_left (by omega) (by omega)
    omega
  simp (disch := first | assumption | omega) only [rM_turn_130, rM_turn_131, rM_turn_132, rM_turn_135, rM_turn_136, rM_turn_139, rM_turn_140, rM_turn_141, rM_turn_144, rM_turn_145, rM_turn_146, rM_turn_147, rM_turn_148, rM_turn_149, rM_turn_152, rM_turn_153, rM_turn_154, rM_turn_157, rM_turn_158, rM_turn_159, rM_turn_162, rM_turn_163, rM_turn_164, rM_turn_165, rM_turn_166, rM_turn_167, rM_turn_170, rM_turn_171, rM_turn_174, rM_turn_175, rM_turn_177, rM_turn_180, rM_turn_181, rM_turn_184, rM_turn_186, rM_turn_187, rM_turn_188, rM_turn_189, rM_turn_190, rM_turn_193, rM_of_0, rM_of_1, rM_of_4, rM_of_5, rM_of_6, rM_of_7, rM_of_8, kM_size, kM_greater, Bool.false_eq_true, true_implies, false_implies, implies_true, true_and, and_true, not_true_eq_false, not_false_eq_true, zPush_I, zPush_L, zPush_R, zPush_U, Int.reduceLT, Int.reduceLE, Int.reduceEq, Int.reduceNe, Int.reduceAdd, Int.reduceSub, Int.reduceMul, Int.reduceNeg, Int.reduceToNat, Nat.reduceAdd, Nat.reduceMul, Nat.reduceEqDiff, zw32_id, zw64_id, zupd_eq, zupd_na, zupd_ni, zupp_eq, zupp_na, zupp_ni, p123, hsa, hsb, g4, g5, g6, e25, k24, hD, e1, e2]
  refine hQ _ ?_ (frP_up f2 (by unfold pTn; omega)) (zupd_eq _ _ _ _)
  unfold mPk at k2 ⊢
  simp (disch := first | assumption | omega) only [Bool.false_eq_true, true_implies, false_implies, implies_true, true_and, and_true, not_true_eq_false, not_false_eq_true, zPush_I, zPush_L, zPush_R, zPush_U, Int.reduceLT, Int.reduceLE, Int.reduceEq, Int.reduceNe, Int.reduceAdd, Int.reduceSub, Int.reduceMul, Int.reduceNeg, Int.reduceToNat, Nat.reduceAdd, Nat.reduceMul, Nat.reduceEqDiff, zw32_id, zw64_id, zupd_eq, zupd_na, zupd_ni, zupp_eq, zupp_na, zupp_ni]
  exact k2
end
