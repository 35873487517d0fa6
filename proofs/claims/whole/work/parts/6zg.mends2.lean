/-! ===== nets of the reference: ends, the outer loop ===== -/
def enOk (f : Int → Int) (c n : Nat) (mm : zMm) : Prop := ∀ T : Nat, n ≤ T → T < 2 ^ nE f → mm 137 T = whB f c T ∧ (mm 138 T = 0 ∨ mm 138 T = 1) ∧ (mm 138 T = 1 ↔ cP f c T)
def enF (x : Nat) (_ : Int) : Prop := x = 137 ∨ x = 138
section
variable {sh : zSh} {pp : zPp} {mm : zMm} {Q : zV → zSh → zPp → zMm → Prop} {f : Int → Int} {G : Int → Option (Int → Int)} {cn : Int → Int} {N D : Nat}
theorem mFindEnds (h : zLy sh pp) (hm : ∀ k, 0 ≤ k → k < 986 → mm 123 k = f k) (ok : fOk f) {c : Nat} (hc : c < 10) (hQ : ∀ mm', frP enF mm mm' → enOk f c 0 mm' → Q zU sh pp mm') : zS 222 0 [zR 122, zI c, zU, zU, zU] [] sh pp mm Q := by
  have k122 := k_122 h
  have k123 := k_123 h
  have l123 := l_123 h
  have p123 := p_122_0 h
  have k137 := k_137 h
  have l137 := l_137 h
  have p137 := p_122_30 h
  have k138 := k_138 h
  have l138 := l_138 h
  have p138 := p_122_31 h
  have l := nE_le ok
  have t : 2 ^ nE f ≤ 4096 := by simpa using Nat.pow_le_pow_right (n := 2) (by omega) l
  have t0 : 0 < 2 ^ nE f := Nat.pow_pos (by omega)
  have key : ∀ (n : Nat) (m1 : zMm), n ≤ 2 ^ nE f → frP enF mm m1 → enOk f c n m1 → zS 222 5 [zR 122, zI c, zI ((n : Int) - 1), zU, zU] [] sh pp m1 Q := by
    intro n
    induction n with
    | zero =>
      intro m1 _ hf he
      rw [rM_findEnds_5]
      simp (disch := first | assumption | omega) only [rM_findEnds_6, rM_findEnds_151, Bool.false_eq_true, true_implies, false_implies, implies_true, true_and, and_true, not_true_eq_false, not_false_eq_true, zPush_I, zPush_L, zPush_R, zPush_U, Int.reduceLT, Int.reduceLE, Int.reduceEq, Int.reduceNe, Int.reduceAdd, Int.reduceSub, Int.reduceMul, Int.reduceNeg, Int.reduceToNat, Nat.reduceAdd, Nat.reduceMul, Nat.reduceEqDiff, zw32_id, zw64_id, zupd_eq, zupd_na, zupd_ni, zupp_eq, zupp_na, zupp_ni, Int.cast_ofNat_Int]
      exact hQ m1 hf he
    | succ S ih =>
      intro m1 hn hf he
      have hm1 : ∀ k, 0 ≤ k → k < 986 → m1 123 k = f k := fun k a b => by rw [hf 123 k (by unfold enF; omega)]; exact hm k a b
      have s4 : (S : Int) < 4096 := by omega
      rw [show ((S + 1 : Nat) : Int) - 1 = (S : Int) by omega]
      have nS : ¬ (S : Int) < 0 := by omega
      have fin : ∀ v : Int, (v = 0 ∨ v = 1) → (v = 1 ↔ cP f c S) → zS 222 145 [zR 122, zI c, zI S, zU, zU] [] sh pp (zupd (zupd m1 137 S (whB f c S)) 138 S v) Q := by
        intro v hv hv1
        have nx := ih (zupd (zupd m1 137 S (whB f c S)) 138 S v) (by omega) (frP_up (frP_up hf (Or.inl rfl)) (Or.inr rfl)) (by
          intro T h1 h2
          by_cases e : T = S
          · subst e
            rw [zupd_na (by decide), zupd_eq, zupd_eq]
            exact ⟨rfl, hv, hv1⟩
          · have e2 : (T : Int) ≠ (S : Int) := by omega
            rw [zupd_ni e2, zupd_ni e2, zupd_ni e2, zupd_ni e2]
            exact he T (by omega) h2)
        simp (disch := first | assumption | omega) only [rM_findEnds_145, rM_findEnds_148, Bool.false_eq_true, true_implies, false_implies, implies_true, true_and, and_true, not_true_eq_false, not_false_eq_true, zPush_I, zPush_L, zPush_R, zPush_U, Int.reduceLT, Int.reduceLE, Int.reduceEq, Int.reduceNe, Int.reduceAdd, Int.reduceSub, Int.reduceMul, Int.reduceNeg, Int.reduceToNat, Nat.reduceAdd, Nat.reduceMul, Nat.reduceEqDiff, zw32_id, zw64_id, zupd_eq, zupd_na, zupd_ni, zupp_eq, zupp_na, zupp_ni]
        exact nx
      have hm3 : ∀ k, 0 ≤ k → k < 986 → zupd m1 137 S (whB f c S) 123 k = f k := fun k a b => by rw [zupd_na (by decide)]; exact hm1 k a b
      have e9 := hm1 983 (by decide) (by decide)
      rw [nE_eq ok] at e9
      rw [rM_findEnds_5]
      simp (disch := first | assumption | omega) only [rM_findEnds_6, rM_findEnds_9, rM_findEnds_10, rM_findEnds_13, rM_findEnds_14, rM_findEnds_15, rM_findEnds_16, rM_findEnds_17, Bool.false_eq_true, true_implies, false_implies, implies_true, true_and, and_true, not_true_eq_false, not_false_eq_true, zPush_I, zPush_L, zPush_R, zPush_U, Int.reduceLT, Int.reduceLE, Int.reduceEq, Int.reduceNe, Int.reduceAdd, Int.reduceSub, Int.reduceMul, Int.reduceNeg, Int.reduceToNat, Nat.reduceAdd, Nat.reduceMul, Nat.reduceEqDiff, zw32_id, zw64_id, zupd_eq, zupd_na, zupd_ni, zupp_eq, zupp_na, zupp_ni, p137, p138, eq_false nS]
      rw [kM_whereBy h hm1 ok (by omega) hc]
      simp (disch := first | assumption | omega) only [rM_findEnds_20, rM_findEnds_21, rM_findEnds_22, rM_findEnds_25, rM_findEnds_26, rM_findEnds_27, rM_findEnds_28, Bool.false_eq_true, true_implies, false_implies, implies_true, true_and, and_true, not_true_eq_false, not_false_eq_true, zPush_I, zPush_L, zPush_R, zPush_U, Int.reduceLT, Int.reduceLE, Int.reduceEq, Int.reduceNe, Int.reduceAdd, Int.reduceSub, Int.reduceMul, Int.reduceNeg, Int.reduceToNat, Nat.reduceAdd, Nat.reduceMul, Nat.reduceEqDiff, zw32_id, zw64_id, zupd_eq, zupd_na, zupd_ni, zupp_eq, zupp_na, zupp_ni, p137, p138]
      rw [kM_allEdges h hm3 ok]
      by_cases w1 : whB f c S = -1
      · have nc : ¬ cP f c S := by
          intro ⟨w, a, _⟩
          omega
        have q := fin 0 (Or.inl rfl) (by simp [nc])
        rw [w1] at q ⊢
        have ex : zS 222 52 [zR 122, zI c, zI S, zI 0, zU] [] sh pp (zupd (zupd m1 137 S (-1)) 138 S 0) Q := by
          rw [rM_findEnds_52]
          by_cases z : (0 : Int) < (nE f : Int)
          · simp (disch := first | assumption | omega) only [rM_findEnds_53, rM_findEnds_54, rM_findEnds_55, rM_findEnds_58, rM_findEnds_61, rM_findEnds_62, rM_findEnds_65, rM_findEnds_66, rM_findEnds_67, rM_findEnds_68, rM_many_0, rM_many_1, rM_many_4, rM_many_7, rM_many_8, rM_many_9, rM_many_10, Bool.false_eq_true, true_implies, false_implies, implies_true, true_and, and_true, not_true_eq_false, not_false_eq_true, zPush_I, zPush_L, zPush_R, zPush_U, Int.reduceLT, Int.reduceLE, Int.reduceEq, Int.reduceNe, Int.reduceAdd, Int.reduceSub, Int.reduceMul, Int.reduceNeg, Int.reduceToNat, Nat.reduceAdd, Nat.reduceMul, Nat.reduceEqDiff, zw32_id, zw64_id, zupd_eq, zupd_na, zupd_ni, zupp_eq, zupp_na, zupp_ni, p123, p137, p138, e9, eq_true z]
            exact q
          · simp (disch := first | assumption | omega) only [rM_findEnds_53, rM_findEnds_54, rM_findEnds_55, rM_findEnds_58, rM_findEnds_61, rM_findEnds_62, rM_findEnds_65, rM_findEnds_66, rM_findEnds_67, rM_findEnds_68, rM_many_0, rM_many_1, rM_many_4, rM_many_7, rM_many_8, rM_many_9, rM_many_10, Bool.false_eq_true, true_implies, false_implies, implies_true, true_and, and_true, not_true_eq_false, not_false_eq_true, zPush_I, zPush_L, zPush_R, zPush_U, Int.reduceLT, Int.reduceLE, Int.reduceEq, Int.reduceNe, Int.reduceAdd, Int.reduceSub, Int.reduceMul, Int.reduceNeg, Int.reduceToNat, Nat.reduceAdd, Nat.reduceMul, Nat.reduceEqDiff, zw32_id, zw64_id, zupd_eq, zupd_na, zupd_ni, zupp_eq, zupp_na, zupp_ni, p123, p137, p138, e9, eq_false z]
            exact q
        by_cases a : (S : Int) = ((2 ^ nE f : Nat) : Int) - 1
        · simp (disch := first | assumption | omega) only [rM_findEnds_31, rM_findEnds_34, rM_findEnds_35, rM_findEnds_38, rM_findEnds_39, rM_findEnds_40, rM_findEnds_41, rM_findEnds_44, rM_findEnds_45, rM_findEnds_48, rM_findEnds_49, rM_findEnds_50, rM_findEnds_51, Bool.false_eq_true, true_implies, false_implies, implies_true, true_and, and_true, not_true_eq_false, not_false_eq_true, zPush_I, zPush_L, zPush_R, zPush_U, Int.reduceLT, Int.reduceLE, Int.reduceEq, Int.reduceNe, Int.reduceAdd, Int.reduceSub, Int.reduceMul, Int.reduceNeg, Int.reduceToNat, Nat.reduceAdd, Nat.reduceMul, Nat.reduceEqDiff, zw32_id, zw64_id, zupd_eq, zupd_na, zupd_ni, zupp_eq, zupp_na, zupp_ni, p137, p138, eq_true a, true_or, or_true]
          exact ex
        · simp (disch := first | assumption | omega) only [rM_findEnds_31, rM_findEnds_34, rM_findEnds_35, rM_findEnds_38, rM_findEnds_39, rM_findEnds_40, rM_findEnds_41, rM_findEnds_44, rM_findEnds_45, rM_findEnds_48, rM_findEnds_49, rM_findEnds_50, rM_findEnds_51, Bool.false_eq_true, true_implies, false_implies, implies_true, true_and, and_true, not_true_eq_false, not_false_eq_true, zPush_I, zPush_L, zPush_R, zPush_U, Int.reduceLT, Int.reduceLE, Int.reduceEq, Int.reduceNe, Int.reduceAdd, Int.reduceSub, Int.reduceMul, Int.reduceNeg, Int.reduceToNat, Nat.reduceAdd, Nat.reduceMul, Nat.reduceEqDiff, zw32_id, zw64_id, zupd_eq, zupd_na, zupd_ni, zupp_eq, zupp_na, zupp_ni, p137, p138, eq_false a, true_or, or_true]
          exact ex
      · rcases whB_n ok hc S with x | ⟨w, hw, x, -⟩
        · exact absurd x w1
        have fi := fun (v : Int) (hv : v = 0 ∨ v = 1) (hv1 : v = 1 ↔ S = 2 ^ nE f - 1) => fIn (mm := zupd m1 137 S (whB f c S)) (Q := Q) (c := c) (S := S) (w := w) h hm3 ok hc (by omega) (by rw [zupd_eq]; exact x) (fun T a b => by
          rw [zupd_na (by decide)]
          exact (he T (by omega) b).2) (fun v' b1 b2 => fin v' b1 (by
          rw [b2]
          by_cases a : S = 2 ^ nE f - 1
          · have ca := (cP_all ok hc).mpr (show whB f c (2 ^ nE f - 1) ≠ -1 by rw [← a]; exact w1)
            rw [← a] at ca
            simp [← a, ca]
          · rw [cP_st ok hc (by omega)]
            constructor
            · intro y
              rcases y with y | y
              · exact absurd y a
              · exact ⟨w, x, y⟩
            · intro ⟨w', y, z⟩
              have : w' = w := by omega
              subst this
              exact Or.inr z)) (nE f) 0 v (by omega) hv (by rw [hv1]; simp)
        by_cases a : (S : Int) = ((2 ^ nE f : Nat) : Int) - 1
        · have q := fi 1 (Or.inr rfl) (by simp; omega)
          simp (disch := first | assumption | omega) only [rM_findEnds_31, rM_findEnds_34, rM_findEnds_35, rM_findEnds_38, rM_findEnds_39, rM_findEnds_40, rM_findEnds_41, rM_findEnds_44, rM_findEnds_45, rM_findEnds_48, rM_findEnds_49, rM_findEnds_50, rM_findEnds_51, Bool.false_eq_true, true_implies, false_implies, implies_true, true_and, and_true, not_true_eq_false, not_false_eq_true, zPush_I, zPush_L, zPush_R, zPush_U, Int.reduceLT, Int.reduceLE, Int.reduceEq, Int.reduceNe, Int.reduceAdd, Int.reduceSub, Int.reduceMul, Int.reduceNeg, Int.reduceToNat, Nat.reduceAdd, Nat.reduceMul, Nat.reduceEqDiff, zw32_id, zw64_id, zupd_eq, zupd_na, zupd_ni, zupp_eq, zupp_na, zupp_ni, p137, p138, eq_true a, eq_false w1, true_or, or_true]
          exact q
        · have q := fi 0 (Or.inl rfl) (by simp; omega)
          simp (disch := first | assumption | omega) only [rM_findEnds_31, rM_findEnds_34, rM_findEnds_35, rM_findEnds_38, rM_findEnds_39, rM_findEnds_40, rM_findEnds_41, rM_findEnds_44, rM_findEnds_45, rM_findEnds_48, rM_findEnds_49, rM_findEnds_50, rM_findEnds_51, Bool.false_eq_true, true_implies, false_implies, implies_true, true_and, and_true, not_true_eq_false, not_false_eq_true, zPush_I, zPush_L, zPush_R, zPush_U, Int.reduceLT, Int.reduceLE, Int.reduceEq, Int.reduceNe, Int.reduceAdd, Int.reduceSub, Int.reduceMul, Int.reduceNeg, Int.reduceToNat, Nat.reduceAdd, Nat.reduceMul, Nat.reduceEqDiff, zw32_id, zw64_id, zupd_eq, zupd_na, zupd_ni, zupp_eq, zupp_na, zupp_ni, p137, p138, eq_false a, true_or, or_true]
          exact q
  simp (disch := first | assumption | omega) only [rM_findEnds_0, rM_findEnds_1, Bool.false_eq_true, true_implies, false_implies, implies_true, true_and, and_true, not_true_eq_false, not_false_eq_true, zPush_I, zPush_L, zPush_R, zPush_U, Int.reduceLT, Int.reduceLE, Int.reduceEq, Int.reduceNe, Int.reduceAdd, Int.reduceSub, Int.reduceMul, Int.reduceNeg, Int.reduceToNat, Nat.reduceAdd, Nat.reduceMul, Nat.reduceEqDiff, zw32_id, zw64_id, zupd_eq, zupd_na, zupd_ni, zupp_eq, zupp_na, zupp_ni]
  rw [kM_allEdges h hm ok]
  simp (disch := first | assumption | omega) only [rM_findEnds_4, Bool.false_eq_true, true_implies, false_implies, implies_true, true_and, and_true, not_true_eq_false, not_false_eq_true, zPush_I, zPush_L, zPush_R, zPush_U, Int.reduceLT, Int.reduceLE, Int.reduceEq, Int.reduceNe, Int.reduceAdd, Int.reduceSub, Int.reduceMul, Int.reduceNeg, Int.reduceToNat, Nat.reduceAdd, Nat.reduceMul, Nat.reduceEqDiff, zw32_id, zw64_id, zupd_eq, zupd_na, zupd_ni, zupp_eq, zupp_na, zupp_ni]
  exact key (2 ^ nE f) mm (Nat.le_refl _) (frP_rf _ mm) (fun T a b => by omega)
end
