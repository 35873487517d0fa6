/-! ===== nets of the reference: starts ===== -/
section
variable {sh : zSh} {pp : zPp} {mm : zMm} {Q : zV → zSh → zPp → zMm → Prop} {f : Int → Int} {G : Int → Option (Int → Int)} {cn : Int → Int} {N D : Nat}
theorem mStarts (h : zLy sh pp) (hm : ∀ k, 0 ≤ k → k < 986 → mm 123 k = f k) (ok : fOk f) (hQ : ∀ mm' (B : Nat), frP enF mm mm' → B < 1024 → (∀ k, B.testBit k = true ↔ (k < (f 982).toNat ∧ 0 < nE f ∧ cP f k 0)) → Q (zI B) sh pp mm') : zS 223 0 [zR 122, zU, zU] [] sh pp mm Q := by
  have k122 := k_122 h
  have k123 := k_123 h
  have l123 := l_123 h
  have p123 := p_122_0 h
  have k138 := k_138 h
  have l138 := l_138 h
  have p138 := p_122_31 h
  have l := nE_le ok
  have t0 : 0 < 2 ^ nE f := Nat.pow_pos (by omega)
  have c0 := ok.2.2.2.1.1
  have c1 := ok.2.2.2.1.2.1
  obtain ⟨K, hK⟩ : ∃ K : Nat, f 982 = (K : Int) := ⟨(f 982).toNat, by omega⟩
  have key : ∀ (d i : Nat) (m1 : zMm) (B : Nat), i + d = K → frP enF mm m1 → B < 1024 → (∀ k, B.testBit k = true ↔ (k < i ∧ 0 < nE f ∧ cP f k 0)) → zS 223 4 [zR 122, zI B, zI i] [] sh pp m1 Q := by
    intro d
    induction d with
    | zero =>
      intro i m1 B hi hf hB hk
      have hm1 : ∀ k, 0 ≤ k → k < 986 → m1 123 k = f k := fun k a b => by rw [hf 123 k (by unfold enF; omega)]; exact hm k a b
      have e8 := hm1 982 (by decide) (by decide)
      rw [hK] at e8
      have hi : i = K := by omega
      subst hi
      have q := hQ m1 B hf hB (by rw [hK, Int.toNat_natCast]; exact hk)
      rw [rM_starts_4]
      simp (disch := first | assumption | omega) only [rM_starts_5, rM_starts_6, rM_starts_7, rM_starts_10, rM_starts_51, rM_starts_52, rM_many_0, rM_many_1, rM_many_4, rM_many_7, rM_many_8, rM_many_9, rM_many_10, Bool.false_eq_true, true_implies, false_implies, implies_true, true_and, and_true, not_true_eq_false, not_false_eq_true, zPush_I, zPush_L, zPush_R, zPush_U, Int.reduceLT, Int.reduceLE, Int.reduceEq, Int.reduceNe, Int.reduceAdd, Int.reduceSub, Int.reduceMul, Int.reduceNeg, Int.reduceToNat, Nat.reduceAdd, Nat.reduceMul, Nat.reduceEqDiff, zw32_id, zw64_id, zupd_eq, zupd_na, zupd_ni, zupp_eq, zupp_na, zupp_ni, p123, e8, Int.lt_irrefl]
      exact q
    | succ d ih =>
      intro i m1 B hi hf hB hk
      have hm1 : ∀ k, 0 ≤ k → k < 986 → m1 123 k = f k := fun k a b => by rw [hf 123 k (by unfold enF; omega)]; exact hm k a b
      have e8 := hm1 982 (by decide) (by decide)
      rw [hK] at e8
      have e9 := hm1 983 (by decide) (by decide)
      rw [nE_eq ok] at e9
      have lt : (i : Int) < (K : Int) := by omega
      rw [rM_starts_4]
      by_cases z : (0 : Int) < (nE f : Int)
      · simp (disch := first | assumption | omega) only [rM_starts_5, rM_starts_6, rM_starts_7, rM_starts_10, rM_starts_13, rM_starts_14, rM_starts_15, rM_starts_18, rM_starts_21, rM_starts_22, rM_starts_23, rM_many_0, rM_many_1, rM_many_4, rM_many_7, rM_many_8, rM_many_9, rM_many_10, Bool.false_eq_true, true_implies, false_implies, implies_true, true_and, and_true, not_true_eq_false, not_false_eq_true, zPush_I, zPush_L, zPush_R, zPush_U, Int.reduceLT, Int.reduceLE, Int.reduceEq, Int.reduceNe, Int.reduceAdd, Int.reduceSub, Int.reduceMul, Int.reduceNeg, Int.reduceToNat, Nat.reduceAdd, Nat.reduceMul, Nat.reduceEqDiff, zw32_id, zw64_id, zupd_eq, zupd_na, zupd_ni, zupp_eq, zupp_na, zupp_ni, p123, e8, e9, eq_true lt, eq_true z]
        apply mFindEnds h hm1 ok (show i < 10 by omega)
        intro m2 hf2 he
        obtain ⟨-, u1, u2⟩ := he 0 (Nat.le_refl 0) t0
        simp only [Int.cast_ofNat_Int] at u1 u2
        have i2 := two_lt10 (show i ≤ 9 by omega)
        have x1 := zshl1 i (by omega)
        have x2 : zor (B : Int) ((2 ^ i : Nat) : Int) = ((B ||| 2 ^ i : Nat) : Int) := zorN (by omega) (by omega)
        have x3 : zor (B : Int) 0 = ((B ||| 0 : Nat) : Int) := zorN (b := 0) (by omega) (by omega)
        rw [Nat.or_zero] at x3
        rcases u1 with u | u
        · have n := ih (i + 1) m2 B (by omega) (frP_tr hf hf2) hB (fun k => by
            rw [hk k]
            by_cases e : k = i
            · subst e
              have nc : ¬ cP f k 0 := by rw [← u2, u]; decide
              simp [nc]
            · constructor
              · intro y; exact ⟨by omega, y.2⟩
              · intro y; exact ⟨by omega, y.2⟩)
          rw [show ((i + 1 : Nat) : Int) = (i : Int) + 1 by omega] at n
          simp (disch := first | assumption | omega) only [rM_starts_26, rM_starts_27, rM_starts_28, rM_starts_31, rM_starts_32, rM_starts_33, rM_starts_36, rM_starts_37, rM_starts_38, rM_starts_39, rM_starts_42, rM_starts_43, rM_starts_44, rM_starts_45, rM_starts_48, Bool.false_eq_true, true_implies, false_implies, implies_true, true_and, and_true, not_true_eq_false, not_false_eq_true, zPush_I, zPush_L, zPush_R, zPush_U, Int.reduceLT, Int.reduceLE, Int.reduceEq, Int.reduceNe, Int.reduceAdd, Int.reduceSub, Int.reduceMul, Int.reduceNeg, Int.reduceToNat, Nat.reduceAdd, Nat.reduceMul, Nat.reduceEqDiff, zw32_id, zw64_id, zupd_eq, zupd_na, zupd_ni, zupp_eq, zupp_na, zupp_ni, p138, u, x3]
          exact n
        · have n := ih (i + 1) m2 (B ||| 2 ^ i) (by omega) (frP_tr hf hf2) (Nat.or_lt_two_pow (n := 10) hB i2) (fun k => by
            rw [Nat.testBit_or, Nat.testBit_two_pow, Bool.or_eq_true, hk k, decide_eq_true_eq]
            by_cases e : k = i
            · subst e
              have nc : cP f k 0 := u2.mp u
              have : 0 < nE f := by omega
              simp [nc, this]
            · constructor
              · intro y
                rcases y with y | y
                · exact ⟨by omega, y.2⟩
                · omega
              · intro y; exact Or.inl ⟨by omega, y.2⟩)
          rw [show ((i + 1 : Nat) : Int) = (i : Int) + 1 by omega] at n
          simp (disch := first | assumption | omega) only [rM_starts_26, rM_starts_27, rM_starts_28, rM_starts_31, rM_starts_32, rM_starts_33, rM_starts_36, rM_starts_37, rM_starts_38, rM_starts_39, rM_starts_42, rM_starts_43, rM_starts_44, rM_starts_45, rM_starts_48, Bool.false_eq_true, true_implies, false_implies, implies_true, true_and, and_true, not_true_eq_false, not_false_eq_true, zPush_I, zPush_L, zPush_R, zPush_U, Int.reduceLT, Int.reduceLE, Int.reduceEq, Int.reduceNe, Int.reduceAdd, Int.reduceSub, Int.reduceMul, Int.reduceNeg, Int.reduceToNat, Nat.reduceAdd, Nat.reduceMul, Nat.reduceEqDiff, zw32_id, zw64_id, zupd_eq, zupd_na, zupd_ni, zupp_eq, zupp_na, zupp_ni, p138, u, x1, x2]
          exact n
      · have q := hQ m1 B hf hB (fun k => by
          rw [hk k]
          constructor
          · intro y; omega
          · intro y; omega)
        simp (disch := first | assumption | omega) only [rM_starts_5, rM_starts_6, rM_starts_7, rM_starts_10, rM_starts_13, rM_starts_14, rM_starts_15, rM_starts_18, rM_starts_51, rM_starts_52, rM_many_0, rM_many_1, rM_many_4, rM_many_7, rM_many_8, rM_many_9, rM_many_10, Bool.false_eq_true, true_implies, false_implies, implies_true, true_and, and_true, not_true_eq_false, not_false_eq_true, zPush_I, zPush_L, zPush_R, zPush_U, Int.reduceLT, Int.reduceLE, Int.reduceEq, Int.reduceNe, Int.reduceAdd, Int.reduceSub, Int.reduceMul, Int.reduceNeg, Int.reduceToNat, Nat.reduceAdd, Nat.reduceMul, Nat.reduceEqDiff, zw32_id, zw64_id, zupd_eq, zupd_na, zupd_ni, zupp_eq, zupp_na, zupp_ni, p123, e8, e9, eq_true lt, eq_false z]
        exact q
  simp (disch := first | assumption | omega) only [rM_starts_0, rM_starts_1, rM_starts_2, rM_starts_3, Bool.false_eq_true, true_implies, false_implies, implies_true, true_and, and_true, not_true_eq_false, not_false_eq_true, zPush_I, zPush_L, zPush_R, zPush_U, Int.reduceLT, Int.reduceLE, Int.reduceEq, Int.reduceNe, Int.reduceAdd, Int.reduceSub, Int.reduceMul, Int.reduceNeg, Int.reduceToNat, Nat.reduceAdd, Nat.reduceMul, Nat.reduceEqDiff, zw32_id, zw64_id, zupd_eq, zupd_na, zupd_ni, zupp_eq, zupp_na, zupp_ni]
  exact key K 0 mm 0 (by omega) (frP_rf _ mm) (by omega) (fun k => by simp)
end
