/-! ===== nets of the reference: ends ===== -/
section
variable {sh : zSh} {pp : zPp} {mm : zMm} {Q : zV → zSh → zPp → zMm → Prop} {f : Int → Int} {G : Int → Option (Int → Int)} {cn : Int → Int} {N D : Nat}
theorem kM_across (h : zLy sh pp) (hm : ∀ k, 0 ≤ k → k < 986 → mm 123 k = f k) (ok : fOk f) {e w : Nat} (he : e < nE f) : zS 213 0 [zR 122, zI e, zI w] [] sh pp mm Q ↔ ((mts (nA f) (nC f) e w → Q (zI (oth (nA f) (nC f) e w : Nat)) sh pp mm) ∧ (¬ mts (nA f) (nC f) e w → Q (zI (-1)) sh pp mm)) := by
  have k122 := k_122 h
  have k123 := k_123 h
  have l123 := l_123 h
  have p123 := p_122_0 h
  have l := nE_le ok
  have ac := nAC ok he
  have ea := hm (537 + 3 * (e : Int)) (by omega) (by omega)
  rw [ac.1] at ea
  have ec := hm (537 + 3 * (e : Int) + 1) (by omega) (by omega)
  rw [ac.2.1] at ec
  unfold mts oth
  by_cases h1 : nA f e = w
  · have i1 : ((nA f e : Nat) : Int) = (w : Int) := by omega
    simp (disch := first | assumption | omega) only [rM_across_0, rM_across_1, rM_across_2, rM_across_3, rM_across_6, rM_across_7, rM_across_10, rM_across_11, rM_across_12, rM_across_13, rM_across_16, rM_across_19, rM_across_20, rM_across_21, rM_across_22, rM_across_25, rM_across_26, rM_across_29, rM_across_30, rM_across_31, rM_across_32, rM_across_35, rM_across_38, rM_across_39, rM_endOf_0, rM_endOf_1, rM_endOf_4, rM_endOf_7, rM_endOf_8, rM_endOf_9, rM_endOf_10, rM_endOf_11, rM_endOf_12, rM_endOf_13, rM_endOf_14, Bool.false_eq_true, true_implies, false_implies, implies_true, true_and, and_true, not_true_eq_false, not_false_eq_true, zPush_I, zPush_L, zPush_R, zPush_U, Int.reduceLT, Int.reduceLE, Int.reduceEq, Int.reduceNe, Int.reduceAdd, Int.reduceSub, Int.reduceMul, Int.reduceNeg, Int.reduceToNat, Nat.reduceAdd, Nat.reduceMul, Nat.reduceEqDiff, zw32_id, zw64_id, zupd_eq, zupd_na, zupd_ni, zupp_eq, zupp_na, zupp_ni, p123, Int.add_zero, ea, ec, eq_true i1, eq_true h1, true_or, if_true]
  · have i1 : ¬ ((nA f e : Nat) : Int) = (w : Int) := by omega
    by_cases h2 : nC f e = w
    · have i2 : ((nC f e : Nat) : Int) = (w : Int) := by omega
      simp (disch := first | assumption | omega) only [rM_across_0, rM_across_1, rM_across_2, rM_across_3, rM_across_6, rM_across_7, rM_across_10, rM_across_11, rM_across_12, rM_across_13, rM_across_16, rM_across_19, rM_across_20, rM_across_21, rM_across_22, rM_across_25, rM_across_26, rM_across_29, rM_across_30, rM_across_31, rM_across_32, rM_across_35, rM_across_38, rM_across_39, rM_endOf_0, rM_endOf_1, rM_endOf_4, rM_endOf_7, rM_endOf_8, rM_endOf_9, rM_endOf_10, rM_endOf_11, rM_endOf_12, rM_endOf_13, rM_endOf_14, Bool.false_eq_true, true_implies, false_implies, implies_true, true_and, and_true, not_true_eq_false, not_false_eq_true, zPush_I, zPush_L, zPush_R, zPush_U, Int.reduceLT, Int.reduceLE, Int.reduceEq, Int.reduceNe, Int.reduceAdd, Int.reduceSub, Int.reduceMul, Int.reduceNeg, Int.reduceToNat, Nat.reduceAdd, Nat.reduceMul, Nat.reduceEqDiff, zw32_id, zw64_id, zupd_eq, zupd_na, zupd_ni, zupp_eq, zupp_na, zupp_ni, p123, Int.add_zero, ea, ec, eq_false i1, eq_false h1, eq_true i2, eq_true h2, or_true, if_false]
    · have i2 : ¬ ((nC f e : Nat) : Int) = (w : Int) := by omega
      simp (disch := first | assumption | omega) only [rM_across_0, rM_across_1, rM_across_2, rM_across_3, rM_across_6, rM_across_7, rM_across_10, rM_across_11, rM_across_12, rM_across_13, rM_across_16, rM_across_19, rM_across_20, rM_across_21, rM_across_22, rM_across_25, rM_across_26, rM_across_29, rM_across_30, rM_across_31, rM_across_32, rM_across_35, rM_across_38, rM_across_39, rM_endOf_0, rM_endOf_1, rM_endOf_4, rM_endOf_7, rM_endOf_8, rM_endOf_9, rM_endOf_10, rM_endOf_11, rM_endOf_12, rM_endOf_13, rM_endOf_14, Bool.false_eq_true, true_implies, false_implies, implies_true, true_and, and_true, not_true_eq_false, not_false_eq_true, zPush_I, zPush_L, zPush_R, zPush_U, Int.reduceLT, Int.reduceLE, Int.reduceEq, Int.reduceNe, Int.reduceAdd, Int.reduceSub, Int.reduceMul, Int.reduceNeg, Int.reduceToNat, Nat.reduceAdd, Nat.reduceMul, Nat.reduceEqDiff, zw32_id, zw64_id, zupd_eq, zupd_na, zupd_ni, zupp_eq, zupp_na, zupp_ni, p123, Int.add_zero, ea, ec, eq_false i1, eq_false h1, eq_false i2, eq_false h2, or_false]
end
