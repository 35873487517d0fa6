/-! ===== nets of the reference: what an edge is worth ===== -/
section
variable {sh : zSh} {pp : zPp} {mm : zMm} {Q : zV → zSh → zPp → zMm → Prop} {f : Int → Int} {G : Int → Option (Int → Int)} {cn : Int → Int} {N D : Nat}
theorem nXY_bd (ok : fOk f) {c : Nat} (hc : (c : Int) < f 982) : f (517 + 2 * (c : Int)) = nX f c ∧ f (517 + 2 * (c : Int) + 1) = nY f c ∧ (0 ≤ nX f c ∧ nX f c ≤ 23) ∧ (0 ≤ nY f c ∧ nY f c ≤ 15) := by
  have g := ok.2.2.2.1.2.1
  have z := ok.2.2.2.1.2.2 (c : Int) (by omega) hc
  have e1 : nX f c = f (517 + 2 * (c : Int)) := if_pos (by omega)
  have e2 : nY f c = f (517 + 2 * (c : Int) + 1) := if_pos (by omega)
  rw [e1, e2]
  exact ⟨rfl, rfl, z.1, z.2⟩
theorem nH_e (ok : fOk f) {e : Nat} (he : e < nE f) : f (537 + 3 * (e : Int) + 2) = nH f e := by
  have l := nE_le ok
  unfold nH
  rw [if_pos (by omega)]
theorem nPr_bd (ok : fOk f) {e : Nat} (he : e < nE f) : 0 ≤ nPr f e ∧ nPr f e ≤ 230 := by
  obtain ⟨-, -, hA, hC, -, -, -⟩ := nAC ok he
  have xa := nXY_bd ok (c := nA f e) (by omega)
  have xc := nXY_bd ok (c := nC f e) (by omega)
  have n7 : 0 ≤ f 7 ∧ f 7 ≤ 10 := ok.1 7 (by decide) (by decide)
  have hm : 0 ≤ max (sz (nX f (nC f e) - nX f (nA f e))) (sz (nY f (nC f e) - nY f (nA f e))) ∧ max (sz (nX f (nC f e) - nX f (nA f e))) (sz (nY f (nC f e) - nY f (nA f e))) ≤ 23 := by
    unfold sz
    omega
  unfold nPr
  generalize max (sz (nX f (nC f e) - nX f (nA f e))) (sz (nY f (nC f e) - nY f (nA f e))) = M at *
  have hb := mul_bd (x := M) (y := (if nH f e = 1 then f 7 else 10)) (a := 23) (b := 10) hm.1 hm.2 (by split <;> omega) (by split <;> omega)
  omega
theorem kM_priceOf (h : zLy sh pp) (hm : ∀ k, 0 ≤ k → k < 986 → mm 123 k = f k) (ok : fOk f) {e : Nat} (he : e < nE f) : zS 231 0 [zR 122, zI (e : Int), zU, zU] [] sh pp mm Q ↔ Q (zI (nPr f e)) sh pp mm := by
  have k122 := k_122 h
  have k123 := k_123 h
  have l123 := l_123 h
  have p123 := p_122_0 h
  have l := nE_le ok
  obtain ⟨eA, eC, hA, hC, hne, hA9, hC9⟩ := nAC ok he
  have xa := nXY_bd ok (c := nA f e) (by omega)
  have xc := nXY_bd ok (c := nC f e) (by omega)
  have n7 : 0 ≤ f 7 ∧ f 7 ≤ 10 := ok.1 7 (by decide) (by decide)
  have m7 : mm 123 7 = f 7 := hm 7 (by decide) (by decide)
  have rA : mm 123 (537 + 3 * (e : Int) + 0) = (nA f e : Int) := by rw [Int.add_zero, hm _ (by omega) (by omega)]; exact eA
  have rH : mm 123 (537 + 3 * (e : Int) + 2) = nH f e := by rw [hm _ (by omega) (by omega)]; exact nH_e ok he
  have rXa : mm 123 (517 + 2 * (nA f e : Int) + 0) = nX f (nA f e) := by rw [Int.add_zero, hm _ (by omega) (by omega)]; exact xa.1
  have rXc : mm 123 (517 + 2 * (nC f e : Int) + 0) = nX f (nC f e) := by rw [Int.add_zero, hm _ (by omega) (by omega)]; exact xc.1
  have rYa : mm 123 (517 + 2 * (nA f e : Int) + 1) = nY f (nA f e) := by rw [hm _ (by omega) (by omega)]; exact xa.2.1
  have rYc : mm 123 (517 + 2 * (nC f e : Int) + 1) = nY f (nC f e) := by rw [hm _ (by omega) (by omega)]; exact xc.2.1
  have hmt : mts (nA f) (nC f) e (nA f e) := Or.inl rfl
  have hot : oth (nA f) (nC f) e (nA f e) = nC f e := if_pos rfl
  have xy := xa.2.2
  have xz := xc.2.2
  have pb := nPr_bd ok he
  unfold nPr at pb ⊢
  unfold sz at pb ⊢
  by_cases hh : nH f e = 1
  · rw [if_pos hh] at pb ⊢
    simp (disch := first | assumption | omega) only [rM_priceOf_0, rM_priceOf_1, rM_priceOf_2, rM_priceOf_3, rM_priceOf_4, rM_priceOf_5, rM_priceOf_8, rM_priceOf_9, rM_priceOf_12, rM_priceOf_15, rM_priceOf_16, rM_priceOf_17, rM_priceOf_18, rM_priceOf_19, rM_priceOf_20, rM_priceOf_21, rM_priceOf_24, rM_priceOf_25, rM_priceOf_28, rM_priceOf_31, rM_priceOf_32, rM_priceOf_33, rM_priceOf_34, rM_priceOf_37, rM_priceOf_38, rM_priceOf_39, rM_priceOf_40, rM_priceOf_43, rM_priceOf_44, rM_priceOf_47, rM_priceOf_48, rM_priceOf_50, rM_priceOf_53, rM_priceOf_56, rM_priceOf_58, rM_priceOf_59, rM_endOf_0, rM_endOf_1, rM_endOf_4, rM_endOf_7, rM_endOf_8, rM_endOf_9, rM_endOf_10, rM_endOf_11, rM_endOf_12, rM_endOf_13, rM_endOf_14, rM_along_0, rM_along_1, rM_along_4, rM_along_7, rM_along_8, rM_along_9, rM_along_10, rM_along_11, rM_along_14, rM_along_15, rM_along_16, rM_along_17, rM_along_18, rM_along_19, rM_along_20, rM_along_23, rM_along_26, rM_along_27, rM_along_28, rM_along_29, rM_along_30, rM_along_31, rM_along_32, rM_along_33, rM_along_34, rM_of_0, rM_of_1, rM_of_4, rM_of_5, rM_of_6, rM_of_7, rM_of_8, kM_across h hm ok he, kM_size, kM_greater, Bool.false_eq_true, true_implies, false_implies, implies_true, true_and, and_true, not_true_eq_false, not_false_eq_true, zPush_I, zPush_L, zPush_R, zPush_U, Int.reduceLT, Int.reduceLE, Int.reduceEq, Int.reduceNe, Int.reduceAdd, Int.reduceSub, Int.reduceMul, Int.reduceNeg, Int.reduceToNat, Nat.reduceAdd, Nat.reduceMul, Nat.reduceEqDiff, zw32_id, zw64_id, zupd_eq, zupd_na, zupd_ni, zupp_eq, zupp_na, zupp_ni, p123, rA, rH, rXa, rXc, rYa, rYc, eq_true hmt, hot, eq_true hh, m7, Int.zero_add]
  · rw [if_neg hh] at pb ⊢
    simp (disch := first | assumption | omega) only [rM_priceOf_0, rM_priceOf_1, rM_priceOf_2, rM_priceOf_3, rM_priceOf_4, rM_priceOf_5, rM_priceOf_8, rM_priceOf_9, rM_priceOf_12, rM_priceOf_15, rM_priceOf_16, rM_priceOf_17, rM_priceOf_18, rM_priceOf_19, rM_priceOf_20, rM_priceOf_21, rM_priceOf_24, rM_priceOf_25, rM_priceOf_28, rM_priceOf_31, rM_priceOf_32, rM_priceOf_33, rM_priceOf_34, rM_priceOf_37, rM_priceOf_38, rM_priceOf_39, rM_priceOf_40, rM_priceOf_43, rM_priceOf_44, rM_priceOf_47, rM_priceOf_48, rM_priceOf_50, rM_priceOf_53, rM_priceOf_56, rM_priceOf_58, rM_priceOf_59, rM_endOf_0, rM_endOf_1, rM_endOf_4, rM_endOf_7, rM_endOf_8, rM_endOf_9, rM_endOf_10, rM_endOf_11, rM_endOf_12, rM_endOf_13, rM_endOf_14, rM_along_0, rM_along_1, rM_along_4, rM_along_7, rM_along_8, rM_along_9, rM_along_10, rM_along_11, rM_along_14, rM_along_15, rM_along_16, rM_along_17, rM_along_18, rM_along_19, rM_along_20, rM_along_23, rM_along_26, rM_along_27, rM_along_28, rM_along_29, rM_along_30, rM_along_31, rM_along_32, rM_along_33, rM_along_34, rM_of_0, rM_of_1, rM_of_4, rM_of_5, rM_of_6, rM_of_7, rM_of_8, kM_across h hm ok he, kM_size, kM_greater, Bool.false_eq_true, true_implies, false_implies, implies_true, true_and, and_true, not_true_eq_false, not_false_eq_true, zPush_I, zPush_L, zPush_R, zPush_U, Int.reduceLT, Int.reduceLE, Int.reduceEq, Int.reduceNe, Int.reduceAdd, Int.reduceSub, Int.reduceMul, Int.reduceNeg, Int.reduceToNat, Nat.reduceAdd, Nat.reduceMul, Nat.reduceEqDiff, zw32_id, zw64_id, zupd_eq, zupd_na, zupd_ni, zupp_eq, zupp_na, zupp_ni, p123, rA, rH, rXa, rXc, rYa, rYc, eq_true hmt, hot, eq_false hh, m7, Int.zero_add]
theorem prS_bd (ok : fOk f) {S : Nat} : ∀ n : Nat, n ≤ nE f → 0 ≤ prS f S n ∧ prS f S n ≤ 230 * (n : Int)
  | 0, _ => by unfold prS; omega
  | n + 1, hn => by
    have zi := prS_bd ok (S := S) n (by omega)
    have zp := nPr_bd ok (e := n) (by omega)
    unfold prS
    split <;> omega
end
