/-! plain facts for the walks -/
theorem zw32_id {x : Int} (h1 : -2147483648 ≤ x) (h2 : x ≤ 2147483647) : zw32 x = x := by unfold zw32; omega
theorem zw64_id {x : Int} (h1 : -9223372036854775808 ≤ x) (h2 : x ≤ 9223372036854775807) : zw64 x = x := by unfold zw64; omega
theorem zw32_lo (x : Int) : -2147483648 ≤ zw32 x := by unfold zw32; omega
theorem zw32_hi (x : Int) : zw32 x ≤ 2147483647 := by unfold zw32; omega
theorem zw64_lo (x : Int) : -9223372036854775808 ≤ zw64 x := by unfold zw64; omega
theorem zw64_hi (x : Int) : zw64 x ≤ 9223372036854775807 := by unfold zw64; omega
theorem zupd_eq (mm : zMm) (a : Nat) (i v : Int) : zupd mm a i v a i = v := by simp [zupd]
theorem zupd_na {mm : zMm} {a b : Nat} {i j v : Int} (h : b ≠ a) : zupd mm a i v b j = mm b j := by simp [zupd, h]
theorem zupd_ni {mm : zMm} {a b : Nat} {i j v : Int} (h : j ≠ i) : zupd mm a i v b j = mm b j := by simp [zupd, h]
theorem zupp_eq (pp : zPp) (a : Nat) (i : Int) (v : Nat) : zupp pp a i v a i = v := by simp [zupp]
theorem zupp_na {pp : zPp} {a b : Nat} {i j : Int} {v : Nat} (h : b ≠ a) : zupp pp a i v b j = pp b j := by simp [zupp, h]
theorem zupp_ni {pp : zPp} {a b : Nat} {i j : Int} {v : Nat} (h : j ≠ i) : zupp pp a i v b j = pp b j := by simp [zupp, h]
/-- down from the last place to the first -/
theorem zdn {P : Int → Prop} {lo hi : Int} (h0 : P hi) (hs : ∀ i, lo ≤ i → i < hi → P (i + 1) → P i) : ∀ i, lo ≤ i → i ≤ hi → P i := by
  have key : ∀ (n : Nat) (i : Int), lo ≤ i → i + (n : Int) = hi → P i := by
    intro n
    induction n with
    | zero => intro i _ h; have : i = hi := by omega
              rw [this]; exact h0
    | succ n ih => intro i h1 h2; exact hs i h1 (by omega) (ih (i + 1) (by omega) (by omega))
  intro i h1 h2
  exact key (hi - i).toNat i h1 (by omega)
/-- the same upward: places that fall -/
theorem zup {P : Int → Prop} {lo hi : Int} (h0 : P lo) (hs : ∀ i, lo < i → i ≤ hi → P (i - 1) → P i) : ∀ i, lo ≤ i → i ≤ hi → P i := by
  have key : ∀ (n : Nat) (i : Int), i ≤ hi → lo + (n : Int) = i → P i := by
    intro n
    induction n with
    | zero => intro i _ h; have : i = lo := by omega
              rw [this]; exact h0
    | succ n ih => intro i h1 h2; exact hs i (by omega) h1 (ih (i - 1) (by omega) (by omega))
  intro i h1 h2
  exact key (i - lo).toNat i h2 (by omega)
theorem zcmp_lt (x y : Int) : (zcmp x y < 0) ↔ x < y := by unfold zcmp; (repeat' split) <;> omega
theorem zcmp_eq (x y : Int) : (zcmp x y = 0) ↔ x = y := by unfold zcmp; (repeat' split) <;> omega
theorem zcmp_gt (x y : Int) : (0 < zcmp x y) ↔ y < x := by unfold zcmp; (repeat' split) <;> omega
section
variable {sh : zSh} {pp : zPp} {mm : zMm} {Q : zV → zSh → zPp → zMm → Prop}
theorem kJ_max (a b : Int) : zS 259 0 [zI a, zI b] [] sh pp mm Q ↔ Q (zI (max a b)) sh pp mm := by
  simp only [rJ_max_0, rJ_max_1, rJ_max_2, rJ_max_5, rJ_max_6, rJ_max_9, rJ_max_10, Bool.false_eq_true, true_implies, false_implies, implies_true, true_and, and_true, not_true_eq_false, not_false_eq_true, zPush_I, zPush_L, zPush_R, zPush_U, Int.reduceLT, Int.reduceLE, Int.reduceEq, Int.reduceNe, Int.reduceAdd, Int.reduceSub, Int.reduceMul, Int.reduceNeg, Int.reduceToNat, Nat.reduceAdd, Nat.reduceMul, Nat.reduceEqDiff, zw32_id, zw64_id, zupd_eq, zupd_na, zupd_ni, zupp_eq, zupp_na, zupp_ni]
  by_cases h : a < b
  · simp only [h, Bool.false_eq_true, true_implies, false_implies, implies_true, true_and, and_true, not_true_eq_false, not_false_eq_true, zPush_I, zPush_L, zPush_R, zPush_U, Int.reduceLT, Int.reduceLE, Int.reduceEq, Int.reduceNe, Int.reduceAdd, Int.reduceSub, Int.reduceMul, Int.reduceNeg, Int.reduceToNat, Nat.reduceAdd, Nat.reduceMul, Nat.reduceEqDiff, zw32_id, zw64_id, zupd_eq, zupd_na, zupd_ni, zupp_eq, zupp_na, zupp_ni, Int.max_def]
    rw [if_pos (by omega)]
  · simp only [h, Bool.false_eq_true, true_implies, false_implies, implies_true, true_and, and_true, not_true_eq_false, not_false_eq_true, zPush_I, zPush_L, zPush_R, zPush_U, Int.reduceLT, Int.reduceLE, Int.reduceEq, Int.reduceNe, Int.reduceAdd, Int.reduceSub, Int.reduceMul, Int.reduceNeg, Int.reduceToNat, Nat.reduceAdd, Nat.reduceMul, Nat.reduceEqDiff, zw32_id, zw64_id, zupd_eq, zupd_na, zupd_ni, zupp_eq, zupp_na, zupp_ni, Int.max_def]
    by_cases h2 : a ≤ b
    · rw [if_pos h2, show a = b by omega]
    · rw [if_neg h2]
theorem kJ_min (a b : Int) : zS 260 0 [zI a, zI b] [] sh pp mm Q ↔ Q (zI (min a b)) sh pp mm := by
  simp only [rJ_min_0, rJ_min_1, rJ_min_2, rJ_min_5, rJ_min_6, rJ_min_9, rJ_min_10, Bool.false_eq_true, true_implies, false_implies, implies_true, true_and, and_true, not_true_eq_false, not_false_eq_true, zPush_I, zPush_L, zPush_R, zPush_U, Int.reduceLT, Int.reduceLE, Int.reduceEq, Int.reduceNe, Int.reduceAdd, Int.reduceSub, Int.reduceMul, Int.reduceNeg, Int.reduceToNat, Nat.reduceAdd, Nat.reduceMul, Nat.reduceEqDiff, zw32_id, zw64_id, zupd_eq, zupd_na, zupd_ni, zupp_eq, zupp_na, zupp_ni]
  by_cases h : b < a
  · simp only [h, Bool.false_eq_true, true_implies, false_implies, implies_true, true_and, and_true, not_true_eq_false, not_false_eq_true, zPush_I, zPush_L, zPush_R, zPush_U, Int.reduceLT, Int.reduceLE, Int.reduceEq, Int.reduceNe, Int.reduceAdd, Int.reduceSub, Int.reduceMul, Int.reduceNeg, Int.reduceToNat, Nat.reduceAdd, Nat.reduceMul, Nat.reduceEqDiff, zw32_id, zw64_id, zupd_eq, zupd_na, zupd_ni, zupp_eq, zupp_na, zupp_ni, Int.min_def]
    rw [if_neg (by omega)]
  · simp only [h, Bool.false_eq_true, true_implies, false_implies, implies_true, true_and, and_true, not_true_eq_false, not_false_eq_true, zPush_I, zPush_L, zPush_R, zPush_U, Int.reduceLT, Int.reduceLE, Int.reduceEq, Int.reduceNe, Int.reduceAdd, Int.reduceSub, Int.reduceMul, Int.reduceNeg, Int.reduceToNat, Nat.reduceAdd, Nat.reduceMul, Nat.reduceEqDiff, zw32_id, zw64_id, zupd_eq, zupd_na, zupd_ni, zupp_eq, zupp_na, zupp_ni, Int.min_def]
    rw [if_pos (by omega)]
theorem kM_in (v lo hi : Int) (u1 u3 u5 : zV) : zS 151 0 [zL v, u1, zL lo, u3, zL hi, u5] [] sh pp mm Q ↔ ((lo ≤ v ∧ v ≤ hi → Q (zI 1) sh pp mm) ∧ (¬ (lo ≤ v ∧ v ≤ hi) → Q (zI 0) sh pp mm)) := by
  simp (disch := first | assumption | omega) only [rM_in_0, rM_in_1, rM_in_2, rM_in_3, rM_in_6, rM_in_7, rM_in_9, rM_in_10, rM_in_13, rM_in_14, rM_in_17, rM_in_18, Bool.false_eq_true, true_implies, false_implies, implies_true, true_and, and_true, not_true_eq_false, not_false_eq_true, zPush_I, zPush_L, zPush_R, zPush_U, Int.reduceLT, Int.reduceLE, Int.reduceEq, Int.reduceNe, Int.reduceAdd, Int.reduceSub, Int.reduceMul, Int.reduceNeg, Int.reduceToNat, Nat.reduceAdd, Nat.reduceMul, Nat.reduceEqDiff, zw32_id, zw64_id, zupd_eq, zupd_na, zupd_ni, zupp_eq, zupp_na, zupp_ni, zcmp_lt, zcmp_gt]
  by_cases h1 : v < lo
  · have h : ¬ (lo ≤ v ∧ v ≤ hi) := by omega
    simp only [h1, h, Bool.false_eq_true, true_implies, false_implies, implies_true, true_and, and_true, not_true_eq_false, not_false_eq_true, zPush_I, zPush_L, zPush_R, zPush_U, Int.reduceLT, Int.reduceLE, Int.reduceEq, Int.reduceNe, Int.reduceAdd, Int.reduceSub, Int.reduceMul, Int.reduceNeg, Int.reduceToNat, Nat.reduceAdd, Nat.reduceMul, Nat.reduceEqDiff, zw32_id, zw64_id, zupd_eq, zupd_na, zupd_ni, zupp_eq, zupp_na, zupp_ni]
  · by_cases h2 : hi < v
    · have h : ¬ (lo ≤ v ∧ v ≤ hi) := by omega
      simp only [h1, h2, h, Bool.false_eq_true, true_implies, false_implies, implies_true, true_and, and_true, not_true_eq_false, not_false_eq_true, zPush_I, zPush_L, zPush_R, zPush_U, Int.reduceLT, Int.reduceLE, Int.reduceEq, Int.reduceNe, Int.reduceAdd, Int.reduceSub, Int.reduceMul, Int.reduceNeg, Int.reduceToNat, Nat.reduceAdd, Nat.reduceMul, Nat.reduceEqDiff, zw32_id, zw64_id, zupd_eq, zupd_na, zupd_ni, zupp_eq, zupp_na, zupp_ni]
    · have h : lo ≤ v ∧ v ≤ hi := by omega
      simp only [h1, h2, h, Bool.false_eq_true, true_implies, false_implies, implies_true, true_and, and_true, not_true_eq_false, not_false_eq_true, zPush_I, zPush_L, zPush_R, zPush_U, Int.reduceLT, Int.reduceLE, Int.reduceEq, Int.reduceNe, Int.reduceAdd, Int.reduceSub, Int.reduceMul, Int.reduceNeg, Int.reduceToNat, Nat.reduceAdd, Nat.reduceMul, Nat.reduceEqDiff, zw32_id, zw64_id, zupd_eq, zupd_na, zupd_ni, zupp_eq, zupp_na, zupp_ni]
end
section
variable {sh : zSh} {pp : zPp} {mm : zMm} {Q : zV → zSh → zPp → zMm → Prop}
theorem kT_add_test {t c : Nat} {x y z : Int} (hk : zKd sh t = 10) (hc : pp t 2 = c) (hkc : zKd sh c = 20) (hct : c ≠ t) (hw : mm t 0 = 2) (hl : zLn sh c = 2 * mm t 1) (hr0 : 0 ≤ mm t 3) (hr : mm t 3 < mm t 1) (hlim : mm t 1 ≤ 1000) :
    zS 98 0 [zR t, zI x, zI y, zI z, zU] [] sh pp mm Q ↔ Q (zI (mm t 3)) sh pp (zupd (zupd (zupd mm c (mm t 3 * 2) x) c (mm t 3 * 2 + 1) y) t 3 (mm t 3 + 1)) := by
  subst hc
  simp +contextual (disch := first | assumption | omega) only [rT_add_0, rT_add_1, rT_add_4, rT_add_7, rT_add_9, rT_add_10, rT_add_11, rT_add_14, rT_add_15, rT_add_18, rT_add_19, rT_add_21, rT_add_22, rT_add_25, rT_add_27, rT_add_28, rT_add_29, rT_add_30, rT_add_33, rT_add_34, rT_add_37, rT_add_38, rT_add_41, rT_add_43, rT_add_44, rT_add_45, rT_add_46, rT_add_47, rT_add_48, rT_add_51, rT_add_52, rT_add_55, rT_add_56, rT_add_59, rT_add_61, rT_add_62, rT_add_63, rT_add_64, rT_add_65, rT_add_66, rT_add_67, rT_add_70, rT_add_71, rT_add_72, rT_add_75, rT_add_76, rT_add_79, rT_add_80, rT_add_81, rT_isFull_0, rT_isFull_1, rT_isFull_4, rT_isFull_5, rT_isFull_8, rT_isFull_11, rT_isFull_12, rT_isFull_15, rT_isFull_16, Bool.false_eq_true, true_implies, false_implies, implies_true, true_and, and_true, not_true_eq_false, not_false_eq_true, zPush_I, zPush_L, zPush_R, zPush_U, Int.reduceLT, Int.reduceLE, Int.reduceEq, Int.reduceNe, Int.reduceAdd, Int.reduceSub, Int.reduceMul, Int.reduceNeg, Int.reduceToNat, Nat.reduceAdd, Nat.reduceMul, Nat.reduceEqDiff, zw32_id, zw64_id, zupd_eq, zupd_na, zupd_ni, zupp_eq, zupp_na, zupp_ni, hr, hw, Int.add_sub_cancel]
end
