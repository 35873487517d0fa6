/-! ===== what there is, as numbers: f the row that an image keeps, G the images, cn the refusals, N and D the fraction ===== -/
def fup (f : Int → Int) (i v : Int) : Int → Int := fun k => if k = i then v else f k
def bump (cn : Int → Int) (i : Int) : Int → Int := fun k => if k = i then zw32 (cn k + 1) else cn k
theorem fup_eq (f : Int → Int) (i v : Int) : fup f i v i = v := by simp [fup]
theorem fup_ne {f : Int → Int} {i v k : Int} (h : k ≠ i) : fup f i v k = f k := by simp [fup, h]
/-- what the model's calls leave as it was, and the class's -/
def frC (mm mm' : zMm) : Prop := ∀ a, ¬ (122 ≤ a ∧ a < 143) → mm' a = mm a
def frM (mm mm' : zMm) : Prop := ∀ a, 122 ≤ a → a < 143 → mm' a = mm a
theorem frC_rf (mm : zMm) : frC mm mm := fun _ _ => rfl
theorem frC_tr {a b c : zMm} (h : frC a b) (h2 : frC b c) : frC a c := fun x hx => (h2 x hx).trans (h x hx)
theorem frC_up {a b : zMm} (h : frC a b) {x : Nat} {i v : Int} (hx : 122 ≤ x) (hx2 : x < 143) : frC a (zupd b x i v) := fun y hy => by
  rw [← h y hy]
  funext j
  exact zupd_na (by omega)
theorem frM_rf (mm : zMm) : frM mm mm := fun _ _ _ => rfl
theorem frM_tr {a b c : zMm} (h : frM a b) (h2 : frM b c) : frM a c := fun x hx hx2 => (h2 x hx hx2).trans (h x hx hx2)
/-- the value of a row of limbs, the lowest first -/
def bV (g : Int → Int) : Nat → Int
  | 0 => 0
  | n + 1 => bV g n + g n * 2 ^ (30 * n)
/-- a row of n limbs is the number v, its highest limb not 0 -/
def bR (g : Int → Int) (n : Int) (v : Nat) : Prop := 0 ≤ n ∧ (∀ k, 0 ≤ k → k < n → 0 ≤ g k ∧ g k < 1073741824) ∧ (0 < n → g (n - 1) ≠ 0) ∧ bV g n.toNat = (v : Int)
def mOk (f : Int → Int) (G : Int → Option (Int → Int)) (cn : Int → Int) (N D : Nat) (mm : zMm) : Prop :=
  (∀ k, 0 ≤ k → k < 986 → mm 123 k = f k) ∧ (∀ i, 0 ≤ i → i < 2 → (mm 125 i = 0 ∧ G i = none) ∨ (mm 125 i = 1 ∧ ∃ g, G i = some g ∧ ∀ k, 0 ≤ k → k < 986 → mm 124 (986 * i + k) = g k)) ∧ (∀ i, 0 ≤ i → i < 3 → mm 126 i = cn i) ∧ mm 128 0 ≤ 20 ∧ mm 128 1 ≤ 20 ∧ bR (fun k => mm 127 k) (mm 128 0) N ∧ bR (fun k => mm 127 (64 + k)) (mm 128 1) D ∧ mm 122 6 = if N = 0 then 0 else 1
def loN (what : Int) : Int := if what = 4 ∨ what = 5 ∨ what = 8 then 1 else 0
def hiN (what : Int) : Int := if what = 2 then 23 else if what = 3 then 15 else if what = 7 then 10 else 9
def oPut (f cn : Int → Int) (what v : Int) : (Int → Int) × (Int → Int) × Int := if (0 ≤ what ∧ what ≤ 8) ∧ loN what ≤ v ∧ v ≤ hiN what then (fup f what v, cn, f what) else (f, bump cn 0, -2)
section
variable {sh : zSh} {pp : zPp} {mm : zMm} {Q : zV → zSh → zPp → zMm → Prop} {f : Int → Int} {G : Int → Option (Int → Int)} {cn : Int → Int} {N D : Nat}
theorem mOk_ref (hm : mOk f G cn N D mm) {i : Int} (h0 : 0 ≤ i) (h3 : i < 3) : mOk f G (bump cn i) N D (zupd mm 126 i (zw32 (mm 126 i + 1))) := by
  obtain ⟨h1, h2, h4, h5, h6, h7, h8, h9⟩ := hm
  refine ⟨fun k a b => by rw [zupd_na (by decide)]; exact h1 k a b, fun j a b => ?_, fun j a b => ?_, ?_, ?_, ?_, ?_, ?_⟩
  · rw [zupd_na (by decide)]
    rcases h2 j a b with h | ⟨h, g, hg, h'⟩
    · exact Or.inl h
    · exact Or.inr ⟨h, g, hg, fun k c d => by rw [zupd_na (by decide)]; exact h' k c d⟩
  · unfold bump zupd
    by_cases e : j = i
    · subst e; simp [h4 j a b]
    · simp [e, h4 j a b]
  · rw [zupd_na (by decide)]; exact h5
  · rw [zupd_na (by decide)]; exact h6
  · simp only [zupd_na (show (127 : Nat) ≠ 126 by decide), zupd_na (show (128 : Nat) ≠ 126 by decide)]; exact h7
  · simp only [zupd_na (show (127 : Nat) ≠ 126 by decide), zupd_na (show (128 : Nat) ≠ 126 by decide)]; exact h8
  · rw [zupd_na (by decide)]; exact h9
theorem mOk_now (hm : mOk f G cn N D mm) {i v : Int} (h0 : 0 ≤ i) (h3 : i < 986) : mOk (fup f i v) G cn N D (zupd mm 123 i v) := by
  obtain ⟨h1, h2, h4, h5, h6, h7, h8, h9⟩ := hm
  refine ⟨fun k a b => ?_, fun j a b => ?_, fun j a b => ?_, ?_, ?_, ?_, ?_, ?_⟩
  · unfold fup zupd
    by_cases e : k = i
    · simp [e]
    · simp [e, h1 k a b]
  · rw [zupd_na (by decide)]
    rcases h2 j a b with h | ⟨h, g, hg, h'⟩
    · exact Or.inl h
    · exact Or.inr ⟨h, g, hg, fun k c d => by rw [zupd_na (by decide)]; exact h' k c d⟩
  · rw [zupd_na (by decide)]; exact h4 j a b
  · rw [zupd_na (by decide)]; exact h5
  · rw [zupd_na (by decide)]; exact h6
  · simp only [zupd_na (show (127 : Nat) ≠ 123 by decide), zupd_na (show (128 : Nat) ≠ 123 by decide)]; exact h7
  · simp only [zupd_na (show (127 : Nat) ≠ 123 by decide), zupd_na (show (128 : Nat) ≠ 123 by decide)]; exact h8
  · rw [zupd_na (by decide)]; exact h9
theorem kM_leastOf (w : Int) : zS 170 0 [zI w] [] sh pp mm Q ↔ Q (zI (loN w)) sh pp mm := by
  simp only [rM_leastOf_0, rM_leastOf_1, rM_leastOf_2, rM_leastOf_5, rM_leastOf_6, rM_leastOf_7, rM_leastOf_10, rM_leastOf_11, rM_leastOf_13, rM_leastOf_16, rM_leastOf_17, rM_leastOf_20, rM_leastOf_21, Bool.false_eq_true, true_implies, false_implies, implies_true, true_and, and_true, not_true_eq_false, not_false_eq_true, zPush_I, zPush_L, zPush_R, zPush_U, Int.reduceLT, Int.reduceLE, Int.reduceEq, Int.reduceNe, Int.reduceAdd, Int.reduceSub, Int.reduceMul, Int.reduceNeg, Int.reduceToNat, Nat.reduceAdd, Nat.reduceMul, Nat.reduceEqDiff, zw32_id, zw64_id, zupd_eq, zupd_na, zupd_ni, zupp_eq, zupp_na, zupp_ni]
  unfold loN
  by_cases h1 : w = 4
  · simp [h1]
  by_cases h2 : w = 5
  · simp [h2]
  by_cases h3 : w = 8
  · simp [h3]
  · simp [h1, h2, h3]
theorem kM_mostOf (w : Int) : zS 171 0 [zI w] [] sh pp mm Q ↔ Q (zI (hiN w)) sh pp mm := by
  simp only [rM_mostOf_0, rM_mostOf_1, rM_mostOf_2, rM_mostOf_5, rM_mostOf_7, rM_mostOf_10, rM_mostOf_11, rM_mostOf_12, rM_mostOf_15, rM_mostOf_17, rM_mostOf_20, rM_mostOf_21, rM_mostOf_23, rM_mostOf_26, rM_mostOf_28, rM_mostOf_31, rM_mostOf_33, Bool.false_eq_true, true_implies, false_implies, implies_true, true_and, and_true, not_true_eq_false, not_false_eq_true, zPush_I, zPush_L, zPush_R, zPush_U, Int.reduceLT, Int.reduceLE, Int.reduceEq, Int.reduceNe, Int.reduceAdd, Int.reduceSub, Int.reduceMul, Int.reduceNeg, Int.reduceToNat, Nat.reduceAdd, Nat.reduceMul, Nat.reduceEqDiff, zw32_id, zw64_id, zupd_eq, zupd_na, zupd_ni, zupp_eq, zupp_na, zupp_ni]
  unfold hiN
  by_cases h1 : w = 2
  · simp [h1]
  by_cases h2 : w = 3
  · simp [h2]
  by_cases h3 : w = 7
  · simp [h3]
  · simp [h1, h2, h3]
def sg (v : Int) : Int := if v < 0 then -1 else if 0 < v then 1 else 0
theorem kM_sign1 (v : Int) : zS 191 0 [zI v] [] sh pp mm Q ↔ Q (zI (sg v)) sh pp mm := by
  simp only [rM_sign1_0, rM_sign1_1, rM_sign1_4, rM_sign1_5, rM_sign1_8, rM_sign1_9, rM_sign1_12, rM_sign1_13, rM_sign1_16, rM_sign1_17, Bool.false_eq_true, true_implies, false_implies, implies_true, true_and, and_true, not_true_eq_false, not_false_eq_true, zPush_I, zPush_L, zPush_R, zPush_U, Int.reduceLT, Int.reduceLE, Int.reduceEq, Int.reduceNe, Int.reduceAdd, Int.reduceSub, Int.reduceMul, Int.reduceNeg, Int.reduceToNat, Nat.reduceAdd, Nat.reduceMul, Nat.reduceEqDiff, zw32_id, zw64_id, zupd_eq, zupd_na, zupd_ni, zupp_eq, zupp_na, zupp_ni]
  unfold sg
  by_cases h1 : v < 0
  · simp [h1]
  by_cases h2 : 0 < v
  · simp [h1, h2]
  · simp [h1, h2]
theorem kM_greater (a b : Int) : zS 192 0 [zI a, zI b] [] sh pp mm Q ↔ Q (zI (max a b)) sh pp mm := by
  simp only [rM_greater_0, rM_greater_1, rM_greater_2, rM_greater_5, rM_greater_6, rM_greater_9, rM_greater_10, Bool.false_eq_true, true_implies, false_implies, implies_true, true_and, and_true, not_true_eq_false, not_false_eq_true, zPush_I, zPush_L, zPush_R, zPush_U, Int.reduceLT, Int.reduceLE, Int.reduceEq, Int.reduceNe, Int.reduceAdd, Int.reduceSub, Int.reduceMul, Int.reduceNeg, Int.reduceToNat, Nat.reduceAdd, Nat.reduceMul, Nat.reduceEqDiff, zw32_id, zw64_id, zupd_eq, zupd_na, zupd_ni, zupp_eq, zupp_na, zupp_ni]
  by_cases h1 : b < a
  · simp [h1, show max a b = a by omega]
  · simp [h1, show max a b = b by omega]
theorem kM_size {v : Int} (h : -2147483647 ≤ v) (h2 : v ≤ 2147483647) : zS 190 0 [zI v] [] sh pp mm Q ↔ Q (zI (max v (-v))) sh pp mm := by
  simp (disch := first | assumption | omega) only [rM_size_0, rM_size_1, rM_size_4, rM_size_5, rM_size_6, rM_size_9, rM_size_10, Bool.false_eq_true, true_implies, false_implies, implies_true, true_and, and_true, not_true_eq_false, not_false_eq_true, zPush_I, zPush_L, zPush_R, zPush_U, Int.reduceLT, Int.reduceLE, Int.reduceEq, Int.reduceNe, Int.reduceAdd, Int.reduceSub, Int.reduceMul, Int.reduceNeg, Int.reduceToNat, Nat.reduceAdd, Nat.reduceMul, Nat.reduceEqDiff, zw32_id, zw64_id, zupd_eq, zupd_na, zupd_ni, zupp_eq, zupp_na, zupp_ni]
  by_cases h1 : v < 0
  · simp [h1, show max v (-v) = -v by omega]
  · simp [h1, show max v (-v) = v by omega]
theorem kM_isProgram (p : Int) : zS 173 0 [zI p] [] sh pp mm Q ↔ ((0 ≤ p ∧ p ≤ 3 → Q (zI 1) sh pp mm) ∧ (¬ (0 ≤ p ∧ p ≤ 3) → Q (zI 0) sh pp mm)) := by
  simp (disch := first | assumption | omega) only [rM_isProgram_0, rM_isProgram_1, rM_isProgram_2, rM_isProgram_3, rM_isProgram_6, rM_isProgram_9, kM_in, Bool.false_eq_true, true_implies, false_implies, implies_true, true_and, and_true, not_true_eq_false, not_false_eq_true, zPush_I, zPush_L, zPush_R, zPush_U, Int.reduceLT, Int.reduceLE, Int.reduceEq, Int.reduceNe, Int.reduceAdd, Int.reduceSub, Int.reduceMul, Int.reduceNeg, Int.reduceToNat, Nat.reduceAdd, Nat.reduceMul, Nat.reduceEqDiff, zw32_id, zw64_id, zupd_eq, zupd_na, zupd_ni, zupp_eq, zupp_na, zupp_ni]
theorem kM_isCell (x y : Int) : zS 174 0 [zI x, zI y] [] sh pp mm Q ↔ (((0 ≤ x ∧ x ≤ 23) ∧ (0 ≤ y ∧ y ≤ 15) → Q (zI 1) sh pp mm) ∧ (¬ ((0 ≤ x ∧ x ≤ 23) ∧ (0 ≤ y ∧ y ≤ 15)) → Q (zI 0) sh pp mm)) := by
  simp (disch := first | assumption | omega) only [rM_isCell_0, rM_isCell_1, rM_isCell_2, rM_isCell_3, rM_isCell_6, rM_isCell_9, rM_isCell_12, rM_isCell_13, rM_isCell_14, rM_isCell_15, rM_isCell_18, rM_isCell_21, rM_isCell_24, rM_isCell_25, rM_isCell_28, rM_isCell_29, kM_in, Bool.false_eq_true, true_implies, false_implies, implies_true, true_and, and_true, not_true_eq_false, not_false_eq_true, zPush_I, zPush_L, zPush_R, zPush_U, Int.reduceLT, Int.reduceLE, Int.reduceEq, Int.reduceNe, Int.reduceAdd, Int.reduceSub, Int.reduceMul, Int.reduceNeg, Int.reduceToNat, Nat.reduceAdd, Nat.reduceMul, Nat.reduceEqDiff, zw32_id, zw64_id, zupd_eq, zupd_na, zupd_ni, zupp_eq, zupp_na, zupp_ni]
  by_cases h1 : 0 ≤ x ∧ x ≤ 23
  · by_cases h2 : 0 ≤ y ∧ y ≤ 15
    · simp [h1, h2]
    · simp only [h1, h2, Bool.false_eq_true, true_implies, false_implies, implies_true, true_and, and_true, not_true_eq_false, not_false_eq_true, zPush_I, zPush_L, zPush_R, zPush_U, Int.reduceLT, Int.reduceLE, Int.reduceEq, Int.reduceNe, Int.reduceAdd, Int.reduceSub, Int.reduceMul, Int.reduceNeg, Int.reduceToNat, Nat.reduceAdd, Nat.reduceMul, Nat.reduceEqDiff, zw32_id, zw64_id, zupd_eq, zupd_na, zupd_ni, zupp_eq, zupp_na, zupp_ni, and_false]
  · simp only [h1, Bool.false_eq_true, true_implies, false_implies, implies_true, true_and, and_true, not_true_eq_false, not_false_eq_true, zPush_I, zPush_L, zPush_R, zPush_U, Int.reduceLT, Int.reduceLE, Int.reduceEq, Int.reduceNe, Int.reduceAdd, Int.reduceSub, Int.reduceMul, Int.reduceNeg, Int.reduceToNat, Nat.reduceAdd, Nat.reduceMul, Nat.reduceEqDiff, zw32_id, zw64_id, zupd_eq, zupd_na, zupd_ni, zupp_eq, zupp_na, zupp_ni, false_and]
theorem mPut (h : zLy sh pp) (hm : mOk f G cn N D mm) {what v : Int} (hQ : ∀ mm', mOk (oPut f cn what v).1 G (oPut f cn what v).2.1 N D mm' → frC mm mm' → Q (zI (oPut f cn what v).2.2) sh pp mm') : zS 172 0 [zR 122, zI what, zI v, zU] [] sh pp mm Q := by
  have k122 := k_122 h
  have k123 := k_123 h
  have l123 := l_123 h
  have p123 := p_122_0 h
  have k126 := k_126 h
  have l126 := l_126 h
  have p126 := p_122_3 h
  simp +contextual (disch := first | assumption | omega) only [rM_put_0, rM_put_1, rM_put_2, rM_put_3, rM_put_6, rM_put_9, rM_put_12, rM_put_13, rM_put_14, rM_put_15, rM_put_18, rM_put_19, rM_put_20, rM_put_23, rM_put_24, rM_put_27, rM_put_30, rM_put_31, rM_put_33, rM_put_36, rM_put_37, rM_put_38, rM_put_39, rM_put_42, rM_put_43, rM_put_44, rM_put_47, rM_put_48, rM_put_49, rM_put_50, rM_put_51, rM_put_52, rM_put_53, rM_bad_0, rM_bad_1, rM_bad_4, rM_bad_5, rM_bad_6, rM_bad_7, rM_bad_8, rM_bad_9, rM_bad_10, rM_bad_11, rM_of_0, rM_of_1, rM_of_4, rM_of_5, rM_of_6, rM_of_7, rM_of_8, kM_in, kM_leastOf, kM_mostOf, Bool.false_eq_true, true_implies, false_implies, implies_true, true_and, and_true, not_true_eq_false, not_false_eq_true, zPush_I, zPush_L, zPush_R, zPush_U, Int.reduceLT, Int.reduceLE, Int.reduceEq, Int.reduceNe, Int.reduceAdd, Int.reduceSub, Int.reduceMul, Int.reduceNeg, Int.reduceToNat, Nat.reduceAdd, Nat.reduceMul, Nat.reduceEqDiff, zw32_id, zw64_id, zupd_eq, zupd_na, zupd_ni, zupp_eq, zupp_na, zupp_ni, p123, p126]
  have bad : ¬ ((0 ≤ what ∧ what ≤ 8) ∧ loN what ≤ v ∧ v ≤ hiN what) → Q (zI (-2)) sh pp (zupd mm 126 0 (zw32 (mm 126 0 + 1))) := by
    intro hn
    have e : oPut f cn what v = (f, bump cn 0, -2) := if_neg hn
    rw [e] at hQ
    exact hQ _ (mOk_ref hm (by decide) (by decide)) (frC_up (frC_rf mm) (by decide) (by decide))
  refine ⟨fun h1 => ⟨fun h2 => ?_, fun h2 => bad (fun hn => h2 hn.2)⟩, fun h1 => bad (fun hn => h1 hn.1)⟩
  have e : oPut f cn what v = (fup f what v, cn, f what) := if_pos ⟨h1, h2⟩
  rw [e] at hQ
  rw [Int.zero_add, hm.1 what (by omega) (by omega)]
  exact hQ _ (mOk_now hm (by omega) (by omega)) (frC_up (frC_rf mm) (by decide) (by decide))
end
