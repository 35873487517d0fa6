/-! ===== the reference reads ===== -/
def fr2 (lo hi : Int) (mm mm' : zMm) : Prop := ∀ a j, ¬ (a = 122 ∧ lo ≤ j ∧ j ≤ hi) → mm' a j = mm a j
theorem fr2_rf (lo hi : Int) (mm : zMm) : fr2 lo hi mm mm := fun _ _ _ => rfl
theorem fr2_tr {lo hi : Int} {a b c : zMm} (h : fr2 lo hi a b) (h2 : fr2 lo hi b c) : fr2 lo hi a c := fun x j hx => (h2 x j hx).trans (h x j hx)
theorem fr2_up {lo hi : Int} {a b : zMm} (h : fr2 lo hi a b) {i v : Int} (h1 : lo ≤ i) (h2 : i ≤ hi) : fr2 lo hi a (zupd b 122 i v) := fun x j hx => by
  rw [← h x j hx]
  unfold zupd
  rw [if_neg (fun h3 => hx ⟨h3.1, by omega, by omega⟩)]
theorem fr2_wd {lo hi lo' hi' : Int} {a b : zMm} (h : fr2 lo hi a b) (h1 : lo' ≤ lo) (h2 : hi ≤ hi') : fr2 lo' hi' a b := fun x j hx => h x j (fun h3 => hx ⟨h3.1, by omega, by omega⟩)
theorem zupd_2 (mm : zMm) (a : Nat) (i v w : Int) : zupd (zupd mm a i v) a i w = zupd mm a i w := by
  funext b j
  unfold zupd
  split <;> rfl
def mTx (p len : Int) (b : Int → Int) (mm : zMm) : Prop := mm 122 7 = p ∧ (0 ≤ p ∧ p ≤ 3) ∧ mm 123 (9 + 121 * p) = len ∧ (0 ≤ len ∧ len ≤ 120) ∧ ∀ k, 0 ≤ k → k < len → mm 123 (9 + 121 * p + 1 + k) = b k ∧ 0 ≤ b k ∧ b k ≤ 255
def mTk (b : Int → Int) (len q : Int) (mm : zMm) : Prop := mm 122 8 = tAt b len q ∧ mm 122 9 = tEn b len q - tAt b len q ∧ mm 122 10 = tMk b len q ∧ (tKd b len q = 3 → mm 122 11 = tVl b len q)
section
variable {sh : zSh} {pp : zPp} {mm : zMm} {Q : zV → zSh → zPp → zMm → Prop} {p len : Int} {b : Int → Int}
theorem mTx_u {i v : Int} (h : 7 < i) : mTx p len b (zupd mm 122 i v) ↔ mTx p len b mm := by
  unfold mTx
  simp only [zupd_na (show (123 : Nat) ≠ 122 by decide), zupd_ni (show (7 : Int) ≠ i by omega)]
theorem mTx_fr {hi : Int} {mm' : zMm} (hx : mTx p len b mm) (h : fr2 8 hi mm mm') : mTx p len b mm' := by
  unfold mTx at *
  rw [h 122 7 (by omega)]
  simp only [h 123 _ (show ¬ ((123 : Nat) = 122 ∧ 8 ≤ _ ∧ _ ≤ hi) from fun h => absurd h.1 (by decide))]
  exact hx
theorem kM_textLong (h : zLy sh pp) (hx : mTx p len b mm) : zS 175 0 [zR 122] [] sh pp mm Q ↔ Q (zI len) sh pp mm := by
  have k122 := k_122 h
  have k123 := k_123 h
  have l123 := l_123 h
  have p123 := p_122_0 h
  obtain ⟨h1, h2, h3, h4, h5⟩ := hx
  simp (disch := first | assumption | omega) only [rM_textLong_0, rM_textLong_1, rM_textLong_4, rM_textLong_6, rM_textLong_8, rM_textLong_9, rM_textLong_12, rM_textLong_13, rM_textLong_14, rM_textLong_15, Bool.false_eq_true, true_implies, false_implies, implies_true, true_and, and_true, not_true_eq_false, not_false_eq_true, zPush_I, zPush_L, zPush_R, zPush_U, Int.reduceLT, Int.reduceLE, Int.reduceEq, Int.reduceNe, Int.reduceAdd, Int.reduceSub, Int.reduceMul, Int.reduceNeg, Int.reduceToNat, Nat.reduceAdd, Nat.reduceMul, Nat.reduceEqDiff, zw32_id, zw64_id, zupd_eq, zupd_na, zupd_ni, zupp_eq, zupp_na, zupp_ni, p123, h1, h3]
theorem kM_byteAt (h : zLy sh pp) (hx : mTx p len b mm) {k : Int} (h0 : 0 ≤ k) (hk : k < len) : zS 176 0 [zR 122, zI k] [] sh pp mm Q ↔ Q (zI (b k)) sh pp mm := by
  have k122 := k_122 h
  have k123 := k_123 h
  have l123 := l_123 h
  have p123 := p_122_0 h
  obtain ⟨h1, h2, h3, h4, h5⟩ := hx
  have e := (h5 k h0 hk).1
  simp (disch := first | assumption | omega) only [rM_byteAt_0, rM_byteAt_1, rM_byteAt_4, rM_byteAt_6, rM_byteAt_8, rM_byteAt_9, rM_byteAt_12, rM_byteAt_13, rM_byteAt_14, rM_byteAt_15, rM_byteAt_16, rM_byteAt_17, rM_byteAt_18, rM_byteAt_19, Bool.false_eq_true, true_implies, false_implies, implies_true, true_and, and_true, not_true_eq_false, not_false_eq_true, zPush_I, zPush_L, zPush_R, zPush_U, Int.reduceLT, Int.reduceLE, Int.reduceEq, Int.reduceNe, Int.reduceAdd, Int.reduceSub, Int.reduceMul, Int.reduceNeg, Int.reduceToNat, Nat.reduceAdd, Nat.reduceMul, Nat.reduceEqDiff, zw32_id, zw64_id, zupd_eq, zupd_na, zupd_ni, zupp_eq, zupp_na, zupp_ni, p123, h1, e]
theorem kM_isSmall (c : Int) : zS 179 0 [zI c] [] sh pp mm Q ↔ ((cLt c = true → Q (zI 1) sh pp mm) ∧ (¬ cLt c = true → Q (zI 0) sh pp mm)) := by
  simp (disch := first | assumption | omega) only [rM_isSmall_0, rM_isSmall_1, rM_isSmall_2, rM_isSmall_5, rM_isSmall_8, rM_isSmall_11, kM_in, Bool.false_eq_true, true_implies, false_implies, implies_true, true_and, and_true, not_true_eq_false, not_false_eq_true, zPush_I, zPush_L, zPush_R, zPush_U, Int.reduceLT, Int.reduceLE, Int.reduceEq, Int.reduceNe, Int.reduceAdd, Int.reduceSub, Int.reduceMul, Int.reduceNeg, Int.reduceToNat, Nat.reduceAdd, Nat.reduceMul, Nat.reduceEqDiff, zw32_id, zw64_id, zupd_eq, zupd_na, zupd_ni, zupp_eq, zupp_na, zupp_ni, cLt_t]
theorem kM_isFigureAt (h : zLy sh pp) (hx : mTx p len b mm) {k : Int} (h0 : 0 ≤ k) : zS 180 0 [zR 122, zI k] [] sh pp mm Q ↔ ((k < len ∧ cFg (b k) = true → Q (zI 1) sh pp mm) ∧ (¬ (k < len ∧ cFg (b k) = true) → Q (zI 0) sh pp mm)) := by
  have k122 := k_122 h
  by_cases hk : k < len
  · simp (disch := first | assumption | omega) only [rM_isFigureAt_0, rM_isFigureAt_1, rM_isFigureAt_2, rM_isFigureAt_5, rM_isFigureAt_8, rM_isFigureAt_9, rM_isFigureAt_10, rM_isFigureAt_13, rM_isFigureAt_14, rM_isFigureAt_17, rM_isFigureAt_20, rM_isFigureAt_23, rM_isFigureAt_26, rM_isFigureAt_27, rM_isFigureAt_30, rM_isFigureAt_31, kM_textLong h hx, kM_byteAt h hx h0 hk, kM_in, Bool.false_eq_true, true_implies, false_implies, implies_true, true_and, and_true, not_true_eq_false, not_false_eq_true, zPush_I, zPush_L, zPush_R, zPush_U, Int.reduceLT, Int.reduceLE, Int.reduceEq, Int.reduceNe, Int.reduceAdd, Int.reduceSub, Int.reduceMul, Int.reduceNeg, Int.reduceToNat, Nat.reduceAdd, Nat.reduceMul, Nat.reduceEqDiff, zw32_id, zw64_id, zupd_eq, zupd_na, zupd_ni, zupp_eq, zupp_na, zupp_ni, hk, cFg_t]
  · simp (disch := first | assumption | omega) only [rM_isFigureAt_0, rM_isFigureAt_1, rM_isFigureAt_2, rM_isFigureAt_5, rM_isFigureAt_8, rM_isFigureAt_9, rM_isFigureAt_10, rM_isFigureAt_13, rM_isFigureAt_14, rM_isFigureAt_17, rM_isFigureAt_20, rM_isFigureAt_23, rM_isFigureAt_26, rM_isFigureAt_27, rM_isFigureAt_30, rM_isFigureAt_31, kM_textLong h hx, kM_in, Bool.false_eq_true, true_implies, false_implies, implies_true, true_and, and_true, not_true_eq_false, not_false_eq_true, zPush_I, zPush_L, zPush_R, zPush_U, Int.reduceLT, Int.reduceLE, Int.reduceEq, Int.reduceNe, Int.reduceAdd, Int.reduceSub, Int.reduceMul, Int.reduceNeg, Int.reduceToNat, Nat.reduceAdd, Nat.reduceMul, Nat.reduceEqDiff, zw32_id, zw64_id, zupd_eq, zupd_na, zupd_ni, zupp_eq, zupp_na, zupp_ni, hk, false_and]
theorem mLk1 (h : zLy sh pp) (hx : mTx p len b mm) : ∀ q, 0 ≤ q → q ≤ len → zS 181 42 [zR 122, zU, zU, zU, zU, zU] [] sh pp (zupd mm 122 8 (rn b len cBl q)) Q → zS 181 5 [zR 122, zU, zU, zU, zU, zU] [] sh pp (zupd mm 122 8 q) Q := by
  have k122 := k_122 h
  have hx' : ∀ v, mTx p len b (zupd mm 122 8 v) := fun v => (mTx_u (by decide)).mpr hx
  refine rn_ind (b := b) (len := len) (c := cBl) (P := fun q r => 0 ≤ q → q ≤ len → zS 181 42 [zR 122, zU, zU, zU, zU, zU] [] sh pp (zupd mm 122 8 (r)) Q → zS 181 5 [zR 122, zU, zU, zU, zU, zU] [] sh pp (zupd mm 122 8 q) Q) ?_ ?_
  · intro q hn h0 h1 hz
    rw [rM_look_5]
    by_cases h2 : q < len
    · have h3 : ¬ b q = 32 := fun h4 => hn ⟨h2, cBl_t.mpr h4⟩
      simp (disch := first | assumption | omega) only [rM_look_6, rM_look_9, rM_look_10, rM_look_13, rM_look_16, rM_look_17, rM_look_18, rM_look_21, rM_look_24, rM_look_26, rM_look_29, rM_look_30, rM_look_31, rM_look_34, rM_look_35, rM_look_36, rM_look_39, kM_textLong h (hx' q), kM_byteAt h (hx' q) h0 h2, Bool.false_eq_true, true_implies, false_implies, implies_true, true_and, and_true, not_true_eq_false, not_false_eq_true, zPush_I, zPush_L, zPush_R, zPush_U, Int.reduceLT, Int.reduceLE, Int.reduceEq, Int.reduceNe, Int.reduceAdd, Int.reduceSub, Int.reduceMul, Int.reduceNeg, Int.reduceToNat, Nat.reduceAdd, Nat.reduceMul, Nat.reduceEqDiff, zw32_id, zw64_id, zupd_eq, zupd_na, zupd_ni, zupp_eq, zupp_na, zupp_ni, h2, h3]
      exact hz
    · simp (disch := first | assumption | omega) only [rM_look_6, rM_look_9, rM_look_10, rM_look_13, rM_look_16, rM_look_17, rM_look_18, rM_look_21, rM_look_24, rM_look_26, rM_look_29, rM_look_30, rM_look_31, rM_look_34, rM_look_35, rM_look_36, rM_look_39, kM_textLong h (hx' q), Bool.false_eq_true, true_implies, false_implies, implies_true, true_and, and_true, not_true_eq_false, not_false_eq_true, zPush_I, zPush_L, zPush_R, zPush_U, Int.reduceLT, Int.reduceLE, Int.reduceEq, Int.reduceNe, Int.reduceAdd, Int.reduceSub, Int.reduceMul, Int.reduceNeg, Int.reduceToNat, Nat.reduceAdd, Nat.reduceMul, Nat.reduceEqDiff, zw32_id, zw64_id, zupd_eq, zupd_na, zupd_ni, zupp_eq, zupp_na, zupp_ni, h2]
      exact hz
  · intro q r h2 hc ih h0 h1 hz
    have h3 : b q = 32 := cBl_t.mp hc
    have h4 : q ≤ 120 := by unfold mTx at hx; omega
    rw [rM_look_5]
    simp (disch := first | assumption | omega) only [rM_look_6, rM_look_9, rM_look_10, rM_look_13, rM_look_16, rM_look_17, rM_look_18, rM_look_21, rM_look_24, rM_look_26, rM_look_29, rM_look_30, rM_look_31, rM_look_34, rM_look_35, rM_look_36, rM_look_39, kM_textLong h (hx' q), kM_byteAt h (hx' q) h0 h2, Bool.false_eq_true, true_implies, false_implies, implies_true, true_and, and_true, not_true_eq_false, not_false_eq_true, zPush_I, zPush_L, zPush_R, zPush_U, Int.reduceLT, Int.reduceLE, Int.reduceEq, Int.reduceNe, Int.reduceAdd, Int.reduceSub, Int.reduceMul, Int.reduceNeg, Int.reduceToNat, Nat.reduceAdd, Nat.reduceMul, Nat.reduceEqDiff, zw32_id, zw64_id, zupd_eq, zupd_na, zupd_ni, zupp_eq, zupp_na, zupp_ni, h2, h3, zupd_2]
    exact ih (by omega) (by omega) hz
theorem mLk2 (h : zLy sh pp) (hx : mTx p len b mm) (a : Int) (h0 : 0 ≤ a) (h8 : mm 122 8 = a) : ∀ q, a ≤ q → q ≤ len → zS 181 327 [zU, zU, zU, zU, zU, zU] [] sh pp (zupd mm 122 9 (rn b len cLt q - a)) Q → zS 181 120 [zR 122, zU, zU, zU, zU, zU] [] sh pp (zupd mm 122 9 (q - a)) Q := by
  have k122 := k_122 h
  have hx' : ∀ v, mTx p len b (zupd mm 122 9 v) := fun v => (mTx_u (by decide)).mpr hx
  have h9 : len ≤ 120 := by unfold mTx at hx; omega
  refine rn_ind (b := b) (len := len) (c := cLt) (P := fun q r => a ≤ q → q ≤ len → zS 181 327 [zU, zU, zU, zU, zU, zU] [] sh pp (zupd mm 122 9 (r - a)) Q → zS 181 120 [zR 122, zU, zU, zU, zU, zU] [] sh pp (zupd mm 122 9 (q - a)) Q) ?_ ?_
  · intro q hn h1 h2 hz
    rw [rM_look_120]
    by_cases h3 : q < len
    · have h4 : ¬ cLt (b q) = true := fun h4 => hn ⟨h3, h4⟩
      simp (disch := first | assumption | omega) only [rM_look_121, rM_look_124, rM_look_125, rM_look_128, rM_look_129, rM_look_130, rM_look_133, rM_look_136, rM_look_137, rM_look_138, rM_look_141, rM_look_142, rM_look_145, rM_look_146, rM_look_149, rM_look_152, rM_look_155, rM_look_156, rM_look_157, rM_look_160, rM_look_161, rM_look_162, rM_look_165, kM_textLong h (hx' (q - a)), kM_byteAt h (hx' (q - a)) (k := q) (by omega) h3, kM_isSmall, Bool.false_eq_true, true_implies, false_implies, implies_true, true_and, and_true, not_true_eq_false, not_false_eq_true, zPush_I, zPush_L, zPush_R, zPush_U, Int.reduceLT, Int.reduceLE, Int.reduceEq, Int.reduceNe, Int.reduceAdd, Int.reduceSub, Int.reduceMul, Int.reduceNeg, Int.reduceToNat, Nat.reduceAdd, Nat.reduceMul, Nat.reduceEqDiff, zw32_id, zw64_id, zupd_eq, zupd_na, zupd_ni, zupp_eq, zupp_na, zupp_ni, h8, show a + (q - a) = q by omega, h3, h4]
      exact hz
    · simp (disch := first | assumption | omega) only [rM_look_121, rM_look_124, rM_look_125, rM_look_128, rM_look_129, rM_look_130, rM_look_133, rM_look_136, rM_look_137, rM_look_138, rM_look_141, rM_look_142, rM_look_145, rM_look_146, rM_look_149, rM_look_152, rM_look_155, rM_look_156, rM_look_157, rM_look_160, rM_look_161, rM_look_162, rM_look_165, kM_textLong h (hx' (q - a)), Bool.false_eq_true, true_implies, false_implies, implies_true, true_and, and_true, not_true_eq_false, not_false_eq_true, zPush_I, zPush_L, zPush_R, zPush_U, Int.reduceLT, Int.reduceLE, Int.reduceEq, Int.reduceNe, Int.reduceAdd, Int.reduceSub, Int.reduceMul, Int.reduceNeg, Int.reduceToNat, Nat.reduceAdd, Nat.reduceMul, Nat.reduceEqDiff, zw32_id, zw64_id, zupd_eq, zupd_na, zupd_ni, zupp_eq, zupp_na, zupp_ni, h8, show a + (q - a) = q by omega, h3]
      exact hz
  · intro q r h3 h4 ih h1 h2 hz
    rw [rM_look_120]
    simp (disch := first | assumption | omega) only [rM_look_121, rM_look_124, rM_look_125, rM_look_128, rM_look_129, rM_look_130, rM_look_133, rM_look_136, rM_look_137, rM_look_138, rM_look_141, rM_look_142, rM_look_145, rM_look_146, rM_look_149, rM_look_152, rM_look_155, rM_look_156, rM_look_157, rM_look_160, rM_look_161, rM_look_162, rM_look_165, kM_textLong h (hx' (q - a)), kM_byteAt h (hx' (q - a)) (k := q) (by omega) h3, kM_isSmall, Bool.false_eq_true, true_implies, false_implies, implies_true, true_and, and_true, not_true_eq_false, not_false_eq_true, zPush_I, zPush_L, zPush_R, zPush_U, Int.reduceLT, Int.reduceLE, Int.reduceEq, Int.reduceNe, Int.reduceAdd, Int.reduceSub, Int.reduceMul, Int.reduceNeg, Int.reduceToNat, Nat.reduceAdd, Nat.reduceMul, Nat.reduceEqDiff, zw32_id, zw64_id, zupd_eq, zupd_na, zupd_ni, zupp_eq, zupp_na, zupp_ni, h8, show a + (q - a) = q by omega, h3, h4, zupd_2]
    have := ih (by omega) (by omega) hz
    rw [show q + 1 - a = q - a + 1 by omega] at this
    exact this
theorem mLk3 (h : zLy sh pp) (hx : mTx p len b mm) (le fs : Int) (h0 : 0 ≤ fs) (hfs : fs ≤ len) : ∀ q, fs ≤ q → q ≤ len → (∀ i, fs ≤ i → i < q → 48 ≤ b i ∧ b i ≤ 57) → zS 181 260 [zR 122, zU, zU, zI le, zI fs, zI (rn b len cFg q - fs)] [] sh pp (zupd mm 122 11 (nv b fs (rn b len cFg q - fs))) Q → zS 181 205 [zR 122, zU, zU, zI le, zI fs, zI (q - fs)] [] sh pp (zupd mm 122 11 (nv b fs (q - fs))) Q := by
  have k122 := k_122 h
  have hx' : ∀ v, mTx p len b (zupd mm 122 11 v) := fun v => (mTx_u (by decide)).mpr hx
  have h9 : len ≤ 120 := by unfold mTx at hx; omega
  refine rn_ind (b := b) (len := len) (c := cFg) (P := fun q r => fs ≤ q → q ≤ len → (∀ i, fs ≤ i → i < q → 48 ≤ b i ∧ b i ≤ 57) → zS 181 260 [zR 122, zU, zU, zI le, zI fs, zI (r - fs)] [] sh pp (zupd mm 122 11 (nv b fs (r - fs))) Q → zS 181 205 [zR 122, zU, zU, zI le, zI fs, zI (q - fs)] [] sh pp (zupd mm 122 11 (nv b fs (q - fs))) Q) ?_ ?_
  · intro q hn h1 h2 hd hz
    rw [rM_look_205]
    simp (disch := first | assumption | omega) only [rM_look_206, rM_look_208, rM_look_210, rM_look_211, rM_look_214, rM_look_217, rM_look_218, rM_look_220, rM_look_221, rM_look_224, rM_look_226, rM_look_227, rM_look_230, rM_look_231, rM_look_232, rM_look_234, rM_look_236, rM_look_237, rM_look_240, rM_look_241, rM_look_243, rM_look_244, rM_look_247, rM_look_248, rM_look_251, rM_look_254, rM_look_257, kM_isFigureAt h (hx' (nv b fs (q - fs))) (k := q) (by omega), Bool.false_eq_true, true_implies, false_implies, implies_true, true_and, and_true, not_true_eq_false, not_false_eq_true, zPush_I, zPush_L, zPush_R, zPush_U, Int.reduceLT, Int.reduceLE, Int.reduceEq, Int.reduceNe, Int.reduceAdd, Int.reduceSub, Int.reduceMul, Int.reduceNeg, Int.reduceToNat, Nat.reduceAdd, Nat.reduceMul, Nat.reduceEqDiff, zw32_id, zw64_id, zupd_eq, zupd_na, zupd_ni, zupp_eq, zupp_na, zupp_ni, show fs + (q - fs) = q by omega, hn]
    exact hz
  · intro q r h3 h4 ih h1 h2 hd hz
    have hq := cFg_t.mp h4
    have hb := nv_bd (b := b) (f := fs) (k := q - fs) (e := q) hd (by omega) (by omega)
    have hd' : ∀ i, fs ≤ i → i < q + 1 → 48 ≤ b i ∧ b i ≤ 57 := fun i a c => by
      by_cases e : i = q
      · rw [e]; exact hq
      · exact hd i a (by omega)
    have hc : q < len ∧ cFg (b q) = true := ⟨h3, h4⟩
    have hz' := ih (by omega) (by omega) hd' hz
    rw [show q + 1 - fs = q - fs + 1 by omega] at hz'
    rw [rM_look_205]
    by_cases h2f : q - fs < 2
    · have e1 : nv b fs (q - fs + 1) = 10 * nv b fs (q - fs) + b q - 48 := by
        unfold nv
        by_cases e : q = fs
        · subst e; simp
        · have e : q = fs + 1 := by omega
          subst e
          rw [if_neg (by omega), if_neg (by omega), if_neg (by omega), if_pos (by omega)]
          omega
      rw [e1] at hz'
      simp (disch := first | assumption | omega) only [rM_look_206, rM_look_208, rM_look_210, rM_look_211, rM_look_214, rM_look_217, rM_look_218, rM_look_220, rM_look_221, rM_look_224, rM_look_226, rM_look_227, rM_look_230, rM_look_231, rM_look_232, rM_look_234, rM_look_236, rM_look_237, rM_look_240, rM_look_241, rM_look_243, rM_look_244, rM_look_247, rM_look_248, rM_look_251, rM_look_254, rM_look_257, kM_isFigureAt h (hx' (nv b fs (q - fs))) (k := q) (by omega), kM_byteAt h (hx' (nv b fs (q - fs))) (k := q) (by omega) h3, Bool.false_eq_true, true_implies, false_implies, implies_true, true_and, and_true, not_true_eq_false, not_false_eq_true, zPush_I, zPush_L, zPush_R, zPush_U, Int.reduceLT, Int.reduceLE, Int.reduceEq, Int.reduceNe, Int.reduceAdd, Int.reduceSub, Int.reduceMul, Int.reduceNeg, Int.reduceToNat, Nat.reduceAdd, Nat.reduceMul, Nat.reduceEqDiff, zw32_id, zw64_id, zupd_eq, zupd_na, zupd_ni, zupp_eq, zupp_na, zupp_ni, show fs + (q - fs) = q by omega, hc, h2f, zupd_2]
      exact hz'
    · have e1 : nv b fs (q - fs + 1) = nv b fs (q - fs) := by
        unfold nv
        rw [if_neg (by omega), if_neg (by omega), if_neg (by omega), if_neg (by omega)]
      rw [e1] at hz'
      simp (disch := first | assumption | omega) only [rM_look_206, rM_look_208, rM_look_210, rM_look_211, rM_look_214, rM_look_217, rM_look_218, rM_look_220, rM_look_221, rM_look_224, rM_look_226, rM_look_227, rM_look_230, rM_look_231, rM_look_232, rM_look_234, rM_look_236, rM_look_237, rM_look_240, rM_look_241, rM_look_243, rM_look_244, rM_look_247, rM_look_248, rM_look_251, rM_look_254, rM_look_257, kM_isFigureAt h (hx' (nv b fs (q - fs))) (k := q) (by omega), Bool.false_eq_true, true_implies, false_implies, implies_true, true_and, and_true, not_true_eq_false, not_false_eq_true, zPush_I, zPush_L, zPush_R, zPush_U, Int.reduceLT, Int.reduceLE, Int.reduceEq, Int.reduceNe, Int.reduceAdd, Int.reduceSub, Int.reduceMul, Int.reduceNeg, Int.reduceToNat, Nat.reduceAdd, Nat.reduceMul, Nat.reduceEqDiff, zw32_id, zw64_id, zupd_eq, zupd_na, zupd_ni, zupp_eq, zupp_na, zupp_ni, show fs + (q - fs) = q by omega, hc, h2f, zupd_2]
      exact hz'
end
