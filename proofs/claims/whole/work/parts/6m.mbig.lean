/-! ===== the reference's whole numbers ===== -/
def mRw (m : zMm) (s : Int) : Int → Int := fun k => m 127 (64 * s + k)
def mB (s : Int) (v : Nat) (m : zMm) : Prop := bR (mRw m s) (m 128 s) v
def pMb (s : Int) (x : Nat) (j : Int) : Prop := (x = 127 ∧ 64 * s ≤ j ∧ j < 64 * s + 64) ∨ (x = 128 ∧ j = s)
theorem bV_fup {g : Int → Int} {i v : Int} (i0 : 0 ≤ i) : ∀ n : Nat, i < (n : Int) → bV (fup g i v) n = bV g n + (v - g i) * 2 ^ (30 * i.toNat)
  | 0, h => by omega
  | n + 1, h => by
    rw [bV_s, bV_s]
    by_cases e : i = (n : Int)
    · subst e
      rw [bV_up n (Int.le_refl _), fup_eq, Int.toNat_natCast]
      grind
    · rw [bV_fup i0 n (by omega), fup_ne (by omega)]
      grind
theorem mRw_up (m : zMm) (s i v : Int) : mRw (zupd m 127 (64 * s + i) v) s = fup (mRw m s) i v := by
  funext k
  unfold mRw zupd fup
  by_cases e : k = i
  · simp [e]
  · rw [if_neg (fun h => e (by omega)), if_neg e]
theorem mRw_na (m : zMm) (s i v : Int) {x : Nat} (h : x ≠ 127) : mRw (zupd m x i v) s = mRw m s := by
  funext k
  unfold mRw
  exact zupd_na (Ne.symm h)
theorem nlim_8 {v : Nat} (hl : v < 1766847064778384329583297500742918515827483896875618958121606201292619776) : nlim v ≤ 8 := by
  have e : (2 : Nat) ^ (30 * 8) = 1766847064778384329583297500742918515827483896875618958121606201292619776 := by decide
  exact nlim_le (v := v) (k := 8) (by rw [e]; exact hl)
theorem mB_fr {s s' : Int} {v : Nat} {m m' : zMm} (h : mB s' v m) (hf : frP (pMb s) m m') (hs : s' ≠ s) (hl : v < 1766847064778384329583297500742918515827483896875618958121606201292619776) : mB s' v m' := by
  have e1 : m' 128 s' = m 128 s' := hf _ _ (by unfold pMb; omega)
  have hn := bR_size h
  have hk := nlim_8 hl
  have e2 : ∀ k, 0 ≤ k → k < m 128 s' → mRw m' s' k = mRw m s' k := fun k k0 k1 => hf _ _ (by unfold pMb; omega)
  obtain ⟨h1, h2, h3, h4⟩ := h
  unfold mB bR
  rw [e1]
  refine ⟨h1, fun k a b => by rw [e2 k a b]; exact h2 k a b, fun hp => by rw [e2 _ (by omega) (by omega)]; exact h3 hp, ?_⟩
  rw [← h4]
  exact bV_ext _ (fun k a b => e2 k a (by omega))
theorem mB_sz {s : Int} {v : Nat} {m : zMm} (h : mB s v m) (hl : v < 1766847064778384329583297500742918515827483896875618958121606201292619776) : m 128 s = nlim v ∧ 0 ≤ nlim v ∧ nlim v ≤ 8 := by
  have hn := bR_size h
  have hk := nlim_8 hl
  exact ⟨hn, nlim_nn v, hk⟩
theorem ltm {x : Int} (h : 0 ≤ x) : x.tmod 1073741824 = x % 1073741824 := Int.tmod_eq_emod_of_nonneg h
theorem ltd {x : Int} (h : 0 ≤ x) (h1 : x ≤ 9223372036854775807) : zw64 (x.tdiv 1073741824) = x / 1073741824 := by
  rw [Int.tdiv_eq_ediv_of_nonneg h]
  exact zw64_id (by omega) (by omega)
section
variable {sh : zSh} {pp : zPp} {mm : zMm} {Q : zV → zSh → zPp → zMm → Prop} {s : Int} {v w : Nat}
theorem mTrim (h : zLy sh pp) (s0 : 0 ≤ s) (s7 : s ≤ 7) (hQ : ∀ m, mB s v m → frP (fun x j => x = 128 ∧ j = s) mm m → Q zU sh pp m) : ∀ (n : Nat) (m : zMm), n ≤ 20 → m 128 s = (n : Int) → (∀ k, 0 ≤ k → k < (n : Int) → 0 ≤ mRw m s k ∧ mRw m s k < 1073741824) → bV (mRw m s) n = (v : Int) → frP (fun x j => x = 128 ∧ j = s) mm m → zS 157 0 [zR 122, zI s] [] sh pp m Q := by
  have k122 := k_122 h
  have k127 := k_127 h
  have l127 := l_127 h
  have p127 := p_122_4 h
  have k128 := k_128 h
  have l128 := l_128 h
  have p128 := p_122_5 h
  intro n
  induction n with
  | zero =>
    intro m hn hs hr hv hf
    rw [rM_trim_0]
    simp (disch := first | assumption | omega) only [rM_trim_1, rM_trim_4, rM_trim_5, rM_trim_6, rM_trim_9, rM_trim_10, rM_trim_13, rM_trim_15, rM_trim_16, rM_trim_17, rM_trim_18, rM_trim_21, rM_trim_22, rM_trim_23, rM_trim_24, rM_trim_25, rM_trim_26, rM_trim_27, rM_trim_28, rM_trim_29, rM_trim_32, rM_trim_33, rM_trim_36, rM_trim_37, rM_trim_38, rM_trim_39, rM_trim_40, rM_trim_41, rM_trim_42, rM_trim_45, Bool.false_eq_true, true_implies, false_implies, implies_true, true_and, and_true, not_true_eq_false, not_false_eq_true, zPush_I, zPush_L, zPush_R, zPush_U, Int.reduceLT, Int.reduceLE, Int.reduceEq, Int.reduceNe, Int.reduceAdd, Int.reduceSub, Int.reduceMul, Int.reduceNeg, Int.reduceToNat, Nat.reduceAdd, Nat.reduceMul, Nat.reduceEqDiff, zw32_id, zw64_id, zupd_eq, zupd_na, zupd_ni, zupp_eq, zupp_na, zupp_ni, p127, p128, hs, show ¬ (0 : Int) < ((0 : Nat) : Int) by omega]
    refine hQ m ⟨by rw [hs]; omega, fun k a b => by rw [hs] at b; exact hr k a b, fun hp => by rw [hs] at hp; omega, ?_⟩ hf
    rw [hs]
    exact hv
  | succ n ih =>
    intro m hn hs hr hv hf
    have e1 : 64 * s + ((n + 1 : Nat) : Int) - 1 = 64 * s + (n : Int) := by push_cast; omega
    have e2 : ((n + 1 : Nat) : Int) - 1 = (n : Int) := by push_cast; omega
    rw [rM_trim_0]
    by_cases h0 : m 127 (64 * s + (n : Int)) = 0
    · simp (disch := first | assumption | omega) only [rM_trim_1, rM_trim_4, rM_trim_5, rM_trim_6, rM_trim_9, rM_trim_10, rM_trim_13, rM_trim_15, rM_trim_16, rM_trim_17, rM_trim_18, rM_trim_21, rM_trim_22, rM_trim_23, rM_trim_24, rM_trim_25, rM_trim_26, rM_trim_27, rM_trim_28, rM_trim_29, rM_trim_32, rM_trim_33, rM_trim_36, rM_trim_37, rM_trim_38, rM_trim_39, rM_trim_40, rM_trim_41, rM_trim_42, Bool.false_eq_true, true_implies, false_implies, implies_true, true_and, and_true, not_true_eq_false, not_false_eq_true, zPush_I, zPush_L, zPush_R, zPush_U, Int.reduceLT, Int.reduceLE, Int.reduceEq, Int.reduceNe, Int.reduceAdd, Int.reduceSub, Int.reduceMul, Int.reduceNeg, Int.reduceToNat, Nat.reduceAdd, Nat.reduceMul, Nat.reduceEqDiff, zw32_id, zw64_id, zupd_eq, zupd_na, zupd_ni, zupp_eq, zupp_na, zupp_ni, p127, p128, hs, show (0 : Int) < ((n + 1 : Nat) : Int) by omega, e1, e2, h0, zcmp_eq, zcmp_lt]
      have hm : mRw (zupd m 128 s (n : Int)) s = mRw m s := mRw_na _ _ _ _ (by decide)
      refine ih _ (by omega) (zupd_eq _ _ _ _) (fun k a b => by rw [hm]; exact hr k a (by push_cast; omega)) ?_ (frP_up hf ⟨rfl, rfl⟩)
      rw [hm, ← hv, bV_s]
      have : mRw m s (n : Int) = 0 := h0
      rw [this]
      simp
    · simp (disch := first | assumption | omega) only [rM_trim_1, rM_trim_4, rM_trim_5, rM_trim_6, rM_trim_9, rM_trim_10, rM_trim_13, rM_trim_15, rM_trim_16, rM_trim_17, rM_trim_18, rM_trim_21, rM_trim_22, rM_trim_23, rM_trim_24, rM_trim_25, rM_trim_26, rM_trim_27, rM_trim_28, rM_trim_29, rM_trim_32, rM_trim_33, rM_trim_36, rM_trim_37, rM_trim_38, rM_trim_39, rM_trim_40, rM_trim_41, rM_trim_42, rM_trim_45, Bool.false_eq_true, true_implies, false_implies, implies_true, true_and, and_true, not_true_eq_false, not_false_eq_true, zPush_I, zPush_L, zPush_R, zPush_U, Int.reduceLT, Int.reduceLE, Int.reduceEq, Int.reduceNe, Int.reduceAdd, Int.reduceSub, Int.reduceMul, Int.reduceNeg, Int.reduceToNat, Nat.reduceAdd, Nat.reduceMul, Nat.reduceEqDiff, zw32_id, zw64_id, zupd_eq, zupd_na, zupd_ni, zupp_eq, zupp_na, zupp_ni, p127, p128, hs, show (0 : Int) < ((n + 1 : Nat) : Int) by omega, e1, h0, zcmp_eq, zcmp_lt]
      refine hQ m ⟨by rw [hs]; omega, fun k a b => by rw [hs] at b; exact hr k a b, fun hp => ?_, ?_⟩ hf
      · rw [hs, e2]; exact h0
      · rw [hs]; exact hv
theorem mCopy (h : zLy sh pp) {t : Int} (s0 : 0 ≤ s) (s7 : s ≤ 7) (t0 : 0 ≤ t) (t7 : t ≤ 7) (hst : t ≠ s) (hB : mB t v mm) (hl : v < 1766847064778384329583297500742918515827483896875618958121606201292619776) (hQ : ∀ m, mB s v m → frP (pMb s) mm m → Q zU sh pp m) : zS 156 0 [zR 122, zI s, zI t, zU] [] sh pp mm Q := by
  have k122 := k_122 h
  have k127 := k_127 h
  have l127 := l_127 h
  have p127 := p_122_4 h
  have k128 := k_128 h
  have l128 := l_128 h
  have p128 := p_122_5 h
  obtain ⟨hs, n0, n8⟩ := mB_sz hB hl
  have key : ∀ i, 0 ≤ i → i ≤ nlim v → ∀ m, (∀ k, 0 ≤ k → k < i → mRw m s k = mRw mm t k) → frP (pMb s) mm m → zS 156 2 [zR 122, zI s, zI t, zI i] [] sh pp m Q := by
    refine zdn ?_ ?_
    · intro m hm hf
      have e1 : m 128 t = nlim v := by rw [hf _ _ (by unfold pMb; omega)]; exact hs
      rw [rM_copy_2]
      simp (disch := first | assumption | omega) only [rM_copy_3, rM_copy_4, rM_copy_7, rM_copy_8, rM_copy_9, rM_copy_12, rM_copy_13, rM_copy_16, rM_copy_18, rM_copy_19, rM_copy_20, rM_copy_21, rM_copy_22, rM_copy_23, rM_copy_26, rM_copy_28, rM_copy_29, rM_copy_30, rM_copy_31, rM_copy_32, rM_copy_33, rM_copy_34, rM_copy_37, rM_copy_40, rM_copy_41, rM_copy_44, rM_copy_45, rM_copy_46, rM_copy_49, rM_copy_50, rM_copy_51, rM_copy_52, Bool.false_eq_true, true_implies, false_implies, implies_true, true_and, and_true, not_true_eq_false, not_false_eq_true, zPush_I, zPush_L, zPush_R, zPush_U, Int.reduceLT, Int.reduceLE, Int.reduceEq, Int.reduceNe, Int.reduceAdd, Int.reduceSub, Int.reduceMul, Int.reduceNeg, Int.reduceToNat, Nat.reduceAdd, Nat.reduceMul, Nat.reduceEqDiff, zw32_id, zw64_id, zupd_eq, zupd_na, zupd_ni, zupp_eq, zupp_na, zupp_ni, p127, p128, e1, Int.lt_irrefl]
      have hm2 : mRw (zupd m 128 s (nlim v)) s = mRw m s := mRw_na _ _ _ _ (by decide)
      refine hQ _ ?_ (frP_up hf (Or.inr ⟨rfl, rfl⟩))
      obtain ⟨b1, b2, b3, b4⟩ := hB
      rw [hs] at b1 b2 b3 b4
      unfold mB bR
      rw [hm2, zupd_eq]
      refine ⟨b1, fun k a b => by rw [hm k a b]; exact b2 k a b, fun hp => by rw [hm _ (by omega) (by omega)]; exact b3 hp, ?_⟩
      rw [← b4]
      exact bV_ext _ (fun k a b => hm k a (by omega))
    · intro i i0 i1 ih m hm hf
      have e1 : m 128 t = nlim v := by rw [hf _ _ (by unfold pMb; omega)]; exact hs
      have e2 : m 127 (64 * t + i) = mRw mm t i := hf _ _ (by unfold pMb; omega)
      rw [rM_copy_2]
      simp (disch := first | assumption | omega) only [rM_copy_3, rM_copy_4, rM_copy_7, rM_copy_8, rM_copy_9, rM_copy_12, rM_copy_13, rM_copy_16, rM_copy_18, rM_copy_19, rM_copy_20, rM_copy_21, rM_copy_22, rM_copy_23, rM_copy_26, rM_copy_28, rM_copy_29, rM_copy_30, rM_copy_31, rM_copy_32, rM_copy_33, rM_copy_34, rM_copy_37, Bool.false_eq_true, true_implies, false_implies, implies_true, true_and, and_true, not_true_eq_false, not_false_eq_true, zPush_I, zPush_L, zPush_R, zPush_U, Int.reduceLT, Int.reduceLE, Int.reduceEq, Int.reduceNe, Int.reduceAdd, Int.reduceSub, Int.reduceMul, Int.reduceNeg, Int.reduceToNat, Nat.reduceAdd, Nat.reduceMul, Nat.reduceEqDiff, zw32_id, zw64_id, zupd_eq, zupd_na, zupd_ni, zupp_eq, zupp_na, zupp_ni, p127, p128, e1, i1, e2]
      refine ih _ (fun k k0 k1 => ?_) (frP_up hf (Or.inl ⟨rfl, by omega, by omega⟩))
      rw [mRw_up]
      by_cases e : k = i
      · rw [e, fup_eq]
      · rw [fup_ne e]; exact hm k k0 (by omega)
  simp (disch := first | assumption | omega) only [rM_copy_0, rM_copy_1, Bool.false_eq_true, true_implies, false_implies, implies_true, true_and, and_true, not_true_eq_false, not_false_eq_true, zPush_I, zPush_L, zPush_R, zPush_U, Int.reduceLT, Int.reduceLE, Int.reduceEq, Int.reduceNe, Int.reduceAdd, Int.reduceSub, Int.reduceMul, Int.reduceNeg, Int.reduceToNat, Nat.reduceAdd, Nat.reduceMul, Nat.reduceEqDiff, zw32_id, zw64_id, zupd_eq, zupd_na, zupd_ni, zupp_eq, zupp_na, zupp_ni]
  exact key 0 (by decide) n0 mm (fun k a b => by omega) (frP_rf _ _)
theorem mSet (h : zLy sh pp) (s0 : 0 ≤ s) (s7 : s ≤ 7) {t : Nat} (ht : t = 0 ∨ t = 1 ∨ t = 3) (hQ : ∀ m, mB s t m → frP (pMb s) mm m → Q zU sh pp m) : zS 155 0 [zR 122, zI s, zL t, zU, zU, zU] [] sh pp mm Q := by
  have k122 := k_122 h
  have k127 := k_127 h
  have l127 := l_127 h
  have p127 := p_122_4 h
  have k128 := k_128 h
  have l128 := l_128 h
  have p128 := p_122_5 h
  have one : ∀ t : Nat, t = 1 ∨ t = 3 → mB s t (zupd (zupd (zupd mm 128 s 0) 127 (64 * s) (t : Int)) 128 s 1) := by
    intro t ht
    unfold mB bR
    rw [zupd_eq]
    have e : mRw (zupd (zupd (zupd mm 128 s 0) 127 (64 * s) (t : Int)) 128 s 1) s 0 = (t : Int) := by
      unfold mRw
      rw [Int.add_zero, zupd_na (by decide), zupd_eq]
    refine ⟨by decide, fun k a b => ?_, fun _ => ?_, ?_⟩
    · rw [show k = 0 by omega, e]; omega
    · rw [show (1 : Int) - 1 = 0 by decide, e]; omega
    · show 0 + mRw _ s ((0 : Nat) : Int) * 2 ^ (30 * 0) = (t : Int)
      rw [show ((0 : Nat) : Int) = 0 from rfl, e]
      simp
  have fr1 : ∀ z : Int, frP (pMb s) mm (zupd (zupd (zupd mm 128 s 0) 127 (64 * s) z) 128 s 1) := fun z => frP_up (frP_up (frP_up (frP_rf _ _) (Or.inr ⟨rfl, rfl⟩)) (Or.inl ⟨rfl, by omega, by omega⟩)) (Or.inr ⟨rfl, rfl⟩)
  rcases ht with rfl | rfl | rfl
  · simp (disch := first | assumption | omega) only [rM_set_0, rM_set_1, rM_set_3, rM_set_4, rM_set_7, rM_set_8, rM_set_9, Bool.false_eq_true, true_implies, false_implies, implies_true, true_and, and_true, not_true_eq_false, not_false_eq_true, zPush_I, zPush_L, zPush_R, zPush_U, Int.reduceLT, Int.reduceLE, Int.reduceEq, Int.reduceNe, Int.reduceAdd, Int.reduceSub, Int.reduceMul, Int.reduceNeg, Int.reduceToNat, Nat.reduceAdd, Nat.reduceMul, Nat.reduceEqDiff, zw32_id, zw64_id, zupd_eq, zupd_na, zupd_ni, zupp_eq, zupp_na, zupp_ni, p128]
    rw [rM_set_10]
    simp (disch := first | assumption | omega) only [rM_set_12, rM_set_13, rM_set_14, rM_set_17, rM_set_18, rM_set_21, rM_set_23, rM_set_24, rM_set_25, rM_set_26, rM_set_29, rM_set_30, rM_set_31, rM_set_32, rM_set_34, rM_set_37, rM_set_38, rM_set_39, rM_set_41, rM_set_44, rM_set_45, rM_set_47, rM_set_48, rM_set_51, rM_set_52, rM_set_53, rM_set_54, rM_set_55, rM_set_56, rM_set_57, rM_set_60, Bool.false_eq_true, true_implies, false_implies, implies_true, true_and, and_true, not_true_eq_false, not_false_eq_true, zPush_I, zPush_L, zPush_R, zPush_U, Int.reduceLT, Int.reduceLE, Int.reduceEq, Int.reduceNe, Int.reduceAdd, Int.reduceSub, Int.reduceMul, Int.reduceNeg, Int.reduceToNat, Nat.reduceAdd, Nat.reduceMul, Nat.reduceEqDiff, zw32_id, zw64_id, zupd_eq, zupd_na, zupd_ni, zupp_eq, zupp_na, zupp_ni, zcmp_gt, zcmp_lt, show ¬ (0 : Int) < ((0 : Nat) : Int) by omega]
    refine hQ _ ⟨by rw [zupd_eq]; decide, fun k a b => by rw [zupd_eq] at b; omega, fun hp => by rw [zupd_eq] at hp; omega, by rw [zupd_eq]; rfl⟩ (frP_up (frP_rf _ _) (Or.inr ⟨rfl, rfl⟩))
  · simp (disch := first | assumption | omega) only [rM_set_0, rM_set_1, rM_set_3, rM_set_4, rM_set_7, rM_set_8, rM_set_9, Bool.false_eq_true, true_implies, false_implies, implies_true, true_and, and_true, not_true_eq_false, not_false_eq_true, zPush_I, zPush_L, zPush_R, zPush_U, Int.reduceLT, Int.reduceLE, Int.reduceEq, Int.reduceNe, Int.reduceAdd, Int.reduceSub, Int.reduceMul, Int.reduceNeg, Int.reduceToNat, Nat.reduceAdd, Nat.reduceMul, Nat.reduceEqDiff, zw32_id, zw64_id, zupd_eq, zupd_na, zupd_ni, zupp_eq, zupp_na, zupp_ni, p128]
    rw [rM_set_10]
    simp (disch := first | assumption | omega) only [rM_set_12, rM_set_13, rM_set_14, rM_set_17, rM_set_18, rM_set_21, rM_set_23, rM_set_24, rM_set_25, rM_set_26, rM_set_29, rM_set_30, rM_set_31, rM_set_32, rM_set_34, rM_set_37, rM_set_38, rM_set_39, rM_set_41, rM_set_44, rM_set_45, rM_set_47, rM_set_48, rM_set_51, rM_set_52, rM_set_53, rM_set_54, rM_set_55, rM_set_56, rM_set_57, Bool.false_eq_true, true_implies, false_implies, implies_true, true_and, and_true, not_true_eq_false, not_false_eq_true, zPush_I, zPush_L, zPush_R, zPush_U, Int.reduceLT, Int.reduceLE, Int.reduceEq, Int.reduceNe, Int.reduceAdd, Int.reduceSub, Int.reduceMul, Int.reduceNeg, Int.reduceToNat, Nat.reduceAdd, Nat.reduceMul, Nat.reduceEqDiff, zw32_id, zw64_id, zupd_eq, zupd_na, zupd_ni, zupp_eq, zupp_na, zupp_ni, zcmp_gt, zcmp_lt, show (0 : Int) < ((1 : Nat) : Int) by omega, p127, p128, Int.add_zero, show ((1 : Nat) : Int).tmod 1073741824 = ((1 : Nat) : Int) by decide, show zw64 (((1 : Nat) : Int).tdiv 1073741824) = 0 by decide]
    rw [rM_set_10]
    simp (disch := first | assumption | omega) only [rM_set_12, rM_set_13, rM_set_14, rM_set_17, rM_set_18, rM_set_21, rM_set_23, rM_set_24, rM_set_25, rM_set_26, rM_set_29, rM_set_30, rM_set_31, rM_set_32, rM_set_34, rM_set_37, rM_set_38, rM_set_39, rM_set_41, rM_set_44, rM_set_45, rM_set_47, rM_set_48, rM_set_51, rM_set_52, rM_set_53, rM_set_54, rM_set_55, rM_set_56, rM_set_57, rM_set_60, Bool.false_eq_true, true_implies, false_implies, implies_true, true_and, and_true, not_true_eq_false, not_false_eq_true, zPush_I, zPush_L, zPush_R, zPush_U, Int.reduceLT, Int.reduceLE, Int.reduceEq, Int.reduceNe, Int.reduceAdd, Int.reduceSub, Int.reduceMul, Int.reduceNeg, Int.reduceToNat, Nat.reduceAdd, Nat.reduceMul, Nat.reduceEqDiff, zw32_id, zw64_id, zupd_eq, zupd_na, zupd_ni, zupp_eq, zupp_na, zupp_ni, zcmp_gt, zcmp_lt]
    exact hQ _ (one 1 (Or.inl rfl)) (fr1 _)
  · simp (disch := first | assumption | omega) only [rM_set_0, rM_set_1, rM_set_3, rM_set_4, rM_set_7, rM_set_8, rM_set_9, Bool.false_eq_true, true_implies, false_implies, implies_true, true_and, and_true, not_true_eq_false, not_false_eq_true, zPush_I, zPush_L, zPush_R, zPush_U, Int.reduceLT, Int.reduceLE, Int.reduceEq, Int.reduceNe, Int.reduceAdd, Int.reduceSub, Int.reduceMul, Int.reduceNeg, Int.reduceToNat, Nat.reduceAdd, Nat.reduceMul, Nat.reduceEqDiff, zw32_id, zw64_id, zupd_eq, zupd_na, zupd_ni, zupp_eq, zupp_na, zupp_ni, p128]
    rw [rM_set_10]
    simp (disch := first | assumption | omega) only [rM_set_12, rM_set_13, rM_set_14, rM_set_17, rM_set_18, rM_set_21, rM_set_23, rM_set_24, rM_set_25, rM_set_26, rM_set_29, rM_set_30, rM_set_31, rM_set_32, rM_set_34, rM_set_37, rM_set_38, rM_set_39, rM_set_41, rM_set_44, rM_set_45, rM_set_47, rM_set_48, rM_set_51, rM_set_52, rM_set_53, rM_set_54, rM_set_55, rM_set_56, rM_set_57, Bool.false_eq_true, true_implies, false_implies, implies_true, true_and, and_true, not_true_eq_false, not_false_eq_true, zPush_I, zPush_L, zPush_R, zPush_U, Int.reduceLT, Int.reduceLE, Int.reduceEq, Int.reduceNe, Int.reduceAdd, Int.reduceSub, Int.reduceMul, Int.reduceNeg, Int.reduceToNat, Nat.reduceAdd, Nat.reduceMul, Nat.reduceEqDiff, zw32_id, zw64_id, zupd_eq, zupd_na, zupd_ni, zupp_eq, zupp_na, zupp_ni, zcmp_gt, zcmp_lt, show (0 : Int) < ((3 : Nat) : Int) by omega, p127, p128, Int.add_zero, show ((3 : Nat) : Int).tmod 1073741824 = ((3 : Nat) : Int) by decide, show zw64 (((3 : Nat) : Int).tdiv 1073741824) = 0 by decide]
    rw [rM_set_10]
    simp (disch := first | assumption | omega) only [rM_set_12, rM_set_13, rM_set_14, rM_set_17, rM_set_18, rM_set_21, rM_set_23, rM_set_24, rM_set_25, rM_set_26, rM_set_29, rM_set_30, rM_set_31, rM_set_32, rM_set_34, rM_set_37, rM_set_38, rM_set_39, rM_set_41, rM_set_44, rM_set_45, rM_set_47, rM_set_48, rM_set_51, rM_set_52, rM_set_53, rM_set_54, rM_set_55, rM_set_56, rM_set_57, rM_set_60, Bool.false_eq_true, true_implies, false_implies, implies_true, true_and, and_true, not_true_eq_false, not_false_eq_true, zPush_I, zPush_L, zPush_R, zPush_U, Int.reduceLT, Int.reduceLE, Int.reduceEq, Int.reduceNe, Int.reduceAdd, Int.reduceSub, Int.reduceMul, Int.reduceNeg, Int.reduceToNat, Nat.reduceAdd, Nat.reduceMul, Nat.reduceEqDiff, zw32_id, zw64_id, zupd_eq, zupd_na, zupd_ni, zupp_eq, zupp_na, zupp_ni, zcmp_gt, zcmp_lt]
    exact hQ _ (one 3 (Or.inr rfl)) (fr1 _)
theorem mTimes (h : zLy sh pp) (s0 : 0 ≤ s) (s7 : s ≤ 7) (hB : mB s v mm) (hl : v < 1766847064778384329583297500742918515827483896875618958121606201292619776) {t : Nat} (t1 : t ≤ 10) (hQ : ∀ m, mB s (v * t) m → frP (pMb s) mm m → Q zU sh pp m) : zS 158 0 [zR 122, zI s, zL t, zU, zU, zU, zU, zU, zU] [] sh pp mm Q := by
  have k122 := k_122 h
  have k127 := k_127 h
  have l127 := l_127 h
  have p127 := p_122_4 h
  have k128 := k_128 h
  have l128 := l_128 h
  have p128 := p_122_5 h
  obtain ⟨hs, n0, n8⟩ := mB_sz hB hl
  obtain ⟨N, hN⟩ : ∃ N : Nat, nlim v = (N : Int) := ⟨(nlim v).toNat, by omega⟩
  rw [hN] at hs n8
  have hr := hB.2.1
  have hv := hB.2.2.2
  rw [hs] at hr hv
  rw [Int.toNat_natCast] at hv
  have key : ∀ (d i : Nat) (m : zMm) (c : Int), i + d = N → (∀ k, 0 ≤ k → k < (i : Int) → 0 ≤ mRw m s k ∧ mRw m s k < 1073741824) → (∀ k, (i : Int) ≤ k → mRw m s k = mRw mm s k) → bV (mRw m s) i + c * 2 ^ (30 * i) = (t : Int) * bV (mRw mm s) i → 0 ≤ c → c ≤ 10 → m 128 s = (N : Int) → frP (pMb s) mm m → zS 158 6 [zR 122, zI s, zL t, zU, zL c, zU, zI i, zU, zU] [] sh pp m Q := by
    intro d
    induction d with
    | zero =>
      intro i m c hi h1 h2 h3 c0 c1 hs' hf
      have hi : i = N := by omega
      subst hi
      rw [hv] at h3
      rw [rM_times_6]
      by_cases hc : 0 < c
      · simp (disch := first | assumption | omega) only [rM_times_8, rM_times_9, rM_times_12, rM_times_13, rM_times_14, rM_times_17, rM_times_18, rM_times_21, rM_times_23, rM_times_24, rM_times_25, rM_times_27, rM_times_28, rM_times_29, rM_times_30, rM_times_31, rM_times_33, rM_times_34, rM_times_36, rM_times_37, rM_times_40, rM_times_42, rM_times_43, rM_times_44, rM_times_46, rM_times_47, rM_times_49, rM_times_52, rM_times_53, rM_times_54, rM_times_56, rM_times_59, rM_times_60, rM_times_62, rM_times_65, rM_times_68, rM_times_70, rM_times_71, rM_times_72, rM_times_75, rM_times_76, rM_times_79, rM_times_81, rM_times_82, rM_times_83, rM_times_84, rM_times_87, rM_times_88, rM_times_89, rM_times_90, rM_times_92, rM_times_93, rM_times_94, rM_times_97, rM_times_98, rM_times_99, rM_times_100, rM_times_101, rM_times_102, rM_times_103, rM_times_104, rM_times_105, Bool.false_eq_true, true_implies, false_implies, implies_true, true_and, and_true, not_true_eq_false, not_false_eq_true, zPush_I, zPush_L, zPush_R, zPush_U, Int.reduceLT, Int.reduceLE, Int.reduceEq, Int.reduceNe, Int.reduceAdd, Int.reduceSub, Int.reduceMul, Int.reduceNeg, Int.reduceToNat, Nat.reduceAdd, Nat.reduceMul, Nat.reduceEqDiff, zw32_id, zw64_id, zupd_eq, zupd_na, zupd_ni, zupp_eq, zupp_na, zupp_ni, p127, p128, hs', Int.lt_irrefl, zcmp_gt, zcmp_lt, hc]
        have hm : mRw (zupd (zupd m 127 (64 * s + (i : Int)) c) 128 s ((i : Int) + 1)) s = fup (mRw m s) i c := by rw [mRw_na _ _ _ _ (by decide), mRw_up]
        refine mTrim (v := v * t) (mm := zupd (zupd m 127 (64 * s + (i : Int)) c) 128 s ((i : Int) + 1)) h s0 s7 (fun m2 g2 f2 => ?_) (i + 1) _ (by omega) (by rw [zupd_eq]; push_cast; rfl) (fun k a b => ?_) ?_ (frP_rf _ _)
        · simp (disch := first | assumption | omega) only [rM_times_108, Bool.false_eq_true, true_implies, false_implies, implies_true, true_and, and_true, not_true_eq_false, not_false_eq_true, zPush_I, zPush_L, zPush_R, zPush_U, Int.reduceLT, Int.reduceLE, Int.reduceEq, Int.reduceNe, Int.reduceAdd, Int.reduceSub, Int.reduceMul, Int.reduceNeg, Int.reduceToNat, Nat.reduceAdd, Nat.reduceMul, Nat.reduceEqDiff, zw32_id, zw64_id, zupd_eq, zupd_na, zupd_ni, zupp_eq, zupp_na, zupp_ni]
          exact hQ m2 g2 (frP_tr (frP_up (frP_up hf (Or.inl ⟨rfl, by omega, by omega⟩)) (Or.inr ⟨rfl, rfl⟩)) (frP_wd f2 (fun x j hj => Or.inr hj)))
        · rw [hm]
          by_cases e : k = (i : Int)
          · rw [e, fup_eq]; omega
          · rw [fup_ne e]; exact h1 k a (by push_cast at b; omega)
        · rw [hm, bV_s, bV_up i (Int.le_refl _), fup_eq, h3, Int.natCast_mul, Int.mul_comm]
      · have hc : c = 0 := by omega
        subst hc
        simp (disch := first | assumption | omega) only [rM_times_8, rM_times_9, rM_times_12, rM_times_13, rM_times_14, rM_times_17, rM_times_18, rM_times_21, rM_times_23, rM_times_24, rM_times_25, rM_times_27, rM_times_28, rM_times_29, rM_times_30, rM_times_31, rM_times_33, rM_times_34, rM_times_36, rM_times_37, rM_times_40, rM_times_42, rM_times_43, rM_times_44, rM_times_46, rM_times_47, rM_times_49, rM_times_52, rM_times_53, rM_times_54, rM_times_56, rM_times_59, rM_times_60, rM_times_62, rM_times_65, rM_times_68, rM_times_70, rM_times_71, rM_times_72, rM_times_75, rM_times_76, rM_times_79, rM_times_81, rM_times_82, rM_times_83, rM_times_84, rM_times_87, rM_times_88, rM_times_89, rM_times_90, rM_times_92, rM_times_93, rM_times_94, rM_times_97, rM_times_98, rM_times_99, rM_times_100, rM_times_101, rM_times_102, rM_times_103, rM_times_104, rM_times_105, Bool.false_eq_true, true_implies, false_implies, implies_true, true_and, and_true, not_true_eq_false, not_false_eq_true, zPush_I, zPush_L, zPush_R, zPush_U, Int.reduceLT, Int.reduceLE, Int.reduceEq, Int.reduceNe, Int.reduceAdd, Int.reduceSub, Int.reduceMul, Int.reduceNeg, Int.reduceToNat, Nat.reduceAdd, Nat.reduceMul, Nat.reduceEqDiff, zw32_id, zw64_id, zupd_eq, zupd_na, zupd_ni, zupp_eq, zupp_na, zupp_ni, p127, p128, hs', Int.lt_irrefl, zcmp_gt, zcmp_lt]
        refine mTrim (v := v * t) (mm := m) h s0 s7 (fun m2 g2 f2 => ?_) i m (by omega) hs' h1 ?_ (frP_rf _ _)
        · simp (disch := first | assumption | omega) only [rM_times_108, Bool.false_eq_true, true_implies, false_implies, implies_true, true_and, and_true, not_true_eq_false, not_false_eq_true, zPush_I, zPush_L, zPush_R, zPush_U, Int.reduceLT, Int.reduceLE, Int.reduceEq, Int.reduceNe, Int.reduceAdd, Int.reduceSub, Int.reduceMul, Int.reduceNeg, Int.reduceToNat, Nat.reduceAdd, Nat.reduceMul, Nat.reduceEqDiff, zw32_id, zw64_id, zupd_eq, zupd_na, zupd_ni, zupp_eq, zupp_na, zupp_ni]
          exact hQ m2 g2 (frP_tr hf (frP_wd f2 (fun x j hj => Or.inr hj)))
        · rw [Int.natCast_mul, Int.mul_comm]
          omega
    | succ d ih =>
      intro i m c hi h1 h2 h3 c0 c1 hs' hf
      have hl := hr (i : Int) (by omega) (by omega)
      have hi2 := h2 (i : Int) (by omega)
      obtain ⟨l, hl'⟩ : ∃ l, mRw mm s (i : Int) = l := ⟨_, rfl⟩
      rw [hl'] at hl hi2
      have hi3 : m 127 (64 * s + (i : Int)) = l := hi2
      have hb := mul_bd (x := l) (y := (t : Int)) (a := 1073741823) (b := 10) hl.1 (by omega) (by omega) (by omega)
      have hst := stMul (X := l * t + c) rfl h3
      obtain ⟨X, hX⟩ : ∃ X, l * (t : Int) + c = X := ⟨_, rfl⟩
      rw [hX] at hst
      have hXb : 0 ≤ X ∧ X ≤ 20737418240 := by omega
      have hXc : X / 1073741824 ≤ 10 := by omega
      rw [rM_times_6]
      simp (disch := first | assumption | omega) only [rM_times_8, rM_times_9, rM_times_12, rM_times_13, rM_times_14, rM_times_17, rM_times_18, rM_times_21, rM_times_23, rM_times_24, rM_times_25, rM_times_27, rM_times_28, rM_times_29, rM_times_30, rM_times_31, rM_times_33, rM_times_34, rM_times_36, rM_times_37, rM_times_40, rM_times_42, rM_times_43, rM_times_44, rM_times_46, rM_times_47, rM_times_49, rM_times_52, rM_times_53, rM_times_54, rM_times_56, rM_times_59, rM_times_60, rM_times_62, rM_times_65, Bool.false_eq_true, true_implies, false_implies, implies_true, true_and, and_true, not_true_eq_false, not_false_eq_true, zPush_I, zPush_L, zPush_R, zPush_U, Int.reduceLT, Int.reduceLE, Int.reduceEq, Int.reduceNe, Int.reduceAdd, Int.reduceSub, Int.reduceMul, Int.reduceNeg, Int.reduceToNat, Nat.reduceAdd, Nat.reduceMul, Nat.reduceEqDiff, zw32_id, zw64_id, zupd_eq, zupd_na, zupd_ni, zupp_eq, zupp_na, zupp_ni, p127, p128, hs', show (i : Int) < (N : Int) by omega, hi3, hX, ltm, ltd]
      have := ih (i + 1) (zupd m 127 (64 * s + (i : Int)) (X % 1073741824)) (X / 1073741824) (by omega) (fun k k0 k1 => ?_) (fun k k0 => ?_) ?_ (by omega) hXc (by rw [zupd_na (by decide)]; exact hs') (frP_up hf (Or.inl ⟨rfl, by omega, by omega⟩))
      · push_cast at this
        exact this
      · rw [mRw_up]
        by_cases e : k = (i : Int)
        · rw [e, fup_eq]; omega
        · rw [fup_ne e]; exact h1 k k0 (by push_cast at k1; omega)
      · rw [mRw_up, fup_ne (by push_cast at k0; omega)]; exact h2 k (by push_cast at k0; omega)
      · rw [mRw_up, bV_s, bV_s, bV_up i (Int.le_refl _), fup_eq, hl', two30]
        exact hst
  simp (disch := first | assumption | omega) only [rM_times_0, rM_times_1, rM_times_3, rM_times_4, Bool.false_eq_true, true_implies, false_implies, implies_true, true_and, and_true, not_true_eq_false, not_false_eq_true, zPush_I, zPush_L, zPush_R, zPush_U, Int.reduceLT, Int.reduceLE, Int.reduceEq, Int.reduceNe, Int.reduceAdd, Int.reduceSub, Int.reduceMul, Int.reduceNeg, Int.reduceToNat, Nat.reduceAdd, Nat.reduceMul, Nat.reduceEqDiff, zw32_id, zw64_id, zupd_eq, zupd_na, zupd_ni, zupp_eq, zupp_na, zupp_ni]
  exact key N 0 mm 0 (by omega) (fun k a b => by omega) (fun k _ => rfl) (by simp [bV]) (by decide) (by decide) hs (frP_rf _ _)
end
