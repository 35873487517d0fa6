/-! ===== the reference's plain calls ===== -/
def oClear (f cn : Int → Int) (p : Int) : (Int → Int) × (Int → Int) × Int := if 0 ≤ p ∧ p ≤ 3 then (fup f (9 + 121 * p) 0, cn, f (9 + 121 * p)) else (f, bump cn 0, -2)
def oWish (f cn : Int → Int) (x y : Int) : (Int → Int) × (Int → Int) × Int := if (-23 ≤ x ∧ x ≤ 23) ∧ (-15 ≤ y ∧ y ≤ 15) ∧ ¬ (x = 0 ∧ y = 0) then (if f 981 = 12 then (f, bump cn 2, -4) else (fup (fup (fup f (493 + 2 * f 981) x) (493 + 2 * f 981 + 1) y) 981 (f 981 + 1), cn, f 981)) else (f, bump cn 0, -2)
def oForget (f cn : Int → Int) : (Int → Int) × (Int → Int) × Int := (fup f 981 0, cn, f 981)
def oCorner (f cn : Int → Int) (x y : Int) : (Int → Int) × (Int → Int) × Int := if (0 ≤ x ∧ x ≤ 23) ∧ (0 ≤ y ∧ y ≤ 15) then (if f 982 = 10 then (f, bump cn 2, -4) else (fup (fup (fup f (517 + 2 * f 982) x) (517 + 2 * f 982 + 1) y) 982 (f 982 + 1), cn, f 982)) else (f, bump cn 0, -2)
def oEdge (f cn : Int → Int) (a b w : Int) : (Int → Int) × (Int → Int) × Int := if (0 ≤ a ∧ a ≤ f 982 - 1) ∧ (0 ≤ b ∧ b ≤ f 982 - 1) ∧ ¬ a = b then (if f 983 = 12 then (f, bump cn 2, -4) else (fup (fup (fup (fup f (537 + 3 * f 983) a) (537 + 3 * f 983 + 1) b) (537 + 3 * f 983 + 2) w) 983 (f 983 + 1), cn, f 983)) else (f, bump cn 0, -2)
def oUnnet (f cn : Int → Int) : (Int → Int) × (Int → Int) × Int := (fup (fup f 983 0) 982 0, cn, f 983)
def oTest (f cn : Int → Int) (k m w : Int) : (Int → Int) × (Int → Int) × Int := if (0 ≤ k ∧ k ≤ 1) ∧ (1 ≤ m ∧ m ≤ 40) ∧ (0 ≤ w ∧ w ≤ m) then (if f 984 = 8 then (f, bump cn 2, -4) else (fup (fup (fup (fup f (957 + 3 * f 984) k) (957 + 3 * f 984 + 1) m) (957 + 3 * f 984 + 2) w) 984 (f 984 + 1), cn, f 984)) else (f, bump cn 0, -2)
def cntOf (f : Int → Int) (what : Int) : Int := if what < 5 then f (981 + what) else f (9 + 121 * (what - 5))
/-- the ranges of what an image keeps -/
def fOk (f : Int → Int) : Prop := (∀ i, 0 ≤ i → i ≤ 8 → loN i ≤ f i ∧ f i ≤ hiN i) ∧ (∀ p, 0 ≤ p → p ≤ 3 → 0 ≤ f (9 + 121 * p) ∧ f (9 + 121 * p) ≤ 120 ∧ ∀ k, 0 ≤ k → k < f (9 + 121 * p) → 0 ≤ f (9 + 121 * p + 1 + k) ∧ f (9 + 121 * p + 1 + k) ≤ 255) ∧ (0 ≤ f 981 ∧ f 981 ≤ 12 ∧ ∀ k, 0 ≤ k → k < 2 * f 981 → -23 ≤ f (493 + k) ∧ f (493 + k) ≤ 23) ∧ (0 ≤ f 982 ∧ f 982 ≤ 10 ∧ ∀ k, 0 ≤ k → k < f 982 → (0 ≤ f (517 + 2 * k) ∧ f (517 + 2 * k) ≤ 23) ∧ 0 ≤ f (517 + 2 * k + 1) ∧ f (517 + 2 * k + 1) ≤ 15) ∧ (0 ≤ f 983 ∧ f 983 ≤ 12 ∧ ∀ k, 0 ≤ k → k < f 983 → (0 ≤ f (537 + 3 * k) ∧ f (537 + 3 * k) < f 982) ∧ (0 ≤ f (537 + 3 * k + 1) ∧ f (537 + 3 * k + 1) < f 982) ∧ f (537 + 3 * k) ≠ f (537 + 3 * k + 1) ∧ (f (537 + 3 * k + 2) = 0 ∨ f (537 + 3 * k + 2) = 1)) ∧ (0 ≤ f 984 ∧ f 984 ≤ 8 ∧ ∀ k, 0 ≤ k → k < f 984 → (0 ≤ f (957 + 3 * k) ∧ f (957 + 3 * k) ≤ 1) ∧ (1 ≤ f (957 + 3 * k + 1) ∧ f (957 + 3 * k + 1) ≤ 40) ∧ 0 ≤ f (957 + 3 * k + 2) ∧ f (957 + 3 * k + 2) ≤ f (957 + 3 * k + 1)) ∧ (0 ≤ f 985 ∧ f 985 ≤ 60) ∧ ∀ k, 0 ≤ k → k < 384 → -1 ≤ f (573 + k) ∧ f (573 + k) ≤ 1
section
variable {sh : zSh} {pp : zPp} {mm : zMm} {Q : zV → zSh → zPp → zMm → Prop} {f : Int → Int} {G : Int → Option (Int → Int)} {cn : Int → Int} {N D : Nat}
theorem mClear (h : zLy sh pp) (hm : mOk f G cn N D mm) {p : Int} (hQ : ∀ mm', mOk (oClear f cn p).1 G (oClear f cn p).2.1 N D mm' → frC mm mm' → Q (zI (oClear f cn p).2.2) sh pp mm') : zS 178 0 [zR 122, zI p, zU] [] sh pp mm Q := by
  have k122 := k_122 h
  have k123 := k_123 h
  have l123 := l_123 h
  have p123 := p_122_0 h
  have k126 := k_126 h
  have l126 := l_126 h
  have p126 := p_122_3 h
  simp +contextual (disch := first | assumption | omega) only [rM_clear_0, rM_clear_1, rM_clear_4, rM_clear_7, rM_clear_8, rM_clear_10, rM_clear_13, rM_clear_14, rM_clear_15, rM_clear_18, rM_clear_20, rM_clear_22, rM_clear_23, rM_clear_24, rM_clear_25, rM_clear_26, rM_clear_27, rM_clear_28, rM_clear_31, rM_clear_33, rM_clear_35, rM_clear_36, rM_clear_37, rM_clear_38, rM_clear_39, rM_clear_40, rM_clear_41, rM_bad_0, rM_bad_1, rM_bad_4, rM_bad_5, rM_bad_6, rM_bad_7, rM_bad_8, rM_bad_9, rM_bad_10, rM_bad_11, kM_isProgram, Bool.false_eq_true, true_implies, false_implies, implies_true, true_and, and_true, not_true_eq_false, not_false_eq_true, zPush_I, zPush_L, zPush_R, zPush_U, Int.reduceLT, Int.reduceLE, Int.reduceEq, Int.reduceNe, Int.reduceAdd, Int.reduceSub, Int.reduceMul, Int.reduceNeg, Int.reduceToNat, Nat.reduceAdd, Nat.reduceMul, Nat.reduceEqDiff, zw32_id, zw64_id, zupd_eq, zupd_na, zupd_ni, zupp_eq, zupp_na, zupp_ni, p123, p126]
  refine ⟨fun h1 => ?_, fun h1 => ?_⟩
  · have e : oClear f cn p = (fup f (9 + 121 * p) 0, cn, f (9 + 121 * p)) := if_pos h1
    rw [e] at hQ
    have h2 := hm.1 (9 + 121 * p) (by omega) (by omega)
    simp only [Int.zero_add] at *
    rw [h2]
    exact hQ _ (mOk_now hm (by omega) (by omega)) (frC_up (frC_rf mm) (by decide) (by decide))
  · have e : oClear f cn p = (f, bump cn 0, -2) := if_neg h1
    rw [e] at hQ
    exact hQ _ (mOk_ref hm (by decide) (by decide)) (frC_up (frC_rf mm) (by decide) (by decide))
theorem mForget (h : zLy sh pp) (hm : mOk f G cn N D mm) (hQ : ∀ mm', mOk (oForget f cn).1 G (oForget f cn).2.1 N D mm' → frC mm mm' → Q (zI (oForget f cn).2.2) sh pp mm') : zS 206 0 [zR 122, zU] [] sh pp mm Q := by
  have k122 := k_122 h
  have k123 := k_123 h
  have l123 := l_123 h
  have p123 := p_122_0 h
  simp +contextual (disch := first | assumption | omega) only [rM_forget_0, rM_forget_1, rM_forget_2, rM_forget_5, rM_forget_6, rM_forget_7, rM_forget_10, rM_forget_13, rM_forget_14, rM_forget_15, rM_forget_16, rM_many_0, rM_many_1, rM_many_4, rM_many_7, rM_many_8, rM_many_9, rM_many_10, Bool.false_eq_true, true_implies, false_implies, implies_true, true_and, and_true, not_true_eq_false, not_false_eq_true, zPush_I, zPush_L, zPush_R, zPush_U, Int.reduceLT, Int.reduceLE, Int.reduceEq, Int.reduceNe, Int.reduceAdd, Int.reduceSub, Int.reduceMul, Int.reduceNeg, Int.reduceToNat, Nat.reduceAdd, Nat.reduceMul, Nat.reduceEqDiff, zw32_id, zw64_id, zupd_eq, zupd_na, zupd_ni, zupp_eq, zupp_na, zupp_ni, p123]
  rw [hm.1 981 (by decide) (by decide)]
  exact hQ _ (mOk_now hm (by decide) (by decide)) (frC_up (frC_rf mm) (by decide) (by decide))
theorem mUnnet (h : zLy sh pp) (hm : mOk f G cn N D mm) (hQ : ∀ mm', mOk (oUnnet f cn).1 G (oUnnet f cn).2.1 N D mm' → frC mm mm' → Q (zI (oUnnet f cn).2.2) sh pp mm') : zS 211 0 [zR 122, zU] [] sh pp mm Q := by
  have k122 := k_122 h
  have k123 := k_123 h
  have l123 := l_123 h
  have p123 := p_122_0 h
  simp +contextual (disch := first | assumption | omega) only [rM_unnet_0, rM_unnet_1, rM_unnet_2, rM_unnet_5, rM_unnet_6, rM_unnet_7, rM_unnet_10, rM_unnet_13, rM_unnet_14, rM_unnet_15, rM_unnet_16, rM_unnet_19, rM_unnet_22, rM_unnet_23, rM_unnet_24, rM_unnet_25, rM_many_0, rM_many_1, rM_many_4, rM_many_7, rM_many_8, rM_many_9, rM_many_10, Bool.false_eq_true, true_implies, false_implies, implies_true, true_and, and_true, not_true_eq_false, not_false_eq_true, zPush_I, zPush_L, zPush_R, zPush_U, Int.reduceLT, Int.reduceLE, Int.reduceEq, Int.reduceNe, Int.reduceAdd, Int.reduceSub, Int.reduceMul, Int.reduceNeg, Int.reduceToNat, Nat.reduceAdd, Nat.reduceMul, Nat.reduceEqDiff, zw32_id, zw64_id, zupd_eq, zupd_na, zupd_ni, zupp_eq, zupp_na, zupp_ni, p123]
  rw [hm.1 983 (by decide) (by decide)]
  exact hQ _ (mOk_now (mOk_now hm (by decide) (by decide)) (by decide) (by decide)) (frC_up (frC_up (frC_rf mm) (by decide) (by decide)) (by decide) (by decide))
theorem mWish (h : zLy sh pp) (hm : mOk f G cn N D mm) (hf : fOk f) {x y : Int} (hQ : ∀ mm', mOk (oWish f cn x y).1 G (oWish f cn x y).2.1 N D mm' → frC mm mm' → Q (zI (oWish f cn x y).2.2) sh pp mm') : zS 205 0 [zR 122, zI x, zI y, zU] [] sh pp mm Q := by
  have k122 := k_122 h
  have k123 := k_123 h
  have l123 := l_123 h
  have p123 := p_122_0 h
  have k126 := k_126 h
  have l126 := l_126 h
  have p126 := p_122_3 h
  have e1 := hm.1 981 (by decide) (by decide)
  have b1 : 0 ≤ f 981 := by have := hf; unfold fOk at this; omega
  have b2 : f 981 ≤ 12 := by have := hf; unfold fOk at this; omega
  have bad : ¬ ((-23 ≤ x ∧ x ≤ 23) ∧ (-15 ≤ y ∧ y ≤ 15) ∧ ¬ (x = 0 ∧ y = 0)) → Q (zI (-2)) sh pp (zupd mm 126 0 (zw32 (mm 126 0 + 1))) := by
    intro hn
    have e : oWish f cn x y = (f, bump cn 0, -2) := if_neg hn
    rw [e] at hQ
    exact hQ _ (mOk_ref hm (by decide) (by decide)) (frC_up (frC_rf mm) (by decide) (by decide))
  have full : ((-23 ≤ x ∧ x ≤ 23) ∧ (-15 ≤ y ∧ y ≤ 15) ∧ ¬ (x = 0 ∧ y = 0)) → f 981 = 12 → Q (zI (-4)) sh pp (zupd mm 126 2 (zw32 (mm 126 2 + 1))) := by
    intro hn h12
    have e : oWish f cn x y = (f, bump cn 2, -4) := by unfold oWish; rw [if_pos hn, if_pos h12]
    rw [e] at hQ
    exact hQ _ (mOk_ref hm (by decide) (by decide)) (frC_up (frC_rf mm) (by decide) (by decide))
  have ok : ((-23 ≤ x ∧ x ≤ 23) ∧ (-15 ≤ y ∧ y ≤ 15) ∧ ¬ (x = 0 ∧ y = 0)) → ¬ f 981 = 12 → Q (zI (f 981)) sh pp (zupd (zupd (zupd mm 123 (493 + 2 * f 981) x) 123 (493 + 2 * f 981 + 1) y) 123 981 (f 981 + 1)) := by
    intro hn h12
    have e : oWish f cn x y = (fup (fup (fup f (493 + 2 * f 981) x) (493 + 2 * f 981 + 1) y) 981 (f 981 + 1), cn, f 981) := by unfold oWish; rw [if_pos hn, if_neg h12]
    rw [e] at hQ
    exact hQ _ (mOk_now (mOk_now (mOk_now hm (by omega) (by omega)) (by omega) (by omega)) (by omega) (by omega)) (frC_up (frC_up (frC_up (frC_rf mm) (by decide) (by decide)) (by decide) (by decide)) (by decide) (by decide))
  simp +contextual (disch := first | assumption | omega) only [rM_wish_0, rM_wish_1, rM_wish_2, rM_wish_5, rM_wish_8, rM_wish_11, rM_wish_14, rM_wish_15, rM_wish_16, rM_wish_19, rM_wish_22, rM_wish_25, rM_wish_28, rM_wish_29, rM_wish_32, rM_wish_33, rM_wish_36, rM_wish_37, rM_wish_39, rM_wish_42, rM_wish_43, rM_wish_44, rM_wish_45, rM_wish_48, rM_wish_49, rM_wish_50, rM_wish_52, rM_wish_55, rM_wish_56, rM_wish_59, rM_wish_60, rM_wish_61, rM_wish_64, rM_wish_67, rM_wish_68, rM_wish_69, rM_wish_70, rM_wish_71, rM_wish_72, rM_wish_73, rM_wish_74, rM_wish_77, rM_wish_80, rM_wish_81, rM_wish_82, rM_wish_83, rM_wish_84, rM_wish_85, rM_wish_86, rM_wish_87, rM_wish_88, rM_wish_89, rM_wish_92, rM_wish_95, rM_wish_96, rM_wish_97, rM_wish_98, rM_wish_99, rM_wish_100, rM_wish_101, rM_bad_0, rM_bad_1, rM_bad_4, rM_bad_5, rM_bad_6, rM_bad_7, rM_bad_8, rM_bad_9, rM_bad_10, rM_bad_11, rM_full_0, rM_full_1, rM_full_4, rM_full_5, rM_full_6, rM_full_7, rM_full_8, rM_full_9, rM_full_10, rM_full_12, rM_many_0, rM_many_1, rM_many_4, rM_many_7, rM_many_8, rM_many_9, rM_many_10, kM_in, kM_isCell, Bool.false_eq_true, true_implies, false_implies, implies_true, true_and, and_true, not_true_eq_false, not_false_eq_true, zPush_I, zPush_L, zPush_R, zPush_U, Int.reduceLT, Int.reduceLE, Int.reduceEq, Int.reduceNe, Int.reduceAdd, Int.reduceSub, Int.reduceMul, Int.reduceNeg, Int.reduceToNat, Nat.reduceAdd, Nat.reduceMul, Nat.reduceEqDiff, zw32_id, zw64_id, zupd_eq, zupd_na, zupd_ni, zupp_eq, zupp_na, zupp_ni, p123, p126, e1]
  (repeat' (first | apply And.intro | intro _)) <;> (try subst_vars) <;> first | exact bad (by omega) | exact full (by omega) (by omega) | exact ok (by omega) (by omega)
theorem mCorner (h : zLy sh pp) (hm : mOk f G cn N D mm) (hf : fOk f) {x y : Int} (hQ : ∀ mm', mOk (oCorner f cn x y).1 G (oCorner f cn x y).2.1 N D mm' → frC mm mm' → Q (zI (oCorner f cn x y).2.2) sh pp mm') : zS 209 0 [zR 122, zI x, zI y, zU] [] sh pp mm Q := by
  have k122 := k_122 h
  have k123 := k_123 h
  have l123 := l_123 h
  have p123 := p_122_0 h
  have k126 := k_126 h
  have l126 := l_126 h
  have p126 := p_122_3 h
  have e1 := hm.1 982 (by decide) (by decide)
  have b1 : 0 ≤ f 982 := by have := hf; unfold fOk at this; omega
  have b2 : f 982 ≤ 10 := by have := hf; unfold fOk at this; omega
  have bad : ¬ ((0 ≤ x ∧ x ≤ 23) ∧ (0 ≤ y ∧ y ≤ 15)) → Q (zI (-2)) sh pp (zupd mm 126 0 (zw32 (mm 126 0 + 1))) := by
    intro hn
    have e : oCorner f cn x y = (f, bump cn 0, -2) := if_neg hn
    rw [e] at hQ
    exact hQ _ (mOk_ref hm (by decide) (by decide)) (frC_up (frC_rf mm) (by decide) (by decide))
  have full : ((0 ≤ x ∧ x ≤ 23) ∧ (0 ≤ y ∧ y ≤ 15)) → f 982 = 10 → Q (zI (-4)) sh pp (zupd mm 126 2 (zw32 (mm 126 2 + 1))) := by
    intro hn h12
    have e : oCorner f cn x y = (f, bump cn 2, -4) := by unfold oCorner; rw [if_pos hn, if_pos h12]
    rw [e] at hQ
    exact hQ _ (mOk_ref hm (by decide) (by decide)) (frC_up (frC_rf mm) (by decide) (by decide))
  have ok : ((0 ≤ x ∧ x ≤ 23) ∧ (0 ≤ y ∧ y ≤ 15)) → ¬ f 982 = 10 → Q (zI (f 982)) sh pp (zupd (zupd (zupd mm 123 (517 + 2 * f 982) x) 123 (517 + 2 * f 982 + 1) y) 123 982 (f 982 + 1)) := by
    intro hn h12
    have e : oCorner f cn x y = (fup (fup (fup f (517 + 2 * f 982) x) (517 + 2 * f 982 + 1) y) 982 (f 982 + 1), cn, f 982) := by unfold oCorner; rw [if_pos hn, if_neg h12]
    rw [e] at hQ
    exact hQ _ (mOk_now (mOk_now (mOk_now hm (by omega) (by omega)) (by omega) (by omega)) (by omega) (by omega)) (frC_up (frC_up (frC_up (frC_rf mm) (by decide) (by decide)) (by decide) (by decide)) (by decide) (by decide))
  simp +contextual (disch := first | assumption | omega) only [rM_corner_0, rM_corner_1, rM_corner_2, rM_corner_5, rM_corner_8, rM_corner_9, rM_corner_11, rM_corner_14, rM_corner_15, rM_corner_16, rM_corner_17, rM_corner_20, rM_corner_21, rM_corner_22, rM_corner_24, rM_corner_27, rM_corner_28, rM_corner_31, rM_corner_32, rM_corner_33, rM_corner_36, rM_corner_39, rM_corner_40, rM_corner_41, rM_corner_42, rM_corner_43, rM_corner_44, rM_corner_45, rM_corner_46, rM_corner_49, rM_corner_52, rM_corner_53, rM_corner_54, rM_corner_55, rM_corner_56, rM_corner_57, rM_corner_58, rM_corner_59, rM_corner_60, rM_corner_61, rM_corner_64, rM_corner_67, rM_corner_68, rM_corner_69, rM_corner_70, rM_corner_71, rM_corner_72, rM_corner_73, rM_bad_0, rM_bad_1, rM_bad_4, rM_bad_5, rM_bad_6, rM_bad_7, rM_bad_8, rM_bad_9, rM_bad_10, rM_bad_11, rM_full_0, rM_full_1, rM_full_4, rM_full_5, rM_full_6, rM_full_7, rM_full_8, rM_full_9, rM_full_10, rM_full_12, rM_many_0, rM_many_1, rM_many_4, rM_many_7, rM_many_8, rM_many_9, rM_many_10, kM_in, kM_isCell, Bool.false_eq_true, true_implies, false_implies, implies_true, true_and, and_true, not_true_eq_false, not_false_eq_true, zPush_I, zPush_L, zPush_R, zPush_U, Int.reduceLT, Int.reduceLE, Int.reduceEq, Int.reduceNe, Int.reduceAdd, Int.reduceSub, Int.reduceMul, Int.reduceNeg, Int.reduceToNat, Nat.reduceAdd, Nat.reduceMul, Nat.reduceEqDiff, zw32_id, zw64_id, zupd_eq, zupd_na, zupd_ni, zupp_eq, zupp_na, zupp_ni, p123, p126, e1]
  (repeat' (first | apply And.intro | intro _)) <;> (try subst_vars) <;> first | exact bad (by omega) | exact full (by omega) (by omega) | exact ok (by omega) (by omega)
theorem mEdge (h : zLy sh pp) (hm : mOk f G cn N D mm) (hf : fOk f) {a b w : Int} (hw : w = 0 ∨ w = 1) (hQ : ∀ mm', mOk (oEdge f cn a b w).1 G (oEdge f cn a b w).2.1 N D mm' → frC mm mm' → Q (zI (oEdge f cn a b w).2.2) sh pp mm') : zS 210 0 [zR 122, zI a, zI b, zI w, zU] [] sh pp mm Q := by
  have k122 := k_122 h
  have k123 := k_123 h
  have l123 := l_123 h
  have p123 := p_122_0 h
  have k126 := k_126 h
  have l126 := l_126 h
  have p126 := p_122_3 h
  have e1 := hm.1 983 (by decide) (by decide)
  have b1 : 0 ≤ f 983 := by have := hf; unfold fOk at this; omega
  have b2 : f 983 ≤ 12 := by have := hf; unfold fOk at this; omega
  have e2 := hm.1 982 (by decide) (by decide)
  have b3 : 0 ≤ f 982 := by have := hf; unfold fOk at this; omega
  have b4 : f 982 ≤ 10 := by have := hf; unfold fOk at this; omega
  have bad : ¬ ((0 ≤ a ∧ a ≤ f 982 - 1) ∧ (0 ≤ b ∧ b ≤ f 982 - 1) ∧ ¬ a = b) → Q (zI (-2)) sh pp (zupd mm 126 0 (zw32 (mm 126 0 + 1))) := by
    intro hn
    have e : oEdge f cn a b w = (f, bump cn 0, -2) := if_neg hn
    rw [e] at hQ
    exact hQ _ (mOk_ref hm (by decide) (by decide)) (frC_up (frC_rf mm) (by decide) (by decide))
  have full : ((0 ≤ a ∧ a ≤ f 982 - 1) ∧ (0 ≤ b ∧ b ≤ f 982 - 1) ∧ ¬ a = b) → f 983 = 12 → Q (zI (-4)) sh pp (zupd mm 126 2 (zw32 (mm 126 2 + 1))) := by
    intro hn h12
    have e : oEdge f cn a b w = (f, bump cn 2, -4) := by unfold oEdge; rw [if_pos hn, if_pos h12]
    rw [e] at hQ
    exact hQ _ (mOk_ref hm (by decide) (by decide)) (frC_up (frC_rf mm) (by decide) (by decide))
  have ok : ((0 ≤ a ∧ a ≤ f 982 - 1) ∧ (0 ≤ b ∧ b ≤ f 982 - 1) ∧ ¬ a = b) → ¬ f 983 = 12 → Q (zI (f 983)) sh pp (zupd (zupd (zupd (zupd mm 123 (537 + 3 * f 983) a) 123 (537 + 3 * f 983 + 1) b) 123 (537 + 3 * f 983 + 2) w) 123 983 (f 983 + 1)) := by
    intro hn h12
    have e : oEdge f cn a b w = (fup (fup (fup (fup f (537 + 3 * f 983) a) (537 + 3 * f 983 + 1) b) (537 + 3 * f 983 + 2) w) 983 (f 983 + 1), cn, f 983) := by unfold oEdge; rw [if_pos hn, if_neg h12]
    rw [e] at hQ
    exact hQ _ (mOk_now (mOk_now (mOk_now (mOk_now hm (by omega) (by omega)) (by omega) (by omega)) (by omega) (by omega)) (by omega) (by omega)) (frC_up (frC_up (frC_up (frC_up (frC_rf mm) (by decide) (by decide)) (by decide) (by decide)) (by decide) (by decide)) (by decide) (by decide))
  rcases hw with rfl | rfl
  all_goals
    simp +contextual (disch := first | assumption | omega) only [rM_edge_0, rM_edge_1, rM_edge_2, rM_edge_5, rM_edge_8, rM_edge_9, rM_edge_10, rM_edge_13, rM_edge_16, rM_edge_17, rM_edge_18, rM_edge_21, rM_edge_22, rM_edge_24, rM_edge_27, rM_edge_28, rM_edge_29, rM_edge_30, rM_edge_33, rM_edge_35, rM_edge_37, rM_edge_39, rM_edge_42, rM_edge_43, rM_edge_46, rM_edge_47, rM_edge_48, rM_edge_51, rM_edge_54, rM_edge_55, rM_edge_57, rM_edge_58, rM_edge_59, rM_edge_60, rM_edge_61, rM_edge_62, rM_edge_65, rM_edge_68, rM_edge_69, rM_edge_71, rM_edge_72, rM_edge_73, rM_edge_74, rM_edge_75, rM_edge_76, rM_edge_77, rM_edge_78, rM_edge_81, rM_edge_84, rM_edge_85, rM_edge_87, rM_edge_88, rM_edge_89, rM_edge_90, rM_edge_91, rM_edge_92, rM_edge_95, rM_edge_96, rM_edge_99, rM_edge_100, rM_edge_101, rM_edge_102, rM_edge_105, rM_edge_108, rM_edge_109, rM_edge_110, rM_edge_111, rM_edge_112, rM_edge_113, rM_edge_115, rM_bad_0, rM_bad_1, rM_bad_4, rM_bad_5, rM_bad_6, rM_bad_7, rM_bad_8, rM_bad_9, rM_bad_10, rM_bad_11, rM_full_0, rM_full_1, rM_full_4, rM_full_5, rM_full_6, rM_full_7, rM_full_8, rM_full_9, rM_full_10, rM_full_12, rM_many_0, rM_many_1, rM_many_4, rM_many_7, rM_many_8, rM_many_9, rM_many_10, rM_isCorner_0, rM_isCorner_1, rM_isCorner_2, rM_isCorner_3, rM_isCorner_4, rM_isCorner_5, rM_isCorner_8, rM_isCorner_9, rM_isCorner_10, rM_isCorner_11, rM_isCorner_14, kM_in, kM_isCell, Bool.false_eq_true, true_implies, false_implies, implies_true, true_and, and_true, not_true_eq_false, not_false_eq_true, zPush_I, zPush_L, zPush_R, zPush_U, Int.reduceLT, Int.reduceLE, Int.reduceEq, Int.reduceNe, Int.reduceAdd, Int.reduceSub, Int.reduceMul, Int.reduceNeg, Int.reduceToNat, Nat.reduceAdd, Nat.reduceMul, Nat.reduceEqDiff, zw32_id, zw64_id, zupd_eq, zupd_na, zupd_ni, zupp_eq, zupp_na, zupp_ni, p123, p126, e1, e2]
    (repeat' (first | apply And.intro | intro _)) <;> (try subst_vars) <;> first | exact bad (by omega) | exact full (by omega) (by omega) | exact ok (by omega) (by omega)
theorem mTest (h : zLy sh pp) (hm : mOk f G cn N D mm) (hf : fOk f) {k m w : Int} (hQ : ∀ mm', mOk (oTest f cn k m w).1 G (oTest f cn k m w).2.1 N D mm' → frC mm mm' → Q (zI (oTest f cn k m w).2.2) sh pp mm') : zS 243 0 [zR 122, zI k, zI m, zI w, zU] [] sh pp mm Q := by
  have k122 := k_122 h
  have k123 := k_123 h
  have l123 := l_123 h
  have p123 := p_122_0 h
  have k126 := k_126 h
  have l126 := l_126 h
  have p126 := p_122_3 h
  have e1 := hm.1 984 (by decide) (by decide)
  have b1 : 0 ≤ f 984 := by have := hf; unfold fOk at this; omega
  have b2 : f 984 ≤ 8 := by have := hf; unfold fOk at this; omega
  have bad : ¬ ((0 ≤ k ∧ k ≤ 1) ∧ (1 ≤ m ∧ m ≤ 40) ∧ (0 ≤ w ∧ w ≤ m)) → Q (zI (-2)) sh pp (zupd mm 126 0 (zw32 (mm 126 0 + 1))) := by
    intro hn
    have e : oTest f cn k m w = (f, bump cn 0, -2) := if_neg hn
    rw [e] at hQ
    exact hQ _ (mOk_ref hm (by decide) (by decide)) (frC_up (frC_rf mm) (by decide) (by decide))
  have full : ((0 ≤ k ∧ k ≤ 1) ∧ (1 ≤ m ∧ m ≤ 40) ∧ (0 ≤ w ∧ w ≤ m)) → f 984 = 8 → Q (zI (-4)) sh pp (zupd mm 126 2 (zw32 (mm 126 2 + 1))) := by
    intro hn h12
    have e : oTest f cn k m w = (f, bump cn 2, -4) := by unfold oTest; rw [if_pos hn, if_pos h12]
    rw [e] at hQ
    exact hQ _ (mOk_ref hm (by decide) (by decide)) (frC_up (frC_rf mm) (by decide) (by decide))
  have ok : ((0 ≤ k ∧ k ≤ 1) ∧ (1 ≤ m ∧ m ≤ 40) ∧ (0 ≤ w ∧ w ≤ m)) → ¬ f 984 = 8 → Q (zI (f 984)) sh pp (zupd (zupd (zupd (zupd mm 123 (957 + 3 * f 984) k) 123 (957 + 3 * f 984 + 1) m) 123 (957 + 3 * f 984 + 2) w) 123 984 (f 984 + 1)) := by
    intro hn h12
    have e : oTest f cn k m w = (fup (fup (fup (fup f (957 + 3 * f 984) k) (957 + 3 * f 984 + 1) m) (957 + 3 * f 984 + 2) w) 984 (f 984 + 1), cn, f 984) := by unfold oTest; rw [if_pos hn, if_neg h12]
    rw [e] at hQ
    exact hQ _ (mOk_now (mOk_now (mOk_now (mOk_now hm (by omega) (by omega)) (by omega) (by omega)) (by omega) (by omega)) (by omega) (by omega)) (frC_up (frC_up (frC_up (frC_up (frC_rf mm) (by decide) (by decide)) (by decide) (by decide)) (by decide) (by decide)) (by decide) (by decide))
  simp +contextual (disch := first | assumption | omega) only [rM_test_0, rM_test_1, rM_test_2, rM_test_3, rM_test_4, rM_test_7, rM_test_10, rM_test_11, rM_test_12, rM_test_13, rM_test_16, rM_test_19, rM_test_22, rM_test_23, rM_test_24, rM_test_25, rM_test_26, rM_test_27, rM_test_30, rM_test_33, rM_test_34, rM_test_36, rM_test_39, rM_test_40, rM_test_41, rM_test_42, rM_test_45, rM_test_47, rM_test_49, rM_test_51, rM_test_54, rM_test_55, rM_test_58, rM_test_59, rM_test_60, rM_test_63, rM_test_66, rM_test_67, rM_test_69, rM_test_70, rM_test_71, rM_test_72, rM_test_73, rM_test_74, rM_test_77, rM_test_80, rM_test_81, rM_test_83, rM_test_84, rM_test_85, rM_test_86, rM_test_87, rM_test_88, rM_test_89, rM_test_90, rM_test_93, rM_test_96, rM_test_97, rM_test_99, rM_test_100, rM_test_101, rM_test_102, rM_test_103, rM_test_104, rM_test_105, rM_test_106, rM_test_109, rM_test_112, rM_test_113, rM_test_114, rM_test_115, rM_test_116, rM_test_117, rM_test_119, rM_bad_0, rM_bad_1, rM_bad_4, rM_bad_5, rM_bad_6, rM_bad_7, rM_bad_8, rM_bad_9, rM_bad_10, rM_bad_11, rM_full_0, rM_full_1, rM_full_4, rM_full_5, rM_full_6, rM_full_7, rM_full_8, rM_full_9, rM_full_10, rM_full_12, rM_many_0, rM_many_1, rM_many_4, rM_many_7, rM_many_8, rM_many_9, rM_many_10, kM_in, kM_isCell, Bool.false_eq_true, true_implies, false_implies, implies_true, true_and, and_true, not_true_eq_false, not_false_eq_true, zPush_I, zPush_L, zPush_R, zPush_U, Int.reduceLT, Int.reduceLE, Int.reduceEq, Int.reduceNe, Int.reduceAdd, Int.reduceSub, Int.reduceMul, Int.reduceNeg, Int.reduceToNat, Nat.reduceAdd, Nat.reduceMul, Nat.reduceEqDiff, zw32_id, zw64_id, zupd_eq, zupd_na, zupd_ni, zupp_eq, zupp_na, zupp_ni, p123, p126, e1]
  (repeat' (first | apply And.intro | intro _)) <;> (try subst_vars) <;> first | exact bad (by omega) | exact full (by omega) (by omega) | exact ok (by omega) (by omega)
theorem mStatus (h : zLy sh pp) (hm : mOk f G cn N D mm) {w : Int} (hQ : ∀ mm', mOk f G (if 0 ≤ w ∧ w ≤ 2 then cn else bump cn 0) N D mm' → frC mm mm' → Q (zI (if 0 ≤ w ∧ w ≤ 2 then cn w else -1)) sh pp mm') : zS 250 0 [zR 122, zI w] [] sh pp mm Q := by
  have k122 := k_122 h
  have k126 := k_126 h
  have l126 := l_126 h
  have p126 := p_122_3 h
  simp +contextual (disch := first | assumption | omega) only [rM_status_0, rM_status_1, rM_status_2, rM_status_3, rM_status_6, rM_status_9, rM_status_12, rM_status_13, rM_status_16, rM_status_17, rM_status_18, rM_status_21, rM_status_22, rM_status_23, rM_status_26, rM_bad_0, rM_bad_1, rM_bad_4, rM_bad_5, rM_bad_6, rM_bad_7, rM_bad_8, rM_bad_9, rM_bad_10, rM_bad_11, kM_in, Bool.false_eq_true, true_implies, false_implies, implies_true, true_and, and_true, not_true_eq_false, not_false_eq_true, zPush_I, zPush_L, zPush_R, zPush_U, Int.reduceLT, Int.reduceLE, Int.reduceEq, Int.reduceNe, Int.reduceAdd, Int.reduceSub, Int.reduceMul, Int.reduceNeg, Int.reduceToNat, Nat.reduceAdd, Nat.reduceMul, Nat.reduceEqDiff, zw32_id, zw64_id, zupd_eq, zupd_na, zupd_ni, zupp_eq, zupp_na, zupp_ni, p126]
  refine ⟨fun h1 => ?_, fun h1 => ?_⟩
  · simp only [h1, if_true, and_self] at hQ
    rw [hm.2.2.1 w (by omega) (by omega)]
    exact hQ _ hm (frC_rf mm)
  · rw [if_neg h1, if_neg h1] at hQ
    exact hQ _ (mOk_ref hm (by decide) (by decide)) (frC_up (frC_rf mm) (by decide) (by decide))
theorem mCount (h : zLy sh pp) (hm : mOk f G cn N D mm) {w : Int} (hQ : ∀ mm', mOk f G (if 0 ≤ w ∧ w ≤ 8 then cn else bump cn 0) N D mm' → frC mm mm' → Q (zI (if 0 ≤ w ∧ w ≤ 8 then cntOf f w else -2)) sh pp mm') : zS 252 0 [zR 122, zI w] [] sh pp mm Q := by
  have k122 := k_122 h
  have k123 := k_123 h
  have l123 := l_123 h
  have p123 := p_122_0 h
  have k126 := k_126 h
  have l126 := l_126 h
  have p126 := p_122_3 h
  simp +contextual (disch := first | assumption | omega) only [rM_count_0, rM_count_1, rM_count_2, rM_count_3, rM_count_6, rM_count_9, rM_count_12, rM_count_13, rM_count_14, rM_count_17, rM_count_20, rM_count_21, rM_count_23, rM_count_26, rM_counted_0, rM_counted_1, rM_counted_2, rM_counted_5, rM_counted_6, rM_counted_9, rM_counted_12, rM_counted_13, rM_counted_14, rM_counted_15, rM_counted_18, rM_counted_19, rM_counted_22, rM_counted_24, rM_counted_26, rM_counted_27, rM_counted_28, rM_counted_29, rM_counted_30, rM_counted_31, rM_counted_32, rM_bad_0, rM_bad_1, rM_bad_4, rM_bad_5, rM_bad_6, rM_bad_7, rM_bad_8, rM_bad_9, rM_bad_10, rM_bad_11, kM_in, Bool.false_eq_true, true_implies, false_implies, implies_true, true_and, and_true, not_true_eq_false, not_false_eq_true, zPush_I, zPush_L, zPush_R, zPush_U, Int.reduceLT, Int.reduceLE, Int.reduceEq, Int.reduceNe, Int.reduceAdd, Int.reduceSub, Int.reduceMul, Int.reduceNeg, Int.reduceToNat, Nat.reduceAdd, Nat.reduceMul, Nat.reduceEqDiff, zw32_id, zw64_id, zupd_eq, zupd_na, zupd_ni, zupp_eq, zupp_na, zupp_ni, p123, p126]
  refine ⟨fun h1 => ⟨fun h5 => ?_, fun h5 => ?_⟩, fun h1 => ?_⟩
  · rw [if_pos h1, if_pos h1] at hQ
    unfold cntOf at hQ
    rw [if_pos h5] at hQ
    rw [hm.1 _ (by omega) (by omega)]
    exact hQ _ hm (frC_rf mm)
  · rw [if_pos h1, if_pos h1] at hQ
    unfold cntOf at hQ
    rw [if_neg h5] at hQ
    rw [hm.1 _ (by omega) (by omega)]
    exact hQ _ hm (frC_rf mm)
  · rw [if_neg h1, if_neg h1] at hQ
    exact hQ _ (mOk_ref hm (by decide) (by decide)) (frC_up (frC_rf mm) (by decide) (by decide))
end
