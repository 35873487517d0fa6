/-! ===== more of the reference's calls ===== -/
def oSign (N D : Nat) (w : Int) : Int := if w = 0 then (if N = 0 then 0 else 1) else if w = 1 then nlim N else if w = 2 then nlim D else -2
def oLimb (N D : Nat) (w i : Int) : Int := if (0 ≤ w ∧ w ≤ 1) ∧ 0 ≤ i then (if i < nlim (if w = 0 then N else D) then limb (if w = 0 then N else D) i else -1) else -2
def oSee (f cn : Int → Int) (x y w : Int) : (Int → Int) × (Int → Int) × Int := if ((0 ≤ x ∧ x ≤ 23) ∧ (0 ≤ y ∧ y ≤ 15)) ∧ (-1 ≤ w ∧ w ≤ 1) then (if f (573 + 24 * y + x) = -1 ∧ w ≠ -1 ∧ f 985 = 60 then (f, bump cn 2, -4) else (fup (fup f 985 (f 985 + ((if w = -1 then 0 else 1) - (if f (573 + 24 * y + x) = -1 then 0 else 1)))) (573 + 24 * y + x) w, cn, f (573 + 24 * y + x))) else (f, bump cn 0, -10)
theorem zcpy_0 (mm : zMm) (s : Nat) (sp : Int) (d : Nat) (dp : Int) : zcpy mm s sp d dp 0 = mm := by
  funext b j
  unfold zcpy
  rw [if_neg (by omega)]
theorem zcpy_na {mm : zMm} {s d b : Nat} {sp dp n j : Int} (h : b ≠ d) : zcpy mm s sp d dp n b j = mm b j := by
  unfold zcpy
  rw [if_neg (fun h2 => h h2.1)]
theorem zcpy_in {mm : zMm} {s d : Nat} {sp dp n j : Int} (h : dp ≤ j) (h2 : j < dp + n) : zcpy mm s sp d dp n d j = mm s (sp + (j - dp)) := by
  unfold zcpy
  rw [if_pos ⟨rfl, h, h2⟩]
theorem zcpy_out {mm : zMm} {s d : Nat} {sp dp n j : Int} (h : j < dp ∨ dp + n ≤ j) : zcpy mm s sp d dp n d j = mm d j := by
  unfold zcpy
  rw [if_neg (by omega)]
theorem zcpy_st {mm : zMm} {s d : Nat} {sp dp n : Int} (hn : 0 ≤ n) : zupd (zcpy mm s sp d dp n) d (dp + n) (mm s (sp + n)) = zcpy mm s sp d dp (n + 1) := by
  funext b j
  unfold zupd zcpy
  by_cases h : b = d ∧ j = dp + n
  · rw [if_pos h, if_pos ⟨h.1, by omega, by omega⟩, h.2, show sp + (dp + n - dp) = sp + n by omega]
  · rw [if_neg h]
    by_cases h2 : b = d ∧ dp ≤ j ∧ j < dp + n
    · rw [if_pos h2, if_pos ⟨h2.1, h2.2.1, by omega⟩]
    · rw [if_neg h2, if_neg (by intro h3; by_cases e : j = dp + n; (· exact h ⟨h3.1, e⟩); (· exact h2 ⟨h3.1, h3.2.1, by omega⟩))]
section
variable {sh : zSh} {pp : zPp} {mm : zMm} {Q : zV → zSh → zPp → zMm → Prop} {f : Int → Int} {G : Int → Option (Int → Int)} {cn : Int → Int} {N D : Nat}
theorem mSign (h : zLy sh pp) (hm : mOk f G cn N D mm) {w : Int} (hQ : ∀ mm', mOk f G (if 0 ≤ w ∧ w ≤ 2 then cn else bump cn 0) N D mm' → frC mm mm' → Q (zI (oSign N D w)) sh pp mm') : zS 246 0 [zR 122, zI w] [] sh pp mm Q := by
  have k122 := k_122 h
  have k128 := k_128 h
  have l128 := l_128 h
  have p128 := p_122_5 h
  have k126 := k_126 h
  have l126 := l_126 h
  have p126 := p_122_3 h
  simp +contextual (disch := first | assumption | omega) only [rM_sign_0, rM_sign_1, rM_sign_4, rM_sign_5, rM_sign_8, rM_sign_11, rM_sign_12, rM_sign_13, rM_sign_16, rM_sign_17, rM_sign_20, rM_sign_21, rM_sign_22, rM_sign_25, rM_sign_26, rM_sign_27, rM_sign_30, rM_sign_31, rM_sign_34, rM_sign_35, rM_sign_36, rM_sign_39, rM_sign_40, rM_sign_42, rM_sign_45, rM_bad_0, rM_bad_1, rM_bad_4, rM_bad_5, rM_bad_6, rM_bad_7, rM_bad_8, rM_bad_9, rM_bad_10, rM_bad_11, Bool.false_eq_true, true_implies, false_implies, implies_true, true_and, and_true, not_true_eq_false, not_false_eq_true, zPush_I, zPush_L, zPush_R, zPush_U, Int.reduceLT, Int.reduceLE, Int.reduceEq, Int.reduceNe, Int.reduceAdd, Int.reduceSub, Int.reduceMul, Int.reduceNeg, Int.reduceToNat, Nat.reduceAdd, Nat.reduceMul, Nat.reduceEqDiff, zw32_id, zw64_id, zupd_eq, zupd_na, zupd_ni, zupp_eq, zupp_na, zupp_ni, p128, p126]
  unfold oSign at hQ
  refine ⟨fun h1 => ?_, fun h1 => ⟨fun h2 => ?_, fun h2 => ⟨fun h3 => ?_, fun h3 => ?_⟩⟩⟩
  · subst h1
    rw [hm.2.2.2.2.2.2.2]
    exact hQ _ hm (frC_rf mm)
  · subst h2
    have e := bR_size hm.2.2.2.2.2.1
    rw [e]
    exact hQ _ hm (frC_rf mm)
  · subst h3
    have e := bR_size hm.2.2.2.2.2.2.1
    rw [e]
    exact hQ _ hm (frC_rf mm)
  · rw [if_neg (show ¬ (0 ≤ w ∧ w ≤ 2) by omega), if_neg h1, if_neg h2, if_neg h3] at hQ
    exact hQ _ (mOk_ref hm (by decide) (by decide)) (frC_up (frC_rf mm) (by decide) (by decide))
theorem mLimb (h : zLy sh pp) (hm : mOk f G cn N D mm) {w i : Int} (hQ : ∀ mm', mOk f G (if (0 ≤ w ∧ w ≤ 1) ∧ 0 ≤ i then cn else bump cn 0) N D mm' → frC mm mm' → Q (zI (oLimb N D w i)) sh pp mm') : zS 247 0 [zR 122, zI w, zI i] [] sh pp mm Q := by
  have k122 := k_122 h
  have k128 := k_128 h
  have l128 := l_128 h
  have p128 := p_122_5 h
  have k127 := k_127 h
  have l127 := l_127 h
  have p127 := p_122_4 h
  have k126 := k_126 h
  have l126 := l_126 h
  have p126 := p_122_3 h
  have bad : ¬ ((0 ≤ w ∧ w ≤ 1) ∧ 0 ≤ i) → Q (zI (-2)) sh pp (zupd mm 126 0 (zw32 (mm 126 0 + 1))) := by
    intro hn
    unfold oLimb at hQ
    rw [if_neg hn, if_neg hn] at hQ
    exact hQ _ (mOk_ref hm (by decide) (by decide)) (frC_up (frC_rf mm) (by decide) (by decide))
  by_cases hw : w = 0 ∨ w = 1
  · have key : ∀ (s : Nat) (v : Nat) (g : Int → Int), bR g (mm 128 w) v → (∀ k, g k = mm 127 (64 * w + k)) → v = (if w = 0 then N else D) → mm 128 w ≤ 20 → 0 ≤ i → (i < mm 128 w → Q (zI (zw32 (mm 127 (64 * w + i)))) sh pp mm) ∧ (¬ i < mm 128 w → Q (zI (-1)) sh pp mm) := by
      intro s v g hb hg hv h20 hi
      have hsz := bR_size hb
      unfold oLimb at hQ
      rw [if_pos ⟨by omega, hi⟩, if_pos ⟨by omega, hi⟩, ← hv, ← hsz] at hQ
      refine ⟨fun h1 => ?_, fun h1 => ?_⟩
      · have e := bR_limb hb hi h1
        have e2 := hb.2.1 i hi h1
        rw [if_pos h1, ← e, hg] at hQ
        rw [hg] at e2
        rw [zw32_id (by omega) (by omega)]
        exact hQ _ hm (frC_rf mm)
      · rw [if_neg h1] at hQ
        exact hQ _ hm (frC_rf mm)
    have key2 : 0 ≤ i → (i < mm 128 w → Q (zI (zw32 (mm 127 (64 * w + i)))) sh pp mm) ∧ (¬ i < mm 128 w → Q (zI (-1)) sh pp mm) := by
      rcases hw with rfl | rfl
      · exact key 0 N _ hm.2.2.2.2.2.1 (fun k => by rw [show (64 * 0 + k : Int) = k by omega]) rfl hm.2.2.2.1
      · exact key 1 D _ hm.2.2.2.2.2.2.1 (fun k => rfl) rfl hm.2.2.2.2.1
    have hs20 : mm 128 w ≤ 20 := by
      rcases hw with rfl | rfl
      · exact hm.2.2.2.1
      · exact hm.2.2.2.2.1
    simp +contextual (disch := first | assumption | omega) only [rM_limb_0, rM_limb_1, rM_limb_2, rM_limb_3, rM_limb_4, rM_limb_7, rM_limb_10, rM_limb_11, rM_limb_14, rM_limb_15, rM_limb_17, rM_limb_20, rM_limb_21, rM_limb_22, rM_limb_23, rM_limb_26, rM_limb_27, rM_limb_28, rM_limb_31, rM_limb_32, rM_limb_35, rM_limb_37, rM_limb_38, rM_limb_39, rM_limb_40, rM_limb_41, rM_limb_42, rM_limb_43, rM_limb_46, rM_limb_47, rM_bad_0, rM_bad_1, rM_bad_4, rM_bad_5, rM_bad_6, rM_bad_7, rM_bad_8, rM_bad_9, rM_bad_10, rM_bad_11, kM_in, Bool.false_eq_true, true_implies, false_implies, implies_true, true_and, and_true, not_true_eq_false, not_false_eq_true, zPush_I, zPush_L, zPush_R, zPush_U, Int.reduceLT, Int.reduceLE, Int.reduceEq, Int.reduceNe, Int.reduceAdd, Int.reduceSub, Int.reduceMul, Int.reduceNeg, Int.reduceToNat, Nat.reduceAdd, Nat.reduceMul, Nat.reduceEqDiff, zw32_id, zw64_id, zupd_eq, zupd_na, zupd_ni, zupp_eq, zupp_na, zupp_ni, p128, p127, p126]
    refine ⟨fun h1 => ⟨fun h2 => bad (by omega), fun h2 => ?_⟩, fun h1 => absurd h1 (by omega)⟩
    exact key2 (by omega)
  · simp +contextual (disch := first | assumption | omega) only [rM_limb_0, rM_limb_1, rM_limb_2, rM_limb_3, rM_limb_4, rM_limb_7, rM_limb_10, rM_limb_11, rM_limb_14, rM_limb_15, rM_limb_17, rM_limb_20, rM_limb_21, rM_limb_22, rM_limb_23, rM_limb_26, rM_limb_27, rM_limb_28, rM_limb_31, rM_limb_32, rM_limb_35, rM_limb_37, rM_limb_38, rM_limb_39, rM_limb_40, rM_limb_41, rM_limb_42, rM_limb_43, rM_limb_46, rM_limb_47, rM_bad_0, rM_bad_1, rM_bad_4, rM_bad_5, rM_bad_6, rM_bad_7, rM_bad_8, rM_bad_9, rM_bad_10, rM_bad_11, kM_in, Bool.false_eq_true, true_implies, false_implies, implies_true, true_and, and_true, not_true_eq_false, not_false_eq_true, zPush_I, zPush_L, zPush_R, zPush_U, Int.reduceLT, Int.reduceLE, Int.reduceEq, Int.reduceNe, Int.reduceAdd, Int.reduceSub, Int.reduceMul, Int.reduceNeg, Int.reduceToNat, Nat.reduceAdd, Nat.reduceMul, Nat.reduceEqDiff, zw32_id, zw64_id, zupd_eq, zupd_na, zupd_ni, zupp_eq, zupp_na, zupp_ni, p128, p127, p126]
    exact ⟨fun h1 => absurd h1 (by omega), fun _ => bad (by omega)⟩
theorem mSee (h : zLy sh pp) (hm : mOk f G cn N D mm) (hf : fOk f) {x y w : Int} (hQ : ∀ mm', mOk (oSee f cn x y w).1 G (oSee f cn x y w).2.1 N D mm' → frC mm mm' → Q (zI (oSee f cn x y w).2.2) sh pp mm') : zS 236 0 [zR 122, zI x, zI y, zI w, zU, zU] [] sh pp mm Q := by
  have k122 := k_122 h
  have k123 := k_123 h
  have l123 := l_123 h
  have p123 := p_122_0 h
  have k126 := k_126 h
  have l126 := l_126 h
  have p126 := p_122_3 h
  have e1 := hm.1 985 (by decide) (by decide)
  have b1 : 0 ≤ f 985 := by have := hf; unfold fOk at this; omega
  have b2 : f 985 ≤ 60 := by have := hf; unfold fOk at this; omega
  have bad : ¬ (((0 ≤ x ∧ x ≤ 23) ∧ (0 ≤ y ∧ y ≤ 15)) ∧ (-1 ≤ w ∧ w ≤ 1)) → Q (zI (-10)) sh pp (zupd mm 126 0 (zw32 (mm 126 0 + 1))) := by
    intro hn
    have e : oSee f cn x y w = (f, bump cn 0, -10) := if_neg hn
    rw [e] at hQ
    exact hQ _ (mOk_ref hm (by decide) (by decide)) (frC_up (frC_rf mm) (by decide) (by decide))
  by_cases hc : ((0 ≤ x ∧ x ≤ 23) ∧ (0 ≤ y ∧ y ≤ 15)) ∧ (-1 ≤ w ∧ w ≤ 1)
  · have e2 := hm.1 (573 + 24 * y + x) (by omega) (by omega)
    have full : f (573 + 24 * y + x) = -1 ∧ w ≠ -1 ∧ f 985 = 60 → Q (zI (-4)) sh pp (zupd mm 126 2 (zw32 (mm 126 2 + 1))) := by
      intro h1
      have e : oSee f cn x y w = (f, bump cn 2, -4) := by unfold oSee; rw [if_pos hc, if_pos h1]
      rw [e] at hQ
      exact hQ _ (mOk_ref hm (by decide) (by decide)) (frC_up (frC_rf mm) (by decide) (by decide))
    have ok : ∀ z, z = f 985 + ((if w = -1 then 0 else 1) - (if f (573 + 24 * y + x) = -1 then 0 else 1)) → ¬ (f (573 + 24 * y + x) = -1 ∧ w ≠ -1 ∧ f 985 = 60) → Q (zI (f (573 + 24 * y + x))) sh pp (zupd (zupd mm 123 985 z) 123 (573 + 24 * y + x) w) := by
      intro z hz h1
      have e : oSee f cn x y w = (fup (fup f 985 z) (573 + 24 * y + x) w, cn, f (573 + 24 * y + x)) := by unfold oSee; rw [if_pos hc, if_neg h1, hz]
      rw [e] at hQ
      exact hQ _ (mOk_now (mOk_now hm (by decide) (by decide)) (by omega) (by omega)) (frC_up (frC_up (frC_rf mm) (by decide) (by decide)) (by decide) (by decide))
    obtain ⟨u, hu⟩ : ∃ u, f (573 + 24 * y + x) = u := ⟨_, rfl⟩
    rw [hu] at ok full e2
    by_cases hv : u = -1
    · by_cases hw : w = -1
      · subst hv; subst hw
        simp +contextual (disch := first | assumption | omega) only [rM_see_0, rM_see_1, rM_see_2, rM_see_5, rM_see_8, rM_see_9, rM_see_10, rM_see_13, rM_see_14, rM_see_17, rM_see_20, rM_see_21, rM_see_23, rM_see_26, rM_see_27, rM_see_30, rM_see_32, rM_see_33, rM_see_34, rM_see_35, rM_see_36, rM_see_37, rM_see_39, rM_see_40, rM_see_43, rM_see_45, rM_see_46, rM_see_48, rM_see_50, rM_see_51, rM_see_54, rM_see_55, rM_see_56, rM_see_59, rM_see_60, rM_see_61, rM_see_64, rM_see_66, rM_see_69, rM_see_70, rM_see_73, rM_see_74, rM_see_75, rM_see_78, rM_see_81, rM_see_82, rM_see_83, rM_see_84, rM_see_85, rM_see_88, rM_see_89, rM_see_92, rM_see_93, rM_see_95, rM_see_96, rM_see_99, rM_see_100, rM_see_103, rM_see_104, rM_see_105, rM_see_106, rM_see_107, rM_see_108, rM_see_111, rM_see_113, rM_see_114, rM_see_115, rM_see_117, rM_bad_0, rM_bad_1, rM_bad_4, rM_bad_5, rM_bad_6, rM_bad_7, rM_bad_8, rM_bad_9, rM_bad_10, rM_bad_11, rM_full_0, rM_full_1, rM_full_4, rM_full_5, rM_full_6, rM_full_7, rM_full_8, rM_full_9, rM_full_10, rM_full_12, rM_many_0, rM_many_1, rM_many_4, rM_many_7, rM_many_8, rM_many_9, rM_many_10, kM_in, kM_isCell, Bool.false_eq_true, true_implies, false_implies, implies_true, true_and, and_true, not_true_eq_false, not_false_eq_true, zPush_I, zPush_L, zPush_R, zPush_U, Int.reduceLT, Int.reduceLE, Int.reduceEq, Int.reduceNe, Int.reduceAdd, Int.reduceSub, Int.reduceMul, Int.reduceNeg, Int.reduceToNat, Nat.reduceAdd, Nat.reduceMul, Nat.reduceEqDiff, zw32_id, zw64_id, zupd_eq, zupd_na, zupd_ni, zupp_eq, zupp_na, zupp_ni, p123, p126, e1, e2, hc]
        exact ok _ (by simp) (by simp)
      · subst hv
        simp +contextual (disch := first | assumption | omega) only [rM_see_0, rM_see_1, rM_see_2, rM_see_5, rM_see_8, rM_see_9, rM_see_10, rM_see_13, rM_see_14, rM_see_17, rM_see_20, rM_see_21, rM_see_23, rM_see_26, rM_see_27, rM_see_30, rM_see_32, rM_see_33, rM_see_34, rM_see_35, rM_see_36, rM_see_37, rM_see_39, rM_see_40, rM_see_43, rM_see_45, rM_see_46, rM_see_48, rM_see_50, rM_see_51, rM_see_54, rM_see_55, rM_see_56, rM_see_59, rM_see_60, rM_see_61, rM_see_64, rM_see_66, rM_see_69, rM_see_70, rM_see_73, rM_see_74, rM_see_75, rM_see_78, rM_see_81, rM_see_82, rM_see_83, rM_see_84, rM_see_85, rM_see_88, rM_see_89, rM_see_92, rM_see_93, rM_see_95, rM_see_96, rM_see_99, rM_see_100, rM_see_103, rM_see_104, rM_see_105, rM_see_106, rM_see_107, rM_see_108, rM_see_111, rM_see_113, rM_see_114, rM_see_115, rM_see_117, rM_bad_0, rM_bad_1, rM_bad_4, rM_bad_5, rM_bad_6, rM_bad_7, rM_bad_8, rM_bad_9, rM_bad_10, rM_bad_11, rM_full_0, rM_full_1, rM_full_4, rM_full_5, rM_full_6, rM_full_7, rM_full_8, rM_full_9, rM_full_10, rM_full_12, rM_many_0, rM_many_1, rM_many_4, rM_many_7, rM_many_8, rM_many_9, rM_many_10, kM_in, kM_isCell, Bool.false_eq_true, true_implies, false_implies, implies_true, true_and, and_true, not_true_eq_false, not_false_eq_true, zPush_I, zPush_L, zPush_R, zPush_U, Int.reduceLT, Int.reduceLE, Int.reduceEq, Int.reduceNe, Int.reduceAdd, Int.reduceSub, Int.reduceMul, Int.reduceNeg, Int.reduceToNat, Nat.reduceAdd, Nat.reduceMul, Nat.reduceEqDiff, zw32_id, zw64_id, zupd_eq, zupd_na, zupd_ni, zupp_eq, zupp_na, zupp_ni, p123, p126, e1, e2, hc, hw]
        exact ⟨fun h6 => full ⟨rfl, hw, h6⟩, fun h6 => ok _ (by simp [hw]) (fun h9 => h6 h9.2.2)⟩
    · by_cases hw : w = -1
      · subst hw
        simp +contextual (disch := first | assumption | omega) only [rM_see_0, rM_see_1, rM_see_2, rM_see_5, rM_see_8, rM_see_9, rM_see_10, rM_see_13, rM_see_14, rM_see_17, rM_see_20, rM_see_21, rM_see_23, rM_see_26, rM_see_27, rM_see_30, rM_see_32, rM_see_33, rM_see_34, rM_see_35, rM_see_36, rM_see_37, rM_see_39, rM_see_40, rM_see_43, rM_see_45, rM_see_46, rM_see_48, rM_see_50, rM_see_51, rM_see_54, rM_see_55, rM_see_56, rM_see_59, rM_see_60, rM_see_61, rM_see_64, rM_see_66, rM_see_69, rM_see_70, rM_see_73, rM_see_74, rM_see_75, rM_see_78, rM_see_81, rM_see_82, rM_see_83, rM_see_84, rM_see_85, rM_see_88, rM_see_89, rM_see_92, rM_see_93, rM_see_95, rM_see_96, rM_see_99, rM_see_100, rM_see_103, rM_see_104, rM_see_105, rM_see_106, rM_see_107, rM_see_108, rM_see_111, rM_see_113, rM_see_114, rM_see_115, rM_see_117, rM_bad_0, rM_bad_1, rM_bad_4, rM_bad_5, rM_bad_6, rM_bad_7, rM_bad_8, rM_bad_9, rM_bad_10, rM_bad_11, rM_full_0, rM_full_1, rM_full_4, rM_full_5, rM_full_6, rM_full_7, rM_full_8, rM_full_9, rM_full_10, rM_full_12, rM_many_0, rM_many_1, rM_many_4, rM_many_7, rM_many_8, rM_many_9, rM_many_10, kM_in, kM_isCell, Bool.false_eq_true, true_implies, false_implies, implies_true, true_and, and_true, not_true_eq_false, not_false_eq_true, zPush_I, zPush_L, zPush_R, zPush_U, Int.reduceLT, Int.reduceLE, Int.reduceEq, Int.reduceNe, Int.reduceAdd, Int.reduceSub, Int.reduceMul, Int.reduceNeg, Int.reduceToNat, Nat.reduceAdd, Nat.reduceMul, Nat.reduceEqDiff, zw32_id, zw64_id, zupd_eq, zupd_na, zupd_ni, zupp_eq, zupp_na, zupp_ni, p123, p126, e1, e2, hc, hv]
        exact ok _ (by simp [hv]) (fun h9 => hv h9.1)
      · simp +contextual (disch := first | assumption | omega) only [rM_see_0, rM_see_1, rM_see_2, rM_see_5, rM_see_8, rM_see_9, rM_see_10, rM_see_13, rM_see_14, rM_see_17, rM_see_20, rM_see_21, rM_see_23, rM_see_26, rM_see_27, rM_see_30, rM_see_32, rM_see_33, rM_see_34, rM_see_35, rM_see_36, rM_see_37, rM_see_39, rM_see_40, rM_see_43, rM_see_45, rM_see_46, rM_see_48, rM_see_50, rM_see_51, rM_see_54, rM_see_55, rM_see_56, rM_see_59, rM_see_60, rM_see_61, rM_see_64, rM_see_66, rM_see_69, rM_see_70, rM_see_73, rM_see_74, rM_see_75, rM_see_78, rM_see_81, rM_see_82, rM_see_83, rM_see_84, rM_see_85, rM_see_88, rM_see_89, rM_see_92, rM_see_93, rM_see_95, rM_see_96, rM_see_99, rM_see_100, rM_see_103, rM_see_104, rM_see_105, rM_see_106, rM_see_107, rM_see_108, rM_see_111, rM_see_113, rM_see_114, rM_see_115, rM_see_117, rM_bad_0, rM_bad_1, rM_bad_4, rM_bad_5, rM_bad_6, rM_bad_7, rM_bad_8, rM_bad_9, rM_bad_10, rM_bad_11, rM_full_0, rM_full_1, rM_full_4, rM_full_5, rM_full_6, rM_full_7, rM_full_8, rM_full_9, rM_full_10, rM_full_12, rM_many_0, rM_many_1, rM_many_4, rM_many_7, rM_many_8, rM_many_9, rM_many_10, kM_in, kM_isCell, Bool.false_eq_true, true_implies, false_implies, implies_true, true_and, and_true, not_true_eq_false, not_false_eq_true, zPush_I, zPush_L, zPush_R, zPush_U, Int.reduceLT, Int.reduceLE, Int.reduceEq, Int.reduceNe, Int.reduceAdd, Int.reduceSub, Int.reduceMul, Int.reduceNeg, Int.reduceToNat, Nat.reduceAdd, Nat.reduceMul, Nat.reduceEqDiff, zw32_id, zw64_id, zupd_eq, zupd_na, zupd_ni, zupp_eq, zupp_na, zupp_ni, p123, p126, e1, e2, hc, hv, hw]
        exact ok _ (by simp [hv, hw]) (fun h9 => hv h9.1)
  · have bad := bad hc
    by_cases hc1 : (0 ≤ x ∧ x ≤ 23) ∧ (0 ≤ y ∧ y ≤ 15)
    · simp +contextual (disch := first | assumption | omega) only [rM_see_0, rM_see_1, rM_see_2, rM_see_5, rM_see_8, rM_see_9, rM_see_10, rM_see_13, rM_see_14, rM_see_17, rM_see_20, rM_see_21, rM_see_23, rM_see_26, rM_see_27, rM_see_30, rM_see_32, rM_see_33, rM_see_34, rM_see_35, rM_see_36, rM_see_37, rM_see_39, rM_see_40, rM_see_43, rM_see_45, rM_see_46, rM_see_48, rM_see_50, rM_see_51, rM_see_54, rM_see_55, rM_see_56, rM_see_59, rM_see_60, rM_see_61, rM_see_64, rM_see_66, rM_see_69, rM_see_70, rM_see_73, rM_see_74, rM_see_75, rM_see_78, rM_see_81, rM_see_82, rM_see_83, rM_see_84, rM_see_85, rM_see_88, rM_see_89, rM_see_92, rM_see_93, rM_see_95, rM_see_96, rM_see_99, rM_see_100, rM_see_103, rM_see_104, rM_see_105, rM_see_106, rM_see_107, rM_see_108, rM_see_111, rM_see_113, rM_see_114, rM_see_115, rM_see_117, rM_bad_0, rM_bad_1, rM_bad_4, rM_bad_5, rM_bad_6, rM_bad_7, rM_bad_8, rM_bad_9, rM_bad_10, rM_bad_11, rM_full_0, rM_full_1, rM_full_4, rM_full_5, rM_full_6, rM_full_7, rM_full_8, rM_full_9, rM_full_10, rM_full_12, rM_many_0, rM_many_1, rM_many_4, rM_many_7, rM_many_8, rM_many_9, rM_many_10, kM_in, kM_isCell, Bool.false_eq_true, true_implies, false_implies, implies_true, true_and, and_true, not_true_eq_false, not_false_eq_true, zPush_I, zPush_L, zPush_R, zPush_U, Int.reduceLT, Int.reduceLE, Int.reduceEq, Int.reduceNe, Int.reduceAdd, Int.reduceSub, Int.reduceMul, Int.reduceNeg, Int.reduceToNat, Nat.reduceAdd, Nat.reduceMul, Nat.reduceEqDiff, zw32_id, zw64_id, zupd_eq, zupd_na, zupd_ni, zupp_eq, zupp_na, zupp_ni, p123, p126, e1, hc1]
      exact ⟨fun h1 => absurd ⟨hc1, h1⟩ hc, fun _ => bad⟩
    · simp +contextual (disch := first | assumption | omega) only [rM_see_0, rM_see_1, rM_see_2, rM_see_5, rM_see_8, rM_see_9, rM_see_10, rM_see_13, rM_see_14, rM_see_17, rM_see_20, rM_see_21, rM_see_23, rM_see_26, rM_see_27, rM_see_30, rM_see_32, rM_see_33, rM_see_34, rM_see_35, rM_see_36, rM_see_37, rM_see_39, rM_see_40, rM_see_43, rM_see_45, rM_see_46, rM_see_48, rM_see_50, rM_see_51, rM_see_54, rM_see_55, rM_see_56, rM_see_59, rM_see_60, rM_see_61, rM_see_64, rM_see_66, rM_see_69, rM_see_70, rM_see_73, rM_see_74, rM_see_75, rM_see_78, rM_see_81, rM_see_82, rM_see_83, rM_see_84, rM_see_85, rM_see_88, rM_see_89, rM_see_92, rM_see_93, rM_see_95, rM_see_96, rM_see_99, rM_see_100, rM_see_103, rM_see_104, rM_see_105, rM_see_106, rM_see_107, rM_see_108, rM_see_111, rM_see_113, rM_see_114, rM_see_115, rM_see_117, rM_bad_0, rM_bad_1, rM_bad_4, rM_bad_5, rM_bad_6, rM_bad_7, rM_bad_8, rM_bad_9, rM_bad_10, rM_bad_11, rM_full_0, rM_full_1, rM_full_4, rM_full_5, rM_full_6, rM_full_7, rM_full_8, rM_full_9, rM_full_10, rM_full_12, rM_many_0, rM_many_1, rM_many_4, rM_many_7, rM_many_8, rM_many_9, rM_many_10, kM_in, kM_isCell, Bool.false_eq_true, true_implies, false_implies, implies_true, true_and, and_true, not_true_eq_false, not_false_eq_true, zPush_I, zPush_L, zPush_R, zPush_U, Int.reduceLT, Int.reduceLE, Int.reduceEq, Int.reduceNe, Int.reduceAdd, Int.reduceSub, Int.reduceMul, Int.reduceNeg, Int.reduceToNat, Nat.reduceAdd, Nat.reduceMul, Nat.reduceEqDiff, zw32_id, zw64_id, zupd_eq, zupd_na, zupd_ni, zupp_eq, zupp_na, zupp_ni, p123, p126, e1, hc1]
      exact bad
end
