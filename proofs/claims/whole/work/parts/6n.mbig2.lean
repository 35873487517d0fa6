/-! ===== the reference's whole numbers: sum, less, half, which is greater ===== -/
theorem stAdd1 {S S' T c l w P X : Int} (hX : X = l + w + c) (h : S' + c * P = S + T) : S' + (X % 1073741824) * P + (X / 1073741824) * (1073741824 * P) = (S + l * P) + (T + w * P) := by
  have e := em30 X
  generalize X % 1073741824 = r at *
  generalize X / 1073741824 = q at *
  subst e
  grind
/-- a row with 0 above -/
def gx (g : Int → Int) (n : Int) : Int → Int := fun k => if k < n then g k else 0
theorem gx_v {g : Int → Int} {n : Nat} {v : Int} (h : bV g n = v) {m : Nat} (hm : n ≤ m) : bV (gx g n) m = v := by
  rw [bV_z m n hm (fun k a b => by unfold gx; rw [if_neg (by omega)]), ← h]
  exact bV_ext n (fun k a b => by unfold gx; rw [if_pos b])
theorem gx_r {g : Int → Int} {n : Nat} (h : ∀ k, 0 ≤ k → k < (n : Int) → 0 ≤ g k ∧ g k < 1073741824) (k : Int) (k0 : 0 ≤ k) : 0 ≤ gx g n k ∧ gx g n k < 1073741824 := by
  unfold gx
  split
  · rename_i c; exact h k k0 c
  · decide
theorem nlim_mono {v w : Nat} (h : v ≤ w) : nlim v ≤ nlim w := by
  unfold nlim
  by_cases h0 : v = 0
  · rw [if_pos h0]; split <;> omega
  · rw [if_neg h0, if_neg (by omega)]
    have : 2 ^ v.log2 ≤ w := Nat.le_trans (Nat.log2_self_le h0) h
    have := (Nat.le_log2 (by omega : w ≠ 0)).mpr this
    omega
section
variable {sh : zSh} {pp : zPp} {mm : zMm} {Q : zV → zSh → zPp → zMm → Prop} {s t : Int} {v w : Nat}
theorem mB_row {m : zMm} (h : mB s v m) (hl : v < 1766847064778384329583297500742918515827483896875618958121606201292619776) : ∃ N : Nat, N ≤ 8 ∧ nlim v = (N : Int) ∧ m 128 s = (N : Int) ∧ (∀ k, 0 ≤ k → k < (N : Int) → 0 ≤ mRw m s k ∧ mRw m s k < 1073741824) ∧ bV (mRw m s) N = (v : Int) := by
  obtain ⟨hs, n0, n8⟩ := mB_sz h hl
  refine ⟨(nlim v).toNat, by omega, by omega, by omega, fun k a b => h.2.1 k a (by omega), ?_⟩
  rw [← hs]
  exact h.2.2.2
theorem mCompare (h : zLy sh pp) (s0 : 0 ≤ s) (s7 : s ≤ 7) (t0 : 0 ≤ t) (t7 : t ≤ 7) (hB : mB s v mm) (hC : mB t w mm) (hv : v < 1766847064778384329583297500742918515827483896875618958121606201292619776) (hw : w < 1766847064778384329583297500742918515827483896875618958121606201292619776) (h1 : v < w → Q (zI (-1)) sh pp mm) (h2 : v = w → Q (zI 0) sh pp mm) (h3 : w < v → Q (zI 1) sh pp mm) : zS 159 0 [zR 122, zI s, zI t, zU, zU, zU] [] sh pp mm Q := by
  have k122 := k_122 h
  have k127 := k_127 h
  have l127 := l_127 h
  have p127 := p_122_4 h
  have k128 := k_128 h
  have l128 := l_128 h
  have p128 := p_122_5 h
  obtain ⟨N, n8, eN, hs, hr, hV⟩ := mB_row hB hv
  obtain ⟨N2, m8, eN2, hs2, hr2, hV2⟩ := mB_row hC hw
  by_cases e : N = N2
  · subst e
    have key : ∀ n : Nat, n ≤ N → (∀ k, (n : Int) ≤ k → k < (N : Int) → mRw mm s k = mRw mm t k) → zS 159 45 [zR 122, zI s, zI t, zI ((n : Int) - 1), zU, zU] [] sh pp mm Q := by
      intro n
      induction n with
      | zero =>
        intro _ he
        rw [rM_compare_45]
        simp (disch := first | assumption | omega) only [rM_compare_46, rM_compare_49, rM_compare_50, rM_compare_53, rM_compare_55, rM_compare_56, rM_compare_57, rM_compare_58, rM_compare_59, rM_compare_60, rM_compare_61, rM_compare_64, rM_compare_66, rM_compare_67, rM_compare_68, rM_compare_69, rM_compare_70, rM_compare_71, rM_compare_72, rM_compare_74, rM_compare_76, rM_compare_77, rM_compare_78, rM_compare_81, rM_compare_83, rM_compare_84, rM_compare_85, rM_compare_88, rM_compare_89, rM_compare_92, rM_compare_93, rM_compare_94, rM_compare_97, rM_compare_100, rM_compare_101, Bool.false_eq_true, true_implies, false_implies, implies_true, true_and, and_true, not_true_eq_false, not_false_eq_true, zPush_I, zPush_L, zPush_R, zPush_U, Int.reduceLT, Int.reduceLE, Int.reduceEq, Int.reduceNe, Int.reduceAdd, Int.reduceSub, Int.reduceMul, Int.reduceNeg, Int.reduceToNat, Nat.reduceAdd, Nat.reduceMul, Nat.reduceEqDiff, zw32_id, zw64_id, zupd_eq, zupd_na, zupd_ni, zupp_eq, zupp_na, zupp_ni, show ((0 : Nat) : Int) - 1 < 0 by omega]
        refine h2 ?_
        have := bV_ext (g := mRw mm s) (g' := mRw mm t) N (fun k a b => he k a b)
        rw [hV, hV2] at this
        omega
      | succ n ih =>
        intro hn he
        have e1 : ((n + 1 : Nat) : Int) - 1 = (n : Int) := by push_cast; omega
        have r1 := hr (n : Int) (by omega) (by omega)
        have r2 := hr2 (n : Int) (by omega) (by omega)
        obtain ⟨x, hx⟩ : ∃ x, mRw mm s (n : Int) = x := ⟨_, rfl⟩
        obtain ⟨y, hy⟩ : ∃ y, mRw mm t (n : Int) = y := ⟨_, rfl⟩
        have hx' : mm 127 (64 * s + (n : Int)) = x := hx
        have hy' : mm 127 (64 * t + (n : Int)) = y := hy
        rw [hx] at r1
        rw [hy] at r2
        rw [e1, rM_compare_45]
        by_cases c0 : x = y
        · simp (disch := first | assumption | omega) only [rM_compare_46, rM_compare_49, rM_compare_50, rM_compare_53, rM_compare_55, rM_compare_56, rM_compare_57, rM_compare_58, rM_compare_59, rM_compare_60, rM_compare_61, rM_compare_64, rM_compare_66, rM_compare_67, rM_compare_68, rM_compare_69, rM_compare_70, rM_compare_71, rM_compare_72, rM_compare_74, rM_compare_76, rM_compare_77, rM_compare_78, rM_compare_81, rM_compare_83, rM_compare_84, rM_compare_85, rM_compare_88, rM_compare_89, rM_compare_92, rM_compare_93, rM_compare_94, rM_compare_97, Bool.false_eq_true, true_implies, false_implies, implies_true, true_and, and_true, not_true_eq_false, not_false_eq_true, zPush_I, zPush_L, zPush_R, zPush_U, Int.reduceLT, Int.reduceLE, Int.reduceEq, Int.reduceNe, Int.reduceAdd, Int.reduceSub, Int.reduceMul, Int.reduceNeg, Int.reduceToNat, Nat.reduceAdd, Nat.reduceMul, Nat.reduceEqDiff, zw32_id, zw64_id, zupd_eq, zupd_na, zupd_ni, zupp_eq, zupp_na, zupp_ni, p127, show ¬ (n : Int) < 0 by omega, hx', hy', zcmp_eq, zcmp_lt, show x - y = 0 by omega]
          have := ih (by omega) (fun k a b => by
            by_cases e : k = (n : Int)
            · rw [e, hx, hy]; exact c0
            · exact he k (by push_cast; omega) b)
          rw [show (n : Int) + -1 = (n : Int) - 1 by omega]
          exact this
        · by_cases c1 : x < y
          · simp (disch := first | assumption | omega) only [rM_compare_46, rM_compare_49, rM_compare_50, rM_compare_53, rM_compare_55, rM_compare_56, rM_compare_57, rM_compare_58, rM_compare_59, rM_compare_60, rM_compare_61, rM_compare_64, rM_compare_66, rM_compare_67, rM_compare_68, rM_compare_69, rM_compare_70, rM_compare_71, rM_compare_72, rM_compare_74, rM_compare_76, rM_compare_77, rM_compare_78, rM_compare_81, rM_compare_83, rM_compare_84, rM_compare_85, rM_compare_88, rM_compare_89, rM_compare_92, rM_compare_93, Bool.false_eq_true, true_implies, false_implies, implies_true, true_and, and_true, not_true_eq_false, not_false_eq_true, zPush_I, zPush_L, zPush_R, zPush_U, Int.reduceLT, Int.reduceLE, Int.reduceEq, Int.reduceNe, Int.reduceAdd, Int.reduceSub, Int.reduceMul, Int.reduceNeg, Int.reduceToNat, Nat.reduceAdd, Nat.reduceMul, Nat.reduceEqDiff, zw32_id, zw64_id, zupd_eq, zupd_na, zupd_ni, zupp_eq, zupp_na, zupp_ni, p127, show ¬ (n : Int) < 0 by omega, hx', hy', zcmp_eq, zcmp_lt, show ¬ x - y = 0 by omega, show x - y < 0 by omega]
            have := bV_cmp (g := mRw mm s) (h := mRw mm t) N (fun k a b => hr k a b) (fun k a b => hr2 k a b) (n : Int) (by omega) (by omega) (fun k a b => he k (by push_cast; omega) b) (by rw [hx, hy]; exact c1)
            rw [hV, hV2] at this
            exact h1 (by omega)
          · simp (disch := first | assumption | omega) only [rM_compare_46, rM_compare_49, rM_compare_50, rM_compare_53, rM_compare_55, rM_compare_56, rM_compare_57, rM_compare_58, rM_compare_59, rM_compare_60, rM_compare_61, rM_compare_64, rM_compare_66, rM_compare_67, rM_compare_68, rM_compare_69, rM_compare_70, rM_compare_71, rM_compare_72, rM_compare_74, rM_compare_76, rM_compare_77, rM_compare_78, rM_compare_81, rM_compare_83, rM_compare_84, rM_compare_85, rM_compare_88, rM_compare_89, rM_compare_92, rM_compare_93, Bool.false_eq_true, true_implies, false_implies, implies_true, true_and, and_true, not_true_eq_false, not_false_eq_true, zPush_I, zPush_L, zPush_R, zPush_U, Int.reduceLT, Int.reduceLE, Int.reduceEq, Int.reduceNe, Int.reduceAdd, Int.reduceSub, Int.reduceMul, Int.reduceNeg, Int.reduceToNat, Nat.reduceAdd, Nat.reduceMul, Nat.reduceEqDiff, zw32_id, zw64_id, zupd_eq, zupd_na, zupd_ni, zupp_eq, zupp_na, zupp_ni, p127, show ¬ (n : Int) < 0 by omega, hx', hy', zcmp_eq, zcmp_lt, show ¬ x - y = 0 by omega, show ¬ x - y < 0 by omega]
            have := bV_cmp (g := mRw mm t) (h := mRw mm s) N (fun k a b => hr2 k a b) (fun k a b => hr k a b) (n : Int) (by omega) (by omega) (fun k a b => (he k (by push_cast; omega) b).symm) (by rw [hx, hy]; omega)
            rw [hV, hV2] at this
            exact h3 (by omega)
    simp (disch := first | assumption | omega) only [rM_compare_0, rM_compare_1, rM_compare_4, rM_compare_5, rM_compare_6, rM_compare_7, rM_compare_10, rM_compare_11, rM_compare_12, rM_compare_15, rM_compare_16, rM_compare_19, rM_compare_20, rM_compare_21, rM_compare_22, rM_compare_25, rM_compare_26, rM_compare_27, rM_compare_30, rM_compare_31, rM_compare_34, rM_compare_35, rM_compare_36, rM_compare_37, rM_compare_40, rM_compare_41, rM_compare_42, rM_compare_43, rM_compare_44, Bool.false_eq_true, true_implies, false_implies, implies_true, true_and, and_true, not_true_eq_false, not_false_eq_true, zPush_I, zPush_L, zPush_R, zPush_U, Int.reduceLT, Int.reduceLE, Int.reduceEq, Int.reduceNe, Int.reduceAdd, Int.reduceSub, Int.reduceMul, Int.reduceNeg, Int.reduceToNat, Nat.reduceAdd, Nat.reduceMul, Nat.reduceEqDiff, zw32_id, zw64_id, zupd_eq, zupd_na, zupd_ni, zupp_eq, zupp_na, zupp_ni, p128, hs, hs2]
    exact key N (Nat.le_refl _) (fun k a b => by omega)
  · have e' : ¬ (N : Int) = (N2 : Int) := by omega
    by_cases c : N < N2
    · simp (disch := first | assumption | omega) only [rM_compare_0, rM_compare_1, rM_compare_4, rM_compare_5, rM_compare_6, rM_compare_7, rM_compare_10, rM_compare_11, rM_compare_12, rM_compare_15, rM_compare_16, rM_compare_19, rM_compare_20, rM_compare_21, rM_compare_22, rM_compare_25, rM_compare_26, rM_compare_27, rM_compare_30, rM_compare_31, rM_compare_34, rM_compare_35, rM_compare_36, rM_compare_37, rM_compare_40, rM_compare_41, rM_compare_42, rM_compare_43, rM_compare_44, Bool.false_eq_true, true_implies, false_implies, implies_true, true_and, and_true, not_true_eq_false, not_false_eq_true, zPush_I, zPush_L, zPush_R, zPush_U, Int.reduceLT, Int.reduceLE, Int.reduceEq, Int.reduceNe, Int.reduceAdd, Int.reduceSub, Int.reduceMul, Int.reduceNeg, Int.reduceToNat, Nat.reduceAdd, Nat.reduceMul, Nat.reduceEqDiff, zw32_id, zw64_id, zupd_eq, zupd_na, zupd_ni, zupp_eq, zupp_na, zupp_ni, p128, hs, hs2, e', show (N : Int) < (N2 : Int) by omega]
      refine h1 (Nat.lt_of_not_le (fun hc => ?_))
      have := nlim_mono hc
      omega
    · simp (disch := first | assumption | omega) only [rM_compare_0, rM_compare_1, rM_compare_4, rM_compare_5, rM_compare_6, rM_compare_7, rM_compare_10, rM_compare_11, rM_compare_12, rM_compare_15, rM_compare_16, rM_compare_19, rM_compare_20, rM_compare_21, rM_compare_22, rM_compare_25, rM_compare_26, rM_compare_27, rM_compare_30, rM_compare_31, rM_compare_34, rM_compare_35, rM_compare_36, rM_compare_37, rM_compare_40, rM_compare_41, rM_compare_42, rM_compare_43, rM_compare_44, Bool.false_eq_true, true_implies, false_implies, implies_true, true_and, and_true, not_true_eq_false, not_false_eq_true, zPush_I, zPush_L, zPush_R, zPush_U, Int.reduceLT, Int.reduceLE, Int.reduceEq, Int.reduceNe, Int.reduceAdd, Int.reduceSub, Int.reduceMul, Int.reduceNeg, Int.reduceToNat, Nat.reduceAdd, Nat.reduceMul, Nat.reduceEqDiff, zw32_id, zw64_id, zupd_eq, zupd_na, zupd_ni, zupp_eq, zupp_na, zupp_ni, p128, hs, hs2, e', show ¬ (N : Int) < (N2 : Int) by omega]
      refine h3 (Nat.lt_of_not_le (fun hc => ?_))
      have := nlim_mono hc
      omega
theorem mAdd (h : zLy sh pp) (s0 : 0 ≤ s) (s7 : s ≤ 7) (t0 : 0 ≤ t) (t7 : t ≤ 7) (hst : t ≠ s) (hB : mB s v mm) (hC : mB t w mm) (hv : v < 1766847064778384329583297500742918515827483896875618958121606201292619776) (hw : w < 1766847064778384329583297500742918515827483896875618958121606201292619776) (hQ : ∀ m, mB s (v + w) m → frP (pMb s) mm m → Q zU sh pp m) : zS 160 0 [zR 122, zI s, zI t, zU, zU, zU, zU, zU, zU] [] sh pp mm Q := by
  have k122 := k_122 h
  have k127 := k_127 h
  have l127 := l_127 h
  have p127 := p_122_4 h
  have k128 := k_128 h
  have l128 := l_128 h
  have p128 := p_122_5 h
  obtain ⟨N, n8, eN, hs, hr, hV⟩ := mB_row hB hv
  obtain ⟨N2, m8, eN2, hs2, hr2, hV2⟩ := mB_row hC hw
  have key : ∀ (K : Nat), N ≤ K → N2 ≤ K → K ≤ 8 → ∀ (d i : Nat) (m : zMm) (c : Int), i + d = K → (∀ k, 0 ≤ k → k < (i : Int) → 0 ≤ mRw m s k ∧ mRw m s k < 1073741824) → (∀ k, (i : Int) ≤ k → mRw m s k = mRw mm s k) → bV (mRw m s) i + c * 2 ^ (30 * i) = bV (gx (mRw mm s) N) i + bV (gx (mRw mm t) N2) i → (c = 0 ∨ c = 1) → m 128 s = (N : Int) → frP (pMb s) mm m → zS 160 37 [zR 122, zI s, zI t, zL c, zU, zI K, zI i, zU, zU] [] sh pp m Q := by
    intro K k1 k2 k8 d
    induction d with
    | zero =>
      intro i m c hi h1 h2 h3 c0 hs' hf
      have hi : i = K := by omega
      subst hi
      rw [gx_v hV k1, gx_v hV2 k2] at h3
      rw [rM_add_37]
      simp (disch := first | assumption | omega) only [rM_add_39, rM_add_41, rM_add_44, rM_add_46, rM_add_47, rM_add_50, rM_add_51, rM_add_52, rM_add_55, rM_add_56, rM_add_59, rM_add_61, rM_add_62, rM_add_63, rM_add_65, rM_add_66, rM_add_67, rM_add_70, rM_add_71, rM_add_73, rM_add_74, rM_add_77, rM_add_78, rM_add_79, rM_add_82, rM_add_83, rM_add_86, rM_add_88, rM_add_89, rM_add_90, rM_add_92, rM_add_93, rM_add_94, rM_add_97, rM_add_98, rM_add_99, rM_add_100, rM_add_101, rM_add_103, rM_add_104, rM_add_107, rM_add_109, rM_add_110, rM_add_111, rM_add_113, rM_add_114, rM_add_116, rM_add_119, rM_add_120, rM_add_121, rM_add_123, rM_add_126, rM_add_127, rM_add_128, rM_add_131, rM_add_134, rM_add_135, rM_add_138, rM_add_140, rM_add_141, rM_add_142, rM_add_144, rM_add_145, rM_add_146, rM_add_147, rM_add_148, rM_add_151, rM_add_152, rM_add_154, rM_add_155, rM_add_156, rM_add_157, rM_add_158, rM_add_159, Bool.false_eq_true, true_implies, false_implies, implies_true, true_and, and_true, not_true_eq_false, not_false_eq_true, zPush_I, zPush_L, zPush_R, zPush_U, Int.reduceLT, Int.reduceLE, Int.reduceEq, Int.reduceNe, Int.reduceAdd, Int.reduceSub, Int.reduceMul, Int.reduceNeg, Int.reduceToNat, Nat.reduceAdd, Nat.reduceMul, Nat.reduceEqDiff, zw32_id, zw64_id, zupd_eq, zupd_na, zupd_ni, zupp_eq, zupp_na, zupp_ni, p127, p128, Int.lt_irrefl]
      have hm : mRw (zupd (zupd m 127 (64 * s + (i : Int)) c) 128 s ((i : Int) + 1)) s = fup (mRw m s) i c := by rw [mRw_na _ _ _ _ (by decide), mRw_up]
      refine mTrim (v := v + w) (mm := zupd (zupd m 127 (64 * s + (i : Int)) c) 128 s ((i : Int) + 1)) h s0 s7 (fun m2 g2 f2 => ?_) (i + 1) _ (by omega) (by rw [zupd_eq]; push_cast; rfl) (fun k a b => ?_) ?_ (frP_rf _ _)
      · simp (disch := first | assumption | omega) only [rM_add_162, Bool.false_eq_true, true_implies, false_implies, implies_true, true_and, and_true, not_true_eq_false, not_false_eq_true, zPush_I, zPush_L, zPush_R, zPush_U, Int.reduceLT, Int.reduceLE, Int.reduceEq, Int.reduceNe, Int.reduceAdd, Int.reduceSub, Int.reduceMul, Int.reduceNeg, Int.reduceToNat, Nat.reduceAdd, Nat.reduceMul, Nat.reduceEqDiff, zw32_id, zw64_id, zupd_eq, zupd_na, zupd_ni, zupp_eq, zupp_na, zupp_ni]
        exact hQ m2 g2 (frP_tr (frP_up (frP_up hf (Or.inl ⟨rfl, by omega, by omega⟩)) (Or.inr ⟨rfl, rfl⟩)) (frP_wd f2 (fun x j hj => Or.inr hj)))
      · rw [hm]
        by_cases e : k = (i : Int)
        · rw [e, fup_eq]; omega
        · rw [fup_ne e]; exact h1 k a (by push_cast at b; omega)
      · rw [hm, bV_s, bV_up i (Int.le_refl _), fup_eq, h3, Int.natCast_add]
    | succ d ih =>
      intro i m c hi h1 h2 h3 c0 hs' hf
      have hs2' : m 128 t = (N2 : Int) := by rw [hf _ _ (by unfold pMb; omega)]; exact hs2
      have r1 := gx_r hr (i : Int) (by omega)
      have r2 := gx_r hr2 (i : Int) (by omega)
      have i1 : m 127 (64 * s + (i : Int)) = mRw mm s (i : Int) := h2 (i : Int) (by omega)
      have i2 : m 127 (64 * t + (i : Int)) = mRw mm t (i : Int) := hf _ _ (by unfold pMb; omega)
      obtain ⟨l, hl⟩ : ∃ l, gx (mRw mm s) N (i : Int) = l := ⟨_, rfl⟩
      obtain ⟨r, hr'⟩ : ∃ r, gx (mRw mm t) N2 (i : Int) = r := ⟨_, rfl⟩
      rw [hl] at r1
      rw [hr'] at r2
      have hst2 := stAdd1 (X := l + r + c) rfl h3
      obtain ⟨X, hX⟩ : ∃ X, l + r + c = X := ⟨_, rfl⟩
      rw [hX] at hst2
      have hXb : 0 ≤ X ∧ X ≤ 2147483647 := by omega
      have nx : zS 160 37 [zR 122, zI s, zI t, zL (X / 1073741824), zU, zI K, zI ((i : Int) + 1), zU, zU] [] sh pp (zupd m 127 (64 * s + (i : Int)) (X % 1073741824)) Q := by
        have := ih (i + 1) (zupd m 127 (64 * s + (i : Int)) (X % 1073741824)) (X / 1073741824) (by omega) (fun k k0 k1 => ?_) (fun k k0 => ?_) ?_ (by omega) (by rw [zupd_na (by decide)]; exact hs') (frP_up hf (Or.inl ⟨rfl, by omega, by omega⟩))
        · push_cast at this
          exact this
        · rw [mRw_up]
          by_cases e : k = (i : Int)
          · rw [e, fup_eq]; omega
          · rw [fup_ne e]; exact h1 k k0 (by push_cast at k1; omega)
        · rw [mRw_up, fup_ne (by push_cast at k0; omega)]; exact h2 k (by push_cast at k0; omega)
        · rw [mRw_up, bV_s, bV_s, bV_s, bV_up i (Int.le_refl _), fup_eq, hl, hr', two30]
          exact hst2
      rw [rM_add_37]
      by_cases c1 : (i : Int) < (N : Int)
      · have hl2 : mRw mm s (i : Int) = l := by rw [← hl]; unfold gx; rw [if_pos c1]
        by_cases c2 : (i : Int) < (N2 : Int)
        · have hr3 : mRw mm t (i : Int) = r := by rw [← hr']; unfold gx; rw [if_pos c2]
          simp (disch := first | assumption | omega) only [rM_add_39, rM_add_41, rM_add_44, rM_add_46, rM_add_47, rM_add_50, rM_add_51, rM_add_52, rM_add_55, rM_add_56, rM_add_59, rM_add_61, rM_add_62, rM_add_63, rM_add_65, rM_add_66, rM_add_67, rM_add_70, rM_add_71, rM_add_73, rM_add_74, rM_add_77, rM_add_78, rM_add_79, rM_add_82, rM_add_83, rM_add_86, rM_add_88, rM_add_89, rM_add_90, rM_add_92, rM_add_93, rM_add_94, rM_add_97, rM_add_98, rM_add_99, rM_add_100, rM_add_101, rM_add_103, rM_add_104, rM_add_107, rM_add_109, rM_add_110, rM_add_111, rM_add_113, rM_add_114, rM_add_116, rM_add_119, rM_add_120, rM_add_121, rM_add_123, rM_add_126, rM_add_127, rM_add_128, rM_add_131, Bool.false_eq_true, true_implies, false_implies, implies_true, true_and, and_true, not_true_eq_false, not_false_eq_true, zPush_I, zPush_L, zPush_R, zPush_U, Int.reduceLT, Int.reduceLE, Int.reduceEq, Int.reduceNe, Int.reduceAdd, Int.reduceSub, Int.reduceMul, Int.reduceNeg, Int.reduceToNat, Nat.reduceAdd, Nat.reduceMul, Nat.reduceEqDiff, zw32_id, zw64_id, zupd_eq, zupd_na, zupd_ni, zupp_eq, zupp_na, zupp_ni, p127, p128, hs', hs2', show (i : Int) < (K : Int) by omega, c1, c2, i1, i2, hl2, hr3, hX, ltm, ltd]
          exact nx
        · have hr3 : r = 0 := by rw [← hr']; unfold gx; rw [if_neg c2]
          rw [hr3, Int.add_zero] at hX
          simp (disch := first | assumption | omega) only [rM_add_39, rM_add_41, rM_add_44, rM_add_46, rM_add_47, rM_add_50, rM_add_51, rM_add_52, rM_add_55, rM_add_56, rM_add_59, rM_add_61, rM_add_62, rM_add_63, rM_add_65, rM_add_66, rM_add_67, rM_add_70, rM_add_71, rM_add_73, rM_add_74, rM_add_77, rM_add_78, rM_add_79, rM_add_82, rM_add_83, rM_add_86, rM_add_88, rM_add_89, rM_add_90, rM_add_92, rM_add_93, rM_add_94, rM_add_97, rM_add_98, rM_add_99, rM_add_100, rM_add_101, rM_add_103, rM_add_104, rM_add_107, rM_add_109, rM_add_110, rM_add_111, rM_add_113, rM_add_114, rM_add_116, rM_add_119, rM_add_120, rM_add_121, rM_add_123, rM_add_126, rM_add_127, rM_add_128, rM_add_131, Bool.false_eq_true, true_implies, false_implies, implies_true, true_and, and_true, not_true_eq_false, not_false_eq_true, zPush_I, zPush_L, zPush_R, zPush_U, Int.reduceLT, Int.reduceLE, Int.reduceEq, Int.reduceNe, Int.reduceAdd, Int.reduceSub, Int.reduceMul, Int.reduceNeg, Int.reduceToNat, Nat.reduceAdd, Nat.reduceMul, Nat.reduceEqDiff, zw32_id, zw64_id, zupd_eq, zupd_na, zupd_ni, zupp_eq, zupp_na, zupp_ni, p127, p128, hs', hs2', show (i : Int) < (K : Int) by omega, c1, c2, i1, hl2, Int.add_zero, hX, ltm, ltd]
          exact nx
      · have hl2 : l = 0 := by rw [← hl]; unfold gx; rw [if_neg c1]
        by_cases c2 : (i : Int) < (N2 : Int)
        · have hr3 : mRw mm t (i : Int) = r := by rw [← hr']; unfold gx; rw [if_pos c2]
          rw [hl2, Int.zero_add] at hX
          simp (disch := first | assumption | omega) only [rM_add_39, rM_add_41, rM_add_44, rM_add_46, rM_add_47, rM_add_50, rM_add_51, rM_add_52, rM_add_55, rM_add_56, rM_add_59, rM_add_61, rM_add_62, rM_add_63, rM_add_65, rM_add_66, rM_add_67, rM_add_70, rM_add_71, rM_add_73, rM_add_74, rM_add_77, rM_add_78, rM_add_79, rM_add_82, rM_add_83, rM_add_86, rM_add_88, rM_add_89, rM_add_90, rM_add_92, rM_add_93, rM_add_94, rM_add_97, rM_add_98, rM_add_99, rM_add_100, rM_add_101, rM_add_103, rM_add_104, rM_add_107, rM_add_109, rM_add_110, rM_add_111, rM_add_113, rM_add_114, rM_add_116, rM_add_119, rM_add_120, rM_add_121, rM_add_123, rM_add_126, rM_add_127, rM_add_128, rM_add_131, Bool.false_eq_true, true_implies, false_implies, implies_true, true_and, and_true, not_true_eq_false, not_false_eq_true, zPush_I, zPush_L, zPush_R, zPush_U, Int.reduceLT, Int.reduceLE, Int.reduceEq, Int.reduceNe, Int.reduceAdd, Int.reduceSub, Int.reduceMul, Int.reduceNeg, Int.reduceToNat, Nat.reduceAdd, Nat.reduceMul, Nat.reduceEqDiff, zw32_id, zw64_id, zupd_eq, zupd_na, zupd_ni, zupp_eq, zupp_na, zupp_ni, p127, p128, hs', hs2', show (i : Int) < (K : Int) by omega, c1, c2, i2, hr3, Int.zero_add, hX, ltm, ltd]
          exact nx
        · have hr3 : r = 0 := by rw [← hr']; unfold gx; rw [if_neg c2]
          rw [hl2, hr3, Int.add_zero, Int.zero_add] at hX
          simp (disch := first | assumption | omega) only [rM_add_39, rM_add_41, rM_add_44, rM_add_46, rM_add_47, rM_add_50, rM_add_51, rM_add_52, rM_add_55, rM_add_56, rM_add_59, rM_add_61, rM_add_62, rM_add_63, rM_add_65, rM_add_66, rM_add_67, rM_add_70, rM_add_71, rM_add_73, rM_add_74, rM_add_77, rM_add_78, rM_add_79, rM_add_82, rM_add_83, rM_add_86, rM_add_88, rM_add_89, rM_add_90, rM_add_92, rM_add_93, rM_add_94, rM_add_97, rM_add_98, rM_add_99, rM_add_100, rM_add_101, rM_add_103, rM_add_104, rM_add_107, rM_add_109, rM_add_110, rM_add_111, rM_add_113, rM_add_114, rM_add_116, rM_add_119, rM_add_120, rM_add_121, rM_add_123, rM_add_126, rM_add_127, rM_add_128, rM_add_131, Bool.false_eq_true, true_implies, false_implies, implies_true, true_and, and_true, not_true_eq_false, not_false_eq_true, zPush_I, zPush_L, zPush_R, zPush_U, Int.reduceLT, Int.reduceLE, Int.reduceEq, Int.reduceNe, Int.reduceAdd, Int.reduceSub, Int.reduceMul, Int.reduceNeg, Int.reduceToNat, Nat.reduceAdd, Nat.reduceMul, Nat.reduceEqDiff, zw32_id, zw64_id, zupd_eq, zupd_na, zupd_ni, zupp_eq, zupp_na, zupp_ni, p127, p128, hs', hs2', show (i : Int) < (K : Int) by omega, c1, c2, Int.zero_add, hX, ltm, ltd]
          exact nx
  by_cases c : (N2 : Int) < (N : Int)
  · simp (disch := first | assumption | omega) only [rM_add_0, rM_add_1, rM_add_2, rM_add_3, rM_add_6, rM_add_7, rM_add_8, rM_add_9, rM_add_12, rM_add_13, rM_add_14, rM_add_17, rM_add_18, rM_add_21, rM_add_22, rM_add_23, rM_add_26, rM_add_27, rM_add_30, rM_add_31, rM_add_32, rM_add_34, rM_add_35, Bool.false_eq_true, true_implies, false_implies, implies_true, true_and, and_true, not_true_eq_false, not_false_eq_true, zPush_I, zPush_L, zPush_R, zPush_U, Int.reduceLT, Int.reduceLE, Int.reduceEq, Int.reduceNe, Int.reduceAdd, Int.reduceSub, Int.reduceMul, Int.reduceNeg, Int.reduceToNat, Nat.reduceAdd, Nat.reduceMul, Nat.reduceEqDiff, zw32_id, zw64_id, zupd_eq, zupd_na, zupd_ni, zupp_eq, zupp_na, zupp_ni, p128, hs, hs2, c]
    exact key N (Nat.le_refl _) (by omega) n8 N 0 mm 0 (by omega) (fun k a b => by omega) (fun k _ => rfl) (by simp [bV]) (Or.inl rfl) hs (frP_rf _ _)
  · simp (disch := first | assumption | omega) only [rM_add_0, rM_add_1, rM_add_2, rM_add_3, rM_add_6, rM_add_7, rM_add_8, rM_add_9, rM_add_12, rM_add_13, rM_add_14, rM_add_17, rM_add_18, rM_add_21, rM_add_22, rM_add_23, rM_add_26, rM_add_27, rM_add_30, rM_add_31, rM_add_32, rM_add_34, rM_add_35, Bool.false_eq_true, true_implies, false_implies, implies_true, true_and, and_true, not_true_eq_false, not_false_eq_true, zPush_I, zPush_L, zPush_R, zPush_U, Int.reduceLT, Int.reduceLE, Int.reduceEq, Int.reduceNe, Int.reduceAdd, Int.reduceSub, Int.reduceMul, Int.reduceNeg, Int.reduceToNat, Nat.reduceAdd, Nat.reduceMul, Nat.reduceEqDiff, zw32_id, zw64_id, zupd_eq, zupd_na, zupd_ni, zupp_eq, zupp_na, zupp_ni, p128, hs, hs2, c]
    exact key N2 (by omega) (Nat.le_refl _) m8 N2 0 mm 0 (by omega) (fun k a b => by omega) (fun k _ => rfl) (by simp [bV]) (Or.inl rfl) hs (frP_rf _ _)
theorem mTakeB (h : zLy sh pp) (s0 : 0 ≤ s) (s7 : s ≤ 7) (t0 : 0 ≤ t) (t7 : t ≤ 7) (hst : t ≠ s) (hB : mB s v mm) (hC : mB t w mm) (hv : v < 1766847064778384329583297500742918515827483896875618958121606201292619776) (hle : w ≤ v) (hQ : ∀ m, mB s (v - w) m → frP (pMb s) mm m → Q zU sh pp m) : zS 161 0 [zR 122, zI s, zI t, zU, zU, zU, zU, zU] [] sh pp mm Q := by
  have k122 := k_122 h
  have k127 := k_127 h
  have l127 := l_127 h
  have p127 := p_122_4 h
  have k128 := k_128 h
  have l128 := l_128 h
  have p128 := p_122_5 h
  obtain ⟨N, n8, eN, hs, hr, hV⟩ := mB_row hB hv
  obtain ⟨N2, m8, eN2, hs2, hr2, hV2⟩ := mB_row hC (by omega)
  have hNN : N2 ≤ N := by have := nlim_mono hle; omega
  have key : ∀ (d i : Nat) (m : zMm) (c : Int), i + d = N → (∀ k, 0 ≤ k → k < (i : Int) → 0 ≤ mRw m s k ∧ mRw m s k < 1073741824) → (∀ k, (i : Int) ≤ k → mRw m s k = mRw mm s k) → bV (mRw m s) i - c * 2 ^ (30 * i) = bV (mRw mm s) i - bV (gx (mRw mm t) N2) i → (c = 0 ∨ c = 1) → m 128 s = (N : Int) → frP (pMb s) mm m → zS 161 5 [zR 122, zI s, zI t, zL c, zU, zI i, zU, zU] [] sh pp m Q := by
    intro d
    induction d with
    | zero =>
      intro i m c hi h1 h2 h3 c0 hs' hf
      have hi : i = N := by omega
      subst hi
      rw [hV, gx_v hV2 hNN] at h3
      have hc : c = 0 := by
        rcases c0 with c0 | c0
        · exact c0
        · exfalso
          subst c0
          have hn := (bV_bd (g := mRw m s) i (fun k a b => h1 k a b)).2
          rw [Int.one_mul] at h3
          omega
      subst hc
      rw [rM_take_5]
      simp (disch := first | assumption | omega) only [rM_take_7, rM_take_8, rM_take_11, rM_take_12, rM_take_13, rM_take_16, rM_take_17, rM_take_20, rM_take_22, rM_take_23, rM_take_24, rM_take_26, rM_take_27, rM_take_28, rM_take_30, rM_take_31, rM_take_34, rM_take_35, rM_take_36, rM_take_39, rM_take_40, rM_take_43, rM_take_45, rM_take_46, rM_take_47, rM_take_49, rM_take_50, rM_take_51, rM_take_54, rM_take_55, rM_take_56, rM_take_57, rM_take_58, rM_take_60, rM_take_62, rM_take_63, rM_take_64, rM_take_67, rM_take_68, rM_take_71, rM_take_72, rM_take_73, rM_take_74, rM_take_77, rM_take_79, rM_take_80, rM_take_81, rM_take_83, rM_take_84, rM_take_86, rM_take_87, rM_take_90, rM_take_91, rM_take_92, rM_take_93, rM_take_96, rM_take_99, rM_take_100, rM_take_101, Bool.false_eq_true, true_implies, false_implies, implies_true, true_and, and_true, not_true_eq_false, not_false_eq_true, zPush_I, zPush_L, zPush_R, zPush_U, Int.reduceLT, Int.reduceLE, Int.reduceEq, Int.reduceNe, Int.reduceAdd, Int.reduceSub, Int.reduceMul, Int.reduceNeg, Int.reduceToNat, Nat.reduceAdd, Nat.reduceMul, Nat.reduceEqDiff, zw32_id, zw64_id, zupd_eq, zupd_na, zupd_ni, zupp_eq, zupp_na, zupp_ni, p127, p128, hs', Int.lt_irrefl]
      refine mTrim (v := v - w) (mm := m) h s0 s7 (fun m2 g2 f2 => ?_) i m (by omega) hs' h1 (by omega) (frP_rf _ _)
      simp (disch := first | assumption | omega) only [rM_take_104, Bool.false_eq_true, true_implies, false_implies, implies_true, true_and, and_true, not_true_eq_false, not_false_eq_true, zPush_I, zPush_L, zPush_R, zPush_U, Int.reduceLT, Int.reduceLE, Int.reduceEq, Int.reduceNe, Int.reduceAdd, Int.reduceSub, Int.reduceMul, Int.reduceNeg, Int.reduceToNat, Nat.reduceAdd, Nat.reduceMul, Nat.reduceEqDiff, zw32_id, zw64_id, zupd_eq, zupd_na, zupd_ni, zupp_eq, zupp_na, zupp_ni]
      exact hQ m2 g2 (frP_tr hf (frP_wd f2 (fun x j hj => Or.inr hj)))
    | succ d ih =>
      intro i m c hi h1 h2 h3 c0 hs' hf
      have hs2' : m 128 t = (N2 : Int) := by rw [hf _ _ (by unfold pMb; omega)]; exact hs2
      have r1 := hr (i : Int) (by omega) (by omega)
      have r2 := gx_r hr2 (i : Int) (by omega)
      have i1 : m 127 (64 * s + (i : Int)) = mRw mm s (i : Int) := h2 (i : Int) (by omega)
      have i2 : m 127 (64 * t + (i : Int)) = mRw mm t (i : Int) := hf _ _ (by unfold pMb; omega)
      obtain ⟨l, hl⟩ : ∃ l, mRw mm s (i : Int) = l := ⟨_, rfl⟩
      obtain ⟨r, hr'⟩ : ∃ r, gx (mRw mm t) N2 (i : Int) = r := ⟨_, rfl⟩
      rw [hl] at r1 i1
      rw [hr'] at r2
      have hst2 := stSub (X := l - r - c) (w := r) rfl h3
      obtain ⟨X, hX⟩ : ∃ X, l - r - c = X := ⟨_, rfl⟩
      rw [hX] at hst2
      have hXb : -1073741824 ≤ X ∧ X < 1073741824 := by omega
      have nx : ∀ z c', z = X % 1073741824 → c' = -(X / 1073741824) → zS 161 5 [zR 122, zI s, zI t, zL c', zU, zI ((i : Int) + 1), zU, zU] [] sh pp (zupd m 127 (64 * s + (i : Int)) z) Q := by
        intro z c' hz hc'
        subst hz
        have := ih (i + 1) (zupd m 127 (64 * s + (i : Int)) (X % 1073741824)) c' (by omega) (fun k k0 k1 => ?_) (fun k k0 => ?_) ?_ (by omega) (by rw [zupd_na (by decide)]; exact hs') (frP_up hf (Or.inl ⟨rfl, by omega, by omega⟩))
        · push_cast at this
          exact this
        · rw [mRw_up]
          by_cases e : k = (i : Int)
          · rw [e, fup_eq]; omega
          · rw [fup_ne e]; exact h1 k k0 (by push_cast at k1; omega)
        · rw [mRw_up, fup_ne (by push_cast at k0; omega)]; exact h2 k (by push_cast at k0; omega)
        · rw [mRw_up, bV_s, bV_s, bV_s, bV_up i (Int.le_refl _), fup_eq, hl, hr', two30, hc']
          exact hst2
      rw [rM_take_5]
      by_cases c2 : (i : Int) < (N2 : Int)
      · have hr3 : mRw mm t (i : Int) = r := by rw [← hr']; unfold gx; rw [if_pos c2]
        by_cases hneg : X < 0
        · simp (disch := first | assumption | omega) only [rM_take_7, rM_take_8, rM_take_11, rM_take_12, rM_take_13, rM_take_16, rM_take_17, rM_take_20, rM_take_22, rM_take_23, rM_take_24, rM_take_26, rM_take_27, rM_take_28, rM_take_30, rM_take_31, rM_take_34, rM_take_35, rM_take_36, rM_take_39, rM_take_40, rM_take_43, rM_take_45, rM_take_46, rM_take_47, rM_take_49, rM_take_50, rM_take_51, rM_take_54, rM_take_55, rM_take_56, rM_take_57, rM_take_58, rM_take_60, rM_take_62, rM_take_63, rM_take_64, rM_take_67, rM_take_68, rM_take_71, rM_take_72, rM_take_73, rM_take_74, rM_take_77, rM_take_79, rM_take_80, rM_take_81, rM_take_83, rM_take_84, rM_take_86, rM_take_87, rM_take_90, rM_take_91, rM_take_92, rM_take_93, rM_take_96, Bool.false_eq_true, true_implies, false_implies, implies_true, true_and, and_true, not_true_eq_false, not_false_eq_true, zPush_I, zPush_L, zPush_R, zPush_U, Int.reduceLT, Int.reduceLE, Int.reduceEq, Int.reduceNe, Int.reduceAdd, Int.reduceSub, Int.reduceMul, Int.reduceNeg, Int.reduceToNat, Nat.reduceAdd, Nat.reduceMul, Nat.reduceEqDiff, zw32_id, zw64_id, zupd_eq, zupd_na, zupd_ni, zupp_eq, zupp_na, zupp_ni, p127, p128, hs', hs2', show (i : Int) < (N : Int) by omega, c2, i1, i2, hr3, hX, zcmp_lt, hneg]
          exact nx _ 1 (by omega) (by omega)
        · simp (disch := first | assumption | omega) only [rM_take_7, rM_take_8, rM_take_11, rM_take_12, rM_take_13, rM_take_16, rM_take_17, rM_take_20, rM_take_22, rM_take_23, rM_take_24, rM_take_26, rM_take_27, rM_take_28, rM_take_30, rM_take_31, rM_take_34, rM_take_35, rM_take_36, rM_take_39, rM_take_40, rM_take_43, rM_take_45, rM_take_46, rM_take_47, rM_take_49, rM_take_50, rM_take_51, rM_take_54, rM_take_55, rM_take_56, rM_take_57, rM_take_58, rM_take_60, rM_take_62, rM_take_63, rM_take_64, rM_take_67, rM_take_68, rM_take_71, rM_take_72, rM_take_73, rM_take_74, rM_take_77, rM_take_79, rM_take_80, rM_take_81, rM_take_83, rM_take_84, rM_take_86, rM_take_87, rM_take_90, rM_take_91, rM_take_92, rM_take_93, rM_take_96, Bool.false_eq_true, true_implies, false_implies, implies_true, true_and, and_true, not_true_eq_false, not_false_eq_true, zPush_I, zPush_L, zPush_R, zPush_U, Int.reduceLT, Int.reduceLE, Int.reduceEq, Int.reduceNe, Int.reduceAdd, Int.reduceSub, Int.reduceMul, Int.reduceNeg, Int.reduceToNat, Nat.reduceAdd, Nat.reduceMul, Nat.reduceEqDiff, zw32_id, zw64_id, zupd_eq, zupd_na, zupd_ni, zupp_eq, zupp_na, zupp_ni, p127, p128, hs', hs2', show (i : Int) < (N : Int) by omega, c2, i1, i2, hr3, hX, zcmp_lt, hneg, Int.zero_mul, Int.add_zero]
          exact nx _ 0 (by omega) (by omega)
      · have hr3 : r = 0 := by rw [← hr']; unfold gx; rw [if_neg c2]
        rw [hr3, Int.sub_zero] at hX
        by_cases hneg : X < 0
        · simp (disch := first | assumption | omega) only [rM_take_7, rM_take_8, rM_take_11, rM_take_12, rM_take_13, rM_take_16, rM_take_17, rM_take_20, rM_take_22, rM_take_23, rM_take_24, rM_take_26, rM_take_27, rM_take_28, rM_take_30, rM_take_31, rM_take_34, rM_take_35, rM_take_36, rM_take_39, rM_take_40, rM_take_43, rM_take_45, rM_take_46, rM_take_47, rM_take_49, rM_take_50, rM_take_51, rM_take_54, rM_take_55, rM_take_56, rM_take_57, rM_take_58, rM_take_60, rM_take_62, rM_take_63, rM_take_64, rM_take_67, rM_take_68, rM_take_71, rM_take_72, rM_take_73, rM_take_74, rM_take_77, rM_take_79, rM_take_80, rM_take_81, rM_take_83, rM_take_84, rM_take_86, rM_take_87, rM_take_90, rM_take_91, rM_take_92, rM_take_93, rM_take_96, Bool.false_eq_true, true_implies, false_implies, implies_true, true_and, and_true, not_true_eq_false, not_false_eq_true, zPush_I, zPush_L, zPush_R, zPush_U, Int.reduceLT, Int.reduceLE, Int.reduceEq, Int.reduceNe, Int.reduceAdd, Int.reduceSub, Int.reduceMul, Int.reduceNeg, Int.reduceToNat, Nat.reduceAdd, Nat.reduceMul, Nat.reduceEqDiff, zw32_id, zw64_id, zupd_eq, zupd_na, zupd_ni, zupp_eq, zupp_na, zupp_ni, p127, p128, hs', hs2', show (i : Int) < (N : Int) by omega, c2, i1, Int.sub_zero, hX, zcmp_lt, hneg]
          exact nx _ 1 (by omega) (by omega)
        · simp (disch := first | assumption | omega) only [rM_take_7, rM_take_8, rM_take_11, rM_take_12, rM_take_13, rM_take_16, rM_take_17, rM_take_20, rM_take_22, rM_take_23, rM_take_24, rM_take_26, rM_take_27, rM_take_28, rM_take_30, rM_take_31, rM_take_34, rM_take_35, rM_take_36, rM_take_39, rM_take_40, rM_take_43, rM_take_45, rM_take_46, rM_take_47, rM_take_49, rM_take_50, rM_take_51, rM_take_54, rM_take_55, rM_take_56, rM_take_57, rM_take_58, rM_take_60, rM_take_62, rM_take_63, rM_take_64, rM_take_67, rM_take_68, rM_take_71, rM_take_72, rM_take_73, rM_take_74, rM_take_77, rM_take_79, rM_take_80, rM_take_81, rM_take_83, rM_take_84, rM_take_86, rM_take_87, rM_take_90, rM_take_91, rM_take_92, rM_take_93, rM_take_96, Bool.false_eq_true, true_implies, false_implies, implies_true, true_and, and_true, not_true_eq_false, not_false_eq_true, zPush_I, zPush_L, zPush_R, zPush_U, Int.reduceLT, Int.reduceLE, Int.reduceEq, Int.reduceNe, Int.reduceAdd, Int.reduceSub, Int.reduceMul, Int.reduceNeg, Int.reduceToNat, Nat.reduceAdd, Nat.reduceMul, Nat.reduceEqDiff, zw32_id, zw64_id, zupd_eq, zupd_na, zupd_ni, zupp_eq, zupp_na, zupp_ni, p127, p128, hs', hs2', show (i : Int) < (N : Int) by omega, c2, i1, Int.sub_zero, hX, zcmp_lt, hneg, Int.zero_mul, Int.add_zero]
          exact nx _ 0 (by omega) (by omega)
  simp (disch := first | assumption | omega) only [rM_take_0, rM_take_1, rM_take_2, rM_take_3, Bool.false_eq_true, true_implies, false_implies, implies_true, true_and, and_true, not_true_eq_false, not_false_eq_true, zPush_I, zPush_L, zPush_R, zPush_U, Int.reduceLT, Int.reduceLE, Int.reduceEq, Int.reduceNe, Int.reduceAdd, Int.reduceSub, Int.reduceMul, Int.reduceNeg, Int.reduceToNat, Nat.reduceAdd, Nat.reduceMul, Nat.reduceEqDiff, zw32_id, zw64_id, zupd_eq, zupd_na, zupd_ni, zupp_eq, zupp_na, zupp_ni]
  exact key N 0 mm 0 (by omega) (fun k a b => by omega) (fun k _ => rfl) (by simp [bV]) (Or.inl rfl) hs (frP_rf _ _)
theorem ltd2 {x : Int} (h : 0 ≤ x) (h1 : x ≤ 9223372036854775807) : zw64 (x.tdiv 2) = x / 2 := by
  rw [Int.tdiv_eq_ediv_of_nonneg h]
  exact zw64_id (by omega) (by omega)
theorem ltm2 {x : Int} (h : 0 ≤ x) : x.tmod 2 = x % 2 := Int.tmod_eq_emod_of_nonneg h
theorem mHalve (h : zLy sh pp) (s0 : 0 ≤ s) (s7 : s ≤ 7) (hB : mB s v mm) (hv : v < 1766847064778384329583297500742918515827483896875618958121606201292619776) (hQ : ∀ m, mB s (v / 2) m → frP (pMb s) mm m → Q zU sh pp m) : zS 162 0 [zR 122, zI s, zU, zU, zU, zU, zU] [] sh pp mm Q := by
  have k122 := k_122 h
  have k127 := k_127 h
  have l127 := l_127 h
  have p127 := p_122_4 h
  have k128 := k_128 h
  have l128 := l_128 h
  have p128 := p_122_5 h
  obtain ⟨N, n8, eN, hs, hr, hV⟩ := mB_row hB hv
  have key : ∀ (n : Nat) (m : zMm) (c : Int), n ≤ N → (∀ k, 0 ≤ k → k < (N : Int) → 0 ≤ mRw m s k ∧ mRw m s k < 1073741824) → (∀ k, k < (n : Int) → mRw m s k = mRw mm s k) → 2 * (bV (mRw m s) N - bV (mRw m s) n) + c * 2 ^ (30 * n) = bV (mRw mm s) N - bV (mRw mm s) n → (c = 0 ∨ c = 1) → m 128 s = (N : Int) → frP (pMb s) mm m → zS 162 12 [zR 122, zI s, zL c, zU, zI ((n : Int) - 1), zU, zU] [] sh pp m Q := by
    intro n
    induction n with
    | zero =>
      intro m c _ h1 h2 h3 c0 hs' hf
      have z1 : bV (mRw m s) 0 = 0 := rfl
      have z2 : bV (mRw mm s) 0 = 0 := rfl
      rw [hV, z1, z2] at h3
      simp at h3
      rw [rM_halve_12]
      simp (disch := first | assumption | omega) only [rM_halve_14, rM_halve_17, rM_halve_18, rM_halve_21, rM_halve_23, rM_halve_24, rM_halve_25, rM_halve_27, rM_halve_28, rM_halve_29, rM_halve_30, rM_halve_33, rM_halve_34, rM_halve_35, rM_halve_37, rM_halve_38, rM_halve_41, rM_halve_43, rM_halve_44, rM_halve_45, rM_halve_47, rM_halve_48, rM_halve_50, rM_halve_53, rM_halve_54, rM_halve_55, rM_halve_57, rM_halve_60, rM_halve_61, rM_halve_62, rM_halve_65, rM_halve_68, rM_halve_69, rM_halve_70, Bool.false_eq_true, true_implies, false_implies, implies_true, true_and, and_true, not_true_eq_false, not_false_eq_true, zPush_I, zPush_L, zPush_R, zPush_U, Int.reduceLT, Int.reduceLE, Int.reduceEq, Int.reduceNe, Int.reduceAdd, Int.reduceSub, Int.reduceMul, Int.reduceNeg, Int.reduceToNat, Nat.reduceAdd, Nat.reduceMul, Nat.reduceEqDiff, zw32_id, zw64_id, zupd_eq, zupd_na, zupd_ni, zupp_eq, zupp_na, zupp_ni, show ((0 : Nat) : Int) - 1 < 0 by omega]
      refine mTrim (v := v / 2) (mm := m) h s0 s7 (fun m2 g2 f2 => ?_) N m (by omega) hs' h1 (by omega) (frP_rf _ _)
      simp (disch := first | assumption | omega) only [rM_halve_73, Bool.false_eq_true, true_implies, false_implies, implies_true, true_and, and_true, not_true_eq_false, not_false_eq_true, zPush_I, zPush_L, zPush_R, zPush_U, Int.reduceLT, Int.reduceLE, Int.reduceEq, Int.reduceNe, Int.reduceAdd, Int.reduceSub, Int.reduceMul, Int.reduceNeg, Int.reduceToNat, Nat.reduceAdd, Nat.reduceMul, Nat.reduceEqDiff, zw32_id, zw64_id, zupd_eq, zupd_na, zupd_ni, zupp_eq, zupp_na, zupp_ni]
      exact hQ m2 g2 (frP_tr hf (frP_wd f2 (fun x j hj => Or.inr hj)))
    | succ n ih =>
      intro m c hn h1 h2 h3 c0 hs' hf
      have e1 : ((n + 1 : Nat) : Int) - 1 = (n : Int) := by push_cast; omega
      have r1 := hr (n : Int) (by omega) (by omega)
      have i1 : m 127 (64 * s + (n : Int)) = mRw mm s (n : Int) := h2 (n : Int) (by push_cast; omega)
      obtain ⟨l, hl⟩ : ∃ l, mRw mm s (n : Int) = l := ⟨_, rfl⟩
      rw [hl] at r1 i1
      have i2 : mRw m s (n : Int) = l := i1
      obtain ⟨X, hX⟩ : ∃ X, l + c * 1073741824 = X := ⟨_, rfl⟩
      have hXb : 0 ≤ X ∧ X < 2147483648 := by omega
      rw [e1, rM_halve_12]
      simp (disch := first | assumption | omega) only [rM_halve_14, rM_halve_17, rM_halve_18, rM_halve_21, rM_halve_23, rM_halve_24, rM_halve_25, rM_halve_27, rM_halve_28, rM_halve_29, rM_halve_30, rM_halve_33, rM_halve_34, rM_halve_35, rM_halve_37, rM_halve_38, rM_halve_41, rM_halve_43, rM_halve_44, rM_halve_45, rM_halve_47, rM_halve_48, rM_halve_50, rM_halve_53, rM_halve_54, rM_halve_55, rM_halve_57, rM_halve_60, rM_halve_61, rM_halve_62, rM_halve_65, Bool.false_eq_true, true_implies, false_implies, implies_true, true_and, and_true, not_true_eq_false, not_false_eq_true, zPush_I, zPush_L, zPush_R, zPush_U, Int.reduceLT, Int.reduceLE, Int.reduceEq, Int.reduceNe, Int.reduceAdd, Int.reduceSub, Int.reduceMul, Int.reduceNeg, Int.reduceToNat, Nat.reduceAdd, Nat.reduceMul, Nat.reduceEqDiff, zw32_id, zw64_id, zupd_eq, zupd_na, zupd_ni, zupp_eq, zupp_na, zupp_ni, p127, show ¬ (n : Int) < 0 by omega, i1, hX, ltd2, ltm2]
      rw [show (n : Int) + -1 = (n : Int) - 1 by omega]
      refine ih (zupd m 127 (64 * s + (n : Int)) (X / 2)) (X % 2) (by omega) (fun k k0 k1 => ?_) (fun k k1 => ?_) ?_ (by omega) (by rw [zupd_na (by decide)]; exact hs') (frP_up hf (Or.inl ⟨rfl, by omega, by omega⟩))
      · rw [mRw_up]
        by_cases e : k = (n : Int)
        · rw [e, fup_eq]; omega
        · rw [fup_ne e]; exact h1 k k0 k1
      · rw [mRw_up, fup_ne (by omega)]; exact h2 k (by push_cast; omega)
      · rw [mRw_up, bV_fup (by omega) N (by omega), bV_up n (Int.le_refl _), i2, Int.toNat_natCast]
        rw [bV_s, bV_s, two30, hl, i2] at h3
        have e5 : X = 2 * (X / 2) + X % 2 := by omega
        generalize X / 2 = q at *
        generalize X % 2 = r at *
        generalize (2 : Int) ^ (30 * n) = P at *
        have e6 : l = 2 * q + r - c * 1073741824 := by omega
        rw [e6] at h3 ⊢
        grind
  simp (disch := first | assumption | omega) only [rM_halve_0, rM_halve_1, rM_halve_2, rM_halve_3, rM_halve_6, rM_halve_7, rM_halve_8, rM_halve_9, rM_halve_10, Bool.false_eq_true, true_implies, false_implies, implies_true, true_and, and_true, not_true_eq_false, not_false_eq_true, zPush_I, zPush_L, zPush_R, zPush_U, Int.reduceLT, Int.reduceLE, Int.reduceEq, Int.reduceNe, Int.reduceAdd, Int.reduceSub, Int.reduceMul, Int.reduceNeg, Int.reduceToNat, Nat.reduceAdd, Nat.reduceMul, Nat.reduceEqDiff, zw32_id, zw64_id, zupd_eq, zupd_na, zupd_ni, zupp_eq, zupp_na, zupp_ni, p128, hs]
  exact key N mm 0 (Nat.le_refl _) hr (fun k _ => rfl) (by simp) (Or.inl rfl) hs (frP_rf _ _)
theorem kM_isEven (h : zLy sh pp) (s0 : 0 ≤ s) (s7 : s ≤ 7) (hB : mB s v mm) (hv : v < 1766847064778384329583297500742918515827483896875618958121606201292619776) : zS 163 0 [zR 122, zI s] [] sh pp mm Q ↔ ((v % 2 = 0 → Q (zI 1) sh pp mm) ∧ (¬ v % 2 = 0 → Q (zI 0) sh pp mm)) := by
  have k122 := k_122 h
  have k127 := k_127 h
  have l127 := l_127 h
  have p127 := p_122_4 h
  have k128 := k_128 h
  have l128 := l_128 h
  have p128 := p_122_5 h
  obtain ⟨N, n8, eN, hs, hr, hV⟩ := mB_row hB hv
  by_cases h0 : N = 0
  · subst h0
    have e : (v : Int) = 0 := hV.symm
    have e2 : v % 2 = 0 := by omega
    simp (disch := first | assumption | omega) only [rM_isEven_0, rM_isEven_1, rM_isEven_4, rM_isEven_5, rM_isEven_6, rM_isEven_9, rM_isEven_10, rM_isEven_13, rM_isEven_15, rM_isEven_16, rM_isEven_17, rM_isEven_18, rM_isEven_21, rM_isEven_22, rM_isEven_23, rM_isEven_24, rM_isEven_27, rM_isEven_28, rM_isEven_31, rM_isEven_32, Bool.false_eq_true, true_implies, false_implies, implies_true, true_and, and_true, not_true_eq_false, not_false_eq_true, zPush_I, zPush_L, zPush_R, zPush_U, Int.reduceLT, Int.reduceLE, Int.reduceEq, Int.reduceNe, Int.reduceAdd, Int.reduceSub, Int.reduceMul, Int.reduceNeg, Int.reduceToNat, Nat.reduceAdd, Nat.reduceMul, Nat.reduceEqDiff, zw32_id, zw64_id, zupd_eq, zupd_na, zupd_ni, zupp_eq, zupp_na, zupp_ni, p127, p128, hs, show ((0 : Nat) : Int) = 0 from rfl, e2]
  · have e2 := bV_par (g := mRw mm s) (n := N) (by omega)
    rw [hV] at e2
    have r0 := hr 0 (by decide) (by omega)
    obtain ⟨l, hl⟩ : ∃ l, mRw mm s 0 = l := ⟨_, rfl⟩
    have hl' : mm 127 (64 * s) = l := by rw [← hl]; unfold mRw; rw [Int.add_zero]
    rw [hl] at e2 r0
    by_cases hp : v % 2 = 0
    · have : l % 2 = 0 := by omega
      simp (disch := first | assumption | omega) only [rM_isEven_0, rM_isEven_1, rM_isEven_4, rM_isEven_5, rM_isEven_6, rM_isEven_9, rM_isEven_10, rM_isEven_13, rM_isEven_15, rM_isEven_16, rM_isEven_17, rM_isEven_18, rM_isEven_21, rM_isEven_22, rM_isEven_23, rM_isEven_24, rM_isEven_27, rM_isEven_28, rM_isEven_31, rM_isEven_32, Bool.false_eq_true, true_implies, false_implies, implies_true, true_and, and_true, not_true_eq_false, not_false_eq_true, zPush_I, zPush_L, zPush_R, zPush_U, Int.reduceLT, Int.reduceLE, Int.reduceEq, Int.reduceNe, Int.reduceAdd, Int.reduceSub, Int.reduceMul, Int.reduceNeg, Int.reduceToNat, Nat.reduceAdd, Nat.reduceMul, Nat.reduceEqDiff, zw32_id, zw64_id, zupd_eq, zupd_na, zupd_ni, zupp_eq, zupp_na, zupp_ni, p127, p128, hs, show ¬ (N : Int) = 0 by omega, hl', ltm2, this, zcmp_eq, hp]
    · have : ¬ l % 2 = 0 := by omega
      simp (disch := first | assumption | omega) only [rM_isEven_0, rM_isEven_1, rM_isEven_4, rM_isEven_5, rM_isEven_6, rM_isEven_9, rM_isEven_10, rM_isEven_13, rM_isEven_15, rM_isEven_16, rM_isEven_17, rM_isEven_18, rM_isEven_21, rM_isEven_22, rM_isEven_23, rM_isEven_24, rM_isEven_27, rM_isEven_28, rM_isEven_31, rM_isEven_32, Bool.false_eq_true, true_implies, false_implies, implies_true, true_and, and_true, not_true_eq_false, not_false_eq_true, zPush_I, zPush_L, zPush_R, zPush_U, Int.reduceLT, Int.reduceLE, Int.reduceEq, Int.reduceNe, Int.reduceAdd, Int.reduceSub, Int.reduceMul, Int.reduceNeg, Int.reduceToNat, Nat.reduceAdd, Nat.reduceMul, Nat.reduceEqDiff, zw32_id, zw64_id, zupd_eq, zupd_na, zupd_ni, zupp_eq, zupp_na, zupp_ni, p127, p128, hs, show ¬ (N : Int) = 0 by omega, hl', ltm2, this, zcmp_eq, hp]
end
