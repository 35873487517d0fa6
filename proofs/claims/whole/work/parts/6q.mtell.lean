/-! ===== the reference tells a fraction ===== -/
theorem mB_gen {s' : Int} {v : Nat} {m m' : zMm} {R : Nat → Int → Prop} (h : mB s' v m) (hf : frP R m m') (h1 : ∀ j, 64 * s' ≤ j → j < 64 * s' + 64 → ¬ R 127 j) (h2 : ¬ R 128 s') (hl : v < 1766847064778384329583297500742918515827483896875618958121606201292619776) : mB s' v m' := by
  have e1 : m' 128 s' = m 128 s' := hf _ _ h2
  have hn := bR_size h
  have hk := nlim_8 hl
  have e2 : ∀ k, 0 ≤ k → k < m 128 s' → mRw m' s' k = mRw m s' k := fun k k0 k1 => hf _ _ (h1 _ (by omega) (by omega))
  obtain ⟨q1, q2, q3, q4⟩ := h
  unfold mB bR
  rw [e1]
  refine ⟨q1, fun k a b => by rw [e2 k a b]; exact q2 k a b, fun hp => by rw [e2 _ (by omega) (by omega)]; exact q3 hp, ?_⟩
  rw [← q4]
  exact bV_ext _ (fun k a b => e2 k a (by omega))
theorem mB_g3 {s' : Int} {v : Nat} {m m' : zMm} (h : mB s' v m) (hf : frP pG3 m m') (hs : s' < 5) (hl : v < 1766847064778384329583297500742918515827483896875618958121606201292619776) : mB s' v m' := mB_gen h hf (fun j a b => by unfold pG3; omega) (by unfold pG3; omega) hl
def pDv (s : Int) (x : Nat) (j : Int) : Prop := pMb s x j ∨ pMb 6 x j ∨ pMb 7 x j
theorem mB_dv {s s' : Int} {v : Nat} {m m' : zMm} (h : mB s' v m) (hf : frP (pDv s) m m') (hs : s' ≠ s) (h6 : s' ≠ 6) (h7 : s' ≠ 7) (hl : v < 1766847064778384329583297500742918515827483896875618958121606201292619776) : mB s' v m' := mB_gen h hf (fun j a b => by unfold pDv pMb; omega) (by unfold pDv pMb; omega) hl
section
variable {sh : zSh} {pp : zPp} {mm : zMm} {Q : zV → zSh → zPp → zMm → Prop} {s : Int} {v g : Nat}
theorem mDv2 (h : zLy sh pp) (s0 : 0 ≤ s) (s1 : s ≤ 1) (hg0 : g ≠ 0) (lg : 2 * g < 1766847064778384329583297500742918515827483896875618958121606201292619776) {N : Nat} (n8 : N ≤ 8) (b5 : mB 5 g mm) (hr : ∀ k, 0 ≤ k → k < (N : Int) → 0 ≤ mRw mm 7 k ∧ mRw mm 7 k < 1073741824) (hQ : ∀ m, mB s (v / g) m → frP (fun x j => pMb s x j ∨ pMb 6 x j) mm m → Q zU sh pp m) : ∀ (n H : Nat) (m : zMm) (V tp : Int), n ≤ N → (∀ k, 0 ≤ k → k < (n : Int) → mRw m s k = 0) → (∀ k, 0 ≤ k → k < (N : Int) → 0 ≤ mRw m s k ∧ mRw m s k < 1073741824) → bV (mRw m s) N = V * 2 ^ (30 * n) → (v : Int) = bV (mRw mm 7) n + tp * 2 ^ (30 * n) → V * g + H = tp → H < g → mB 6 H m → m 128 s = (N : Int) → frP (fun x j => pMb s x j ∨ pMb 6 x j) mm m → zS 165 51 [zR 122, zI s, zU, zI ((n : Int) - 1), zU, zU, zU] [] sh pp m Q := by
  have k122 := k_122 h
  have k127 := k_127 h
  have l127 := l_127 h
  have p127 := p_122_4 h
  have k128 := k_128 h
  have l128 := l_128 h
  have p128 := p_122_5 h
  intro n
  induction n with
  | zero =>
    intro H m V tp hn hz hrg hV hv hq hH b6 hs hf
    rw [rM_divide_51]
    simp (disch := first | assumption | omega) only [rM_divide_52, rM_divide_55, rM_divide_56, rM_divide_58, rM_divide_60, rM_divide_64, rM_divide_67, rM_divide_68, rM_divide_70, rM_divide_73, rM_divide_76, rM_divide_77, rM_divide_80, rM_divide_83, rM_divide_84, rM_divide_85, rM_divide_86, rM_divide_88, rM_divide_89, rM_divide_90, rM_divide_91, rM_divide_92, rM_divide_93, rM_divide_96, rM_divide_97, rM_divide_100, rM_divide_103, rM_divide_105, rM_divide_106, rM_divide_108, rM_divide_109, rM_divide_111, rM_divide_112, rM_divide_115, rM_divide_118, rM_divide_119, rM_divide_121, rM_divide_122, rM_divide_125, rM_divide_127, rM_divide_128, rM_divide_129, rM_divide_131, rM_divide_134, rM_divide_137, rM_divide_138, rM_divide_141, rM_divide_143, rM_divide_144, rM_divide_145, rM_divide_146, rM_divide_147, rM_divide_149, rM_divide_150, rM_divide_153, rM_divide_156, rM_divide_157, rM_divide_158, Bool.false_eq_true, true_implies, false_implies, implies_true, true_and, and_true, not_true_eq_false, not_false_eq_true, zPush_I, zPush_L, zPush_R, zPush_U, Int.reduceLT, Int.reduceLE, Int.reduceEq, Int.reduceNe, Int.reduceAdd, Int.reduceSub, Int.reduceMul, Int.reduceNeg, Int.reduceToNat, Nat.reduceAdd, Nat.reduceMul, Nat.reduceEqDiff, zw32_id, zw64_id, zupd_eq, zupd_na, zupd_ni, zupp_eq, zupp_na, zupp_ni, show ((0 : Nat) : Int) - 1 < 0 by omega]
    have e0 : bV (mRw mm 7) 0 = 0 := rfl
    rw [e0] at hv
    simp at hv hV
    have hVn := bV_nn (g := mRw m s) (n := N) hrg
    have hdiv : V = ((v / g : Nat) : Int) := by
      rw [Int.natCast_ediv]
      rw [hv, ← hq]
      rw [Int.add_comm, Int.add_mul_ediv_right _ _ (by omega), Int.ediv_eq_zero_of_lt (by omega) (by omega), Int.zero_add]
    refine mTrim (v := v / g) (mm := m) h s0 (by omega) (fun m2 g2 f2 => ?_) N m (by omega) hs hrg (by rw [hV, hdiv]) (frP_rf _ _)
    simp (disch := first | assumption | omega) only [rM_divide_161, Bool.false_eq_true, true_implies, false_implies, implies_true, true_and, and_true, not_true_eq_false, not_false_eq_true, zPush_I, zPush_L, zPush_R, zPush_U, Int.reduceLT, Int.reduceLE, Int.reduceEq, Int.reduceNe, Int.reduceAdd, Int.reduceSub, Int.reduceMul, Int.reduceNeg, Int.reduceToNat, Nat.reduceAdd, Nat.reduceMul, Nat.reduceEqDiff, zw32_id, zw64_id, zupd_eq, zupd_na, zupd_ni, zupp_eq, zupp_na, zupp_ni]
    exact hQ m2 g2 (frP_tr hf (frP_wd f2 (fun x j hj => Or.inl (Or.inr hj))))
  | succ n ih =>
    intro H m V tp hn hz hrg hV hv hq hH b6 hs hf
    have e1 : ((n + 1 : Nat) : Int) - 1 = (n : Int) := by push_cast; omega
    have hl := hr (n : Int) (by omega) (by omega)
    obtain ⟨l, hl'⟩ : ∃ l, mRw mm 7 (n : Int) = l := ⟨_, rfl⟩
    rw [hl'] at hl
    have hl7 : m 127 (448 + (n : Int)) = l := by
      rw [hf _ _ (by unfold pMb; omega)]
      exact hl'
    have hb5 : mB 5 g m := by
      have q := mB_sz b5 (by omega)
      have e1 : m 128 5 = mm 128 5 := hf _ _ (by unfold pMb; omega)
      have e2 : ∀ k, 0 ≤ k → k < mm 128 5 → mRw m 5 k = mRw mm 5 k := fun k k0 k1 => hf _ _ (by unfold pMb; omega)
      obtain ⟨h1, h2, h3, h4⟩ := b5
      unfold mB bR
      rw [e1]
      refine ⟨h1, fun k a b => by rw [e2 k a b]; exact h2 k a b, fun hp => by rw [e2 _ (by omega) (by omega)]; exact h3 hp, ?_⟩
      rw [← h4]
      exact bV_ext _ (fun k a b => e2 k a (by omega))
    rw [e1, rM_divide_51]
    simp (disch := first | assumption | omega) only [rM_divide_52, rM_divide_55, rM_divide_56, rM_divide_58, rM_divide_60, Bool.false_eq_true, true_implies, false_implies, implies_true, true_and, and_true, not_true_eq_false, not_false_eq_true, zPush_I, zPush_L, zPush_R, zPush_U, Int.reduceLT, Int.reduceLE, Int.reduceEq, Int.reduceNe, Int.reduceAdd, Int.reduceSub, Int.reduceMul, Int.reduceNeg, Int.reduceToNat, Nat.reduceAdd, Nat.reduceMul, Nat.reduceEqDiff, zw32_id, zw64_id, zupd_eq, zupd_na, zupd_ni, zupp_eq, zupp_na, zupp_ni, show ¬ (n : Int) < 0 by omega]
    have := mDv1 (Q := Q) (mm := m) (V := V) (tp := tp) h s0 s1 hg0 lg (k := (n : Int)) (by omega) (by omega) (l := l) hl.1 hl.2 (fun bits H2 m2 c0 c1 c2 c3 d6 f2 => ?_) hb5 hl7 30 0 H m (Nat.le_refl _) (by decide) (by decide) ?_ hH b6 (frP_rf _ _)
    · exact this
    · have hs2 : m2 128 s = (N : Int) := by rw [f2 _ _ (by unfold pMb; omega)]; exact hs
      have hrw : ∀ k, 0 ≤ k → k < 64 → mRw m2 s k = mRw m s k := fun k k0 k1 => f2 _ _ (by unfold pMb; omega)
      simp (disch := first | assumption | omega) only [rM_divide_137, rM_divide_138, rM_divide_141, rM_divide_143, rM_divide_144, rM_divide_145, rM_divide_146, rM_divide_147, rM_divide_149, rM_divide_150, rM_divide_153, Bool.false_eq_true, true_implies, false_implies, implies_true, true_and, and_true, not_true_eq_false, not_false_eq_true, zPush_I, zPush_L, zPush_R, zPush_U, Int.reduceLT, Int.reduceLE, Int.reduceEq, Int.reduceNe, Int.reduceAdd, Int.reduceSub, Int.reduceMul, Int.reduceNeg, Int.reduceToNat, Nat.reduceAdd, Nat.reduceMul, Nat.reduceEqDiff, zw32_id, zw64_id, zupd_eq, zupd_na, zupd_ni, zupp_eq, zupp_na, zupp_ni, p127]
      rw [show (n : Int) + -1 = (n : Int) - 1 by omega]
      refine ih H2 (zupd m2 127 (64 * s + (n : Int)) bits) (V * 1073741824 + bits) (tp * 1073741824 + l) (by omega) (fun k k0 k1 => ?_) (fun k k0 k1 => ?_) ?_ ?_ c2 c3 ?_ (by rw [zupd_na (by decide)]; exact hs2) (frP_up (frP_tr hf (frP_wd f2 (fun x j hj => Or.inr hj))) (Or.inl (Or.inl ⟨rfl, by omega, by omega⟩)))
      · rw [mRw_up, fup_ne (by omega), hrw k k0 (by omega)]; exact hz k k0 (by push_cast; omega)
      · rw [mRw_up]
        by_cases e : k = (n : Int)
        · rw [e, fup_eq]; exact ⟨c0, c1⟩
        · rw [fup_ne e, hrw k k0 (by omega)]; exact hrg k k0 k1
      · rw [mRw_up, bV_fup (by omega) N (by omega), bV_ext (g := mRw m2 s) (g' := mRw m s) N (fun k a b => hrw k a (by omega)), hV, two30, hrw _ (by omega) (by omega), hz (n : Int) (by omega) (by push_cast; omega), Int.toNat_natCast]
        generalize (2 : Int) ^ (30 * n) = P
        grind
      · rw [hv, bV_s, two30, hl']
        generalize (2 : Int) ^ (30 * n) = P
        grind
      · have e9 : frP (pMb s) m2 (zupd m2 127 (64 * s + (n : Int)) bits) := frP_up (frP_rf _ _) (Or.inl ⟨rfl, by omega, by omega⟩)
        exact mB_fr d6 e9 (by omega) (by omega)
    · have : l / 2 ^ 30 = 0 := Int.ediv_eq_zero_of_lt hl.1 (by simpa using hl.2)
      rw [this]
      simp
      exact hq
theorem mDivide (h : zLy sh pp) (s0 : 0 ≤ s) (s1 : s ≤ 1) (hg0 : g ≠ 0) (lg : 2 * g < 1766847064778384329583297500742918515827483896875618958121606201292619776) (lv : v < 1766847064778384329583297500742918515827483896875618958121606201292619776) (bs : mB s v mm) (b5 : mB 5 g mm) (hQ : ∀ m, mB s (v / g) m → frP (pDv s) mm m → Q zU sh pp m) : zS 165 0 [zR 122, zI s, zU, zU, zU, zU, zU] [] sh pp mm Q := by
  have k122 := k_122 h
  have k127 := k_127 h
  have l127 := l_127 h
  have p127 := p_122_4 h
  have k128 := k_128 h
  have l128 := l_128 h
  have p128 := p_122_5 h
  simp (disch := first | assumption | omega) only [rM_divide_0, rM_divide_1, rM_divide_3, rM_divide_4, Bool.false_eq_true, true_implies, false_implies, implies_true, true_and, and_true, not_true_eq_false, not_false_eq_true, zPush_I, zPush_L, zPush_R, zPush_U, Int.reduceLT, Int.reduceLE, Int.reduceEq, Int.reduceNe, Int.reduceAdd, Int.reduceSub, Int.reduceMul, Int.reduceNeg, Int.reduceToNat, Nat.reduceAdd, Nat.reduceMul, Nat.reduceEqDiff, zw32_id, zw64_id, zupd_eq, zupd_na, zupd_ni, zupp_eq, zupp_na, zupp_ni]
  refine mCopy h (by decide) (by decide) s0 (by omega) (by omega) bs lv (fun m1 c1 f1 => ?_)
  simp (disch := first | assumption | omega) only [rM_divide_7, rM_divide_8, rM_divide_10, rM_divide_11, Bool.false_eq_true, true_implies, false_implies, implies_true, true_and, and_true, not_true_eq_false, not_false_eq_true, zPush_I, zPush_L, zPush_R, zPush_U, Int.reduceLT, Int.reduceLE, Int.reduceEq, Int.reduceNe, Int.reduceAdd, Int.reduceSub, Int.reduceMul, Int.reduceNeg, Int.reduceToNat, Nat.reduceAdd, Nat.reduceMul, Nat.reduceEqDiff, zw32_id, zw64_id, zupd_eq, zupd_na, zupd_ni, zupp_eq, zupp_na, zupp_ni]
  refine mSet (t := 0) h (by decide) (by decide) (Or.inl rfl) (fun m2 c2 f2 => ?_)
  have c1' := mB_fr c1 f2 (by decide) lv
  obtain ⟨N, n8, eN, hs7, hr, hV⟩ := mB_row c1' lv
  have hss : m2 128 s = (N : Int) := by
    rw [f2 _ _ (by unfold pMb; omega), f1 _ _ (by unfold pMb; omega), (mB_sz bs lv).1, eN]
  have b5' := mB_fr (mB_fr b5 f1 (by decide) (by omega)) f2 (by decide) (by omega)
  have fz : frP (pDv s) mm m2 := frP_tr (frP_wd f1 (fun x j hj => Or.inr (Or.inr hj))) (frP_wd f2 (fun x j hj => Or.inr (Or.inl hj)))
  have key : ∀ i, 0 ≤ i → i ≤ (N : Int) → ∀ m, (∀ k, 0 ≤ k → k < i → mRw m s k = 0) → frP (fun x j => x = 127 ∧ 64 * s ≤ j ∧ j < 64 * s + 64) m2 m → zS 165 24 [zR 122, zI s, zI N, zI i, zU, zU, zU] [] sh pp m Q := by
    refine zdn ?_ ?_
    · intro m hm hf
      have hf' : frP (pMb s) m2 m := frP_wd hf (fun x j hj => Or.inl hj)
      rw [rM_divide_24]
      simp (disch := first | assumption | omega) only [rM_divide_25, rM_divide_26, rM_divide_29, rM_divide_30, rM_divide_33, rM_divide_35, rM_divide_36, rM_divide_37, rM_divide_38, rM_divide_39, rM_divide_40, rM_divide_41, rM_divide_44, rM_divide_47, rM_divide_48, rM_divide_49, rM_divide_50, Bool.false_eq_true, true_implies, false_implies, implies_true, true_and, and_true, not_true_eq_false, not_false_eq_true, zPush_I, zPush_L, zPush_R, zPush_U, Int.reduceLT, Int.reduceLE, Int.reduceEq, Int.reduceNe, Int.reduceAdd, Int.reduceSub, Int.reduceMul, Int.reduceNeg, Int.reduceToNat, Nat.reduceAdd, Nat.reduceMul, Nat.reduceEqDiff, zw32_id, zw64_id, zupd_eq, zupd_na, zupd_ni, zupp_eq, zupp_na, zupp_ni, Int.lt_irrefl]
      have hr7 : ∀ k, 0 ≤ k → k < (N : Int) → mRw m 7 k = mRw m2 7 k := fun k k0 k1 => hf' _ _ (by unfold pMb; omega)
      refine mDv2 (mm := m) (N := N) h s0 s1 hg0 lg n8 (mB_fr b5' hf' (by omega) (by omega)) (fun k k0 k1 => by rw [hr7 k k0 k1]; exact hr k k0 k1) (fun m4 c4 f4 => hQ m4 c4 (frP_tr (frP_tr fz (frP_wd hf' (fun x j hj => Or.inl hj))) (frP_wd f4 (fun x j hj => by rcases hj with hj | hj; (· exact Or.inl hj); (· exact Or.inr (Or.inl hj)))))) N 0 m 0 0 (Nat.le_refl _) hm (fun k k0 k1 => by rw [hm k k0 k1]; decide) ?_ ?_ (by simp) (by omega) (mB_fr c2 hf' (by omega) (by decide)) (by rw [hf _ _ (by omega)]; exact hss) (frP_rf _ _)
      · rw [bV_z N 0 (by omega) (fun k k0 k1 => hm k (by omega) k1)]
        simp [bV]
      · rw [bV_ext (g := mRw m 7) (g' := mRw m2 7) N (fun k a b => hr7 k a b), hV]
        simp
    · intro i i0 i1 ih m hm hf
      rw [rM_divide_24]
      simp (disch := first | assumption | omega) only [rM_divide_25, rM_divide_26, rM_divide_29, rM_divide_30, rM_divide_33, rM_divide_35, rM_divide_36, rM_divide_37, rM_divide_38, rM_divide_39, rM_divide_40, rM_divide_41, rM_divide_44, Bool.false_eq_true, true_implies, false_implies, implies_true, true_and, and_true, not_true_eq_false, not_false_eq_true, zPush_I, zPush_L, zPush_R, zPush_U, Int.reduceLT, Int.reduceLE, Int.reduceEq, Int.reduceNe, Int.reduceAdd, Int.reduceSub, Int.reduceMul, Int.reduceNeg, Int.reduceToNat, Nat.reduceAdd, Nat.reduceMul, Nat.reduceEqDiff, zw32_id, zw64_id, zupd_eq, zupd_na, zupd_ni, zupp_eq, zupp_na, zupp_ni, i1, p127]
      refine ih _ (fun k k0 k1 => ?_) (frP_up hf ⟨rfl, by omega, by omega⟩)
      rw [mRw_up]
      by_cases e : k = i
      · rw [e, fup_eq]
      · rw [fup_ne e]; exact hm k k0 (by omega)
  simp (disch := first | assumption | omega) only [rM_divide_14, rM_divide_15, rM_divide_18, rM_divide_20, rM_divide_21, rM_divide_22, rM_divide_23, Bool.false_eq_true, true_implies, false_implies, implies_true, true_and, and_true, not_true_eq_false, not_false_eq_true, zPush_I, zPush_L, zPush_R, zPush_U, Int.reduceLT, Int.reduceLE, Int.reduceEq, Int.reduceNe, Int.reduceAdd, Int.reduceSub, Int.reduceMul, Int.reduceNeg, Int.reduceToNat, Nat.reduceAdd, Nat.reduceMul, Nat.reduceEqDiff, zw32_id, zw64_id, zupd_eq, zupd_na, zupd_ni, zupp_eq, zupp_na, zupp_ni, p128, hs7]
  exact key 0 (by decide) (by omega) m2 (fun k a b => by omega) (frP_rf _ _)
def pTl (x : Nat) (j : Int) : Prop := x = 127 ∨ x = 128 ∨ (x = 122 ∧ j = 6)
theorem mTell (h : zLy sh pp) {A B : Nat} (hB : B ≠ 0) (lA : 2 * A < 1766847064778384329583297500742918515827483896875618958121606201292619776) (lB : 2 * B < 1766847064778384329583297500742918515827483896875618958121606201292619776) (bA : mB 4 A mm) (bB : mB 3 B mm) (hQ : ∀ m, mB 0 (A / Nat.gcd A B) m → mB 1 (B / Nat.gcd A B) m → m 122 6 = (if A / Nat.gcd A B = 0 then 0 else 1) → frP pTl mm m → Q zU sh pp m) : zS 167 0 [zR 122, zI 4, zI 3, zI 0] [] sh pp mm Q := by
  have k122 := k_122 h
  have k128 := k_128 h
  have l128 := l_128 h
  have p128 := p_122_5 h
  have hs := (mB_sz bA (by omega)).1
  have wd : ∀ {s : Int} {a b : zMm}, frP (pMb s) a b → frP pTl a b := fun hf => frP_wd hf (fun x j hj => by unfold pMb at hj; unfold pTl; omega)
  by_cases h0 : A = 0
  · subst h0
    have hs0 : mm 128 4 = 0 := hs
    simp (disch := first | assumption | omega) only [rM_tell_0, rM_tell_1, rM_tell_4, rM_tell_5, rM_tell_6, rM_tell_9, rM_tell_10, rM_tell_11, rM_tell_12, Bool.false_eq_true, true_implies, false_implies, implies_true, true_and, and_true, not_true_eq_false, not_false_eq_true, zPush_I, zPush_L, zPush_R, zPush_U, Int.reduceLT, Int.reduceLE, Int.reduceEq, Int.reduceNe, Int.reduceAdd, Int.reduceSub, Int.reduceMul, Int.reduceNeg, Int.reduceToNat, Nat.reduceAdd, Nat.reduceMul, Nat.reduceEqDiff, zw32_id, zw64_id, zupd_eq, zupd_na, zupd_ni, zupp_eq, zupp_na, zupp_ni, p128, hs0]
    refine mSet (t := 0) h (by decide) (by decide) (Or.inl rfl) (fun m1 c1 f1 => ?_)
    simp (disch := first | assumption | omega) only [rM_tell_15, rM_tell_16, rM_tell_17, rM_tell_18, Bool.false_eq_true, true_implies, false_implies, implies_true, true_and, and_true, not_true_eq_false, not_false_eq_true, zPush_I, zPush_L, zPush_R, zPush_U, Int.reduceLT, Int.reduceLE, Int.reduceEq, Int.reduceNe, Int.reduceAdd, Int.reduceSub, Int.reduceMul, Int.reduceNeg, Int.reduceToNat, Nat.reduceAdd, Nat.reduceMul, Nat.reduceEqDiff, zw32_id, zw64_id, zupd_eq, zupd_na, zupd_ni, zupp_eq, zupp_na, zupp_ni]
    refine mSet (t := 1) h (by decide) (by decide) (Or.inr (Or.inl rfl)) (fun m2 c2 f2 => ?_)
    simp (disch := first | assumption | omega) only [rM_tell_21, rM_tell_22, rM_tell_23, rM_tell_26, Bool.false_eq_true, true_implies, false_implies, implies_true, true_and, and_true, not_true_eq_false, not_false_eq_true, zPush_I, zPush_L, zPush_R, zPush_U, Int.reduceLT, Int.reduceLE, Int.reduceEq, Int.reduceNe, Int.reduceAdd, Int.reduceSub, Int.reduceMul, Int.reduceNeg, Int.reduceToNat, Nat.reduceAdd, Nat.reduceMul, Nat.reduceEqDiff, zw32_id, zw64_id, zupd_eq, zupd_na, zupd_ni, zupp_eq, zupp_na, zupp_ni]
    have fl : frP (fun x j => x = 122 ∧ j = 6) m2 (zupd m2 122 6 0) := frP_up (frP_rf _ _) ⟨rfl, rfl⟩
    have cg : ∀ (s : Int) (u : Nat), mB s u m2 → mB s u (zupd m2 122 6 0) := fun s u hu => by
      unfold mB at *
      rw [mRw_na _ _ _ _ (by decide), zupd_na (by decide)]
      exact hu
    refine hQ _ ?_ ?_ ?_ (frP_tr (frP_tr (wd f1) (wd f2)) (frP_wd fl (fun x j hj => by unfold pTl; omega)))
    · rw [Nat.zero_div]; exact cg 0 0 (mB_fr c1 f2 (by decide) (by decide))
    · rw [Nat.gcd_zero_left, Nat.div_self (by omega)]; exact cg 1 1 c2
    · rw [zupd_eq, Nat.zero_div]; rfl
  · have hs0 : ¬ mm 128 4 = 0 := by rw [hs]; exact fun hc => h0 ((nlim_0 A).mp hc)
    have hgA : Nat.gcd A B ≤ A := Nat.le_of_dvd (by omega) (Nat.gcd_dvd_left A B)
    have hg0 : Nat.gcd A B ≠ 0 := fun hc => h0 (Nat.eq_zero_of_gcd_eq_zero_left hc)
    have hAq : A / Nat.gcd A B ≠ 0 := by
      have := Nat.div_pos hgA (by omega)
      omega
    have hAl : A / Nat.gcd A B ≤ A := Nat.div_le_self _ _
    have hBl : B / Nat.gcd A B ≤ B := Nat.div_le_self _ _
    simp (disch := first | assumption | omega) only [rM_tell_0, rM_tell_1, rM_tell_4, rM_tell_5, rM_tell_6, rM_tell_9, rM_tell_10, rM_tell_11, rM_tell_12, rM_tell_15, rM_tell_16, rM_tell_17, rM_tell_18, rM_tell_21, rM_tell_22, rM_tell_23, rM_tell_26, rM_tell_27, rM_tell_28, rM_tell_29, rM_tell_30, Bool.false_eq_true, true_implies, false_implies, implies_true, true_and, and_true, not_true_eq_false, not_false_eq_true, zPush_I, zPush_L, zPush_R, zPush_U, Int.reduceLT, Int.reduceLE, Int.reduceEq, Int.reduceNe, Int.reduceAdd, Int.reduceSub, Int.reduceMul, Int.reduceNeg, Int.reduceToNat, Nat.reduceAdd, Nat.reduceMul, Nat.reduceEqDiff, zw32_id, zw64_id, zupd_eq, zupd_na, zupd_ni, zupp_eq, zupp_na, zupp_ni, p128, hs0]
    refine mFindDiv h (by decide) (by decide) h0 hB (by omega) (by omega) bA bB (fun m1 c1 f1 => ?_)
    have bA1 : mB 4 A m1 := mB_g3 bA f1 (by decide) (by omega)
    have bB1 : mB 3 B m1 := mB_g3 bB f1 (by decide) (by omega)
    simp (disch := first | assumption | omega) only [rM_tell_33, rM_tell_34, rM_tell_35, rM_tell_36, Bool.false_eq_true, true_implies, false_implies, implies_true, true_and, and_true, not_true_eq_false, not_false_eq_true, zPush_I, zPush_L, zPush_R, zPush_U, Int.reduceLT, Int.reduceLE, Int.reduceEq, Int.reduceNe, Int.reduceAdd, Int.reduceSub, Int.reduceMul, Int.reduceNeg, Int.reduceToNat, Nat.reduceAdd, Nat.reduceMul, Nat.reduceEqDiff, zw32_id, zw64_id, zupd_eq, zupd_na, zupd_ni, zupp_eq, zupp_na, zupp_ni]
    refine mCopy h (by decide) (by decide) (by decide) (by decide) (by decide) bA1 (by omega) (fun m2 c2 f2 => ?_)
    simp (disch := first | assumption | omega) only [rM_tell_39, rM_tell_40, rM_tell_41, Bool.false_eq_true, true_implies, false_implies, implies_true, true_and, and_true, not_true_eq_false, not_false_eq_true, zPush_I, zPush_L, zPush_R, zPush_U, Int.reduceLT, Int.reduceLE, Int.reduceEq, Int.reduceNe, Int.reduceAdd, Int.reduceSub, Int.reduceMul, Int.reduceNeg, Int.reduceToNat, Nat.reduceAdd, Nat.reduceMul, Nat.reduceEqDiff, zw32_id, zw64_id, zupd_eq, zupd_na, zupd_ni, zupp_eq, zupp_na, zupp_ni]
    refine mDivide h (by decide) (by decide) hg0 (by omega) (by omega) c2 (mB_fr c1 f2 (by decide) (by omega)) (fun m3 c3 f3 => ?_)
    have bB3 : mB 3 B m3 := mB_dv (mB_fr bB1 f2 (by decide) (by omega)) f3 (by decide) (by decide) (by decide) (by omega)
    have c13 : mB 5 (Nat.gcd A B) m3 := mB_dv (mB_fr c1 f2 (by decide) (by omega)) f3 (by decide) (by decide) (by decide) (by omega)
    simp (disch := first | assumption | omega) only [rM_tell_44, rM_tell_45, rM_tell_46, rM_tell_47, Bool.false_eq_true, true_implies, false_implies, implies_true, true_and, and_true, not_true_eq_false, not_false_eq_true, zPush_I, zPush_L, zPush_R, zPush_U, Int.reduceLT, Int.reduceLE, Int.reduceEq, Int.reduceNe, Int.reduceAdd, Int.reduceSub, Int.reduceMul, Int.reduceNeg, Int.reduceToNat, Nat.reduceAdd, Nat.reduceMul, Nat.reduceEqDiff, zw32_id, zw64_id, zupd_eq, zupd_na, zupd_ni, zupp_eq, zupp_na, zupp_ni]
    refine mCopy h (by decide) (by decide) (by decide) (by decide) (by decide) bB3 (by omega) (fun m4 c4 f4 => ?_)
    simp (disch := first | assumption | omega) only [rM_tell_50, rM_tell_51, rM_tell_52, Bool.false_eq_true, true_implies, false_implies, implies_true, true_and, and_true, not_true_eq_false, not_false_eq_true, zPush_I, zPush_L, zPush_R, zPush_U, Int.reduceLT, Int.reduceLE, Int.reduceEq, Int.reduceNe, Int.reduceAdd, Int.reduceSub, Int.reduceMul, Int.reduceNeg, Int.reduceToNat, Nat.reduceAdd, Nat.reduceMul, Nat.reduceEqDiff, zw32_id, zw64_id, zupd_eq, zupd_na, zupd_ni, zupp_eq, zupp_na, zupp_ni]
    refine mDivide h (by decide) (by decide) hg0 (by omega) (by omega) c4 (mB_fr c13 f4 (by decide) (by omega)) (fun m5 c5 f5 => ?_)
    simp (disch := first | assumption | omega) only [rM_tell_55, rM_tell_56, rM_tell_57, rM_tell_60, rM_tell_61, rM_tell_64, rM_tell_65, rM_tell_68, Bool.false_eq_true, true_implies, false_implies, implies_true, true_and, and_true, not_true_eq_false, not_false_eq_true, zPush_I, zPush_L, zPush_R, zPush_U, Int.reduceLT, Int.reduceLE, Int.reduceEq, Int.reduceNe, Int.reduceAdd, Int.reduceSub, Int.reduceMul, Int.reduceNeg, Int.reduceToNat, Nat.reduceAdd, Nat.reduceMul, Nat.reduceEqDiff, zw32_id, zw64_id, zupd_eq, zupd_na, zupd_ni, zupp_eq, zupp_na, zupp_ni]
    have fl : frP (fun x j => x = 122 ∧ j = 6) m5 (zupd m5 122 6 1) := frP_up (frP_rf _ _) ⟨rfl, rfl⟩
    have cg : ∀ (s : Int) (u : Nat), mB s u m5 → mB s u (zupd m5 122 6 1) := fun s u hu => by
      unfold mB at *
      rw [mRw_na _ _ _ _ (by decide), zupd_na (by decide)]
      exact hu
    have wv : ∀ {s : Int} {a b : zMm}, frP (pDv s) a b → frP pTl a b := fun hf => frP_wd hf (fun x j hj => by unfold pDv pMb at hj; unfold pTl; omega)
    refine hQ _ (cg 0 _ (mB_dv (mB_fr c3 f4 (by decide) (by omega)) f5 (by decide) (by decide) (by decide) (by omega))) (cg 1 _ c5) (by rw [zupd_eq, if_neg hAq]) (frP_tr (frP_tr (frP_tr (frP_tr (frP_tr (frP_wd f1 (fun x j hj => by unfold pG3 at hj; unfold pTl; omega)) (wd f2)) (wv f3)) (wd f4)) (wv f5)) (frP_wd fl (fun x j hj => by unfold pTl; omega)))
end
