/-! ===== the reference divides and tells a fraction ===== -/
section
variable {sh : zSh} {pp : zPp} {mm : zMm} {Q : zV → zSh → zPp → zMm → Prop} {s : Int} {v g : Nat}
theorem mAddOne (h : zLy sh pp) {H : Nat} (he : H % 2 = 0) (lH : H < 1766847064778384329583297500742918515827483896875618958121606201292619776) (hB : mB 6 H mm) (hQ : ∀ m, mB 6 (H + 1) m → frP (pMb 6) mm m → Q zU sh pp m) : zS 166 0 [zR 122] [] sh pp mm Q := by
  have k122 := k_122 h
  have k127 := k_127 h
  have l127 := l_127 h
  have p127 := p_122_4 h
  have k128 := k_128 h
  have l128 := l_128 h
  have p128 := p_122_5 h
  obtain ⟨N, n8, eN, hs, hr, hV⟩ := mB_row hB lH
  by_cases h0 : N = 0
  · subst h0
    have e : (H : Int) = 0 := hV.symm
    have e2 : H = 0 := by omega
    subst e2
    simp (disch := first | assumption | omega) only [rM_addOne_0, rM_addOne_1, rM_addOne_4, rM_addOne_6, rM_addOne_7, rM_addOne_10, rM_addOne_11, rM_addOne_13, rM_addOne_14, Bool.false_eq_true, true_implies, false_implies, implies_true, true_and, and_true, not_true_eq_false, not_false_eq_true, zPush_I, zPush_L, zPush_R, zPush_U, Int.reduceLT, Int.reduceLE, Int.reduceEq, Int.reduceNe, Int.reduceAdd, Int.reduceSub, Int.reduceMul, Int.reduceNeg, Int.reduceToNat, Nat.reduceAdd, Nat.reduceMul, Nat.reduceEqDiff, zw32_id, zw64_id, zupd_eq, zupd_na, zupd_ni, zupp_eq, zupp_na, zupp_ni, p128, hs, show ((0 : Nat) : Int) = 0 from rfl]
    refine mSet (t := 1) h (by decide) (by decide) (Or.inr (Or.inl rfl)) (fun m g f => ?_)
    simp (disch := first | assumption | omega) only [rM_addOne_17, rM_addOne_20, rM_addOne_21, rM_addOne_24, rM_addOne_27, rM_addOne_28, rM_addOne_29, rM_addOne_30, rM_addOne_31, rM_addOne_32, Bool.false_eq_true, true_implies, false_implies, implies_true, true_and, and_true, not_true_eq_false, not_false_eq_true, zPush_I, zPush_L, zPush_R, zPush_U, Int.reduceLT, Int.reduceLE, Int.reduceEq, Int.reduceNe, Int.reduceAdd, Int.reduceSub, Int.reduceMul, Int.reduceNeg, Int.reduceToNat, Nat.reduceAdd, Nat.reduceMul, Nat.reduceEqDiff, zw32_id, zw64_id, zupd_eq, zupd_na, zupd_ni, zupp_eq, zupp_na, zupp_ni]
    exact hQ m g f
  · have e2 := bV_par (g := mRw mm 6) (n := N) (by omega)
    rw [hV] at e2
    have r0 := hr 0 (by decide) (by omega)
    obtain ⟨l, hl⟩ : ∃ l, mRw mm 6 0 = l := ⟨_, rfl⟩
    have hl' : mm 127 384 = l := by rw [← hl]; rfl
    rw [hl] at e2 r0
    simp (disch := first | assumption | omega) only [rM_addOne_0, rM_addOne_1, rM_addOne_4, rM_addOne_6, rM_addOne_7, rM_addOne_10, rM_addOne_11, rM_addOne_13, rM_addOne_14, rM_addOne_17, rM_addOne_20, rM_addOne_21, rM_addOne_24, rM_addOne_27, rM_addOne_28, rM_addOne_29, rM_addOne_30, rM_addOne_31, rM_addOne_32, Bool.false_eq_true, true_implies, false_implies, implies_true, true_and, and_true, not_true_eq_false, not_false_eq_true, zPush_I, zPush_L, zPush_R, zPush_U, Int.reduceLT, Int.reduceLE, Int.reduceEq, Int.reduceNe, Int.reduceAdd, Int.reduceSub, Int.reduceMul, Int.reduceNeg, Int.reduceToNat, Nat.reduceAdd, Nat.reduceMul, Nat.reduceEqDiff, zw32_id, zw64_id, zupd_eq, zupd_na, zupd_ni, zupp_eq, zupp_na, zupp_ni, p127, p128, hs, show ¬ (N : Int) = 0 by omega, hl']
    have hm : mRw (zupd mm 127 384 (l + 1)) 6 = fup (mRw mm 6) 0 (l + 1) := mRw_up mm 6 0 (l + 1)
    refine hQ _ ?_ (frP_up (frP_rf _ _) (Or.inl ⟨rfl, by decide, by decide⟩))
    unfold mB bR
    rw [hm, zupd_na (by decide), hs]
    have hb3 := hB.2.2.1
    rw [hs] at hb3
    refine ⟨by omega, fun k a b => ?_, fun hp => ?_, ?_⟩
    · by_cases e : k = 0
      · rw [e, fup_eq]; omega
      · rw [fup_ne e]; exact hr k a b
    · by_cases e : (N : Int) - 1 = 0
      · rw [e, fup_eq]; omega
      · rw [fup_ne e]; exact hb3 hp
    · rw [Int.toNat_natCast, bV_fup (by decide) N (by omega), hV, hl]
      push_cast
      simp
      omega
theorem div_st {Vp bits g H tp l : Int} {E : Int} (hbit : l = 0 ∨ l = 1) (h : (Vp + bits) * g + H = tp) : (2 * Vp + 2 * bits) * g + (2 * H + l) = 2 * tp + l := by grind
theorem mDv1 (h : zLy sh pp) (s0 : 0 ≤ s) (s1 : s ≤ 1) (hg0 : g ≠ 0) (lg : 2 * g < 1766847064778384329583297500742918515827483896875618958121606201292619776) {k : Int} (k0 : 0 ≤ k) (k1 : k < 8) {l : Int} (l0 : 0 ≤ l) (l1 : l < 1073741824) {V tp : Int} (hz : ∀ (bits : Int) (H : Nat) m, 0 ≤ bits → bits < 1073741824 → (V * 1073741824 + bits) * g + H = tp * 1073741824 + l → H < g → mB 6 H m → frP (pMb 6) mm m → zS 165 137 [zR 122, zI s, zU, zI k, zL bits, zU, zU] [] sh pp m Q) (b5 : mB 5 g mm) (b7 : mm 127 (448 + k) = l) : ∀ (β : Nat) (bits : Int) (H : Nat) (m : zMm), β ≤ 30 → 0 ≤ bits → bits < 2 ^ (30 - β) → (V * 2 ^ (30 - β) + bits) * g + H = tp * 2 ^ (30 - β) + l / 2 ^ β → H < g → mB 6 H m → frP (pMb 6) mm m → zS 165 62 [zR 122, zI s, zU, zI k, zL bits, zU, zI ((β : Int) - 1)] [] sh pp m Q := by
  have k122 := k_122 h
  have k127 := k_127 h
  have l127 := l_127 h
  have p127 := p_122_4 h
  have k128 := k_128 h
  have l128 := l_128 h
  have p128 := p_122_5 h
  intro β
  induction β with
  | zero =>
    intro bits H m hβ c0 c1 c2 hH b6 hf
    rw [rM_divide_62]
    simp (disch := first | assumption | omega) only [rM_divide_64, Bool.false_eq_true, true_implies, false_implies, implies_true, true_and, and_true, not_true_eq_false, not_false_eq_true, zPush_I, zPush_L, zPush_R, zPush_U, Int.reduceLT, Int.reduceLE, Int.reduceEq, Int.reduceNe, Int.reduceAdd, Int.reduceSub, Int.reduceMul, Int.reduceNeg, Int.reduceToNat, Nat.reduceAdd, Nat.reduceMul, Nat.reduceEqDiff, zw32_id, zw64_id, zupd_eq, zupd_na, zupd_ni, zupp_eq, zupp_na, zupp_ni, show ((0 : Nat) : Int) - 1 < 0 by omega]
    refine hz bits H m c0 (by simpa using c1) ?_ hH b6 hf
    simpa using c2
  | succ β ih =>
    intro bits H m hβ c0 c1 c2 hH b6 hf
    have e1 : ((β + 1 : Nat) : Int) - 1 = (β : Int) := by push_cast; omega
    have e30 : 30 - β = (30 - (β + 1)) + 1 := by omega
    have hb5 : mB 5 g m := mB_fr b5 hf (by decide) (by omega)
    have hl7 : m 127 (448 + k) = l := by rw [hf _ _ (by unfold pMb; omega)]; exact b7
    obtain ⟨p, hp⟩ : ∃ p : Int, (2 : Int) ^ (30 - (β + 1)) = p := ⟨_, rfl⟩
    have hpb : p ≤ 536870912 := by
      rw [← hp]
      have h2 : (2 : Nat) ^ (30 - (β + 1)) ≤ 2 ^ 29 := Nat.pow_le_pow_right (by decide) (by omega)
      have h3 : ((2 ^ (30 - (β + 1)) : Nat) : Int) = (2 : Int) ^ (30 - (β + 1)) := by rw [Int.natCast_pow]; rfl
      have h4 : (2 : Nat) ^ 29 = 536870912 := rfl
      rw [← h3]
      omega
    have ep : (2 : Int) ^ (30 - β) = 2 * p := by rw [e30, Int.pow_succ, hp, Int.mul_comm]
    rw [hp] at c1 c2
    obtain ⟨bit, hbit⟩ : ∃ bit, (l / 2 ^ β) % 2 = bit := ⟨_, rfl⟩
    have hb01 : bit = 0 ∨ bit = 1 := by omega
    have hdiv : l / 2 ^ β = 2 * (l / 2 ^ (β + 1)) + bit := by
      have e : l / 2 ^ (β + 1) = l / 2 ^ β / 2 := by
        rw [Int.pow_succ, ← Int.ediv_ediv_of_nonneg (Int.pow_nonneg (by decide))]
      rw [e, ← hbit]
      omega
    have hsh : zland (zlshr l (β : Int)) 1 = bit := by rw [zlshrD (by omega) (by omega) (by omega), zland1, hbit]
    have hstep := div_st (E := 0) hb01 c2
    have nxt : ∀ (H2 : Nat) (m2 : zMm), (H2 : Int) = 2 * (H : Int) + bit → mB 6 H2 m2 → frP (pMb 6) mm m2 → zS 165 100 [zR 122, zI s, zU, zI k, zL bits, zU, zI (β : Int)] [] sh pp m2 Q := by
      intro H2 m2 hH2 d6 f2
      have d5 : mB 5 g m2 := mB_fr b5 f2 (by decide) (by omega)
      have cc : (V * 2 ^ (30 - β) + 2 * bits) * g + H2 = tp * 2 ^ (30 - β) + l / 2 ^ β := by
        rw [ep, hdiv, hH2]
        have e5 : V * (2 * p) + 2 * bits = 2 * (V * p) + 2 * bits := by grind
        rw [e5, hstep]
        grind
      have less : H2 < g → zS 165 131 [zR 122, zI s, zU, zI k, zL (2 * bits), zU, zI (β : Int)] [] sh pp m2 Q := fun hc => by
        simp (disch := first | assumption | omega) only [rM_divide_131, rM_divide_134, Bool.false_eq_true, true_implies, false_implies, implies_true, true_and, and_true, not_true_eq_false, not_false_eq_true, zPush_I, zPush_L, zPush_R, zPush_U, Int.reduceLT, Int.reduceLE, Int.reduceEq, Int.reduceNe, Int.reduceAdd, Int.reduceSub, Int.reduceMul, Int.reduceNeg, Int.reduceToNat, Nat.reduceAdd, Nat.reduceMul, Nat.reduceEqDiff, zw32_id, zw64_id, zupd_eq, zupd_na, zupd_ni, zupp_eq, zupp_na, zupp_ni]
        rw [show (β : Int) + -1 = (β : Int) - 1 by omega]
        exact ih (2 * bits) H2 m2 (by omega) (by omega) (by rw [ep]; omega) cc hc d6 f2
      have more : g ≤ H2 → zS 165 118 [zR 122, zI s, zU, zI k, zL (2 * bits), zU, zI (β : Int)] [] sh pp m2 Q := fun hc => by
        simp (disch := first | assumption | omega) only [rM_divide_118, rM_divide_119, rM_divide_121, rM_divide_122, Bool.false_eq_true, true_implies, false_implies, implies_true, true_and, and_true, not_true_eq_false, not_false_eq_true, zPush_I, zPush_L, zPush_R, zPush_U, Int.reduceLT, Int.reduceLE, Int.reduceEq, Int.reduceNe, Int.reduceAdd, Int.reduceSub, Int.reduceMul, Int.reduceNeg, Int.reduceToNat, Nat.reduceAdd, Nat.reduceMul, Nat.reduceEqDiff, zw32_id, zw64_id, zupd_eq, zupd_na, zupd_ni, zupp_eq, zupp_na, zupp_ni]
        refine mTakeB h (by decide) (by decide) (by decide) (by decide) (by decide) d6 d5 (by omega) hc (fun m3 c3 f3 => ?_)
        simp (disch := first | assumption | omega) only [rM_divide_125, rM_divide_127, rM_divide_128, rM_divide_129, rM_divide_131, rM_divide_134, Bool.false_eq_true, true_implies, false_implies, implies_true, true_and, and_true, not_true_eq_false, not_false_eq_true, zPush_I, zPush_L, zPush_R, zPush_U, Int.reduceLT, Int.reduceLE, Int.reduceEq, Int.reduceNe, Int.reduceAdd, Int.reduceSub, Int.reduceMul, Int.reduceNeg, Int.reduceToNat, Nat.reduceAdd, Nat.reduceMul, Nat.reduceEqDiff, zw32_id, zw64_id, zupd_eq, zupd_na, zupd_ni, zupp_eq, zupp_na, zupp_ni]
        rw [show (β : Int) + -1 = (β : Int) - 1 by omega]
        refine ih (2 * bits + 1) (H2 - g) m3 (by omega) (by omega) (by rw [ep]; omega) ?_ (by omega) c3 (frP_tr f2 f3)
        rw [Int.natCast_sub hc, ← cc]
        grind
      simp (disch := first | assumption | omega) only [rM_divide_100, rM_divide_103, rM_divide_105, rM_divide_106, rM_divide_108, rM_divide_109, rM_divide_111, rM_divide_112, Bool.false_eq_true, true_implies, false_implies, implies_true, true_and, and_true, not_true_eq_false, not_false_eq_true, zPush_I, zPush_L, zPush_R, zPush_U, Int.reduceLT, Int.reduceLE, Int.reduceEq, Int.reduceNe, Int.reduceAdd, Int.reduceSub, Int.reduceMul, Int.reduceNeg, Int.reduceToNat, Nat.reduceAdd, Nat.reduceMul, Nat.reduceEqDiff, zw32_id, zw64_id, zupd_eq, zupd_na, zupd_ni, zupp_eq, zupp_na, zupp_ni]
      refine mCompare h (by decide) (by decide) (by decide) (by decide) d6 d5 (by omega) (by omega) (fun c => ?_) (fun c => ?_) (fun c => ?_)
      · simp (disch := first | assumption | omega) only [rM_divide_115, Bool.false_eq_true, true_implies, false_implies, implies_true, true_and, and_true, not_true_eq_false, not_false_eq_true, zPush_I, zPush_L, zPush_R, zPush_U, Int.reduceLT, Int.reduceLE, Int.reduceEq, Int.reduceNe, Int.reduceAdd, Int.reduceSub, Int.reduceMul, Int.reduceNeg, Int.reduceToNat, Nat.reduceAdd, Nat.reduceMul, Nat.reduceEqDiff, zw32_id, zw64_id, zupd_eq, zupd_na, zupd_ni, zupp_eq, zupp_na, zupp_ni]
        exact less c
      · simp (disch := first | assumption | omega) only [rM_divide_115, Bool.false_eq_true, true_implies, false_implies, implies_true, true_and, and_true, not_true_eq_false, not_false_eq_true, zPush_I, zPush_L, zPush_R, zPush_U, Int.reduceLT, Int.reduceLE, Int.reduceEq, Int.reduceNe, Int.reduceAdd, Int.reduceSub, Int.reduceMul, Int.reduceNeg, Int.reduceToNat, Nat.reduceAdd, Nat.reduceMul, Nat.reduceEqDiff, zw32_id, zw64_id, zupd_eq, zupd_na, zupd_ni, zupp_eq, zupp_na, zupp_ni]
        exact more (by omega)
      · simp (disch := first | assumption | omega) only [rM_divide_115, Bool.false_eq_true, true_implies, false_implies, implies_true, true_and, and_true, not_true_eq_false, not_false_eq_true, zPush_I, zPush_L, zPush_R, zPush_U, Int.reduceLT, Int.reduceLE, Int.reduceEq, Int.reduceNe, Int.reduceAdd, Int.reduceSub, Int.reduceMul, Int.reduceNeg, Int.reduceToNat, Nat.reduceAdd, Nat.reduceMul, Nat.reduceEqDiff, zw32_id, zw64_id, zupd_eq, zupd_na, zupd_ni, zupp_eq, zupp_na, zupp_ni]
        exact more (by omega)
    rw [e1, rM_divide_62]
    simp (disch := first | assumption | omega) only [rM_divide_64, rM_divide_67, rM_divide_68, rM_divide_70, rM_divide_73, Bool.false_eq_true, true_implies, false_implies, implies_true, true_and, and_true, not_true_eq_false, not_false_eq_true, zPush_I, zPush_L, zPush_R, zPush_U, Int.reduceLT, Int.reduceLE, Int.reduceEq, Int.reduceNe, Int.reduceAdd, Int.reduceSub, Int.reduceMul, Int.reduceNeg, Int.reduceToNat, Nat.reduceAdd, Nat.reduceMul, Nat.reduceEqDiff, zw32_id, zw64_id, zupd_eq, zupd_na, zupd_ni, zupp_eq, zupp_na, zupp_ni, show ¬ (β : Int) < 0 by omega]
    refine mTimes (t := 2) h (by decide) (by decide) b6 (by omega) (by decide) (fun m1 g1 f1 => ?_)
    have hl7' : m1 127 (448 + k) = l := by rw [f1 _ _ (by unfold pMb; omega)]; exact hl7
    rcases hb01 with hb0 | hb1
    · rw [hb0] at hsh
      simp (disch := first | assumption | omega) only [rM_divide_76, rM_divide_77, rM_divide_80, rM_divide_83, rM_divide_84, rM_divide_85, rM_divide_86, rM_divide_88, rM_divide_89, rM_divide_90, rM_divide_91, rM_divide_92, rM_divide_93, rM_divide_96, rM_divide_97, Bool.false_eq_true, true_implies, false_implies, implies_true, true_and, and_true, not_true_eq_false, not_false_eq_true, zPush_I, zPush_L, zPush_R, zPush_U, Int.reduceLT, Int.reduceLE, Int.reduceEq, Int.reduceNe, Int.reduceAdd, Int.reduceSub, Int.reduceMul, Int.reduceNeg, Int.reduceToNat, Nat.reduceAdd, Nat.reduceMul, Nat.reduceEqDiff, zw32_id, zw64_id, zupd_eq, zupd_na, zupd_ni, zupp_eq, zupp_na, zupp_ni, p127, hl7', hsh, zcmp_eq]
      exact nxt (H * 2) m1 (by rw [hb0]; push_cast; omega) g1 (frP_tr hf f1)
    · rw [hb1] at hsh
      simp (disch := first | assumption | omega) only [rM_divide_76, rM_divide_77, rM_divide_80, rM_divide_83, rM_divide_84, rM_divide_85, rM_divide_86, rM_divide_88, rM_divide_89, rM_divide_90, rM_divide_91, rM_divide_92, rM_divide_93, rM_divide_96, rM_divide_97, Bool.false_eq_true, true_implies, false_implies, implies_true, true_and, and_true, not_true_eq_false, not_false_eq_true, zPush_I, zPush_L, zPush_R, zPush_U, Int.reduceLT, Int.reduceLE, Int.reduceEq, Int.reduceNe, Int.reduceAdd, Int.reduceSub, Int.reduceMul, Int.reduceNeg, Int.reduceToNat, Nat.reduceAdd, Nat.reduceMul, Nat.reduceEqDiff, zw32_id, zw64_id, zupd_eq, zupd_na, zupd_ni, zupp_eq, zupp_na, zupp_ni, p127, hl7', hsh, zcmp_eq]
      refine mAddOne h (by omega) (by omega) g1 (fun m2 g2 f2 => ?_)
      simp (disch := first | assumption | omega) only [Bool.false_eq_true, true_implies, false_implies, implies_true, true_and, and_true, not_true_eq_false, not_false_eq_true, zPush_I, zPush_L, zPush_R, zPush_U, Int.reduceLT, Int.reduceLE, Int.reduceEq, Int.reduceNe, Int.reduceAdd, Int.reduceSub, Int.reduceMul, Int.reduceNeg, Int.reduceToNat, Nat.reduceAdd, Nat.reduceMul, Nat.reduceEqDiff, zw32_id, zw64_id, zupd_eq, zupd_na, zupd_ni, zupp_eq, zupp_na, zupp_ni]
      exact nxt (H * 2 + 1) m2 (by rw [hb1]; push_cast; omega) g2 (frP_tr (frP_tr hf f1) f2)
end
