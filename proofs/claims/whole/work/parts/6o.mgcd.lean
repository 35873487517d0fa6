/-! ===== the reference finds the greatest divisor ===== -/
def pG3 (x : Nat) (j : Int) : Prop := (x = 127 ∧ 320 ≤ j ∧ j < 512) ∨ (x = 128 ∧ 5 ≤ j ∧ j ≤ 7)
theorem pMb_G3 {s : Int} {a b : zMm} (h : frP (pMb s) a b) (h5 : 5 ≤ s) (h7 : s ≤ 7) : frP pG3 a b := frP_wd h (fun x j hj => by unfold pMb at hj; unfold pG3; omega)
theorem pow_k {G k : Nat} (h : G * 2 ^ k < 1766847064778384329583297500742918515827483896875618958121606201292619776) (hG : G ≠ 0) : k < 240 := by
  have h1 : 1 * 2 ^ k ≤ G * 2 ^ k := Nat.mul_le_mul_right _ (by omega)
  have e : (2 : Nat) ^ 240 = 1766847064778384329583297500742918515827483896875618958121606201292619776 := by decide
  rw [← e] at h
  rw [Nat.one_mul] at h1
  exact (Nat.pow_lt_pow_iff_right (a := 2) (by decide)).mp (Nat.lt_of_le_of_lt h1 h)
section
variable {sh : zSh} {pp : zPp} {mm : zMm} {Q : zV → zSh → zPp → zMm → Prop}
theorem mFd1 (h : zLy sh pp) {A B : Nat} (lA : A < 1766847064778384329583297500742918515827483896875618958121606201292619776) (lB : B < 1766847064778384329583297500742918515827483896875618958121606201292619776) (hz : ∀ (G H k : Nat) m, G ≠ 0 → H ≠ 0 → k < 240 → G * 2 ^ k = A → H * 2 ^ k = B → ¬ (G % 2 = 0 ∧ H % 2 = 0) → mB 5 G m → mB 6 H m → frP pG3 mm m → zS 164 49 [zR 122, zU, zU, zI k, zU] [] sh pp m Q) : ∀ (n G H k : Nat) (m : zMm), G < n → G ≠ 0 → H ≠ 0 → G * 2 ^ k = A → H * 2 ^ k = B → mB 5 G m → mB 6 H m → frP pG3 mm m → zS 164 15 [zR 122, zU, zU, zI k, zU] [] sh pp m Q := by
  have k122 := k_122 h
  intro n
  induction n with
  | zero => intro G H k m hn; omega
  | succ n ih =>
    intro G H k m hn hG hH eA eB b5 b6 hf
    have hp : 0 < 2 ^ k := Nat.pow_pos (by decide)
    have lG : G < 1766847064778384329583297500742918515827483896875618958121606201292619776 := Nat.lt_of_le_of_lt (Nat.le_mul_of_pos_right G hp) (by omega)
    have lH : H < 1766847064778384329583297500742918515827483896875618958121606201292619776 := Nat.lt_of_le_of_lt (Nat.le_mul_of_pos_right H hp) (by omega)
    have hk := pow_k (G := G) (k := k) (by omega) hG
    rw [rM_findDivisor_15]
    by_cases c1 : G % 2 = 0
    · by_cases c2 : H % 2 = 0
      · simp (disch := first | assumption | omega) only [rM_findDivisor_16, rM_findDivisor_17, rM_findDivisor_20, rM_findDivisor_23, rM_findDivisor_24, rM_findDivisor_26, rM_findDivisor_29, rM_findDivisor_32, rM_findDivisor_33, rM_findDivisor_34, kM_isEven h (by decide) (by decide) b5 lG, kM_isEven h (by decide) (by decide) b6 lH, Bool.false_eq_true, true_implies, false_implies, implies_true, true_and, and_true, not_true_eq_false, not_false_eq_true, zPush_I, zPush_L, zPush_R, zPush_U, Int.reduceLT, Int.reduceLE, Int.reduceEq, Int.reduceNe, Int.reduceAdd, Int.reduceSub, Int.reduceMul, Int.reduceNeg, Int.reduceToNat, Nat.reduceAdd, Nat.reduceMul, Nat.reduceEqDiff, zw32_id, zw64_id, zupd_eq, zupd_na, zupd_ni, zupp_eq, zupp_na, zupp_ni, c1, c2]
        refine mHalve h (by decide) (by decide) b5 lG (fun m2 g2 f2 => ?_)
        simp (disch := first | assumption | omega) only [rM_findDivisor_37, rM_findDivisor_38, rM_findDivisor_40, Bool.false_eq_true, true_implies, false_implies, implies_true, true_and, and_true, not_true_eq_false, not_false_eq_true, zPush_I, zPush_L, zPush_R, zPush_U, Int.reduceLT, Int.reduceLE, Int.reduceEq, Int.reduceNe, Int.reduceAdd, Int.reduceSub, Int.reduceMul, Int.reduceNeg, Int.reduceToNat, Nat.reduceAdd, Nat.reduceMul, Nat.reduceEqDiff, zw32_id, zw64_id, zupd_eq, zupd_na, zupd_ni, zupp_eq, zupp_na, zupp_ni]
        refine mHalve h (by decide) (by decide) (mB_fr b6 f2 (by decide) lH) lH (fun m3 g3 f3 => ?_)
        simp (disch := first | assumption | omega) only [rM_findDivisor_43, rM_findDivisor_46, Bool.false_eq_true, true_implies, false_implies, implies_true, true_and, and_true, not_true_eq_false, not_false_eq_true, zPush_I, zPush_L, zPush_R, zPush_U, Int.reduceLT, Int.reduceLE, Int.reduceEq, Int.reduceNe, Int.reduceAdd, Int.reduceSub, Int.reduceMul, Int.reduceNeg, Int.reduceToNat, Nat.reduceAdd, Nat.reduceMul, Nat.reduceEqDiff, zw32_id, zw64_id, zupd_eq, zupd_na, zupd_ni, zupp_eq, zupp_na, zupp_ni]
        have := ih (G / 2) (H / 2) (k + 1) m3 (by omega) (by omega) (by omega) (by rw [← eA, Nat.pow_succ, Nat.mul_comm (2 ^ k) 2, ← Nat.mul_assoc]; congr 1; omega) (by rw [← eB, Nat.pow_succ, Nat.mul_comm (2 ^ k) 2, ← Nat.mul_assoc]; congr 1; omega) (mB_fr g2 f3 (by decide) (by omega)) g3 (frP_tr (frP_tr hf (pMb_G3 f2 (by decide) (by decide))) (pMb_G3 f3 (by decide) (by decide)))
        push_cast at this
        exact this
      · simp (disch := first | assumption | omega) only [rM_findDivisor_16, rM_findDivisor_17, rM_findDivisor_20, rM_findDivisor_23, rM_findDivisor_24, rM_findDivisor_26, rM_findDivisor_29, rM_findDivisor_32, rM_findDivisor_33, rM_findDivisor_34, kM_isEven h (by decide) (by decide) b5 lG, kM_isEven h (by decide) (by decide) b6 lH, Bool.false_eq_true, true_implies, false_implies, implies_true, true_and, and_true, not_true_eq_false, not_false_eq_true, zPush_I, zPush_L, zPush_R, zPush_U, Int.reduceLT, Int.reduceLE, Int.reduceEq, Int.reduceNe, Int.reduceAdd, Int.reduceSub, Int.reduceMul, Int.reduceNeg, Int.reduceToNat, Nat.reduceAdd, Nat.reduceMul, Nat.reduceEqDiff, zw32_id, zw64_id, zupd_eq, zupd_na, zupd_ni, zupp_eq, zupp_na, zupp_ni, c1, c2]
        exact hz G H k m hG hH hk eA eB (fun hc => c2 hc.2) b5 b6 hf
    · simp (disch := first | assumption | omega) only [rM_findDivisor_16, rM_findDivisor_17, rM_findDivisor_20, rM_findDivisor_23, rM_findDivisor_24, rM_findDivisor_26, rM_findDivisor_29, rM_findDivisor_32, rM_findDivisor_33, rM_findDivisor_34, kM_isEven h (by decide) (by decide) b5 lG, Bool.false_eq_true, true_implies, false_implies, implies_true, true_and, and_true, not_true_eq_false, not_false_eq_true, zPush_I, zPush_L, zPush_R, zPush_U, Int.reduceLT, Int.reduceLE, Int.reduceEq, Int.reduceNe, Int.reduceAdd, Int.reduceSub, Int.reduceMul, Int.reduceNeg, Int.reduceToNat, Nat.reduceAdd, Nat.reduceMul, Nat.reduceEqDiff, zw32_id, zw64_id, zupd_eq, zupd_na, zupd_ni, zupp_eq, zupp_na, zupp_ni, c1]
      exact hz G H k m hG hH hk eA eB (fun hc => c1 hc.1) b5 b6 hf
theorem mFdG (h : zLy sh pp) {H : Nat} {k : Int} (lH : H < 1766847064778384329583297500742918515827483896875618958121606201292619776) : ∀ (n G : Nat) (m : zMm), G < n → G ≠ 0 → G < 1766847064778384329583297500742918515827483896875618958121606201292619776 → (G % 2 = 1 ∨ H % 2 = 1) → mB 5 G m → mB 6 H m → frP pG3 mm m → (∀ G' m', G' % 2 = 1 → G' ≤ G → Nat.gcd G' H = Nat.gcd G H → mB 5 G' m' → mB 6 H m' → frP pG3 mm m' → zS 164 75 [zR 122, zU, zU, zI k, zU] [] sh pp m' Q) → zS 164 59 [zR 122, zU, zU, zI k, zU] [] sh pp m Q := by
  have k122 := k_122 h
  intro n
  induction n with
  | zero => intro G m hn; omega
  | succ n ih =>
    intro G m hn hG lG ho b5 b6 hf hz
    rw [rM_findDivisor_59]
    by_cases c1 : G % 2 = 0
    · simp (disch := first | assumption | omega) only [rM_findDivisor_60, rM_findDivisor_61, rM_findDivisor_64, rM_findDivisor_67, rM_findDivisor_68, rM_findDivisor_69, kM_isEven h (by decide) (by decide) b5 lG, Bool.false_eq_true, true_implies, false_implies, implies_true, true_and, and_true, not_true_eq_false, not_false_eq_true, zPush_I, zPush_L, zPush_R, zPush_U, Int.reduceLT, Int.reduceLE, Int.reduceEq, Int.reduceNe, Int.reduceAdd, Int.reduceSub, Int.reduceMul, Int.reduceNeg, Int.reduceToNat, Nat.reduceAdd, Nat.reduceMul, Nat.reduceEqDiff, zw32_id, zw64_id, zupd_eq, zupd_na, zupd_ni, zupp_eq, zupp_na, zupp_ni, c1]
      refine mHalve h (by decide) (by decide) b5 lG (fun m2 g2 f2 => ?_)
      simp (disch := first | assumption | omega) only [rM_findDivisor_72, Bool.false_eq_true, true_implies, false_implies, implies_true, true_and, and_true, not_true_eq_false, not_false_eq_true, zPush_I, zPush_L, zPush_R, zPush_U, Int.reduceLT, Int.reduceLE, Int.reduceEq, Int.reduceNe, Int.reduceAdd, Int.reduceSub, Int.reduceMul, Int.reduceNeg, Int.reduceToNat, Nat.reduceAdd, Nat.reduceMul, Nat.reduceEqDiff, zw32_id, zw64_id, zupd_eq, zupd_na, zupd_ni, zupp_eq, zupp_na, zupp_ni]
      have hoH : H % 2 = 1 := by omega
      exact ih (G / 2) m2 (by omega) (by omega) (by omega) (Or.inr hoH) g2 (mB_fr b6 f2 (by decide) lH) (frP_tr hf (pMb_G3 f2 (by decide) (by decide))) (fun G' m' q1 q2 q3 q4 q5 q6 => hz G' m' q1 (by omega) (by rw [q3, gcd_half c1 hoH]) q4 q5 q6)
    · simp (disch := first | assumption | omega) only [rM_findDivisor_60, rM_findDivisor_61, rM_findDivisor_64, rM_findDivisor_67, rM_findDivisor_68, rM_findDivisor_69, kM_isEven h (by decide) (by decide) b5 lG, Bool.false_eq_true, true_implies, false_implies, implies_true, true_and, and_true, not_true_eq_false, not_false_eq_true, zPush_I, zPush_L, zPush_R, zPush_U, Int.reduceLT, Int.reduceLE, Int.reduceEq, Int.reduceNe, Int.reduceAdd, Int.reduceSub, Int.reduceMul, Int.reduceNeg, Int.reduceToNat, Nat.reduceAdd, Nat.reduceMul, Nat.reduceEqDiff, zw32_id, zw64_id, zupd_eq, zupd_na, zupd_ni, zupp_eq, zupp_na, zupp_ni, c1]
      exact hz G m (by omega) (Nat.le_refl _) rfl b5 b6 hf
theorem mFdH (h : zLy sh pp) {G : Nat} {k : Int} (lG : G < 1766847064778384329583297500742918515827483896875618958121606201292619776) (hoG : G % 2 = 1) : ∀ (n H : Nat) (m : zMm), H < n → H ≠ 0 → H < 1766847064778384329583297500742918515827483896875618958121606201292619776 → mB 5 G m → mB 6 H m → frP pG3 mm m → (∀ H' m', H' % 2 = 1 → H' ≤ H → Nat.gcd G H' = Nat.gcd G H → mB 5 G m' → mB 6 H' m' → frP pG3 mm m' → zS 164 93 [zR 122, zU, zU, zI k, zU] [] sh pp m' Q) → zS 164 75 [zR 122, zU, zU, zI k, zU] [] sh pp m Q := by
  have k122 := k_122 h
  intro n
  induction n with
  | zero => intro H m hn; omega
  | succ n ih =>
    intro H m hn hH lH b5 b6 hf hz
    rw [rM_findDivisor_75]
    by_cases c1 : H % 2 = 0
    · simp (disch := first | assumption | omega) only [rM_findDivisor_76, rM_findDivisor_78, rM_findDivisor_81, rM_findDivisor_84, rM_findDivisor_85, rM_findDivisor_87, kM_isEven h (by decide) (by decide) b6 lH, Bool.false_eq_true, true_implies, false_implies, implies_true, true_and, and_true, not_true_eq_false, not_false_eq_true, zPush_I, zPush_L, zPush_R, zPush_U, Int.reduceLT, Int.reduceLE, Int.reduceEq, Int.reduceNe, Int.reduceAdd, Int.reduceSub, Int.reduceMul, Int.reduceNeg, Int.reduceToNat, Nat.reduceAdd, Nat.reduceMul, Nat.reduceEqDiff, zw32_id, zw64_id, zupd_eq, zupd_na, zupd_ni, zupp_eq, zupp_na, zupp_ni, c1]
      refine mHalve h (by decide) (by decide) b6 lH (fun m2 g2 f2 => ?_)
      simp (disch := first | assumption | omega) only [rM_findDivisor_90, Bool.false_eq_true, true_implies, false_implies, implies_true, true_and, and_true, not_true_eq_false, not_false_eq_true, zPush_I, zPush_L, zPush_R, zPush_U, Int.reduceLT, Int.reduceLE, Int.reduceEq, Int.reduceNe, Int.reduceAdd, Int.reduceSub, Int.reduceMul, Int.reduceNeg, Int.reduceToNat, Nat.reduceAdd, Nat.reduceMul, Nat.reduceEqDiff, zw32_id, zw64_id, zupd_eq, zupd_na, zupd_ni, zupp_eq, zupp_na, zupp_ni]
      exact ih (H / 2) m2 (by omega) (by omega) (by omega) (mB_fr b5 f2 (by decide) lG) g2 (frP_tr hf (pMb_G3 f2 (by decide) (by decide))) (fun H' m' q1 q2 q3 q4 q5 q6 => hz H' m' q1 (by omega) (by rw [q3, Nat.gcd_comm, gcd_half c1 hoG, Nat.gcd_comm]) q4 q5 q6)
    · simp (disch := first | assumption | omega) only [rM_findDivisor_76, rM_findDivisor_78, rM_findDivisor_81, rM_findDivisor_84, rM_findDivisor_85, rM_findDivisor_87, kM_isEven h (by decide) (by decide) b6 lH, Bool.false_eq_true, true_implies, false_implies, implies_true, true_and, and_true, not_true_eq_false, not_false_eq_true, zPush_I, zPush_L, zPush_R, zPush_U, Int.reduceLT, Int.reduceLE, Int.reduceEq, Int.reduceNe, Int.reduceAdd, Int.reduceSub, Int.reduceMul, Int.reduceNeg, Int.reduceToNat, Nat.reduceAdd, Nat.reduceMul, Nat.reduceEqDiff, zw32_id, zw64_id, zupd_eq, zupd_na, zupd_ni, zupp_eq, zupp_na, zupp_ni, c1]
      exact hz H m (by omega) (Nat.le_refl _) rfl b5 b6 hf
theorem mFd2 (h : zLy sh pp) {g : Nat} {k : Int} (hgo : g % 2 = 1) (hz : ∀ m, mB 5 g m → frP pG3 mm m → zS 164 135 [zR 122, zU, zU, zI k, zU] [] sh pp m Q) : ∀ (n G H : Nat) (m : zMm), G + H < n → G ≠ 0 → G < 1766847064778384329583297500742918515827483896875618958121606201292619776 → H < 1766847064778384329583297500742918515827483896875618958121606201292619776 → Nat.gcd G H = g → mB 5 G m → mB 6 H m → frP pG3 mm m → zS 164 49 [zR 122, zU, zU, zI k, zU] [] sh pp m Q := by
  have k122 := k_122 h
  have k128 := k_128 h
  have l128 := l_128 h
  have p128 := p_122_5 h
  intro n
  induction n with
  | zero => intro G H m hn; omega
  | succ n ih =>
    intro G H m hn hG lG lH hg b5 b6 hf
    have hs := (mB_sz b6 lH).1
    rw [rM_findDivisor_49]
    by_cases h0 : H = 0
    · subst h0
      have hs0 : m 128 6 = 0 := hs
      simp (disch := first | assumption | omega) only [rM_findDivisor_50, rM_findDivisor_53, rM_findDivisor_55, rM_findDivisor_56, Bool.false_eq_true, true_implies, false_implies, implies_true, true_and, and_true, not_true_eq_false, not_false_eq_true, zPush_I, zPush_L, zPush_R, zPush_U, Int.reduceLT, Int.reduceLE, Int.reduceEq, Int.reduceNe, Int.reduceAdd, Int.reduceSub, Int.reduceMul, Int.reduceNeg, Int.reduceToNat, Nat.reduceAdd, Nat.reduceMul, Nat.reduceEqDiff, zw32_id, zw64_id, zupd_eq, zupd_na, zupd_ni, zupp_eq, zupp_na, zupp_ni, p128, hs0]
      rw [Nat.gcd_zero_right] at hg
      exact hz m (by rw [← hg]; exact b5) hf
    · have hs0 : 0 < m 128 6 := by rw [hs]; have := nlim_nn H; have := nlim_0 H; omega
      simp (disch := first | assumption | omega) only [rM_findDivisor_50, rM_findDivisor_53, rM_findDivisor_55, rM_findDivisor_56, Bool.false_eq_true, true_implies, false_implies, implies_true, true_and, and_true, not_true_eq_false, not_false_eq_true, zPush_I, zPush_L, zPush_R, zPush_U, Int.reduceLT, Int.reduceLE, Int.reduceEq, Int.reduceNe, Int.reduceAdd, Int.reduceSub, Int.reduceMul, Int.reduceNeg, Int.reduceToNat, Nat.reduceAdd, Nat.reduceMul, Nat.reduceEqDiff, zw32_id, zw64_id, zupd_eq, zupd_na, zupd_ni, zupp_eq, zupp_na, zupp_ni, p128, hs0]
      have hno : G % 2 = 1 ∨ H % 2 = 1 := by
        by_cases c : G % 2 = 1
        · exact Or.inl c
        · by_cases c2 : H % 2 = 1
          · exact Or.inr c2
          · exfalso
            have d := Nat.dvd_gcd (Nat.dvd_of_mod_eq_zero (show G % 2 = 0 by omega)) (Nat.dvd_of_mod_eq_zero (show H % 2 = 0 by omega))
            rw [hg] at d
            have := Nat.mod_eq_zero_of_dvd d
            omega
      refine mFdG (mm := mm) h lH (G + 1) G m (by omega) hG lG hno b5 b6 hf (fun G' m1 q1 q2 q3 q4 q5 q6 => ?_)
      refine mFdH (mm := mm) h (by omega) q1 (H + 1) H m1 (by omega) h0 lH q4 q5 q6 (fun H' m2 r1 r2 r3 r4 r5 r6 => ?_)
      have hg2 : Nat.gcd G' H' = g := by rw [r3, q3, hg]
      simp (disch := first | assumption | omega) only [rM_findDivisor_93, rM_findDivisor_94, rM_findDivisor_95, rM_findDivisor_97, Bool.false_eq_true, true_implies, false_implies, implies_true, true_and, and_true, not_true_eq_false, not_false_eq_true, zPush_I, zPush_L, zPush_R, zPush_U, Int.reduceLT, Int.reduceLE, Int.reduceEq, Int.reduceNe, Int.reduceAdd, Int.reduceSub, Int.reduceMul, Int.reduceNeg, Int.reduceToNat, Nat.reduceAdd, Nat.reduceMul, Nat.reduceEqDiff, zw32_id, zw64_id, zupd_eq, zupd_na, zupd_ni, zupp_eq, zupp_na, zupp_ni]
      refine mCompare h (by decide) (by decide) (by decide) (by decide) r4 r5 (by omega) (by omega) (fun c => ?_) (fun c => ?_) (fun c => ?_)
      · simp (disch := first | assumption | omega) only [rM_findDivisor_100, rM_findDivisor_103, rM_findDivisor_104, rM_findDivisor_106, rM_findDivisor_107, rM_findDivisor_110, rM_findDivisor_111, rM_findDivisor_112, rM_findDivisor_114, rM_findDivisor_117, rM_findDivisor_118, rM_findDivisor_120, rM_findDivisor_122, rM_findDivisor_125, rM_findDivisor_126, rM_findDivisor_128, rM_findDivisor_129, Bool.false_eq_true, true_implies, false_implies, implies_true, true_and, and_true, not_true_eq_false, not_false_eq_true, zPush_I, zPush_L, zPush_R, zPush_U, Int.reduceLT, Int.reduceLE, Int.reduceEq, Int.reduceNe, Int.reduceAdd, Int.reduceSub, Int.reduceMul, Int.reduceNeg, Int.reduceToNat, Nat.reduceAdd, Nat.reduceMul, Nat.reduceEqDiff, zw32_id, zw64_id, zupd_eq, zupd_na, zupd_ni, zupp_eq, zupp_na, zupp_ni]
        refine mTakeB h (by decide) (by decide) (by decide) (by decide) (by decide) r5 r4 (by omega) (by omega) (fun m3 c3 f3 => ?_)
        simp (disch := first | assumption | omega) only [rM_findDivisor_132, Bool.false_eq_true, true_implies, false_implies, implies_true, true_and, and_true, not_true_eq_false, not_false_eq_true, zPush_I, zPush_L, zPush_R, zPush_U, Int.reduceLT, Int.reduceLE, Int.reduceEq, Int.reduceNe, Int.reduceAdd, Int.reduceSub, Int.reduceMul, Int.reduceNeg, Int.reduceToNat, Nat.reduceAdd, Nat.reduceMul, Nat.reduceEqDiff, zw32_id, zw64_id, zupd_eq, zupd_na, zupd_ni, zupp_eq, zupp_na, zupp_ni]
        exact ih G' (H' - G') m3 (by omega) (by omega) (by omega) (by omega) (by rw [Nat.gcd_sub_self_right (by omega), hg2]) (mB_fr r4 f3 (by decide) (by omega)) c3 (frP_tr r6 (pMb_G3 f3 (by decide) (by decide)))
      · simp (disch := first | assumption | omega) only [rM_findDivisor_100, rM_findDivisor_103, rM_findDivisor_104, rM_findDivisor_106, rM_findDivisor_107, rM_findDivisor_110, rM_findDivisor_111, rM_findDivisor_112, rM_findDivisor_114, rM_findDivisor_117, rM_findDivisor_118, rM_findDivisor_120, rM_findDivisor_122, rM_findDivisor_125, rM_findDivisor_126, rM_findDivisor_128, rM_findDivisor_129, Bool.false_eq_true, true_implies, false_implies, implies_true, true_and, and_true, not_true_eq_false, not_false_eq_true, zPush_I, zPush_L, zPush_R, zPush_U, Int.reduceLT, Int.reduceLE, Int.reduceEq, Int.reduceNe, Int.reduceAdd, Int.reduceSub, Int.reduceMul, Int.reduceNeg, Int.reduceToNat, Nat.reduceAdd, Nat.reduceMul, Nat.reduceEqDiff, zw32_id, zw64_id, zupd_eq, zupd_na, zupd_ni, zupp_eq, zupp_na, zupp_ni]
        refine mTakeB h (by decide) (by decide) (by decide) (by decide) (by decide) r5 r4 (by omega) (by omega) (fun m3 c3 f3 => ?_)
        simp (disch := first | assumption | omega) only [rM_findDivisor_132, Bool.false_eq_true, true_implies, false_implies, implies_true, true_and, and_true, not_true_eq_false, not_false_eq_true, zPush_I, zPush_L, zPush_R, zPush_U, Int.reduceLT, Int.reduceLE, Int.reduceEq, Int.reduceNe, Int.reduceAdd, Int.reduceSub, Int.reduceMul, Int.reduceNeg, Int.reduceToNat, Nat.reduceAdd, Nat.reduceMul, Nat.reduceEqDiff, zw32_id, zw64_id, zupd_eq, zupd_na, zupd_ni, zupp_eq, zupp_na, zupp_ni]
        exact ih G' (H' - G') m3 (by omega) (by omega) (by omega) (by omega) (by rw [Nat.gcd_sub_self_right (by omega), hg2]) (mB_fr r4 f3 (by decide) (by omega)) c3 (frP_tr r6 (pMb_G3 f3 (by decide) (by decide)))
      · simp (disch := first | assumption | omega) only [rM_findDivisor_100, rM_findDivisor_103, rM_findDivisor_104, rM_findDivisor_106, rM_findDivisor_107, Bool.false_eq_true, true_implies, false_implies, implies_true, true_and, and_true, not_true_eq_false, not_false_eq_true, zPush_I, zPush_L, zPush_R, zPush_U, Int.reduceLT, Int.reduceLE, Int.reduceEq, Int.reduceNe, Int.reduceAdd, Int.reduceSub, Int.reduceMul, Int.reduceNeg, Int.reduceToNat, Nat.reduceAdd, Nat.reduceMul, Nat.reduceEqDiff, zw32_id, zw64_id, zupd_eq, zupd_na, zupd_ni, zupp_eq, zupp_na, zupp_ni]
        refine mCopy h (by decide) (by decide) (by decide) (by decide) (by decide) r4 (by omega) (fun m3 c3 f3 => ?_)
        simp (disch := first | assumption | omega) only [rM_findDivisor_110, rM_findDivisor_111, rM_findDivisor_112, rM_findDivisor_114, Bool.false_eq_true, true_implies, false_implies, implies_true, true_and, and_true, not_true_eq_false, not_false_eq_true, zPush_I, zPush_L, zPush_R, zPush_U, Int.reduceLT, Int.reduceLE, Int.reduceEq, Int.reduceNe, Int.reduceAdd, Int.reduceSub, Int.reduceMul, Int.reduceNeg, Int.reduceToNat, Nat.reduceAdd, Nat.reduceMul, Nat.reduceEqDiff, zw32_id, zw64_id, zupd_eq, zupd_na, zupd_ni, zupp_eq, zupp_na, zupp_ni]
        refine mCopy h (by decide) (by decide) (by decide) (by decide) (by decide) (mB_fr r5 f3 (by decide) (by omega)) (by omega) (fun m4 c4 f4 => ?_)
        simp (disch := first | assumption | omega) only [rM_findDivisor_117, rM_findDivisor_118, rM_findDivisor_120, rM_findDivisor_122, Bool.false_eq_true, true_implies, false_implies, implies_true, true_and, and_true, not_true_eq_false, not_false_eq_true, zPush_I, zPush_L, zPush_R, zPush_U, Int.reduceLT, Int.reduceLE, Int.reduceEq, Int.reduceNe, Int.reduceAdd, Int.reduceSub, Int.reduceMul, Int.reduceNeg, Int.reduceToNat, Nat.reduceAdd, Nat.reduceMul, Nat.reduceEqDiff, zw32_id, zw64_id, zupd_eq, zupd_na, zupd_ni, zupp_eq, zupp_na, zupp_ni]
        refine mCopy h (by decide) (by decide) (by decide) (by decide) (by decide) (mB_fr c3 f4 (by decide) (by omega)) (by omega) (fun m5 c5 f5 => ?_)
        simp (disch := first | assumption | omega) only [rM_findDivisor_125, rM_findDivisor_126, rM_findDivisor_128, rM_findDivisor_129, Bool.false_eq_true, true_implies, false_implies, implies_true, true_and, and_true, not_true_eq_false, not_false_eq_true, zPush_I, zPush_L, zPush_R, zPush_U, Int.reduceLT, Int.reduceLE, Int.reduceEq, Int.reduceNe, Int.reduceAdd, Int.reduceSub, Int.reduceMul, Int.reduceNeg, Int.reduceToNat, Nat.reduceAdd, Nat.reduceMul, Nat.reduceEqDiff, zw32_id, zw64_id, zupd_eq, zupd_na, zupd_ni, zupp_eq, zupp_na, zupp_ni]
        have c4' := mB_fr c4 f5 (by decide) (by omega)
        refine mTakeB h (by decide) (by decide) (by decide) (by decide) (by decide) c5 c4' (by omega) (by omega) (fun m6 c6 f6 => ?_)
        simp (disch := first | assumption | omega) only [rM_findDivisor_132, Bool.false_eq_true, true_implies, false_implies, implies_true, true_and, and_true, not_true_eq_false, not_false_eq_true, zPush_I, zPush_L, zPush_R, zPush_U, Int.reduceLT, Int.reduceLE, Int.reduceEq, Int.reduceNe, Int.reduceAdd, Int.reduceSub, Int.reduceMul, Int.reduceNeg, Int.reduceToNat, Nat.reduceAdd, Nat.reduceMul, Nat.reduceEqDiff, zw32_id, zw64_id, zupd_eq, zupd_na, zupd_ni, zupp_eq, zupp_na, zupp_ni]
        refine ih H' (G' - H') m6 (by omega) (by omega) (by omega) (by omega) ?_ (mB_fr c4' f6 (by decide) (by omega)) c6 (frP_tr (frP_tr (frP_tr (frP_tr r6 (pMb_G3 f3 (by decide) (by decide))) (pMb_G3 f4 (by decide) (by decide))) (pMb_G3 f5 (by decide) (by decide))) (pMb_G3 f6 (by decide) (by decide)))
        rw [Nat.gcd_sub_self_right (by omega), Nat.gcd_comm, hg2]
theorem mFd3 (h : zLy sh pp) {k : Nat} (hk : k < 240) : ∀ (d j G : Nat) (m : zMm), j + d = k → G * 2 ^ d < 1766847064778384329583297500742918515827483896875618958121606201292619776 → mB 5 G m → frP pG3 mm m → (∀ m', mB 5 (G * 2 ^ d) m' → frP pG3 mm m' → Q zU sh pp m') → zS 164 138 [zR 122, zU, zU, zI k, zI j] [] sh pp m Q := by
  have k122 := k_122 h
  intro d
  induction d with
  | zero =>
    intro j G m hj lG b5 hf hQ
    rw [rM_findDivisor_138]
    simp (disch := first | assumption | omega) only [rM_findDivisor_140, rM_findDivisor_141, rM_findDivisor_144, rM_findDivisor_145, rM_findDivisor_146, rM_findDivisor_149, rM_findDivisor_152, rM_findDivisor_155, rM_findDivisor_158, Bool.false_eq_true, true_implies, false_implies, implies_true, true_and, and_true, not_true_eq_false, not_false_eq_true, zPush_I, zPush_L, zPush_R, zPush_U, Int.reduceLT, Int.reduceLE, Int.reduceEq, Int.reduceNe, Int.reduceAdd, Int.reduceSub, Int.reduceMul, Int.reduceNeg, Int.reduceToNat, Nat.reduceAdd, Nat.reduceMul, Nat.reduceEqDiff, zw32_id, zw64_id, zupd_eq, zupd_na, zupd_ni, zupp_eq, zupp_na, zupp_ni, show ¬ (j : Int) < (k : Int) by omega]
    exact hQ m (by simpa using b5) hf
  | succ d ih =>
    intro j G m hj lG b5 hf hQ
    have hp : 0 < 2 ^ (d + 1) := Nat.pow_pos (by decide)
    have lG' : G < 1766847064778384329583297500742918515827483896875618958121606201292619776 := Nat.lt_of_le_of_lt (Nat.le_mul_of_pos_right G hp) lG
    have e : G * 2 ^ (d + 1) = G * 2 * 2 ^ d := by rw [Nat.pow_succ, Nat.mul_comm (2 ^ d) 2, Nat.mul_assoc]
    rw [rM_findDivisor_138]
    simp (disch := first | assumption | omega) only [rM_findDivisor_140, rM_findDivisor_141, rM_findDivisor_144, rM_findDivisor_145, rM_findDivisor_146, rM_findDivisor_149, Bool.false_eq_true, true_implies, false_implies, implies_true, true_and, and_true, not_true_eq_false, not_false_eq_true, zPush_I, zPush_L, zPush_R, zPush_U, Int.reduceLT, Int.reduceLE, Int.reduceEq, Int.reduceNe, Int.reduceAdd, Int.reduceSub, Int.reduceMul, Int.reduceNeg, Int.reduceToNat, Nat.reduceAdd, Nat.reduceMul, Nat.reduceEqDiff, zw32_id, zw64_id, zupd_eq, zupd_na, zupd_ni, zupp_eq, zupp_na, zupp_ni, show (j : Int) < (k : Int) by omega]
    refine mTimes (t := 2) h (by decide) (by decide) b5 lG' (by decide) (fun m2 g2 f2 => ?_)
    simp (disch := first | assumption | omega) only [rM_findDivisor_152, rM_findDivisor_155, Bool.false_eq_true, true_implies, false_implies, implies_true, true_and, and_true, not_true_eq_false, not_false_eq_true, zPush_I, zPush_L, zPush_R, zPush_U, Int.reduceLT, Int.reduceLE, Int.reduceEq, Int.reduceNe, Int.reduceAdd, Int.reduceSub, Int.reduceMul, Int.reduceNeg, Int.reduceToNat, Nat.reduceAdd, Nat.reduceMul, Nat.reduceEqDiff, zw32_id, zw64_id, zupd_eq, zupd_na, zupd_ni, zupp_eq, zupp_na, zupp_ni]
    have := ih (j + 1) (G * 2) m2 (by omega) (by rw [← e]; exact lG) g2 (frP_tr hf (pMb_G3 f2 (by decide) (by decide))) (fun m' q1 q2 => hQ m' (by rw [e]; exact q1) q2)
    push_cast at this
    exact this
theorem mFindDiv (h : zLy sh pp) {a b : Int} (a0 : 0 ≤ a ∧ a ≤ 4) (b0 : 0 ≤ b ∧ b ≤ 4) {A B : Nat} (hA : A ≠ 0) (hB : B ≠ 0) (lA : A < 1766847064778384329583297500742918515827483896875618958121606201292619776) (lB : B < 1766847064778384329583297500742918515827483896875618958121606201292619776) (bA : mB a A mm) (bB : mB b B mm) (hQ : ∀ m, mB 5 (Nat.gcd A B) m → frP pG3 mm m → Q zU sh pp m) : zS 164 0 [zR 122, zI a, zI b, zU, zU] [] sh pp mm Q := by
  have k122 := k_122 h
  simp (disch := first | assumption | omega) only [rM_findDivisor_0, rM_findDivisor_1, rM_findDivisor_2, rM_findDivisor_3, Bool.false_eq_true, true_implies, false_implies, implies_true, true_and, and_true, not_true_eq_false, not_false_eq_true, zPush_I, zPush_L, zPush_R, zPush_U, Int.reduceLT, Int.reduceLE, Int.reduceEq, Int.reduceNe, Int.reduceAdd, Int.reduceSub, Int.reduceMul, Int.reduceNeg, Int.reduceToNat, Nat.reduceAdd, Nat.reduceMul, Nat.reduceEqDiff, zw32_id, zw64_id, zupd_eq, zupd_na, zupd_ni, zupp_eq, zupp_na, zupp_ni]
  refine mCopy h (by decide) (by decide) (by omega) (by omega) (by omega) bA lA (fun m1 c1 f1 => ?_)
  simp (disch := first | assumption | omega) only [rM_findDivisor_6, rM_findDivisor_7, rM_findDivisor_9, rM_findDivisor_10, Bool.false_eq_true, true_implies, false_implies, implies_true, true_and, and_true, not_true_eq_false, not_false_eq_true, zPush_I, zPush_L, zPush_R, zPush_U, Int.reduceLT, Int.reduceLE, Int.reduceEq, Int.reduceNe, Int.reduceAdd, Int.reduceSub, Int.reduceMul, Int.reduceNeg, Int.reduceToNat, Nat.reduceAdd, Nat.reduceMul, Nat.reduceEqDiff, zw32_id, zw64_id, zupd_eq, zupd_na, zupd_ni, zupp_eq, zupp_na, zupp_ni]
  refine mCopy h (by decide) (by decide) (by omega) (by omega) (by omega) (mB_fr bB f1 (by omega) lB) lB (fun m2 c2 f2 => ?_)
  simp (disch := first | assumption | omega) only [rM_findDivisor_13, rM_findDivisor_14, Bool.false_eq_true, true_implies, false_implies, implies_true, true_and, and_true, not_true_eq_false, not_false_eq_true, zPush_I, zPush_L, zPush_R, zPush_U, Int.reduceLT, Int.reduceLE, Int.reduceEq, Int.reduceNe, Int.reduceAdd, Int.reduceSub, Int.reduceMul, Int.reduceNeg, Int.reduceToNat, Nat.reduceAdd, Nat.reduceMul, Nat.reduceEqDiff, zw32_id, zw64_id, zupd_eq, zupd_na, zupd_ni, zupp_eq, zupp_na, zupp_ni]
  have fz : frP pG3 mm m2 := frP_tr (pMb_G3 f1 (by decide) (by decide)) (pMb_G3 f2 (by decide) (by decide))
  refine mFd1 (mm := mm) (A := A) (B := B) h lA lB (fun G H k m hG hH hk eA eB hne b5 b6 hf => ?_) (A + 1) A B 0 m2 (by omega) hA hB (by simp) (by simp) (mB_fr c1 f2 (by decide) lA) c2 fz
  have hp : 0 < 2 ^ k := Nat.pow_pos (by decide)
  have lG : G < 1766847064778384329583297500742918515827483896875618958121606201292619776 := Nat.lt_of_le_of_lt (Nat.le_mul_of_pos_right G hp) (by omega)
  have lH : H < 1766847064778384329583297500742918515827483896875618958121606201292619776 := Nat.lt_of_le_of_lt (Nat.le_mul_of_pos_right H hp) (by omega)
  have hgo : Nat.gcd G H % 2 = 1 := by
    by_cases hc : Nat.gcd G H % 2 = 0
    · exfalso
      have d3 : 2 ∣ Nat.gcd G H := Nat.dvd_of_mod_eq_zero hc
      exact hne ⟨Nat.mod_eq_zero_of_dvd (Nat.dvd_trans d3 (Nat.gcd_dvd_left G H)), Nat.mod_eq_zero_of_dvd (Nat.dvd_trans d3 (Nat.gcd_dvd_right G H))⟩
    · omega
  have eg : Nat.gcd G H * 2 ^ k = Nat.gcd A B := by rw [← eA, ← eB, Nat.gcd_mul_right]
  have hle : Nat.gcd A B ≤ A := Nat.le_of_dvd (by omega) (Nat.gcd_dvd_left A B)
  refine mFd2 (mm := mm) (g := Nat.gcd G H) h hgo (fun m3 c3 f3 => ?_) (G + H + 1) G H m (by omega) hG lG lH rfl b5 b6 hf
  simp (disch := first | assumption | omega) only [rM_findDivisor_135, rM_findDivisor_136, Bool.false_eq_true, true_implies, false_implies, implies_true, true_and, and_true, not_true_eq_false, not_false_eq_true, zPush_I, zPush_L, zPush_R, zPush_U, Int.reduceLT, Int.reduceLE, Int.reduceEq, Int.reduceNe, Int.reduceAdd, Int.reduceSub, Int.reduceMul, Int.reduceNeg, Int.reduceToNat, Nat.reduceAdd, Nat.reduceMul, Nat.reduceEqDiff, zw32_id, zw64_id, zupd_eq, zupd_na, zupd_ni, zupp_eq, zupp_na, zupp_ni]
  have := mFd3 (Q := Q) (mm := mm) (k := k) h hk k 0 (Nat.gcd G H) m3 (by omega) (by rw [eg]; omega) c3 f3 (fun m4 c4 f4 => hQ m4 (by rw [← eg]; exact c4) f4)
  exact this
end
