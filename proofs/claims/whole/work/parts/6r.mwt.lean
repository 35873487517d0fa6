/-! ===== guesses and their weights ===== -/
def cnt (R : Int → Bool) : Nat → Nat
  | 0 => 0
  | n + 1 => cnt R n + (if R (n : Int) = true then 1 else 0)
def seenN (f : Int → Int) (n : Nat) : Nat := cnt (fun i => decide (f (573 + i) ≠ -1)) n
def rcN (f dv : Int → Int) (n : Nat) : Nat := cnt (fun i => decide (f (573 + i) ≠ -1 ∧ dv i = f (573 + i))) n
/-- what is seen is counted, and at most 60 -/
def fSn (f : Int → Int) : Prop := f 985 = (seenN f 384 : Int)
def wtN (f dv : Int → Int) (t n : Nat) : Nat := t * (f 8).toNat ^ rcN f dv n * (10 - (f 8).toNat) ^ (seenN f n - rcN f dv n)
theorem rc_le (f dv : Int → Int) : ∀ n, rcN f dv n ≤ seenN f n
  | 0 => Nat.le_refl 0
  | n + 1 => by
    have ih := rc_le f dv n
    show cnt _ n + _ ≤ cnt _ n + _
    have e1 : cnt (fun i => decide (f (573 + i) ≠ -1 ∧ dv i = f (573 + i))) n = rcN f dv n := rfl
    have e2 : cnt (fun i => decide (f (573 + i) ≠ -1)) n = seenN f n := rfl
    rw [e1, e2]
    by_cases h : f (573 + (n : Int)) ≠ -1
    · by_cases h2 : dv n = f (573 + (n : Int))
      · simp [h, h2]; omega
      · simp [h, h2]; omega
    · simp at h
      simp [h]
      omega
theorem seen_mono (f : Int → Int) {n : Nat} : ∀ m, n ≤ m → seenN f n ≤ seenN f m
  | 0, h => by rw [show n = 0 by omega]; exact Nat.le_refl _
  | m + 1, h => by
    by_cases e : n = m + 1
    · rw [e]; exact Nat.le_refl _
    · have := seen_mono f (n := n) m (by omega)
      show seenN f n ≤ cnt _ m + _
      have e2 : cnt (fun i => decide (f (573 + i) ≠ -1)) m = seenN f m := rfl
      rw [e2]
      omega
theorem pow9 {a b x y : Nat} (hx : x ≤ 9) (hy : y ≤ 9) : x ^ a * y ^ b ≤ 9 ^ (a + b) := by
  rw [Nat.pow_add]
  exact Nat.mul_le_mul (Nat.pow_le_pow_left hx a) (Nat.pow_le_pow_left hy b)
theorem p9_60 : 24 * 9 ^ 60 * 4 < 1766847064778384329583297500742918515827483896875618958121606201292619776 := by decide
theorem wt_le {f dv : Int → Int} {t n : Nat} (hr : 1 ≤ f 8 ∧ f 8 ≤ 9) (hs : seenN f n ≤ 60) : wtN f dv t n ≤ t * 9 ^ 60 := by
  unfold wtN
  have h1 := rc_le f dv n
  rw [Nat.mul_assoc]
  refine Nat.mul_le_mul_left t (Nat.le_trans (pow9 (by omega) (by omega)) (Nat.pow_le_pow_right (by decide) (by omega)))
section
variable {sh : zSh} {pp : zPp} {mm : zMm} {Q : zV → zSh → zPp → zMm → Prop} {f : Int → Int}
theorem mWeigh (h : zLy sh pp) (hf : fOk f) (hsn : fSn f) (hm : ∀ k, 0 ≤ k → k < 986 → mm 123 k = f k) {dv : Int → Int} (hd : ∀ i, 0 ≤ i → i < 384 → mm 132 i = dv i) (hd01 : ∀ i, dv i = 0 ∨ dv i = 1) {t : Nat} (ht : t = 1 ∨ t = 3) (hQ : ∀ m, mB 2 (wtN f dv t 384) m → frP (pMb 2) mm m → Q zU sh pp m) : zS 237 0 [zR 122, zI t, zU, zU] [] sh pp mm Q := by
  have k122 := k_122 h
  have k123 := k_123 h
  have l123 := l_123 h
  have p123 := p_122_0 h
  have k132 := k_132 h
  have l132 := l_132 h
  have p132 := p_122_18 h
  have n8 := hf.1 8 (by decide) (by decide)
  simp [loN, hiN] at n8
  have h60 : seenN f 384 ≤ 60 := by
    have := hf.2.2.2.2.2.2.1
    unfold fSn at hsn
    omega
  have hsee := hf.2.2.2.2.2.2.2
  have key : ∀ (d i : Nat) (m : zMm), i + d = 384 → mB 2 (wtN f dv t i) m → frP (pMb 2) mm m → zS 237 9 [zR 122, zU, zI i, zU] [] sh pp m Q := by
    intro d
    induction d with
    | zero =>
      intro i m hi b2 hfr
      have hi : i = 384 := by omega
      subst hi
      rw [rM_weigh_9]
      simp (disch := first | assumption | omega) only [rM_weigh_10, rM_weigh_13, rM_weigh_16, rM_weigh_17, rM_weigh_20, rM_weigh_23, rM_weigh_24, rM_weigh_25, rM_weigh_26, rM_weigh_27, rM_weigh_28, rM_weigh_29, rM_weigh_32, rM_weigh_33, rM_weigh_34, rM_weigh_35, rM_weigh_36, rM_weigh_39, rM_weigh_40, rM_weigh_43, rM_weigh_44, rM_weigh_45, rM_weigh_48, rM_weigh_49, rM_weigh_50, rM_weigh_53, rM_weigh_54, rM_weigh_56, rM_weigh_59, rM_weigh_60, rM_weigh_63, rM_weigh_65, rM_weigh_66, rM_weigh_68, rM_weigh_71, rM_weigh_72, rM_weigh_73, rM_weigh_76, rM_weigh_79, rM_weigh_82, Bool.false_eq_true, true_implies, false_implies, implies_true, true_and, and_true, not_true_eq_false, not_false_eq_true, zPush_I, zPush_L, zPush_R, zPush_U, Int.reduceLT, Int.reduceLE, Int.reduceEq, Int.reduceNe, Int.reduceAdd, Int.reduceSub, Int.reduceMul, Int.reduceNeg, Int.reduceToNat, Nat.reduceAdd, Nat.reduceMul, Nat.reduceEqDiff, zw32_id, zw64_id, zupd_eq, zupd_na, zupd_ni, zupp_eq, zupp_na, zupp_ni, show ¬ ((384 : Nat) : Int) < 384 by omega]
      exact hQ m b2 hfr
    | succ d ih =>
      intro i m hi b2 hfr
      have e1 : m 123 (573 + (i : Int)) = f (573 + (i : Int)) := by rw [hfr _ _ (by unfold pMb; omega)]; exact hm _ (by omega) (by omega)
      have e2 : m 132 (i : Int) = dv i := by rw [hfr _ _ (by unfold pMb; omega)]; exact hd _ (by omega) (by omega)
      have e8 : m 123 8 = f 8 := by rw [hfr _ _ (by unfold pMb; omega)]; exact hm _ (by decide) (by decide)
      have hs := hsee (i : Int) (by omega) (by omega)
      have hle := wt_le (f := f) (dv := dv) (t := t) (n := i) n8 (Nat.le_trans (seen_mono f 384 (by omega)) h60)
      have hrl := rc_le f dv i
      have lw : wtN f dv t i < 1766847064778384329583297500742918515827483896875618958121606201292619776 := by
        have := p9_60
        have : t * 9 ^ 60 ≤ 3 * 9 ^ 60 := Nat.mul_le_mul_right _ (by omega)
        omega
      have es : seenN f (i + 1) = seenN f i + (if decide (f (573 + (i : Int)) ≠ -1) = true then 1 else 0) := rfl
      have er : rcN f dv (i + 1) = rcN f dv i + (if decide (f (573 + (i : Int)) ≠ -1 ∧ dv i = f (573 + (i : Int))) = true then 1 else 0) := rfl
      have nx : ∀ m2, mB 2 (wtN f dv t (i + 1)) m2 → frP (pMb 2) mm m2 → zS 237 76 [zR 122, zU, zI i, zU] [] sh pp m2 Q := fun m2 g2 f2 => by
        simp (disch := first | assumption | omega) only [rM_weigh_76, rM_weigh_79, Bool.false_eq_true, true_implies, false_implies, implies_true, true_and, and_true, not_true_eq_false, not_false_eq_true, zPush_I, zPush_L, zPush_R, zPush_U, Int.reduceLT, Int.reduceLE, Int.reduceEq, Int.reduceNe, Int.reduceAdd, Int.reduceSub, Int.reduceMul, Int.reduceNeg, Int.reduceToNat, Nat.reduceAdd, Nat.reduceMul, Nat.reduceEqDiff, zw32_id, zw64_id, zupd_eq, zupd_na, zupd_ni, zupp_eq, zupp_na, zupp_ni]
        have := ih (i + 1) m2 (by omega) g2 f2
        push_cast at this
        exact this
      rw [rM_weigh_9]
      by_cases c0 : f (573 + (i : Int)) = -1
      · simp (disch := first | assumption | omega) only [rM_weigh_10, rM_weigh_13, rM_weigh_16, rM_weigh_17, rM_weigh_20, rM_weigh_23, rM_weigh_24, rM_weigh_25, rM_weigh_26, rM_weigh_27, rM_weigh_28, rM_weigh_29, Bool.false_eq_true, true_implies, false_implies, implies_true, true_and, and_true, not_true_eq_false, not_false_eq_true, zPush_I, zPush_L, zPush_R, zPush_U, Int.reduceLT, Int.reduceLE, Int.reduceEq, Int.reduceNe, Int.reduceAdd, Int.reduceSub, Int.reduceMul, Int.reduceNeg, Int.reduceToNat, Nat.reduceAdd, Nat.reduceMul, Nat.reduceEqDiff, zw32_id, zw64_id, zupd_eq, zupd_na, zupd_ni, zupp_eq, zupp_na, zupp_ni, show (i : Int) < 384 by omega, p123, e1, c0]
        refine nx m ?_ hfr
        have : wtN f dv t (i + 1) = wtN f dv t i := by unfold wtN; rw [es, er]; simp [c0]
        rw [this]
        exact b2
      · have right : dv i = f (573 + (i : Int)) → wtN f dv t (i + 1) = wtN f dv t i * (f 8).toNat := fun hc => by
          unfold wtN
          rw [es, er]
          simp [c0, hc]
          rw [Nat.pow_succ]
          have e : seenN f i + 1 - (rcN f dv i + 1) = seenN f i - rcN f dv i := by omega
          grind
        have wrong : dv i ≠ f (573 + (i : Int)) → wtN f dv t (i + 1) = wtN f dv t i * (10 - (f 8).toNat) := fun hc => by
          unfold wtN
          rw [es, er]
          simp [c0, hc]
          have e : seenN f i + 1 - rcN f dv i = seenN f i - rcN f dv i + 1 := by omega
          rw [e, Nat.pow_succ]
          grind
        have goR : dv i = f (573 + (i : Int)) → zS 158 0 [zR 122, zI 2, zL (f 8), zU, zU, zU, zU, zU, zU] [] sh pp m (fun v sh pp mm => zS 237 76 [zR 122, zU, zI i, zU] (zPush v []) sh pp mm Q) := fun hc => by
          have := mTimes (Q := fun v sh pp mm => zS 237 76 [zR 122, zU, zI i, zU] (zPush v []) sh pp mm Q) (t := (f 8).toNat) h (by decide) (by decide) b2 lw (by omega) (fun m2 g2 f2 => by
            simp (disch := first | assumption | omega) only [Bool.false_eq_true, true_implies, false_implies, implies_true, true_and, and_true, not_true_eq_false, not_false_eq_true, zPush_I, zPush_L, zPush_R, zPush_U, Int.reduceLT, Int.reduceLE, Int.reduceEq, Int.reduceNe, Int.reduceAdd, Int.reduceSub, Int.reduceMul, Int.reduceNeg, Int.reduceToNat, Nat.reduceAdd, Nat.reduceMul, Nat.reduceEqDiff, zw32_id, zw64_id, zupd_eq, zupd_na, zupd_ni, zupp_eq, zupp_na, zupp_ni]
            exact nx m2 (by rw [right hc]; exact g2) (frP_tr hfr f2))
          rw [Int.toNat_of_nonneg (by omega)] at this
          exact this
        have goW : dv i ≠ f (573 + (i : Int)) → zS 158 0 [zR 122, zI 2, zL (10 - f 8), zU, zU, zU, zU, zU, zU] [] sh pp m (fun v sh pp mm => zS 237 76 [zR 122, zU, zI i, zU] (zPush v []) sh pp mm Q) := fun hc => by
          have := mTimes (Q := fun v sh pp mm => zS 237 76 [zR 122, zU, zI i, zU] (zPush v []) sh pp mm Q) (t := 10 - (f 8).toNat) h (by decide) (by decide) b2 lw (by omega) (fun m2 g2 f2 => by
            simp (disch := first | assumption | omega) only [Bool.false_eq_true, true_implies, false_implies, implies_true, true_and, and_true, not_true_eq_false, not_false_eq_true, zPush_I, zPush_L, zPush_R, zPush_U, Int.reduceLT, Int.reduceLE, Int.reduceEq, Int.reduceNe, Int.reduceAdd, Int.reduceSub, Int.reduceMul, Int.reduceNeg, Int.reduceToNat, Nat.reduceAdd, Nat.reduceMul, Nat.reduceEqDiff, zw32_id, zw64_id, zupd_eq, zupd_na, zupd_ni, zupp_eq, zupp_na, zupp_ni]
            exact nx m2 (by rw [wrong hc]; exact g2) (frP_tr hfr f2))
          rw [show ((10 - (f 8).toNat : Nat) : Int) = 10 - f 8 by omega] at this
          exact this
        by_cases c1 : f (573 + (i : Int)) = 1
        · rcases hd01 i with d0 | d0
          · rw [d0] at e2
            simp (disch := first | assumption | omega) only [rM_weigh_10, rM_weigh_13, rM_weigh_16, rM_weigh_17, rM_weigh_20, rM_weigh_23, rM_weigh_24, rM_weigh_25, rM_weigh_26, rM_weigh_27, rM_weigh_28, rM_weigh_29, rM_weigh_32, rM_weigh_33, rM_weigh_34, rM_weigh_35, rM_weigh_36, rM_weigh_39, rM_weigh_40, rM_weigh_43, rM_weigh_44, rM_weigh_45, rM_weigh_48, rM_weigh_49, rM_weigh_50, rM_weigh_53, rM_weigh_54, rM_weigh_56, rM_weigh_59, rM_weigh_60, rM_weigh_63, rM_weigh_65, rM_weigh_66, rM_weigh_68, rM_weigh_71, rM_weigh_72, rM_weigh_73, rM_of_0, rM_of_1, rM_of_4, rM_of_5, rM_of_6, rM_of_7, rM_of_8, Bool.false_eq_true, true_implies, false_implies, implies_true, true_and, and_true, not_true_eq_false, not_false_eq_true, zPush_I, zPush_L, zPush_R, zPush_U, Int.reduceLT, Int.reduceLE, Int.reduceEq, Int.reduceNe, Int.reduceAdd, Int.reduceSub, Int.reduceMul, Int.reduceNeg, Int.reduceToNat, Nat.reduceAdd, Nat.reduceMul, Nat.reduceEqDiff, zw32_id, zw64_id, zupd_eq, zupd_na, zupd_ni, zupp_eq, zupp_na, zupp_ni, show (i : Int) < 384 by omega, p123, p132, e1, c1, e2, e8]
            exact goW (by omega)
          · rw [d0] at e2
            simp (disch := first | assumption | omega) only [rM_weigh_10, rM_weigh_13, rM_weigh_16, rM_weigh_17, rM_weigh_20, rM_weigh_23, rM_weigh_24, rM_weigh_25, rM_weigh_26, rM_weigh_27, rM_weigh_28, rM_weigh_29, rM_weigh_32, rM_weigh_33, rM_weigh_34, rM_weigh_35, rM_weigh_36, rM_weigh_39, rM_weigh_40, rM_weigh_43, rM_weigh_44, rM_weigh_45, rM_weigh_48, rM_weigh_49, rM_weigh_50, rM_weigh_53, rM_weigh_54, rM_weigh_56, rM_weigh_59, rM_weigh_60, rM_weigh_63, rM_weigh_65, rM_weigh_66, rM_weigh_68, rM_weigh_71, rM_weigh_72, rM_weigh_73, rM_of_0, rM_of_1, rM_of_4, rM_of_5, rM_of_6, rM_of_7, rM_of_8, Bool.false_eq_true, true_implies, false_implies, implies_true, true_and, and_true, not_true_eq_false, not_false_eq_true, zPush_I, zPush_L, zPush_R, zPush_U, Int.reduceLT, Int.reduceLE, Int.reduceEq, Int.reduceNe, Int.reduceAdd, Int.reduceSub, Int.reduceMul, Int.reduceNeg, Int.reduceToNat, Nat.reduceAdd, Nat.reduceMul, Nat.reduceEqDiff, zw32_id, zw64_id, zupd_eq, zupd_na, zupd_ni, zupp_eq, zupp_na, zupp_ni, show (i : Int) < 384 by omega, p123, p132, e1, c1, e2, e8]
            exact goR (by omega)
        · have c2 : f (573 + (i : Int)) = 0 := by omega
          rcases hd01 i with d0 | d0
          · rw [d0] at e2
            simp (disch := first | assumption | omega) only [rM_weigh_10, rM_weigh_13, rM_weigh_16, rM_weigh_17, rM_weigh_20, rM_weigh_23, rM_weigh_24, rM_weigh_25, rM_weigh_26, rM_weigh_27, rM_weigh_28, rM_weigh_29, rM_weigh_32, rM_weigh_33, rM_weigh_34, rM_weigh_35, rM_weigh_36, rM_weigh_39, rM_weigh_40, rM_weigh_43, rM_weigh_44, rM_weigh_45, rM_weigh_48, rM_weigh_49, rM_weigh_50, rM_weigh_53, rM_weigh_54, rM_weigh_56, rM_weigh_59, rM_weigh_60, rM_weigh_63, rM_weigh_65, rM_weigh_66, rM_weigh_68, rM_weigh_71, rM_weigh_72, rM_weigh_73, rM_of_0, rM_of_1, rM_of_4, rM_of_5, rM_of_6, rM_of_7, rM_of_8, Bool.false_eq_true, true_implies, false_implies, implies_true, true_and, and_true, not_true_eq_false, not_false_eq_true, zPush_I, zPush_L, zPush_R, zPush_U, Int.reduceLT, Int.reduceLE, Int.reduceEq, Int.reduceNe, Int.reduceAdd, Int.reduceSub, Int.reduceMul, Int.reduceNeg, Int.reduceToNat, Nat.reduceAdd, Nat.reduceMul, Nat.reduceEqDiff, zw32_id, zw64_id, zupd_eq, zupd_na, zupd_ni, zupp_eq, zupp_na, zupp_ni, show (i : Int) < 384 by omega, p123, p132, e1, c2, e2, e8]
            exact goR (by omega)
          · rw [d0] at e2
            simp (disch := first | assumption | omega) only [rM_weigh_10, rM_weigh_13, rM_weigh_16, rM_weigh_17, rM_weigh_20, rM_weigh_23, rM_weigh_24, rM_weigh_25, rM_weigh_26, rM_weigh_27, rM_weigh_28, rM_weigh_29, rM_weigh_32, rM_weigh_33, rM_weigh_34, rM_weigh_35, rM_weigh_36, rM_weigh_39, rM_weigh_40, rM_weigh_43, rM_weigh_44, rM_weigh_45, rM_weigh_48, rM_weigh_49, rM_weigh_50, rM_weigh_53, rM_weigh_54, rM_weigh_56, rM_weigh_59, rM_weigh_60, rM_weigh_63, rM_weigh_65, rM_weigh_66, rM_weigh_68, rM_weigh_71, rM_weigh_72, rM_weigh_73, rM_of_0, rM_of_1, rM_of_4, rM_of_5, rM_of_6, rM_of_7, rM_of_8, Bool.false_eq_true, true_implies, false_implies, implies_true, true_and, and_true, not_true_eq_false, not_false_eq_true, zPush_I, zPush_L, zPush_R, zPush_U, Int.reduceLT, Int.reduceLE, Int.reduceEq, Int.reduceNe, Int.reduceAdd, Int.reduceSub, Int.reduceMul, Int.reduceNeg, Int.reduceToNat, Nat.reduceAdd, Nat.reduceMul, Nat.reduceEqDiff, zw32_id, zw64_id, zupd_eq, zupd_na, zupd_ni, zupp_eq, zupp_na, zupp_ni, show (i : Int) < 384 by omega, p123, p132, e1, c2, e2, e8]
            exact goW (by omega)
  have ht' : t = 0 ∨ t = 1 ∨ t = 3 := by omega
  simp (disch := first | assumption | omega) only [rM_weigh_0, rM_weigh_1, rM_weigh_2, rM_weigh_3, rM_weigh_4, Bool.false_eq_true, true_implies, false_implies, implies_true, true_and, and_true, not_true_eq_false, not_false_eq_true, zPush_I, zPush_L, zPush_R, zPush_U, Int.reduceLT, Int.reduceLE, Int.reduceEq, Int.reduceNe, Int.reduceAdd, Int.reduceSub, Int.reduceMul, Int.reduceNeg, Int.reduceToNat, Nat.reduceAdd, Nat.reduceMul, Nat.reduceEqDiff, zw32_id, zw64_id, zupd_eq, zupd_na, zupd_ni, zupp_eq, zupp_na, zupp_ni]
  refine mSet (t := t) h (by decide) (by decide) ht' (fun m g fr => ?_)
  simp (disch := first | assumption | omega) only [rM_weigh_7, rM_weigh_8, Bool.false_eq_true, true_implies, false_implies, implies_true, true_and, and_true, not_true_eq_false, not_false_eq_true, zPush_I, zPush_L, zPush_R, zPush_U, Int.reduceLT, Int.reduceLE, Int.reduceEq, Int.reduceNe, Int.reduceAdd, Int.reduceSub, Int.reduceMul, Int.reduceNeg, Int.reduceToNat, Nat.reduceAdd, Nat.reduceMul, Nat.reduceEqDiff, zw32_id, zw64_id, zupd_eq, zupd_na, zupd_ni, zupp_eq, zupp_na, zupp_ni]
  have e0 : wtN f dv t 0 = t := by unfold wtN; simp [rcN, seenN, cnt]
  exact key 384 0 m rfl (by rw [e0]; exact g) fr
theorem mKeep (h : zLy sh pp) (hd : ∀ i, 0 ≤ i → i < 384 → mm 132 i = 0 ∨ mm 132 i = 1) (hQ : ∀ m, (∀ i, 0 ≤ i → i < 384 → m 136 i = mm 132 i) → frP (fun x _ => x = 136) mm m → Q zU sh pp m) : zS 201 0 [zR 122, zU] [] sh pp mm Q := by
  have k122 := k_122 h
  have k136 := k_136 h
  have l136 := l_136 h
  have p136 := p_122_29 h
  have k132 := k_132 h
  have l132 := l_132 h
  have p132 := p_122_18 h
  have key : ∀ i, 0 ≤ i → i ≤ 384 → ∀ m, (∀ k, 0 ≤ k → k < i → m 136 k = mm 132 k) → frP (fun x _ => x = 136) mm m → zS 201 2 [zR 122, zI i] [] sh pp m Q := by
    refine zdn ?_ ?_
    · intro m hm hf
      rw [rM_keepDrawn_2]
      simp (disch := first | assumption | omega) only [rM_keepDrawn_3, rM_keepDrawn_6, rM_keepDrawn_9, rM_keepDrawn_10, rM_keepDrawn_13, rM_keepDrawn_14, rM_keepDrawn_15, rM_keepDrawn_18, rM_keepDrawn_19, rM_keepDrawn_20, rM_keepDrawn_21, rM_keepDrawn_24, rM_keepDrawn_27, Bool.false_eq_true, true_implies, false_implies, implies_true, true_and, and_true, not_true_eq_false, not_false_eq_true, zPush_I, zPush_L, zPush_R, zPush_U, Int.reduceLT, Int.reduceLE, Int.reduceEq, Int.reduceNe, Int.reduceAdd, Int.reduceSub, Int.reduceMul, Int.reduceNeg, Int.reduceToNat, Nat.reduceAdd, Nat.reduceMul, Nat.reduceEqDiff, zw32_id, zw64_id, zupd_eq, zupd_na, zupd_ni, zupp_eq, zupp_na, zupp_ni]
      exact hQ m hm hf
    · intro i i0 i1 ih m hm hf
      have e : m 132 i = mm 132 i := hf _ _ (by omega)
      have hdi := hd i i0 i1
      rw [rM_keepDrawn_2]
      simp (disch := first | assumption | omega) only [rM_keepDrawn_3, rM_keepDrawn_6, rM_keepDrawn_9, rM_keepDrawn_10, rM_keepDrawn_13, rM_keepDrawn_14, rM_keepDrawn_15, rM_keepDrawn_18, rM_keepDrawn_19, rM_keepDrawn_20, rM_keepDrawn_21, rM_keepDrawn_24, Bool.false_eq_true, true_implies, false_implies, implies_true, true_and, and_true, not_true_eq_false, not_false_eq_true, zPush_I, zPush_L, zPush_R, zPush_U, Int.reduceLT, Int.reduceLE, Int.reduceEq, Int.reduceNe, Int.reduceAdd, Int.reduceSub, Int.reduceMul, Int.reduceNeg, Int.reduceToNat, Nat.reduceAdd, Nat.reduceMul, Nat.reduceEqDiff, zw32_id, zw64_id, zupd_eq, zupd_na, zupd_ni, zupp_eq, zupp_na, zupp_ni, i1, p136, p132, e]
      refine ih _ (fun k k0 k1 => ?_) (frP_up hf rfl)
      by_cases ek : k = i
      · rw [ek, zupd_eq]
      · rw [zupd_ni ek]; exact hm k k0 (by omega)
  simp (disch := first | assumption | omega) only [rM_keepDrawn_0, rM_keepDrawn_1, Bool.false_eq_true, true_implies, false_implies, implies_true, true_and, and_true, not_true_eq_false, not_false_eq_true, zPush_I, zPush_L, zPush_R, zPush_U, Int.reduceLT, Int.reduceLE, Int.reduceEq, Int.reduceNe, Int.reduceAdd, Int.reduceSub, Int.reduceMul, Int.reduceNeg, Int.reduceToNat, Nat.reduceAdd, Nat.reduceMul, Nat.reduceEqDiff, zw32_id, zw64_id, zupd_eq, zupd_na, zupd_ni, zupp_eq, zupp_na, zupp_ni]
  exact key 0 (by decide) (by decide) mm (fun k a b => by omega) (frP_rf _ _)
end
