/-! ===== the reference reads a text ===== -/
section
variable {sh : zSh} {pp : zPp} {mm : zMm} {Q : zV → zSh → zPp → zMm → Prop} {p len : Int} {b : Int → Int}
theorem itm_dK (k : Int) : (itm k = 2 ↔ k = 6) ∧ (itm k = 3 ↔ k = 7) := by
  unfold itm
  constructor <;> (repeat' split) <;> omega
theorem mReads1 (h : zLy sh pp) (hx : mTx p len b mm) (hQ1 : ∀ mm', mm' 122 7 = p → fr2 8 14 mm mm' → rd b len = -1 → Q (zI 1) sh pp mm') (hQ0 : ∀ mm', mm' 122 8 = rd b len → fr2 8 14 mm mm' → rd b len ≠ -1 → Q (zI 0) sh pp mm') : ∀ (n : Nat) (q o : Int) (m : zMm), 0 ≤ q → q ≤ len → len - q < 4 * (n : Int) → 0 ≤ o → o ≤ 3 → rd b len = rdN b len n q o → mTk b len q m → fr2 8 14 mm m → zS 186 14 [zR 122, zU, zI o, zI 1] [] sh pp m Q := by
  have k122 := k_122 h
  have z0 : ∀ q, tMk b len q = 0 ↔ tKd b len q = 0 := fun q => (tMk_kd q).1
  have hl : len ≤ 120 := by unfold mTx at hx; omega
  intro n
  induction n with
  | zero => intro q o m h0 h1 h2; omega
  | succ n ih =>
    intro q o m h0 h1 h2 o0 o3 hr hk hf
    have hx' := mTx_fr hx hf
    have at0 := tAt_lo (b := b) (len := len) q
    rw [rdN_s] at hr
    rw [rM_reads_14]
    by_cases hz : tKd b len q = 0
    · rw [if_pos hz] at hr
      have hz' := (z0 q).mpr hz
      by_cases ho : o = 0
      · rw [if_pos ho] at hr
        simp (disch := first | assumption | omega) only [rM_reads_15, rM_reads_18, rM_reads_19, rM_reads_22, rM_reads_25, rM_reads_26, rM_reads_27, rM_reads_30, rM_reads_31, rM_reads_32, rM_reads_33, rM_reads_36, rM_reads_37, rM_reads_40, rM_reads_41, rM_reads_44, rM_reads_45, rM_reads_48, rM_reads_49, rM_reads_52, rM_reads_53, rM_reads_56, rM_reads_57, rM_reads_60, rM_reads_61, rM_reads_64, rM_reads_65, rM_reads_66, rM_reads_67, rM_reads_70, rM_reads_71, rM_reads_74, rM_reads_75, rM_reads_78, rM_reads_79, rM_reads_82, rM_reads_83, Bool.false_eq_true, true_implies, false_implies, implies_true, true_and, and_true, not_true_eq_false, not_false_eq_true, zPush_I, zPush_L, zPush_R, zPush_U, Int.reduceLT, Int.reduceLE, Int.reduceEq, Int.reduceNe, Int.reduceAdd, Int.reduceSub, Int.reduceMul, Int.reduceNeg, Int.reduceToNat, Nat.reduceAdd, Nat.reduceMul, Nat.reduceEqDiff, zw32_id, zw64_id, zupd_eq, zupd_na, zupd_ni, zupp_eq, zupp_na, zupp_ni, hk.2.2.1, hz', ho]
        exact hQ1 m hx'.1 hf hr
      · rw [if_neg ho] at hr
        simp (disch := first | assumption | omega) only [rM_reads_15, rM_reads_18, rM_reads_19, rM_reads_22, rM_reads_25, rM_reads_26, rM_reads_27, rM_reads_30, rM_reads_31, rM_reads_32, rM_reads_33, rM_reads_36, rM_reads_37, rM_reads_40, rM_reads_41, rM_reads_44, rM_reads_45, rM_reads_48, rM_reads_49, rM_reads_52, rM_reads_53, rM_reads_56, rM_reads_57, rM_reads_60, rM_reads_61, rM_reads_64, rM_reads_65, rM_reads_66, rM_reads_67, rM_reads_70, rM_reads_71, rM_reads_74, rM_reads_75, rM_reads_78, rM_reads_79, rM_reads_82, rM_reads_83, Bool.false_eq_true, true_implies, false_implies, implies_true, true_and, and_true, not_true_eq_false, not_false_eq_true, zPush_I, zPush_L, zPush_R, zPush_U, Int.reduceLT, Int.reduceLE, Int.reduceEq, Int.reduceNe, Int.reduceAdd, Int.reduceSub, Int.reduceMul, Int.reduceNeg, Int.reduceToNat, Nat.reduceAdd, Nat.reduceMul, Nat.reduceEqDiff, zw32_id, zw64_id, zupd_eq, zupd_na, zupd_ni, zupp_eq, zupp_na, zupp_ni, hk.2.2.1, hz', ho]
        exact hQ0 m (by rw [hk.1, hr]) hf (by omega)
    · rw [if_neg hz] at hr
      have hz' : ¬ tMk b len q = 0 := fun hc => hz ((z0 q).mp hc)
      simp (disch := first | assumption | omega) only [rM_reads_15, rM_reads_18, rM_reads_19, rM_reads_22, rM_reads_25, rM_reads_26, rM_reads_27, Bool.false_eq_true, true_implies, false_implies, implies_true, true_and, and_true, not_true_eq_false, not_false_eq_true, zPush_I, zPush_L, zPush_R, zPush_U, Int.reduceLT, Int.reduceLE, Int.reduceEq, Int.reduceNe, Int.reduceAdd, Int.reduceSub, Int.reduceMul, Int.reduceNeg, Int.reduceToNat, Nat.reduceAdd, Nat.reduceMul, Nat.reduceEqDiff, zw32_id, zw64_id, zupd_eq, zupd_na, zupd_ni, zupp_eq, zupp_na, zupp_ni, hk.2.2.1, hz']
      refine mReadItem h hx' h0 h1 o0 o3 hk (fun c1 m2 c2 c3 => ?_) (fun c1 m2 c2 => ?_)
      · rw [if_pos c1] at hr
        have f2 := fr2_tr hf c3
        simp (disch := first | assumption | omega) only [rM_reads_30, rM_reads_31, rM_reads_32, rM_reads_33, rM_reads_36, rM_reads_37, rM_reads_40, rM_reads_41, rM_reads_44, rM_reads_45, rM_reads_48, rM_reads_49, rM_reads_52, rM_reads_53, rM_reads_56, rM_reads_57, rM_reads_60, rM_reads_61, rM_reads_64, rM_reads_65, rM_reads_66, rM_reads_67, Bool.false_eq_true, true_implies, false_implies, implies_true, true_and, and_true, not_true_eq_false, not_false_eq_true, zPush_I, zPush_L, zPush_R, zPush_U, Int.reduceLT, Int.reduceLE, Int.reduceEq, Int.reduceNe, Int.reduceAdd, Int.reduceSub, Int.reduceMul, Int.reduceNeg, Int.reduceToNat, Nat.reduceAdd, Nat.reduceMul, Nat.reduceEqDiff, zw32_id, zw64_id, zupd_eq, zupd_na, zupd_ni, zupp_eq, zupp_na, zupp_ni]
        rw [rM_reads_14]
        simp (disch := first | assumption | omega) only [rM_reads_15, rM_reads_18, rM_reads_19, rM_reads_22, rM_reads_25, rM_reads_26, rM_reads_27, rM_reads_30, rM_reads_31, rM_reads_32, rM_reads_33, rM_reads_36, rM_reads_37, rM_reads_40, rM_reads_41, rM_reads_44, rM_reads_45, rM_reads_48, rM_reads_49, rM_reads_52, rM_reads_53, rM_reads_56, rM_reads_57, rM_reads_60, rM_reads_61, rM_reads_64, rM_reads_65, rM_reads_66, rM_reads_67, rM_reads_70, rM_reads_71, rM_reads_74, rM_reads_75, rM_reads_78, rM_reads_79, rM_reads_82, rM_reads_83, Bool.false_eq_true, true_implies, false_implies, implies_true, true_and, and_true, not_true_eq_false, not_false_eq_true, zPush_I, zPush_L, zPush_R, zPush_U, Int.reduceLT, Int.reduceLE, Int.reduceEq, Int.reduceNe, Int.reduceAdd, Int.reduceSub, Int.reduceMul, Int.reduceNeg, Int.reduceToNat, Nat.reduceAdd, Nat.reduceMul, Nat.reduceEqDiff, zw32_id, zw64_id, zupd_eq, zupd_na, zupd_ni, zupp_eq, zupp_na, zupp_ni]
        exact hQ0 m2 (by rw [c2, hr]) f2 (by rw [hr]; exact c1)
      · rw [if_neg (fun hc => hc c1)] at hr
        obtain ⟨d1, d2, d3, d4, d5⟩ := c2
        have f2 := fr2_tr hf d5
        have h4 := iNx_4 c1 h0
        have h5 := iNx_hi (b := b) h1
        have hbg := dK_bg (iFt_bg c1 h0) o0 o3
        have nx := ih (iNx b len q) (o + dK (tKd b len q)) m2 (by omega) h5 (by omega) hbg.1 hbg.2 hr d1 f2
        obtain ⟨i2, i3⟩ := itm_dK (tKd b len q)
        rw [← d2] at i2 i3
        by_cases k6 : tKd b len q = 6
        · have j2 := i2.mpr k6
          rw [k6] at nx
          simp (disch := first | assumption | omega) only [rM_reads_30, rM_reads_31, rM_reads_32, rM_reads_33, rM_reads_36, rM_reads_37, rM_reads_40, rM_reads_41, rM_reads_44, rM_reads_45, rM_reads_48, rM_reads_49, rM_reads_52, rM_reads_53, rM_reads_56, rM_reads_57, rM_reads_60, rM_reads_61, rM_reads_64, rM_reads_65, rM_reads_66, rM_reads_67, Bool.false_eq_true, true_implies, false_implies, implies_true, true_and, and_true, not_true_eq_false, not_false_eq_true, zPush_I, zPush_L, zPush_R, zPush_U, Int.reduceLT, Int.reduceLE, Int.reduceEq, Int.reduceNe, Int.reduceAdd, Int.reduceSub, Int.reduceMul, Int.reduceNeg, Int.reduceToNat, Nat.reduceAdd, Nat.reduceMul, Nat.reduceEqDiff, zw32_id, zw64_id, zupd_eq, zupd_na, zupd_ni, zupp_eq, zupp_na, zupp_ni, j2]
          exact nx
        · have j2 : ¬ m2 122 12 = 2 := fun hc => k6 (i2.mp hc)
          by_cases k7 : tKd b len q = 7
          · have j3 := i3.mpr k7
            rw [k7] at nx
            simp (disch := first | assumption | omega) only [rM_reads_30, rM_reads_31, rM_reads_32, rM_reads_33, rM_reads_36, rM_reads_37, rM_reads_40, rM_reads_41, rM_reads_44, rM_reads_45, rM_reads_48, rM_reads_49, rM_reads_52, rM_reads_53, rM_reads_56, rM_reads_57, rM_reads_60, rM_reads_61, rM_reads_64, rM_reads_65, rM_reads_66, rM_reads_67, Bool.false_eq_true, true_implies, false_implies, implies_true, true_and, and_true, not_true_eq_false, not_false_eq_true, zPush_I, zPush_L, zPush_R, zPush_U, Int.reduceLT, Int.reduceLE, Int.reduceEq, Int.reduceNe, Int.reduceAdd, Int.reduceSub, Int.reduceMul, Int.reduceNeg, Int.reduceToNat, Nat.reduceAdd, Nat.reduceMul, Nat.reduceEqDiff, zw32_id, zw64_id, zupd_eq, zupd_na, zupd_ni, zupp_eq, zupp_na, zupp_ni, j3]
            exact nx
          · have j3 : ¬ m2 122 12 = 3 := fun hc => k7 (i3.mp hc)
            have e : dK (tKd b len q) = 0 := by unfold dK; rw [if_neg k6, if_neg k7]
            rw [e] at nx
            simp (disch := first | assumption | omega) only [rM_reads_30, rM_reads_31, rM_reads_32, rM_reads_33, rM_reads_36, rM_reads_37, rM_reads_40, rM_reads_41, rM_reads_44, rM_reads_45, rM_reads_48, rM_reads_49, rM_reads_52, rM_reads_53, rM_reads_56, rM_reads_57, rM_reads_60, rM_reads_61, rM_reads_64, rM_reads_65, rM_reads_66, rM_reads_67, Bool.false_eq_true, true_implies, false_implies, implies_true, true_and, and_true, not_true_eq_false, not_false_eq_true, zPush_I, zPush_L, zPush_R, zPush_U, Int.reduceLT, Int.reduceLE, Int.reduceEq, Int.reduceNe, Int.reduceAdd, Int.reduceSub, Int.reduceMul, Int.reduceNeg, Int.reduceToNat, Nat.reduceAdd, Nat.reduceMul, Nat.reduceEqDiff, zw32_id, zw64_id, zupd_eq, zupd_na, zupd_ni, zupp_eq, zupp_na, zupp_ni, j2, j3]
            exact nx
/-- the text of a program in the row that an image keeps -/
def bOf (f : Int → Int) (p : Int) : Int → Int := fun k => f (9 + 121 * p + 1 + k)
def lOf (f : Int → Int) (p : Int) : Int := f (9 + 121 * p)
theorem mReads (h : zLy sh pp) {f : Int → Int} (hf : fOk f) (hm : ∀ k, 0 ≤ k → k < 986 → mm 123 k = f k) (p0 : 0 ≤ p) (p3 : p ≤ 3) (hQ1 : ∀ mm', mm' 122 7 = p → fr2 7 14 mm mm' → rd (bOf f p) (lOf f p) = -1 → Q (zI 1) sh pp mm') (hQ0 : ∀ mm', mm' 122 8 = rd (bOf f p) (lOf f p) → fr2 7 14 mm mm' → rd (bOf f p) (lOf f p) ≠ -1 → Q (zI 0) sh pp mm') : zS 186 0 [zR 122, zI p, zU, zU] [] sh pp mm Q := by
  have k122 := k_122 h
  have ht := hf.2.1 p p0 p3
  have hx : mTx p (lOf f p) (bOf f p) (zupd mm 122 7 p) := by
    refine ⟨zupd_eq _ _ _ _, ⟨p0, p3⟩, ?_, ⟨ht.1, ht.2.1⟩, fun k k0 k1 => ?_⟩
    · rw [zupd_na (by decide)]; exact hm _ (by omega) (by omega)
    · rw [zupd_na (by decide)]
      have : lOf f p = f (9 + 121 * p) := rfl
      refine ⟨hm _ (by omega) (by omega), ht.2.2 k k0 k1⟩
  simp (disch := first | assumption | omega) only [rM_reads_0, rM_reads_1, rM_reads_2, rM_reads_5, rM_reads_6, rM_reads_7, rM_reads_8, rM_reads_9, Bool.false_eq_true, true_implies, false_implies, implies_true, true_and, and_true, not_true_eq_false, not_false_eq_true, zPush_I, zPush_L, zPush_R, zPush_U, Int.reduceLT, Int.reduceLE, Int.reduceEq, Int.reduceNe, Int.reduceAdd, Int.reduceSub, Int.reduceMul, Int.reduceNeg, Int.reduceToNat, Nat.reduceAdd, Nat.reduceMul, Nat.reduceEqDiff, zw32_id, zw64_id, zupd_eq, zupd_na, zupd_ni, zupp_eq, zupp_na, zupp_ni]
  refine mLook h hx (Int.le_refl 0) ht.1 (fun m2 k2 f2 => ?_)
  simp (disch := first | assumption | omega) only [rM_reads_12, rM_reads_13, Bool.false_eq_true, true_implies, false_implies, implies_true, true_and, and_true, not_true_eq_false, not_false_eq_true, zPush_I, zPush_L, zPush_R, zPush_U, Int.reduceLT, Int.reduceLE, Int.reduceEq, Int.reduceNe, Int.reduceAdd, Int.reduceSub, Int.reduceMul, Int.reduceNeg, Int.reduceToNat, Nat.reduceAdd, Nat.reduceMul, Nat.reduceEqDiff, zw32_id, zw64_id, zupd_eq, zupd_na, zupd_ni, zupp_eq, zupp_na, zupp_ni]
  have f3 : fr2 8 14 (zupd mm 122 7 p) m2 := fr2_wd f2 (by decide) (by decide)
  have up : ∀ m3, fr2 8 14 (zupd mm 122 7 p) m3 → fr2 7 14 mm m3 := fun m3 hh => fr2_tr (fr2_up (fr2_rf 7 14 mm) (by decide) (by decide)) (fr2_wd hh (by decide) (by decide))
  have hll : lOf f p = f (9 + 121 * p) := rfl
  exact mReads1 h hx (fun m3 c1 c2 c3 => hQ1 m3 c1 (up m3 c2) c3) (fun m3 c1 c2 c3 => hQ0 m3 c1 (up m3 c2) c3) 31 0 0 m2 (Int.le_refl 0) ht.1 (by omega) (by decide) (by decide) rfl k2 f3
end
