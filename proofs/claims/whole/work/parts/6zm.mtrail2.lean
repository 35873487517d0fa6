/-! ===== nets of the reference: trail, starts, odd, once as calls ===== -/
def trA (f : Int → Int) (i v : Int) : Prop := ∃ (b : Int) (g : Int → Int), trR f (f 982).toNat b g ∧ v = (if i = -1 then b else if i < (nE f : Int) then g i else -5)
def stA (f : Int → Int) (v : Int) : Prop := ∃ B : Nat, v = (B : Int) ∧ ∀ k, B.testBit k = true ↔ (k < (f 982).toNat ∧ 0 < nE f ∧ cP f k 0)
theorem stA_uq {f : Int → Int} {v v' : Int} (h : stA f v) (h' : stA f v') : v = v' := by
  obtain ⟨B, h1, h2⟩ := h
  obtain ⟨B', h1', h2'⟩ := h'
  have e : B = B' := Nat.eq_of_testBit_eq (fun k => Bool.eq_iff_iff.mpr ((h2 k).trans (h2' k).symm))
  rw [h1, h1', e]
theorem trR_uq {f : Int → Int} {K : Nat} {b b' : Int} {g g' : Int → Int} (h : trR f K b g) (h' : trR f K b' g') : b = b' ∧ (b ≠ -1 → lxE g g' (nE f)) := by
  rcases h with ⟨h1, h2⟩ | ⟨c, h1, h2, h3, ⟨S, h4⟩, h5⟩
  · rcases h' with ⟨i1, i2⟩ | ⟨c', i1, i2, i3, -⟩
    · exact ⟨by omega, fun x => absurd h1 x⟩
    · exact absurd i3 (h2 c' i2)
  · rcases h' with ⟨i1, i2⟩ | ⟨c', i1, i2, i3, ⟨S', i4⟩, i5⟩
    · exact absurd h3 (i2 c h2)
    · have a := h5 c' i2 i3 g' S' i4
      have b := i5 c h2 h3 g S h4
      have e : c = c' := by
        by_cases x : c' < c
        · exact absurd (a.2 x) b.1
        · by_cases y : c < c'
          · exact absurd (b.2 y) a.1
          · omega
      subst e
      exact ⟨by omega, fun _ => (lnR_uq h4 i4).2⟩
theorem cP_on {f : Int → Int} {K : Nat} {b : Int} {g : Int → Int} (h : trR f K b g) (hc : ∃ c, c < K ∧ cP f c 0) : b ≠ -1 := by
  rcases h with ⟨h1, h2⟩ | ⟨c, h1, -⟩
  · obtain ⟨c, a, b⟩ := hc
    exact absurd b (h2 c a)
  · omega
theorem trA_uq {f : Int → Int} {i v v' : Int} (hi : -1 ≤ i) (hc : ∃ c, c < (f 982).toNat ∧ cP f c 0) (h : trA f i v) (h' : trA f i v') : v = v' := by
  obtain ⟨b, g, h1, h2⟩ := h
  obtain ⟨b', g', h1', h2'⟩ := h'
  have u := trR_uq h1 h1'
  have e := u.2 (cP_on h1 hc)
  rw [h2, h2']
  by_cases x : i = -1
  · rw [if_pos x, if_pos x]; exact u.1
  · rw [if_neg x, if_neg x]
    by_cases y : i < (nE f : Int)
    · rw [if_pos y, if_pos y]
      have := e i.toNat (by omega)
      rw [Int.toNat_of_nonneg (by omega)] at this
      exact this
    · rw [if_neg y, if_neg y]
section
variable {sh : zSh} {pp : zPp} {mm : zMm} {Q : zV → zSh → zPp → zMm → Prop} {f : Int → Int} {G : Int → Option (Int → Int)} {cn : Int → Int} {N D : Nat}
theorem enF_sc {m m' : zMm} (h : frP enF m m') : frP pSc m m' := frP_wd h (fun x j hj => by unfold enF at hj; unfold pSc; omega)
theorem trF_sc {m m' : zMm} (h : frP trF m m') : frP pSc m m' := frP_wd h (fun x j hj => by unfold trF at hj; unfold pSc; omega)
theorem mStartsC (h : zLy sh pp) (hm : mOk f G cn N D mm) (ok : fOk f) (hQ : ∀ mm' v, mOk f G cn N D mm' → frC mm mm' → stA f v → Q (zI v) sh pp mm') : zS 223 0 [zR 122, zU, zU] [] sh pp mm Q := by
  apply mStarts h hm.1 ok
  intro mm' B a b c
  exact hQ mm' B (mOk_sc hm (enF_sc a)) (pSc_C (enF_sc a)) ⟨B, rfl, c⟩
theorem mTrail (h : zLy sh pp) (hm : mOk f G cn N D mm) (ok : fOk f) {i : Int} (hQ1 : i < -1 → ∀ mm', mOk f G (bump cn 0) N D mm' → frC mm mm' → Q (zI (-2)) sh pp mm') (hQ2 : -1 ≤ i → ¬ (onB f = true ∧ 0 < nE f) → ∀ mm', mOk f G (bump cn 1) N D mm' → frC mm mm' → Q (zI (-3)) sh pp mm') (hQ3 : -1 ≤ i → onB f = true → 0 < nE f → ∀ mm' v, mOk f G cn N D mm' → frC mm mm' → trA f i v → Q (zI v) sh pp mm') : zS 226 0 [zR 122, zI i, zU, zU, zU] [] sh pp mm Q := by
  have k122 := k_122 h
  have k123 := k_123 h
  have l123 := l_123 h
  have p123 := p_122_0 h
  have k126 := k_126 h
  have l126 := l_126 h
  have p126 := p_122_3 h
  have k140 := k_140 h
  have l140 := l_140 h
  have p140 := p_122_33 h
  have l := nE_le ok
  by_cases i1 : i < -1
  · have q := hQ1 i1 _ (mOk_ref hm (i := 0) (by decide) (by decide)) (frC_up (frC_rf mm) (by decide) (by decide))
    simp (disch := first | assumption | omega) only [rM_trail_0, rM_trail_1, rM_trail_2, rM_trail_5, rM_trail_6, rM_trail_8, rM_trail_11, rM_bad_0, rM_bad_1, rM_bad_4, rM_bad_5, rM_bad_6, rM_bad_7, rM_bad_8, rM_bad_9, rM_bad_10, rM_bad_11, Bool.false_eq_true, true_implies, false_implies, implies_true, true_and, and_true, not_true_eq_false, not_false_eq_true, zPush_I, zPush_L, zPush_R, zPush_U, Int.reduceLT, Int.reduceLE, Int.reduceEq, Int.reduceNe, Int.reduceAdd, Int.reduceSub, Int.reduceMul, Int.reduceNeg, Int.reduceToNat, Nat.reduceAdd, Nat.reduceMul, Nat.reduceEqDiff, zw32_id, zw64_id, zupd_eq, zupd_na, zupd_ni, zupp_eq, zupp_na, zupp_ni, p126, eq_true i1]
    exact q
  · have no : zS 226 27 [zR 122, zU, zU, zU, zU] [] sh pp mm Q ↔ Q (zI (-3)) sh pp (zupd mm 126 1 (zw32 (mm 126 1 + 1))) := by
      simp (disch := first | assumption | omega) only [rM_trail_27, rM_trail_28, rM_trail_30, rM_trail_33, rM_no_0, rM_no_1, rM_no_4, rM_no_5, rM_no_6, rM_no_7, rM_no_8, rM_no_9, rM_no_10, rM_no_11, Bool.false_eq_true, true_implies, false_implies, implies_true, true_and, and_true, not_true_eq_false, not_false_eq_true, zPush_I, zPush_L, zPush_R, zPush_U, Int.reduceLT, Int.reduceLE, Int.reduceEq, Int.reduceNe, Int.reduceAdd, Int.reduceSub, Int.reduceMul, Int.reduceNeg, Int.reduceToNat, Nat.reduceAdd, Nat.reduceMul, Nat.reduceEqDiff, zw32_id, zw64_id, zupd_eq, zupd_na, zupd_ni, zupp_eq, zupp_na, zupp_ni, p126]
    have nq := fun x => hQ2 (by omega) x _ (mOk_ref hm (i := 1) (by decide) (by decide)) (frC_up (frC_rf mm) (by decide) (by decide))
    have e9 := hm.1 983 (by decide) (by decide)
    rw [nE_eq ok] at e9
    simp (disch := first | assumption | omega) only [rM_trail_0, rM_trail_1, rM_trail_2, rM_trail_12, rM_trail_13, Bool.false_eq_true, true_implies, false_implies, implies_true, true_and, and_true, not_true_eq_false, not_false_eq_true, zPush_I, zPush_L, zPush_R, zPush_U, Int.reduceLT, Int.reduceLE, Int.reduceEq, Int.reduceNe, Int.reduceAdd, Int.reduceSub, Int.reduceMul, Int.reduceNeg, Int.reduceToNat, Nat.reduceAdd, Nat.reduceMul, Nat.reduceEqDiff, zw32_id, zw64_id, zupd_eq, zupd_na, zupd_ni, zupp_eq, zupp_na, zupp_ni, eq_false i1]
    apply mIsOnce h hm.1 ok
    by_cases o : onB f = true
    · rw [if_pos ((onB_i f).mp o)]
      by_cases z : (nE f : Int) = 0
      · simp (disch := first | assumption | omega) only [rM_trail_16, rM_trail_19, rM_trail_20, rM_trail_21, rM_trail_24, rM_many_0, rM_many_1, rM_many_4, rM_many_7, rM_many_8, rM_many_9, rM_many_10, Bool.false_eq_true, true_implies, false_implies, implies_true, true_and, and_true, not_true_eq_false, not_false_eq_true, zPush_I, zPush_L, zPush_R, zPush_U, Int.reduceLT, Int.reduceLE, Int.reduceEq, Int.reduceNe, Int.reduceAdd, Int.reduceSub, Int.reduceMul, Int.reduceNeg, Int.reduceToNat, Nat.reduceAdd, Nat.reduceMul, Nat.reduceEqDiff, zw32_id, zw64_id, zupd_eq, zupd_na, zupd_ni, zupp_eq, zupp_na, zupp_ni, p123, e9, eq_true z]
        exact no.mpr (nq (by omega))
      · simp (disch := first | assumption | omega) only [rM_trail_16, rM_trail_19, rM_trail_20, rM_trail_21, rM_trail_24, rM_trail_34, rM_trail_35, rM_trail_36, rM_trail_37, rM_many_0, rM_many_1, rM_many_4, rM_many_7, rM_many_8, rM_many_9, rM_many_10, Bool.false_eq_true, true_implies, false_implies, implies_true, true_and, and_true, not_true_eq_false, not_false_eq_true, zPush_I, zPush_L, zPush_R, zPush_U, Int.reduceLT, Int.reduceLE, Int.reduceEq, Int.reduceNe, Int.reduceAdd, Int.reduceSub, Int.reduceMul, Int.reduceNeg, Int.reduceToNat, Nat.reduceAdd, Nat.reduceMul, Nat.reduceEqDiff, zw32_id, zw64_id, zupd_eq, zupd_na, zupd_ni, zupp_eq, zupp_na, zupp_ni, p123, e9, eq_false z]
        apply tLoop h hm.1 ok
        intro m1 b hf hr
        have k := hQ3 (by omega) o (by omega) m1
        have ok1 := mOk_sc hm (trF_sc hf)
        have e91 := ok1.1 983 (by decide) (by decide)
        rw [nE_eq ok] at e91
        by_cases x : i = -1
        · have q := k b ok1 (pSc_C (trF_sc hf)) ⟨b, _, hr, by rw [if_pos x]⟩
          simp (disch := first | assumption | omega) only [rM_trail_115, rM_trail_116, rM_trail_117, rM_trail_120, rM_trail_121, rM_trail_144, Bool.false_eq_true, true_implies, false_implies, implies_true, true_and, and_true, not_true_eq_false, not_false_eq_true, zPush_I, zPush_L, zPush_R, zPush_U, Int.reduceLT, Int.reduceLE, Int.reduceEq, Int.reduceNe, Int.reduceAdd, Int.reduceSub, Int.reduceMul, Int.reduceNeg, Int.reduceToNat, Nat.reduceAdd, Nat.reduceMul, Nat.reduceEqDiff, zw32_id, zw64_id, zupd_eq, zupd_na, zupd_ni, zupp_eq, zupp_na, zupp_ni, eq_true x]
          exact q
        · by_cases y : i < (nE f : Int)
          · have q := k (m1 140 i) ok1 (pSc_C (trF_sc hf)) ⟨b, _, hr, by rw [if_neg x, if_pos y]⟩
            simp (disch := first | assumption | omega) only [rM_trail_115, rM_trail_116, rM_trail_117, rM_trail_124, rM_trail_125, rM_trail_126, rM_trail_127, rM_trail_130, rM_trail_133, rM_trail_134, rM_trail_137, rM_trail_138, rM_trail_139, rM_trail_144, rM_many_0, rM_many_1, rM_many_4, rM_many_7, rM_many_8, rM_many_9, rM_many_10, Bool.false_eq_true, true_implies, false_implies, implies_true, true_and, and_true, not_true_eq_false, not_false_eq_true, zPush_I, zPush_L, zPush_R, zPush_U, Int.reduceLT, Int.reduceLE, Int.reduceEq, Int.reduceNe, Int.reduceAdd, Int.reduceSub, Int.reduceMul, Int.reduceNeg, Int.reduceToNat, Nat.reduceAdd, Nat.reduceMul, Nat.reduceEqDiff, zw32_id, zw64_id, zupd_eq, zupd_na, zupd_ni, zupp_eq, zupp_na, zupp_ni, p123, p140, e91, eq_false x, eq_true y]
            exact q
          · have q := k (-5) ok1 (pSc_C (trF_sc hf)) ⟨b, _, hr, by rw [if_neg x, if_neg y]⟩
            simp (disch := first | assumption | omega) only [rM_trail_115, rM_trail_116, rM_trail_117, rM_trail_124, rM_trail_125, rM_trail_126, rM_trail_127, rM_trail_130, rM_trail_133, rM_trail_134, rM_trail_137, rM_trail_138, rM_trail_139, rM_trail_142, rM_trail_144, rM_many_0, rM_many_1, rM_many_4, rM_many_7, rM_many_8, rM_many_9, rM_many_10, Bool.false_eq_true, true_implies, false_implies, implies_true, true_and, and_true, not_true_eq_false, not_false_eq_true, zPush_I, zPush_L, zPush_R, zPush_U, Int.reduceLT, Int.reduceLE, Int.reduceEq, Int.reduceNe, Int.reduceAdd, Int.reduceSub, Int.reduceMul, Int.reduceNeg, Int.reduceToNat, Nat.reduceAdd, Nat.reduceMul, Nat.reduceEqDiff, zw32_id, zw64_id, zupd_eq, zupd_na, zupd_ni, zupp_eq, zupp_na, zupp_ni, p123, p140, e91, eq_false x, eq_false y]
            exact q
    · rw [if_neg (fun x => o ((onB_i f).mpr x))]
      simp (disch := first | assumption | omega) only [rM_trail_16, Bool.false_eq_true, true_implies, false_implies, implies_true, true_and, and_true, not_true_eq_false, not_false_eq_true, zPush_I, zPush_L, zPush_R, zPush_U, Int.reduceLT, Int.reduceLE, Int.reduceEq, Int.reduceNe, Int.reduceAdd, Int.reduceSub, Int.reduceMul, Int.reduceNeg, Int.reduceToNat, Nat.reduceAdd, Nat.reduceMul, Nat.reduceEqDiff, zw32_id, zw64_id, zupd_eq, zupd_na, zupd_ni, zupp_eq, zupp_na, zupp_ni]
      exact no.mpr (nq (fun x => o x.1))
end
