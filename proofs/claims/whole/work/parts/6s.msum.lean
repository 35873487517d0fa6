/-! ===== the reference sums up the guesses ===== -/
noncomputable def gDr (f : Int → Int) (p : Int) : Int → Int := (dOf f p).2.2.2.2.2.2.2.2.2.1
noncomputable def gDv (f : Int → Int) (p : Int) (s : Nat) : Int → Int := if s = 0 then gDr f p else pShk ((s : Int) - 1) (gDr f p) (pHere (dOf f p).2.2.2.2.2.2.2)
noncomputable def gW (f : Int → Int) (p : Int) (s : Nat) : Nat := wtN f (gDv f p s) (if s = 0 then 3 else 1) 384
noncomputable def gOk (f : Int → Int) (p : Int) : Bool := decide (rd (bOf f p) (lOf f p) = -1) && !(dOf f p).2.2.2.2.2.1
noncomputable def gMn (q a : Int) (f : Int → Int) (p : Int) (s : Nat) : Bool := if q = 0 then decide (p = a) else if q = 1 then decide (s ≠ 0) else decide (gDr f p a = 1)
noncomputable def gP (q a : Int) (f : Int → Int) (p : Int) : Nat → Nat × Nat
  | 0 => (0, 0)
  | s + 1 => ((gP q a f p s).1 + gW f p s, (gP q a f p s).2 + (if gMn q a f p s = true then gW f p s else 0))
noncomputable def gT (q a : Int) (f : Int → Int) : Nat → Nat × Nat
  | 0 => (0, 0)
  | n + 1 => if gOk f (n : Int) = true then ((gT q a f n).1 + (gP q a f (n : Int) 4).1, (gT q a f n).2 + (gP q a f (n : Int) 4).2) else gT q a f n
noncomputable def gAny (f : Int → Int) : Nat → Bool
  | 0 => false
  | n + 1 => gAny f n || gOk f (n : Int)
def pSu (x : Nat) (j : Int) : Prop := (x = 127 ∧ 128 ≤ j ∧ j < 320) ∨ (x = 128 ∧ 2 ≤ j ∧ j ≤ 4) ∨ (129 ≤ x ∧ x ≤ 136) ∨ (x = 122 ∧ 7 ≤ j ∧ j ≤ 26)
section
variable {sh : zSh} {pp : zPp} {mm : zMm} {Q : zV → zSh → zPp → zMm → Prop} {f : Int → Int} {q a : Int}
theorem gW_le (hf : fOk f) (hsn : fSn f) (p : Int) (s : Nat) : gW f p s ≤ 3 * 9 ^ 60 := by
  have n8 := hf.1 8 (by decide) (by decide)
  simp [loN, hiN] at n8
  have h60 : seenN f 384 ≤ 60 := by
    have := hf.2.2.2.2.2.2.1
    unfold fSn at hsn
    omega
  unfold gW
  refine Nat.le_trans (wt_le n8 h60) (Nat.mul_le_mul_right _ ?_)
  split <;> decide
theorem gP_le (hf : fOk f) (hsn : fSn f) (p : Int) : ∀ s, (gP q a f p s).1 ≤ s * (3 * 9 ^ 60) ∧ (gP q a f p s).2 ≤ (gP q a f p s).1
  | 0 => ⟨Nat.zero_le _, Nat.le_refl _⟩
  | s + 1 => by
    have ih := gP_le hf hsn p s
    have hw := gW_le hf hsn p s
    show (gP q a f p s).1 + gW f p s ≤ (s + 1) * (3 * 9 ^ 60) ∧ (gP q a f p s).2 + _ ≤ (gP q a f p s).1 + gW f p s
    refine ⟨?_, ?_⟩
    · rw [Nat.add_mul, Nat.one_mul]; exact Nat.add_le_add ih.1 hw
    · refine Nat.add_le_add ih.2 ?_
      split
      · exact Nat.le_refl _
      · exact Nat.zero_le _
theorem gT_le (hf : fOk f) (hsn : fSn f) : ∀ n, (gT q a f n).1 ≤ n * (4 * (3 * 9 ^ 60)) ∧ (gT q a f n).2 ≤ (gT q a f n).1
  | 0 => ⟨Nat.zero_le _, Nat.le_refl _⟩
  | n + 1 => by
    have ih := gT_le hf hsn n
    have hp := gP_le (q := q) (a := a) hf hsn (n : Int) 4
    have e : gT q a f (n + 1) = if gOk f (n : Int) = true then ((gT q a f n).1 + (gP q a f (n : Int) 4).1, (gT q a f n).2 + (gP q a f (n : Int) 4).2) else gT q a f n := rfl
    rw [e, Nat.add_mul, Nat.one_mul]
    split
    · exact ⟨Nat.add_le_add ih.1 hp.1, Nat.add_le_add ih.2 hp.2⟩
    · exact ⟨Nat.le_trans ih.1 (Nat.le_add_right _ _), ih.2⟩
theorem big9 : 4 * (4 * (3 * 9 ^ 60)) + 4 * (3 * 9 ^ 60) < 1766847064778384329583297500742918515827483896875618958121606201292619776 := by decide
theorem gDv_01 {p : Int} (hok : pOk (dOf f p).2.2.2.2.2.2.2) (s : Nat) (i : Int) : gDv f p s i = 0 ∨ gDv f p s i = 1 := by
  unfold gDv
  split
  · exact hok.2.2.2.1 i
  · unfold pShk
    split
    · exact Or.inl rfl
    · exact hok.2.2.2.1 i
theorem dOf_ok (hf : fOk f) {p : Int} (p0 : 0 ≤ p) (p3 : p ≤ 3) (hr : rd (bOf f p) (lOf f p) = -1) : pOk (dOf f p).2.2.2.2.2.2.2 := by
  have ht := hf.2.1 p p0 p3
  obtain ⟨r1, r2, r3, r4, r5⟩ := rd_it (b := bOf f p) (len := lOf f p) ⟨ht.1, ht.2.1⟩ hr
  have n4 := hf.1 4 (by decide) (by decide)
  have n5 := hf.1 5 (by decide) (by decide)
  simp [loN, hiN] at n4 n5
  exact (dRun_end (px := f 4) (py := f 5) r5 n4.1 n5.1 10000 (dBeg f) (dBeg_ok hf) (by show (301 - (0 : Int)) * 21 + 0 < 10000; decide)).2.2.2.2.2.2.1
theorem mPk_dr {P P' : zPl} {m m' : zMm} (h : mPk P' m) (e1 : P'.1 = P.1) (e2 : P'.2.1 = P.2.1) (e3 : P'.2.2.2 = P.2.2.2) (hf : frP pDr m m') (hd : ∀ i, 0 ≤ i → i < 384 → m' 132 i = P.2.2.1 i) : mPk P m' := by
  have g : ∀ a j, a ≠ 132 → m' a j = m a j := fun a j ha => hf a j (by unfold pDr; omega)
  obtain ⟨x1, x2, x3, x4, x5, x6⟩ := h
  rw [e1, e2, e3] at *
  unfold mPk
  rw [g 129 0 (by decide), g 129 1 (by decide), g 130 0 (by decide), g 130 1 (by decide), g 131 0 (by decide), g 131 1 (by decide), g 122 20 (by decide), g 122 21 (by decide), g 122 22 (by decide), g 122 23 (by decide), g 122 24 (by decide)]
  exact ⟨x1, x2, x3, hd, fun i i0 i1 => by rw [g 133 i (by decide)]; exact x5 i i0 i1, x6⟩
/-- at the loop over the shakes of a program -/
def suI (f : Int → Int) (q a p : Int) (S S' : Nat) (s : Nat) (m : zMm) : Prop := mB 3 (S + (gP q a f p s).1) m ∧ mB 4 (S' + (gP q a f p s).2) m ∧ m 122 26 = 0 ∧ (∀ i, 0 ≤ i → i < 384 → m 136 i = gDr f p i) ∧ (∃ dr', mPk ((dOf f p).2.2.2.2.2.2.2.1, (dOf f p).2.2.2.2.2.2.2.2.1, dr', (dOf f p).2.2.2.2.2.2.2.2.2.2) m) ∧ ∀ k, 0 ≤ k → k < 986 → m 123 k = f k
theorem mSu1 (h : zLy sh pp) (hf : fOk f) (hsn : fSn f) (q0 : 0 ≤ q) (q2 : q ≤ 2) (a0 : 0 ≤ a) (a1 : a < 384) {p : Int} (p0 : 0 ≤ p) (p3 : p ≤ 3) {any : Int} (hr : rd (bOf f p) (lOf f p) = -1) {S S' : Nat} (lS : S ≤ 4 * (4 * (3 * 9 ^ 60))) (lS' : S' ≤ 4 * (4 * (3 * 9 ^ 60))) (hz : ∀ m, suI f q a p S S' 4 m → frP pSu mm m → zS 238 187 [zR 122, zI q, zI a, zI any, zI p, zU, zU] [] sh pp m Q) : ∀ (d s : Nat) (m : zMm), s + d = 4 → suI f q a p S S' s m → frP pSu mm m → zS 238 62 [zR 122, zI q, zI a, zI any, zI p, zI ((s : Int) - 1), zU] [] sh pp m Q := by
  have k122 := k_122 h
  have k136 := k_136 h
  have l136 := l_136 h
  have p136 := p_122_29 h
  have k132 := k_132 h
  have l132 := l_132 h
  have p132 := p_122_18 h
  have hok := dOf_ok hf p0 p3 hr
  have hdr01 : ∀ i, gDr f p i = 0 ∨ gDr f p i = 1 := fun i => hok.2.2.2.1 i
  have hbig := big9
  intro d
  induction d with
  | zero =>
    intro s m hs hI hfr
    have hs : s = 4 := by omega
    subst hs
    rw [rM_sumsUp_62]
    simp (disch := first | assumption | omega) only [rM_sumsUp_64, rM_sumsUp_65, rM_sumsUp_68, rM_sumsUp_69, rM_sumsUp_72, Bool.false_eq_true, true_implies, false_implies, implies_true, true_and, and_true, not_true_eq_false, not_false_eq_true, zPush_I, zPush_L, zPush_R, zPush_U, Int.reduceLT, Int.reduceLE, Int.reduceEq, Int.reduceNe, Int.reduceAdd, Int.reduceSub, Int.reduceMul, Int.reduceNeg, Int.reduceToNat, Nat.reduceAdd, Nat.reduceMul, Nat.reduceEqDiff, zw32_id, zw64_id, zupd_eq, zupd_na, zupd_ni, zupp_eq, zupp_na, zupp_ni, show ¬ ((4 : Nat) : Int) - 1 < 3 by omega]
    exact hz m hI hfr
  | succ d ih =>
    intro s m hs hI hfr
    obtain ⟨b3, b4, h26, hbf, ⟨dr', hpk⟩, hnow⟩ := hI
    have gle := gP_le (q := q) (a := a) hf hsn p s
    have wle := gW_le hf hsn p s
    have gle4 : (gP q a f p s).1 ≤ 4 * (3 * 9 ^ 60) := Nat.le_trans gle.1 (Nat.mul_le_mul_right _ (by omega))
    have e1 : gP q a f p (s + 1) = ((gP q a f p s).1 + gW f p s, (gP q a f p s).2 + (if gMn q a f p s = true then gW f p s else 0)) := rfl
    -- behind the weighing
    have z181 : ∀ m5, mB 3 (S + (gP q a f p (s + 1)).1) m5 → mB 4 (S' + (gP q a f p (s + 1)).2) m5 → m5 122 26 = 0 → (∀ i, 0 ≤ i → i < 384 → m5 136 i = gDr f p i) → (∃ dr', mPk ((dOf f p).2.2.2.2.2.2.2.1, (dOf f p).2.2.2.2.2.2.2.2.1, dr', (dOf f p).2.2.2.2.2.2.2.2.2.2) m5) → (∀ k, 0 ≤ k → k < 986 → m5 123 k = f k) → frP pSu mm m5 → zS 238 181 [zR 122, zI q, zI a, zI any, zI p, zI ((s : Int) - 1), zU] [] sh pp m5 Q := by
      intro m5 d3 d4 d26 dbf dpk dnow df
      simp (disch := first | assumption | omega) only [rM_sumsUp_181, rM_sumsUp_184, Bool.false_eq_true, true_implies, false_implies, implies_true, true_and, and_true, not_true_eq_false, not_false_eq_true, zPush_I, zPush_L, zPush_R, zPush_U, Int.reduceLT, Int.reduceLE, Int.reduceEq, Int.reduceNe, Int.reduceAdd, Int.reduceSub, Int.reduceMul, Int.reduceNeg, Int.reduceToNat, Nat.reduceAdd, Nat.reduceMul, Nat.reduceEqDiff, zw32_id, zw64_id, zupd_eq, zupd_na, zupd_ni, zupp_eq, zupp_na, zupp_ni]
      have := ih (s + 1) m5 (by omega) ⟨d3, d4, d26, dbf, dpk, dnow⟩ df
      rw [show (s : Int) - 1 + 1 = ((s + 1 : Nat) : Int) - 1 by push_cast; omega]
      exact this
    have z118 : ∀ m2 dr2, (∀ i, 0 ≤ i → i < 384 → m2 132 i = gDv f p s i) → mPk ((dOf f p).2.2.2.2.2.2.2.1, (dOf f p).2.2.2.2.2.2.2.2.1, dr2, (dOf f p).2.2.2.2.2.2.2.2.2.2) m2 → frP pDr m m2 → zS 238 118 [zR 122, zI q, zI a, zI any, zI p, zI ((s : Int) - 1), zU] [] sh pp m2 Q := by
      intro m2 dr2 hd2 hpk2 f2
      have g : ∀ x j, x ≠ 132 → m2 x j = m x j := fun x j hx => f2 x j (by unfold pDr; omega)
      have b3' : mB 3 (S + (gP q a f p s).1) m2 := mB_gen b3 f2 (fun j _ _ => by unfold pDr; omega) (by unfold pDr; omega) (by omega)
      have b4' : mB 4 (S' + (gP q a f p s).2) m2 := mB_gen b4 f2 (fun j _ _ => by unfold pDr; omega) (by unfold pDr; omega) (by omega)
      have go : ∀ t : Nat, t = (if s = 0 then 3 else 1) → zS 237 0 [zR 122, zI t, zU, zU] [] sh pp m2 (fun v sh pp mm => zS 238 133 [zR 122, zI q, zI a, zI any, zI p, zI ((s : Int) - 1), zU] (zPush v []) sh pp mm Q) := by
        intro t ht
        refine mWeigh h hf hsn (fun k k0 k1 => by rw [g _ _ (by decide)]; exact hnow k k0 k1) hd2 (gDv_01 hok s) (by rw [ht]; split <;> simp) (fun m3 c3 f3 => ?_)
        have c3 : mB 2 (gW f p s) m3 := by unfold gW; rw [← ht]; exact c3
        simp (disch := first | assumption | omega) only [rM_sumsUp_133, rM_sumsUp_134, rM_sumsUp_135, rM_sumsUp_136, Bool.false_eq_true, true_implies, false_implies, implies_true, true_and, and_true, not_true_eq_false, not_false_eq_true, zPush_I, zPush_L, zPush_R, zPush_U, Int.reduceLT, Int.reduceLE, Int.reduceEq, Int.reduceNe, Int.reduceAdd, Int.reduceSub, Int.reduceMul, Int.reduceNeg, Int.reduceToNat, Nat.reduceAdd, Nat.reduceMul, Nat.reduceEqDiff, zw32_id, zw64_id, zupd_eq, zupd_na, zupd_ni, zupp_eq, zupp_na, zupp_ni]
        refine mAdd h (by decide) (by decide) (by decide) (by decide) (by decide) (mB_fr b3' f3 (by decide) (by omega)) c3 (by omega) (by omega) (fun m4 c4 f4 => ?_)
        have c2' : mB 2 (gW f p s) m4 := mB_fr c3 f4 (by decide) (by omega)
        have b4'' : mB 4 (S' + (gP q a f p s).2) m4 := mB_fr (mB_fr b4' f3 (by decide) (by omega)) f4 (by decide) (by omega)
        have k4 : ∀ x j, x ≠ 127 → x ≠ 128 → x ≠ 132 → m4 x j = m x j := fun x j h1 h2 h3 => by
          rw [f4 x j (by unfold pMb; omega), f3 x j (by unfold pMb; omega), g x j h3]
        have pk4 : mPk ((dOf f p).2.2.2.2.2.2.2.1, (dOf f p).2.2.2.2.2.2.2.2.1, dr2, (dOf f p).2.2.2.2.2.2.2.2.2.2) m4 := mPk_fr (mPk_fr hpk2 f3 (by unfold pMb; omega)) f4 (by unfold pMb; omega)
        have hb4 : ∀ i, 0 ≤ i → i < 384 → m4 136 i = gDr f p i := fun i i0 i1 => by rw [k4 _ _ (by decide) (by decide) (by decide)]; exact hbf i i0 i1
        have hn4 : ∀ k, 0 ≤ k → k < 986 → m4 123 k = f k := fun k k0 k1 => by rw [k4 _ _ (by decide) (by decide) (by decide)]; exact hnow k k0 k1
        have h264 : m4 122 26 = 0 := by rw [k4 _ _ (by decide) (by decide) (by decide)]; exact h26
        have ff4 : frP pSu mm m4 := frP_tr (frP_tr (frP_tr hfr (frP_wd f2 (fun x j hj => by unfold pDr at hj; unfold pSu; omega))) (frP_wd f3 (fun x j hj => by unfold pMb at hj; unfold pSu; omega))) (frP_wd f4 (fun x j hj => by unfold pMb at hj; unfold pSu; omega))
        have c4' : mB 3 (S + (gP q a f p (s + 1)).1) m4 := by rw [e1]; show mB 3 (S + ((gP q a f p s).1 + gW f p s)) m4; rw [← Nat.add_assoc]; exact c4
        have no : gMn q a f p s = false → zS 238 181 [zR 122, zI q, zI a, zI any, zI p, zI ((s : Int) - 1), zU] [] sh pp m4 Q := fun hc => z181 m4 c4' (by rw [e1]; show mB 4 (S' + ((gP q a f p s).2 + (if gMn q a f p s = true then gW f p s else 0))) m4; rw [hc]; exact b4'') h264 hb4 ⟨dr2, pk4⟩ hn4 ff4
        have yes : gMn q a f p s = true → zS 238 175 [zR 122, zI q, zI a, zI any, zI p, zI ((s : Int) - 1), zU] [] sh pp m4 Q := fun hc => by
          simp (disch := first | assumption | omega) only [rM_sumsUp_175, rM_sumsUp_176, rM_sumsUp_177, rM_sumsUp_178, Bool.false_eq_true, true_implies, false_implies, implies_true, true_and, and_true, not_true_eq_false, not_false_eq_true, zPush_I, zPush_L, zPush_R, zPush_U, Int.reduceLT, Int.reduceLE, Int.reduceEq, Int.reduceNe, Int.reduceAdd, Int.reduceSub, Int.reduceMul, Int.reduceNeg, Int.reduceToNat, Nat.reduceAdd, Nat.reduceMul, Nat.reduceEqDiff, zw32_id, zw64_id, zupd_eq, zupd_na, zupd_ni, zupp_eq, zupp_na, zupp_ni]
          refine mAdd h (by decide) (by decide) (by decide) (by decide) (by decide) b4'' c2' (by omega) (by omega) (fun m5 c5 f5 => ?_)
          simp (disch := first | assumption | omega) only [Bool.false_eq_true, true_implies, false_implies, implies_true, true_and, and_true, not_true_eq_false, not_false_eq_true, zPush_I, zPush_L, zPush_R, zPush_U, Int.reduceLT, Int.reduceLE, Int.reduceEq, Int.reduceNe, Int.reduceAdd, Int.reduceSub, Int.reduceMul, Int.reduceNeg, Int.reduceToNat, Nat.reduceAdd, Nat.reduceMul, Nat.reduceEqDiff, zw32_id, zw64_id, zupd_eq, zupd_na, zupd_ni, zupp_eq, zupp_na, zupp_ni]
          have k5 : ∀ x j, x ≠ 127 → x ≠ 128 → m5 x j = m4 x j := fun x j h1 h2 => f5 x j (by unfold pMb; omega)
          refine z181 m5 (mB_fr c4' f5 (by decide) (by rw [e1]; show S + ((gP q a f p s).1 + gW f p s) < _; omega)) ?_ (by rw [k5 _ _ (by decide) (by decide)]; exact h264) (fun i i0 i1 => by rw [k5 _ _ (by decide) (by decide)]; exact hb4 i i0 i1) ⟨dr2, mPk_fr pk4 f5 (by unfold pMb; omega)⟩ (fun k k0 k1 => by rw [k5 _ _ (by decide) (by decide)]; exact hn4 k k0 k1) (frP_tr ff4 (frP_wd f5 (fun x j hj => by unfold pMb at hj; unfold pSu; omega)))
          rw [e1]
          show mB 4 (S' + ((gP q a f p s).2 + (if gMn q a f p s = true then gW f p s else 0))) m5
          rw [if_pos hc, ← Nat.add_assoc]
          exact c5
        by_cases cq0 : q = 0
        · by_cases cpa : p = a
          · simp (disch := first | assumption | omega) only [rM_sumsUp_139, rM_sumsUp_140, rM_sumsUp_143, rM_sumsUp_145, rM_sumsUp_146, rM_sumsUp_149, rM_sumsUp_152, rM_sumsUp_153, rM_sumsUp_154, rM_sumsUp_157, rM_sumsUp_159, rM_sumsUp_160, rM_sumsUp_163, rM_sumsUp_166, rM_sumsUp_167, rM_sumsUp_170, rM_sumsUp_171, rM_sumsUp_172, Bool.false_eq_true, true_implies, false_implies, implies_true, true_and, and_true, not_true_eq_false, not_false_eq_true, zPush_I, zPush_L, zPush_R, zPush_U, Int.reduceLT, Int.reduceLE, Int.reduceEq, Int.reduceNe, Int.reduceAdd, Int.reduceSub, Int.reduceMul, Int.reduceNeg, Int.reduceToNat, Nat.reduceAdd, Nat.reduceMul, Nat.reduceEqDiff, zw32_id, zw64_id, zupd_eq, zupd_na, zupd_ni, zupp_eq, zupp_na, zupp_ni, eq_true cq0, eq_true cpa]
            exact yes (by unfold gMn; rw [if_pos cq0]; simpa using cpa)
          · simp (disch := first | assumption | omega) only [rM_sumsUp_139, rM_sumsUp_140, rM_sumsUp_143, rM_sumsUp_145, rM_sumsUp_146, rM_sumsUp_149, rM_sumsUp_152, rM_sumsUp_153, rM_sumsUp_154, rM_sumsUp_157, rM_sumsUp_159, rM_sumsUp_160, rM_sumsUp_163, rM_sumsUp_166, rM_sumsUp_167, rM_sumsUp_170, rM_sumsUp_171, rM_sumsUp_172, Bool.false_eq_true, true_implies, false_implies, implies_true, true_and, and_true, not_true_eq_false, not_false_eq_true, zPush_I, zPush_L, zPush_R, zPush_U, Int.reduceLT, Int.reduceLE, Int.reduceEq, Int.reduceNe, Int.reduceAdd, Int.reduceSub, Int.reduceMul, Int.reduceNeg, Int.reduceToNat, Nat.reduceAdd, Nat.reduceMul, Nat.reduceEqDiff, zw32_id, zw64_id, zupd_eq, zupd_na, zupd_ni, zupp_eq, zupp_na, zupp_ni, eq_true cq0, cpa]
            exact no (by unfold gMn; rw [if_pos cq0]; simpa using cpa)
        · by_cases cq1 : q = 1
          · by_cases cs : (s : Int) - 1 = -1
            · simp (disch := first | assumption | omega) only [rM_sumsUp_139, rM_sumsUp_140, rM_sumsUp_143, rM_sumsUp_145, rM_sumsUp_146, rM_sumsUp_149, rM_sumsUp_152, rM_sumsUp_153, rM_sumsUp_154, rM_sumsUp_157, rM_sumsUp_159, rM_sumsUp_160, rM_sumsUp_163, rM_sumsUp_166, rM_sumsUp_167, rM_sumsUp_170, rM_sumsUp_171, rM_sumsUp_172, Bool.false_eq_true, true_implies, false_implies, implies_true, true_and, and_true, not_true_eq_false, not_false_eq_true, zPush_I, zPush_L, zPush_R, zPush_U, Int.reduceLT, Int.reduceLE, Int.reduceEq, Int.reduceNe, Int.reduceAdd, Int.reduceSub, Int.reduceMul, Int.reduceNeg, Int.reduceToNat, Nat.reduceAdd, Nat.reduceMul, Nat.reduceEqDiff, zw32_id, zw64_id, zupd_eq, zupd_na, zupd_ni, zupp_eq, zupp_na, zupp_ni, cq0, eq_true cq1, eq_true cs]
              exact no (by unfold gMn; rw [if_neg cq0, if_pos cq1]; simp; omega)
            · simp (disch := first | assumption | omega) only [rM_sumsUp_139, rM_sumsUp_140, rM_sumsUp_143, rM_sumsUp_145, rM_sumsUp_146, rM_sumsUp_149, rM_sumsUp_152, rM_sumsUp_153, rM_sumsUp_154, rM_sumsUp_157, rM_sumsUp_159, rM_sumsUp_160, rM_sumsUp_163, rM_sumsUp_166, rM_sumsUp_167, rM_sumsUp_170, rM_sumsUp_171, rM_sumsUp_172, Bool.false_eq_true, true_implies, false_implies, implies_true, true_and, and_true, not_true_eq_false, not_false_eq_true, zPush_I, zPush_L, zPush_R, zPush_U, Int.reduceLT, Int.reduceLE, Int.reduceEq, Int.reduceNe, Int.reduceAdd, Int.reduceSub, Int.reduceMul, Int.reduceNeg, Int.reduceToNat, Nat.reduceAdd, Nat.reduceMul, Nat.reduceEqDiff, zw32_id, zw64_id, zupd_eq, zupd_na, zupd_ni, zupp_eq, zupp_na, zupp_ni, cq0, eq_true cq1, cs]
              exact yes (by unfold gMn; rw [if_neg cq0, if_pos cq1]; simp; omega)
          · have hba := hb4 a a0 a1
            rcases hdr01 a with hd0 | hd0
            · rw [hd0] at hba
              simp (disch := first | assumption | omega) only [rM_sumsUp_139, rM_sumsUp_140, rM_sumsUp_143, rM_sumsUp_145, rM_sumsUp_146, rM_sumsUp_149, rM_sumsUp_152, rM_sumsUp_153, rM_sumsUp_154, rM_sumsUp_157, rM_sumsUp_159, rM_sumsUp_160, rM_sumsUp_163, rM_sumsUp_166, rM_sumsUp_167, rM_sumsUp_170, rM_sumsUp_171, rM_sumsUp_172, Bool.false_eq_true, true_implies, false_implies, implies_true, true_and, and_true, not_true_eq_false, not_false_eq_true, zPush_I, zPush_L, zPush_R, zPush_U, Int.reduceLT, Int.reduceLE, Int.reduceEq, Int.reduceNe, Int.reduceAdd, Int.reduceSub, Int.reduceMul, Int.reduceNeg, Int.reduceToNat, Nat.reduceAdd, Nat.reduceMul, Nat.reduceEqDiff, zw32_id, zw64_id, zupd_eq, zupd_na, zupd_ni, zupp_eq, zupp_na, zupp_ni, cq0, cq1, p136, hba]
              exact no (by unfold gMn; rw [if_neg cq0, if_neg cq1, hd0]; rfl)
            · rw [hd0] at hba
              simp (disch := first | assumption | omega) only [rM_sumsUp_139, rM_sumsUp_140, rM_sumsUp_143, rM_sumsUp_145, rM_sumsUp_146, rM_sumsUp_149, rM_sumsUp_152, rM_sumsUp_153, rM_sumsUp_154, rM_sumsUp_157, rM_sumsUp_159, rM_sumsUp_160, rM_sumsUp_163, rM_sumsUp_166, rM_sumsUp_167, rM_sumsUp_170, rM_sumsUp_171, rM_sumsUp_172, Bool.false_eq_true, true_implies, false_implies, implies_true, true_and, and_true, not_true_eq_false, not_false_eq_true, zPush_I, zPush_L, zPush_R, zPush_U, Int.reduceLT, Int.reduceLE, Int.reduceEq, Int.reduceNe, Int.reduceAdd, Int.reduceSub, Int.reduceMul, Int.reduceNeg, Int.reduceToNat, Nat.reduceAdd, Nat.reduceMul, Nat.reduceEqDiff, zw32_id, zw64_id, zupd_eq, zupd_na, zupd_ni, zupp_eq, zupp_na, zupp_ni, cq0, cq1, p136, hba]
              exact yes (by unfold gMn; rw [if_neg cq0, if_neg cq1, hd0]; rfl)
      by_cases cs : (s : Int) - 1 = -1
      · have s0 : s = 0 := by omega
        simp (disch := first | assumption | omega) only [rM_sumsUp_118, rM_sumsUp_119, rM_sumsUp_121, rM_sumsUp_122, rM_sumsUp_125, rM_sumsUp_126, rM_sumsUp_129, rM_sumsUp_130, Bool.false_eq_true, true_implies, false_implies, implies_true, true_and, and_true, not_true_eq_false, not_false_eq_true, zPush_I, zPush_L, zPush_R, zPush_U, Int.reduceLT, Int.reduceLE, Int.reduceEq, Int.reduceNe, Int.reduceAdd, Int.reduceSub, Int.reduceMul, Int.reduceNeg, Int.reduceToNat, Nat.reduceAdd, Nat.reduceMul, Nat.reduceEqDiff, zw32_id, zw64_id, zupd_eq, zupd_na, zupd_ni, zupp_eq, zupp_na, zupp_ni, eq_true cs]
        exact go 3 (by rw [if_pos s0])
      · have s0 : ¬ s = 0 := by omega
        simp (disch := first | assumption | omega) only [rM_sumsUp_118, rM_sumsUp_119, rM_sumsUp_121, rM_sumsUp_122, rM_sumsUp_125, rM_sumsUp_126, rM_sumsUp_129, rM_sumsUp_130, Bool.false_eq_true, true_implies, false_implies, implies_true, true_and, and_true, not_true_eq_false, not_false_eq_true, zPush_I, zPush_L, zPush_R, zPush_U, Int.reduceLT, Int.reduceLE, Int.reduceEq, Int.reduceNe, Int.reduceAdd, Int.reduceSub, Int.reduceMul, Int.reduceNeg, Int.reduceToNat, Nat.reduceAdd, Nat.reduceMul, Nat.reduceEqDiff, zw32_id, zw64_id, zupd_eq, zupd_na, zupd_ni, zupp_eq, zupp_na, zupp_ni, cs]
        exact go 1 (by rw [if_neg s0])
    -- the plate of before comes back
    have back : ∀ i, 0 ≤ i → i ≤ 384 → ∀ m1, (∀ k, 0 ≤ k → k < i → m1 132 k = gDr f p k) → frP pDr m m1 → zS 238 78 [zR 122, zI q, zI a, zI any, zI p, zI ((s : Int) - 1), zI i] [] sh pp m1 Q := by
      refine zdn ?_ ?_
      · intro m1 hm hf1
        have pk1 : mPk (dOf f p).2.2.2.2.2.2.2 m1 := mPk_dr (P := (dOf f p).2.2.2.2.2.2.2) hpk rfl rfl rfl hf1 hm
        rw [rM_sumsUp_78]
        by_cases cs : (s : Int) - 1 = -1
        · have s0 : s = 0 := by omega
          simp (disch := first | assumption | omega) only [rM_sumsUp_80, rM_sumsUp_83, rM_sumsUp_86, rM_sumsUp_87, rM_sumsUp_90, rM_sumsUp_92, rM_sumsUp_93, rM_sumsUp_96, rM_sumsUp_98, rM_sumsUp_99, rM_sumsUp_100, rM_sumsUp_103, rM_sumsUp_106, rM_sumsUp_108, rM_sumsUp_109, Bool.false_eq_true, true_implies, false_implies, implies_true, true_and, and_true, not_true_eq_false, not_false_eq_true, zPush_I, zPush_L, zPush_R, zPush_U, Int.reduceLT, Int.reduceLE, Int.reduceEq, Int.reduceNe, Int.reduceAdd, Int.reduceSub, Int.reduceMul, Int.reduceNeg, Int.reduceToNat, Nat.reduceAdd, Nat.reduceMul, Nat.reduceEqDiff, zw32_id, zw64_id, zupd_eq, zupd_na, zupd_ni, zupp_eq, zupp_na, zupp_ni, eq_true cs]
          exact z118 m1 (gDr f p) (fun i i0 i1 => by rw [hm i i0 i1]; unfold gDv; rw [if_pos s0]) pk1 hf1
        · have s0 : ¬ s = 0 := by omega
          simp (disch := first | assumption | omega) only [rM_sumsUp_80, rM_sumsUp_83, rM_sumsUp_86, rM_sumsUp_87, rM_sumsUp_90, rM_sumsUp_92, rM_sumsUp_93, rM_sumsUp_96, rM_sumsUp_98, rM_sumsUp_99, rM_sumsUp_100, rM_sumsUp_103, rM_sumsUp_106, rM_sumsUp_108, rM_sumsUp_109, rM_sumsUp_112, rM_sumsUp_113, rM_sumsUp_115, Bool.false_eq_true, true_implies, false_implies, implies_true, true_and, and_true, not_true_eq_false, not_false_eq_true, zPush_I, zPush_L, zPush_R, zPush_U, Int.reduceLT, Int.reduceLE, Int.reduceEq, Int.reduceNe, Int.reduceAdd, Int.reduceSub, Int.reduceMul, Int.reduceNeg, Int.reduceToNat, Nat.reduceAdd, Nat.reduceMul, Nat.reduceEqDiff, zw32_id, zw64_id, zupd_eq, zupd_na, zupd_ni, zupp_eq, zupp_na, zupp_ni, cs]
          refine mShake h pk1 (by omega) hok (fun m2 c2 f2 => ?_)
          simp (disch := first | assumption | omega) only [Bool.false_eq_true, true_implies, false_implies, implies_true, true_and, and_true, not_true_eq_false, not_false_eq_true, zPush_I, zPush_L, zPush_R, zPush_U, Int.reduceLT, Int.reduceLE, Int.reduceEq, Int.reduceNe, Int.reduceAdd, Int.reduceSub, Int.reduceMul, Int.reduceNeg, Int.reduceToNat, Nat.reduceAdd, Nat.reduceMul, Nat.reduceEqDiff, zw32_id, zw64_id, zupd_eq, zupd_na, zupd_ni, zupp_eq, zupp_na, zupp_ni]
          exact z118 m2 _ (fun i i0 i1 => by rw [c2.2.2.2.1 i i0 i1]; unfold gDv; rw [if_neg s0]; rfl) c2 (frP_tr hf1 f2)
      · intro i i0 i1 ihb m1 hm hf1
        have e : m1 136 i = gDr f p i := by rw [hf1 _ _ (by unfold pDr; omega)]; exact hbf i i0 i1
        have hdi := hdr01 i
        rw [rM_sumsUp_78]
        simp (disch := first | assumption | omega) only [rM_sumsUp_80, rM_sumsUp_83, rM_sumsUp_86, rM_sumsUp_87, rM_sumsUp_90, rM_sumsUp_92, rM_sumsUp_93, rM_sumsUp_96, rM_sumsUp_98, rM_sumsUp_99, rM_sumsUp_100, rM_sumsUp_103, Bool.false_eq_true, true_implies, false_implies, implies_true, true_and, and_true, not_true_eq_false, not_false_eq_true, zPush_I, zPush_L, zPush_R, zPush_U, Int.reduceLT, Int.reduceLE, Int.reduceEq, Int.reduceNe, Int.reduceAdd, Int.reduceSub, Int.reduceMul, Int.reduceNeg, Int.reduceToNat, Nat.reduceAdd, Nat.reduceMul, Nat.reduceEqDiff, zw32_id, zw64_id, zupd_eq, zupd_na, zupd_ni, zupp_eq, zupp_na, zupp_ni, i1, p136, p132, e]
        refine ihb _ (fun k k0 k1 => ?_) (frP_up hf1 rfl)
        by_cases ek : k = i
        · rw [ek, zupd_eq]
        · rw [zupd_ni ek]; exact hm k k0 (by omega)
    rw [rM_sumsUp_62]
    simp (disch := first | assumption | omega) only [rM_sumsUp_64, rM_sumsUp_65, rM_sumsUp_68, rM_sumsUp_69, rM_sumsUp_72, rM_sumsUp_75, rM_sumsUp_76, Bool.false_eq_true, true_implies, false_implies, implies_true, true_and, and_true, not_true_eq_false, not_false_eq_true, zPush_I, zPush_L, zPush_R, zPush_U, Int.reduceLT, Int.reduceLE, Int.reduceEq, Int.reduceNe, Int.reduceAdd, Int.reduceSub, Int.reduceMul, Int.reduceNeg, Int.reduceToNat, Nat.reduceAdd, Nat.reduceMul, Nat.reduceEqDiff, zw32_id, zw64_id, zupd_eq, zupd_na, zupd_ni, zupp_eq, zupp_na, zupp_ni, show (s : Int) - 1 < 3 by omega, h26]
    exact back 0 (by decide) (by decide) m (fun k k0 k1 => by omega) (frP_rf _ _)
end
