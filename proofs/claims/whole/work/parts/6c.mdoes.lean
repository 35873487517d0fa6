/-! ===== the reference does a program ===== -/
def kdF (b : Int → Int) (len : Int) (k : Nat) : Int := tKd b len (ip b len k)
def a1F (b : Int → Int) (len : Int) (k : Nat) : Int := tVl b len (tEn b len (ip b len k))
def a2F (b : Int → Int) (len : Int) (k : Nat) : Int := tVl b len (tEn b len (tEn b len (ip b len k)))
def nItF (b : Int → Int) (len : Int) : Nat → Nat → Nat
  | 0, k => k
  | m + 1, k => if tKd b len (ip b len k) = 0 then k else nItF b len m (k + 1)
def nIt (b : Int → Int) (len : Int) : Nat := nItF b len 31 0
def dBeg (f : Int → Int) : zDs := (0, 0, fun _ => 0, fun _ => 0, 0, false, 0, pBeg f)
def dSg (f b : Int → Int) (len : Int) : zDs := dRun (kdF b len) (a1F b len) (a2F b len) (f 4) (f 5) (nIt b len) 10000 (dBeg f)
section
variable {b : Int → Int} {len : Int}
theorem nItF_eq {n : Nat} (h0 : tKd b len (ip b len n) = 0) (hn : ∀ k, k < n → tKd b len (ip b len k) ≠ 0) : ∀ (m k : Nat), k ≤ n → n < k + m → nItF b len m k = n
  | 0, k, h1, h2 => by omega
  | m + 1, k, h1, h2 => by
    show (if tKd b len (ip b len k) = 0 then k else nItF b len m (k + 1)) = n
    by_cases e : k = n
    · subst e; rw [if_pos h0]
    · rw [if_neg (hn k (by omega))]
      exact nItF_eq h0 hn m (k + 1) (by omega) (by omega)
theorem ip_bd (h : 0 ≤ len) : ∀ k, 0 ≤ ip b len k ∧ ip b len k ≤ len
  | 0 => ⟨Int.le_refl 0, h⟩
  | k + 1 => by
    have h1 := ip_bd h k
    have h2 := iNx_hi (b := b) h1.2
    refine ⟨?_, h2⟩
    show 0 ≤ iNx b len (ip b len k)
    have a1 := tEn_le (b := b) (len := len) (p := ip b len k)
    have a2 := tEn_le (b := b) (len := len) (p := tEn b len (ip b len k))
    have a3 := tEn_le (b := b) (len := len) (p := tEn b len (tEn b len (ip b len k)))
    have a4 := tEn_le (b := b) (len := len) (p := tEn b len (tEn b len (tEn b len (ip b len k))))
    unfold iNx
    repeat' (first | omega | split)
/-- a text without a fault: its items stand -/
theorem rd_it (hl : 0 ≤ len ∧ len ≤ 120) (h : rd b len = -1) : nIt b len ≤ 30 ∧ tKd b len (ip b len (nIt b len)) = 0 ∧ dp b len (nIt b len) = 0 ∧ (∀ k, k < nIt b len → tKd b len (ip b len k) ≠ 0 ∧ iFt b len (ip b len k) (dp b len k) = -1) ∧ iOk (kdF b len) (a1F b len) (a2F b len) (dp b len) (nIt b len) := by
  obtain ⟨n, h1, h2, h3, h4⟩ := rd_ok hl.2 h
  have e : nIt b len = n := nItF_eq h2 (fun k hk => (h4 k hk).1) 31 0 (by omega) (by omega)
  rw [e]
  refine ⟨h1, h2, h3, h4, fun k hk => ?_⟩
  obtain ⟨c1, c2⟩ := h4 k hk
  have hb := iFt_bg c2 (ip_bd hl.1 k).1
  have a1 := tAt_lo (b := b) (len := len) (tEn b len (ip b len k))
  have a2 := tAt_lo (b := b) (len := len) (tEn b len (tEn b len (ip b len k)))
  have a3 := tAt_lo (b := b) (len := len) (tEn b len (tEn b len (tEn b len (ip b len k))))
  have e1 := tEn_le (b := b) (len := len) (p := ip b len k)
  have e2 := tEn_le (b := b) (len := len) (p := tEn b len (ip b len k))
  have e3 := tEn_le (b := b) (len := len) (p := tEn b len (tEn b len (ip b len k)))
  have e0 := (ip_bd (b := b) hl.1 k).1
  refine ⟨hb, rfl, ?_, fun h4' => ?_⟩
  · refine ⟨fun h5 => ?_, fun h6 => ?_⟩
    · have h5' : tKd b len (ip b len k) = 5 := h5
      rw [iFt_5 h5'] at c2
      by_cases c : tKd b len (tEn b len (ip b len k)) = 3 ∧ 0 ≤ tVl b len (tEn b len (ip b len k)) ∧ tVl b len (tEn b len (ip b len k)) ≤ 2
      · exact c.2
      · rw [if_neg c] at c2; omega
    · have h6' : tKd b len (ip b len k) = 6 := h6
      have ho : dp b len k < 3 := by unfold iBg at hb; omega
      rw [iFt_6 h6' ho] at c2
      by_cases c : tKd b len (tEn b len (ip b len k)) = 3 ∧ 1 ≤ tVl b len (tEn b len (ip b len k)) ∧ tVl b len (tEn b len (ip b len k)) ≤ 20
      · exact c.2
      · rw [if_neg c] at c2; omega
  · have h4'' : tKd b len (ip b len k) = 4 := h4'
    rw [iFt_4 h4''] at c2
    by_cases c : tKd b len (tEn b len (ip b len k)) = 3
    · rw [if_pos c] at c2
      by_cases d : tKd b len (tEn b len (tEn b len (ip b len k))) = 3
      · exact ⟨tVl_bd c, tVl_bd d⟩
      · rw [if_neg d] at c2; omega
    · rw [if_neg c] at c2; omega
end
theorem dBeg_ok {f : Int → Int} (hf : fOk f) {kd a1 : Nat → Int} {b : Int → Int} {len : Int} {n : Nat} : dOk kd a1 (dp b len) n (dBeg f) := ⟨⟨Nat.zero_le _, rfl, by show (0 : Nat) ≤ 3; decide⟩, fun j hj => absurd hj (Nat.not_lt_zero j), fun j hj => absurd hj (Nat.not_lt_zero j), by show (0 : Int) ≤ 0 ∧ (0 : Int) ≤ 300; decide, by show (0 : Int) ≤ 0 ∧ (0 : Int) ≤ 99 * 0; decide, pBeg_ok hf, by show (0 : Int) ≤ 2000; decide⟩
def mDs (p len : Int) (b f : Int → Int) (σ : zDs) (m : zMm) : Prop := (mTx p len b m ∧ (σ.2.2.2.2.2.1 = true ∨ mTk b len (ip b len σ.1) m)) ∧ mPk σ.2.2.2.2.2.2.2 m ∧ m 122 25 = σ.2.2.2.2.2.2.1 + f 6 * (σ.2.2.2.2.2.2.2.1 4 + σ.2.2.2.2.2.2.2.2.1 4) ∧ m 122 26 = (if σ.2.2.2.2.2.1 = true then 1 else 0) ∧ (∀ j : Nat, j < σ.2.1 → m 134 (j : Int) = tAt b len (ip b len (σ.2.2.1 j)) ∧ m 135 (j : Int) = σ.2.2.2.1 j) ∧ (∀ k, 0 ≤ k → k < 986 → m 123 k = f k) ∧ σ.2.2.2.2.2.2.2.1 5 = f 0 ∧ σ.2.2.2.2.2.2.2.2.1 5 = f 1
def pDo (x : Nat) (j : Int) : Prop := (129 ≤ x ∧ x ≤ 135) ∨ (x = 122 ∧ 7 ≤ j ∧ j ≤ 26)
theorem tMk_at {b : Int → Int} {len : Int} (p : Int) : tMk b len (tAt b len p) = tMk b len p := by unfold tMk; rw [tAt_at, tFs_at, tEn_at]
theorem mTk_at {b : Int → Int} {len p : Int} {m : zMm} (h : mTk b len (tAt b len p) m) : mTk b len p m := by
  unfold mTk at *
  rw [tAt_at, tEn_at, tMk_at, tKd_at, tVl_at] at h
  exact h
theorem mTk_fr {b : Int → Int} {len q : Int} {m m' : zMm} {R : Nat → Int → Prop} (h : mTk b len q m) (hf : frP R m m') (hR : ∀ j, 8 ≤ j → j ≤ 11 → ¬ R 122 j) : mTk b len q m' := by
  unfold mTk at *
  rw [hf 122 8 (hR 8 (by decide) (by decide)), hf 122 9 (hR 9 (by decide) (by decide)), hf 122 10 (hR 10 (by decide) (by decide)), hf 122 11 (hR 11 (by decide) (by decide))]
  exact h
theorem mTx_fp {p len : Int} {b : Int → Int} {m m' : zMm} {R : Nat → Int → Prop} (h : mTx p len b m) (hf : frP R m m') (h7 : ¬ R 122 7) (hR : ∀ j, ¬ R 123 j) : mTx p len b m' := by
  unfold mTx at *
  rw [hf 122 7 h7]
  simp only [hf 123 _ (hR _)]
  exact h
theorem mPk_fr {P : zPl} {m m' : zMm} {R : Nat → Int → Prop} (h : mPk P m) (hf : frP R m m') (hR : ∀ x j, (129 ≤ x ∧ x ≤ 133) ∨ (x = 122 ∧ 20 ≤ j ∧ j ≤ 24) → ¬ R x j) : mPk P m' := by
  unfold mPk at *
  rw [hf 129 0 (hR _ _ (by omega)), hf 129 1 (hR _ _ (by omega)), hf 130 0 (hR _ _ (by omega)), hf 130 1 (hR _ _ (by omega)), hf 131 0 (hR _ _ (by omega)), hf 131 1 (hR _ _ (by omega)), hf 122 20 (hR _ _ (by omega)), hf 122 21 (hR _ _ (by omega)), hf 122 22 (hR _ _ (by omega)), hf 122 23 (hR _ _ (by omega)), hf 122 24 (hR _ _ (by omega))]
  obtain ⟨h1, h2, h3, h4, h5, h6⟩ := h
  exact ⟨h1, h2, h3, fun i a c => by rw [hf 132 i (hR _ _ (by omega))]; exact h4 i a c, fun i a c => by rw [hf 133 i (hR _ _ (by omega))]; exact h5 i a c, h6⟩
section
variable {sh : zSh} {pp : zPp} {mm : zMm} {Q : zV → zSh → zPp → zMm → Prop} {p len : Int} {b f : Int → Int}
theorem mDo1 (h : zLy sh pp) (hf : fOk f) (hl : 0 ≤ len ∧ len ≤ 120) (hr : rd b len = -1) : ∀ (fu : Nat) (σ : zDs) (m : zMm), dOk (kdF b len) (a1F b len) (dp b len) (nIt b len) σ → dOn (nIt b len) (dRun (kdF b len) (a1F b len) (a2F b len) (f 4) (f 5) (nIt b len) fu σ) = false → mDs p len b f σ m → frP pDo mm m → (∀ m', mDs p len b f (dRun (kdF b len) (a1F b len) (a2F b len) (f 4) (f 5) (nIt b len) fu σ) m' → frP pDo mm m' → Q zU sh pp m') → zS 196 18 [zR 122, zU, zI σ.2.1, zI σ.2.2.2.2.1, zU] [] sh pp m Q := by
  have k122 := k_122 h
  have k134 := k_134 h
  have l134 := l_134 h
  have p134 := p_122_27 h
  have k135 := k_135 h
  have l135 := l_135 h
  have p135 := p_122_28 h
  obtain ⟨r1, r2, r3, r4, r5⟩ := rd_it hl hr
  have n4 := hf.1 4 (by decide) (by decide)
  have n5 := hf.1 5 (by decide) (by decide)
  have n6 := hf.1 6 (by decide) (by decide)
  simp [loN, hiN] at n4 n5 n6
  have z0 : ∀ q, tMk b len q = 0 ↔ tKd b len q = 0 := fun q => (tMk_kd q).1
  have sx : ∀ (m : zMm) (o2 it2 : Int), m 122 26 = 1 → Q zU sh pp m → zS 196 18 [zR 122, zU, zI o2, zI it2, zU] [] sh pp m Q := by
    intro m o2 it2 h26 hq
    rw [rM_does_18]
    by_cases c : m 122 10 = 0
    · simp (disch := first | assumption | omega) only [rM_does_19, rM_does_22, rM_does_25, rM_does_26, rM_does_29, rM_does_233, Bool.false_eq_true, true_implies, false_implies, implies_true, true_and, and_true, not_true_eq_false, not_false_eq_true, zPush_I, zPush_L, zPush_R, zPush_U, Int.reduceLT, Int.reduceLE, Int.reduceEq, Int.reduceNe, Int.reduceAdd, Int.reduceSub, Int.reduceMul, Int.reduceNeg, Int.reduceToNat, Nat.reduceAdd, Nat.reduceMul, Nat.reduceEqDiff, zw32_id, zw64_id, zupd_eq, zupd_na, zupd_ni, zupp_eq, zupp_na, zupp_ni, c]
      exact hq
    · simp (disch := first | assumption | omega) only [rM_does_19, rM_does_22, rM_does_25, rM_does_26, rM_does_29, rM_does_233, Bool.false_eq_true, true_implies, false_implies, implies_true, true_and, and_true, not_true_eq_false, not_false_eq_true, zPush_I, zPush_L, zPush_R, zPush_U, Int.reduceLT, Int.reduceLE, Int.reduceEq, Int.reduceNe, Int.reduceAdd, Int.reduceSub, Int.reduceMul, Int.reduceNeg, Int.reduceToNat, Nat.reduceAdd, Nat.reduceMul, Nat.reduceEqDiff, zw32_id, zw64_id, zupd_eq, zupd_na, zupd_ni, zupp_eq, zupp_na, zupp_ni, c, h26]
      exact hq
  have ex : ∀ (σ : zDs) (m : zMm), dOk (kdF b len) (a1F b len) (dp b len) (nIt b len) σ → dOn (nIt b len) σ = false → mDs p len b f σ m → Q zU sh pp m → zS 196 18 [zR 122, zU, zI σ.2.1, zI σ.2.2.2.2.1, zU] [] sh pp m Q := by
    intro σ m ho hoff hD hq
    obtain ⟨k, o, bd, lf, it, sp, se, P⟩ := σ
    obtain ⟨⟨hx, hk⟩, -, -, h26, -⟩ := hD
    dsimp only at *
    cases sp with
    | true => exact sx m _ _ h26 hq
    | false =>
      have hk := hk.resolve_left (by decide)
      have hk10 := hk.2.2.1
      have hkn : k = nIt b len := by
        have h1 : k ≤ nIt b len := ho.1.1
        unfold dOn at hoff
        simp at hoff
        omega
      have c : tMk b len (ip b len k) = 0 := (z0 _).mpr (by rw [hkn]; exact r2)
      rw [rM_does_18]
      simp (disch := first | assumption | omega) only [rM_does_19, rM_does_22, rM_does_25, rM_does_26, rM_does_29, rM_does_233, Bool.false_eq_true, true_implies, false_implies, implies_true, true_and, and_true, not_true_eq_false, not_false_eq_true, zPush_I, zPush_L, zPush_R, zPush_U, Int.reduceLT, Int.reduceLE, Int.reduceEq, Int.reduceNe, Int.reduceAdd, Int.reduceSub, Int.reduceMul, Int.reduceNeg, Int.reduceToNat, Nat.reduceAdd, Nat.reduceMul, Nat.reduceEqDiff, zw32_id, zw64_id, zupd_eq, zupd_na, zupd_ni, zupp_eq, zupp_na, zupp_ni, hk10, c]
      exact hq
  intro fu
  induction fu with
  | zero => intro σ m ho hoff hD hfr hQ; exact ex σ m ho hoff hD (hQ m hD hfr)
  | succ fu ih =>
    intro σ m ho hoff hD hfr hQ
    by_cases hon : dOn (nIt b len) σ = true
    · have e : dRun (kdF b len) (a1F b len) (a2F b len) (f 4) (f 5) (nIt b len) (fu + 1) σ = dRun (kdF b len) (a1F b len) (a2F b len) (f 4) (f 5) (nIt b len) fu (dStep (kdF b len) (a1F b len) (a2F b len) (f 4) (f 5) σ) := by
        show (if dOn (nIt b len) σ = true then _ else σ) = _
        rw [if_pos hon]
      rw [e] at hoff hQ
      have hkn : σ.1 < nIt b len := by unfold dOn at hon; simp at hon; exact hon.2
      have hsp : σ.2.2.2.2.2.1 = false := by unfold dOn at hon; simp at hon; exact hon.1
      have ho2 := dStep_ok (px := f 4) (py := f 5) r5 n4.1 n5.1 ho hkn
      have nx := fun m' d1 d2 => ih _ m' ho2 hoff d1 d2 hQ
      obtain ⟨k, o, bd, lf, it, sp, se, P⟩ := σ
      obtain ⟨⟨hx, hk⟩, hPk, h25, h26, hlp, hnow, hp0, hp1⟩ := hD
      obtain ⟨⟨g1, g2, g3⟩, g4, g5, g6, g7, g8, g9⟩ := ho
      dsimp only at *
      subst hsp
      have hk := hk.resolve_left (by decide)
      obtain ⟨c1, c2⟩ := r4 k hkn
      obtain ⟨b1, b2, b3, b4⟩ := r5 k hkn
      have hb := ip_bd (b := b) hl.1 k
      have htk : ¬ tMk b len (ip b len k) = 0 := fun hc => c1 ((z0 _).mp hc)
      have hk10 := hk.2.2.1
      simp only [Bool.false_eq_true, if_false] at h26
      rw [rM_does_18]
      simp (disch := first | assumption | omega) only [rM_does_19, rM_does_22, rM_does_25, rM_does_26, rM_does_29, rM_does_32, rM_does_33, rM_does_34, Bool.false_eq_true, true_implies, false_implies, implies_true, true_and, and_true, not_true_eq_false, not_false_eq_true, zPush_I, zPush_L, zPush_R, zPush_U, Int.reduceLT, Int.reduceLE, Int.reduceEq, Int.reduceNe, Int.reduceAdd, Int.reduceSub, Int.reduceMul, Int.reduceNeg, Int.reduceToNat, Nat.reduceAdd, Nat.reduceMul, Nat.reduceEqDiff, zw32_id, zw64_id, zupd_eq, zupd_na, zupd_ni, zupp_eq, zupp_na, zupp_ni, hk10, htk, h26]
      refine mReadItem h hx hb.1 hb.2 (by omega) (by omega) hk (fun hc => absurd c2 (by rw [g2]; exact hc)) (fun _ m2 hi => ?_)
      obtain ⟨i1, i2, i3, i4, i5⟩ := hi
      have i5' : frP (fun x j => x = 122 ∧ 8 ≤ j ∧ j ≤ 14) m m2 := i5
      have f2 : frP pDo mm m2 := frP_tr hfr (frP_wd i5' (fun x j hj => by unfold pDo; omega))
      have x2 : mTx p len b m2 := mTx_fp hx i5' (by omega) (by omega)
      have P2 : mPk P m2 := mPk_fr hPk i5' (by omega)
      have l2 : ∀ j : Nat, j < o → m2 134 (j : Int) = tAt b len (ip b len (bd j)) ∧ m2 135 (j : Int) = lf j := fun j hj => by rw [i5' 134 j (by omega), i5' 135 j (by omega)]; exact hlp j hj
      have w2 : ∀ k, 0 ≤ k → k < 986 → m2 123 k = f k := fun k k0 k1 => by rw [i5' 123 k (by omega)]; exact hnow k k0 k1
      have s2 : m2 122 25 = se + f 6 * (P.1 4 + P.2.1 4) := by rw [i5' 122 25 (by omega)]; exact h25
      have t2 : m2 122 26 = 0 := by rw [i5' 122 26 (by omega)]; exact h26
      have mo2 : m2 122 20 = P.2.2.2.2 := P2.2.2.2.2.2.1
      have hnxt : iNx b len (ip b len k) = ip b len (k + 1) := rfl
      rw [hnxt] at i1
      have kd0 : kdF b len k = tKd b len (ip b len k) := rfl
      have hB := b1
      unfold iBg at hB
      have fin : ∀ (σ2 : zDs) (m3 : zMm) (o2 it2 : Int), dStep (kdF b len) (a1F b len) (a2F b len) (f 4) (f 5) (k, o, bd, lf, it, false, se, P) = σ2 → o2 = (σ2.2.1 : Int) → it2 = σ2.2.2.2.2.1 → mDs p len b f σ2 m3 → frP pDo mm m3 → zS 196 18 [zR 122, zU, zI o2, zI it2, zU] [] sh pp m3 Q := by
        intro σ2 m3 o2 it2 e1 e2 e3 e4 e5
        subst e1
        subst e2
        subst e3
        exact nx m3 e4 e5
      by_cases c7 : kdF b len k = 7
      · rw [← kd0, c7] at i2
        have i2 : m2 122 12 = 3 := i2
        obtain ⟨o', ho'⟩ : ∃ o', o = o' + 1 := ⟨o - 1, by omega⟩
        subst ho'
        have hll := l2 o' (by omega)
        have hlf := g5 o' (by omega)
        have hbd := g4 o' (by omega)
        have e1 : ((o' + 1 : Nat) : Int) - 1 = (o' : Int) := by push_cast; omega
        have hst : dStep (kdF b len) (a1F b len) (a2F b len) (f 4) (f 5) (k, o' + 1, bd, lf, it, false, se, P) = (if 0 < lf o' - 1 then (bd o', o' + 1, bd, nup lf o' (lf o' - 1), it, false, se, P) else (k + 1, o', bd, nup lf o' (lf o' - 1), it, false, se, P)) := by
          unfold dStep
          dsimp only
          rw [if_pos c7, Nat.add_sub_cancel]
        have fz : frP pDo mm (zupd m2 135 (o' : Int) (lf o' - 1)) := frP_up f2 (by unfold pDo; omega)
        have fl : frP (fun x j => x = 135) m2 (zupd m2 135 (o' : Int) (lf o' - 1)) := frP_up (frP_rf _ _) rfl
        have lp : ∀ j : Nat, j < o' + 1 → zupd m2 135 (o' : Int) (lf o' - 1) 134 (j : Int) = tAt b len (ip b len (bd j)) ∧ zupd m2 135 (o' : Int) (lf o' - 1) 135 (j : Int) = nup lf o' (lf o' - 1) j := fun j hj => by
          refine ⟨by rw [zupd_na (by decide)]; exact (l2 j hj).1, ?_⟩
          unfold nup
          by_cases ej : j = o'
          · rw [if_pos ej, ej, zupd_eq]
          · rw [if_neg ej, zupd_ni (by omega)]; exact (l2 j hj).2
        by_cases c8 : 0 < lf o' - 1
        · rw [if_pos c8] at hst
          simp (disch := first | assumption | omega) only [rM_does_37, rM_does_39, rM_does_40, rM_does_43, rM_does_44, rM_does_47, rM_does_48, rM_does_51, rM_does_52, rM_does_53, rM_does_54, rM_does_55, rM_does_56, rM_does_57, rM_does_58, rM_does_59, rM_does_60, rM_does_63, rM_does_64, rM_does_65, rM_does_66, rM_does_67, rM_does_70, rM_does_71, rM_does_72, rM_does_75, rM_does_76, rM_does_77, rM_does_78, rM_does_79, Bool.false_eq_true, true_implies, false_implies, implies_true, true_and, and_true, not_true_eq_false, not_false_eq_true, zPush_I, zPush_L, zPush_R, zPush_U, Int.reduceLT, Int.reduceLE, Int.reduceEq, Int.reduceNe, Int.reduceAdd, Int.reduceSub, Int.reduceMul, Int.reduceNeg, Int.reduceToNat, Nat.reduceAdd, Nat.reduceMul, Nat.reduceEqDiff, zw32_id, zw64_id, zupd_eq, zupd_na, zupd_ni, zupp_eq, zupp_na, zupp_ni, i2, p134, p135, e1, hll.1, hll.2, c8]
          have hbb := ip_bd (b := b) hl.1 (bd o')
          have ha0 := tAt_lo (b := b) (len := len) (ip b len (bd o'))
          have ha1 := tAt_hi (b := b) hbb.2
          refine mLook h (mTx_fp x2 fl (by omega) (by omega)) (by omega) ha1 (fun m3 k3 f3 => ?_)
          have f3' : frP (fun x j => x = 122 ∧ 8 ≤ j ∧ j ≤ 11) (zupd m2 135 (o' : Int) (lf o' - 1)) m3 := f3
          simp (disch := first | assumption | omega) only [rM_does_82, rM_does_85, rM_does_88, rM_does_230, Bool.false_eq_true, true_implies, false_implies, implies_true, true_and, and_true, not_true_eq_false, not_false_eq_true, zPush_I, zPush_L, zPush_R, zPush_U, Int.reduceLT, Int.reduceLE, Int.reduceEq, Int.reduceNe, Int.reduceAdd, Int.reduceSub, Int.reduceMul, Int.reduceNeg, Int.reduceToNat, Nat.reduceAdd, Nat.reduceMul, Nat.reduceEqDiff, zw32_id, zw64_id, zupd_eq, zupd_na, zupd_ni, zupp_eq, zupp_na, zupp_ni]
          refine fin _ m3 _ it hst rfl rfl ⟨⟨mTx_fp (mTx_fp x2 fl (by omega) (by omega)) f3' (by omega) (by omega), Or.inr (mTk_at k3)⟩, mPk_fr (mPk_fr P2 fl (by omega)) f3' (by omega), ?_, ?_, fun j hj => ?_, fun i i0 i1 => ?_, hp0, hp1⟩ (frP_tr fz (frP_wd f3' (fun x j hj => by unfold pDo; omega)))
          · rw [f3' 122 25 (by omega), zupd_na (by decide)]; exact s2
          · rw [f3' 122 26 (by omega), zupd_na (by decide)]; exact t2
          · rw [f3' 134 j (by omega), f3' 135 j (by omega)]; exact lp j hj
          · rw [f3' 123 i (by omega), zupd_na (by decide)]; exact w2 i i0 i1
        · rw [if_neg c8] at hst
          simp (disch := first | assumption | omega) only [rM_does_37, rM_does_39, rM_does_40, rM_does_43, rM_does_44, rM_does_47, rM_does_48, rM_does_51, rM_does_52, rM_does_53, rM_does_54, rM_does_55, rM_does_56, rM_does_57, rM_does_58, rM_does_59, rM_does_60, rM_does_63, rM_does_64, rM_does_65, rM_does_66, rM_does_67, rM_does_70, rM_does_71, rM_does_72, rM_does_75, rM_does_76, rM_does_77, rM_does_78, rM_does_79, rM_does_82, rM_does_85, rM_does_88, rM_does_230, Bool.false_eq_true, true_implies, false_implies, implies_true, true_and, and_true, not_true_eq_false, not_false_eq_true, zPush_I, zPush_L, zPush_R, zPush_U, Int.reduceLT, Int.reduceLE, Int.reduceEq, Int.reduceNe, Int.reduceAdd, Int.reduceSub, Int.reduceMul, Int.reduceNeg, Int.reduceToNat, Nat.reduceAdd, Nat.reduceMul, Nat.reduceEqDiff, zw32_id, zw64_id, zupd_eq, zupd_na, zupd_ni, zupp_eq, zupp_na, zupp_ni, i2, p134, p135, e1, hll.1, hll.2, c8]
          refine fin _ _ _ it hst (by show _ = (o' : Int); push_cast; omega) rfl ⟨⟨mTx_fp x2 fl (by omega) (by omega), Or.inr (mTk_fr i1 fl (by omega))⟩, mPk_fr P2 fl (by omega), ?_, ?_, fun j hj => ?_, fun i i0 i1 => ?_, hp0, hp1⟩ fz
          · rw [zupd_na (by decide)]; exact s2
          · rw [zupd_na (by decide)]; exact t2
          · have hj' : j < o' := hj
            exact lp j (by omega)
          · rw [zupd_na (by decide)]; exact w2 i i0 i1
      have hx7 : ¬ m2 122 12 = 3 := by
        rw [i2]; intro hc; exact c7 ((itm_dK _).2.mp hc)
      have i3' := i3
      have ka1 : a1F b len k = tVl b len (tEn b len (ip b len k)) := rfl
      have ka2 : a2F b len k = tVl b len (tEn b len (tEn b len (ip b len k))) := rfl
      rw [← ka1, ← ka2] at i3
      rw [← ka1] at i4
      have hsa : ∀ v : Int, max v (-v) = sz v := fun v => rfl
      by_cases cs : 300 ≤ it ∨ (kdF b len k = 4 ∧ 2000 < P.2.2.2.2 + max (sz (a1F b len k)) (sz (a2F b len k)))
      · have hst : dStep (kdF b len) (a1F b len) (a2F b len) (f 4) (f 5) (k, o, bd, lf, it, false, se, P) = (k, o, bd, lf, it, true, se, P) := by
          unfold dStep
          dsimp only
          rw [if_neg c7, if_pos cs]
        have fl : frP (fun x j => x = 122 ∧ j = 26) m2 (zupd m2 122 26 1) := frP_up (frP_rf _ _) ⟨rfl, rfl⟩
        have edr : ∀ fu, dRun (kdF b len) (a1F b len) (a2F b len) (f 4) (f 5) (nIt b len) fu (k, o, bd, lf, it, true, se, P) = (k, o, bd, lf, it, true, se, P) := fun fu => by
          cases fu with
          | zero => rfl
          | succ fu => rfl
        rw [hst, edr] at hQ
        have zz : ∀ it2, zS 196 18 [zR 122, zU, zI o, zI it2, zU] [] sh pp (zupd m2 122 26 1) Q := fun it2 => by
          refine sx _ _ _ (zupd_eq _ _ _ _) (hQ _ ⟨⟨mTx_fp x2 fl (by omega) (by omega), Or.inl rfl⟩, mPk_fr P2 fl (by omega), ?_, ?_, fun j hj => ?_, fun i i0 i1 => ?_, hp0, hp1⟩ (frP_up f2 (by unfold pDo; omega)))
          · rw [zupd_ni (by decide)]; exact s2
          · rw [zupd_eq]; rfl
          · rw [zupd_na (by decide), zupd_na (by decide)]; exact l2 j hj
          · rw [zupd_na (by decide)]; exact w2 i i0 i1
        by_cases c300 : it = 300
        · simp (disch := first | assumption | omega) only [rM_does_37, rM_does_39, rM_does_40, rM_does_43, rM_does_44, rM_does_91, rM_does_92, rM_does_93, rM_does_96, rM_does_99, rM_does_100, rM_does_103, rM_does_106, rM_does_107, rM_does_110, rM_does_111, rM_does_114, rM_does_117, rM_does_118, rM_does_121, rM_does_124, rM_does_127, rM_does_128, rM_does_131, rM_does_134, rM_does_135, rM_does_138, rM_does_139, rM_does_142, rM_does_145, rM_does_146, rM_does_149, rM_does_152, rM_does_153, rM_does_156, rM_does_159, rM_does_160, rM_does_161, rM_does_164, rM_does_165, rM_does_168, rM_does_171, rM_does_174, rM_does_175, rM_does_178, rM_does_181, rM_does_182, rM_does_185, rM_does_186, rM_does_189, rM_does_190, rM_does_191, rM_does_194, rM_does_197, rM_does_200, rM_does_201, rM_does_204, rM_does_207, rM_does_208, rM_does_211, rM_does_212, rM_does_213, rM_does_216, rM_does_217, rM_does_218, rM_does_221, rM_does_222, rM_does_223, rM_does_226, rM_does_227, rM_does_230, Bool.false_eq_true, true_implies, false_implies, implies_true, true_and, and_true, not_true_eq_false, not_false_eq_true, zPush_I, zPush_L, zPush_R, zPush_U, Int.reduceLT, Int.reduceLE, Int.reduceEq, Int.reduceNe, Int.reduceAdd, Int.reduceSub, Int.reduceMul, Int.reduceNeg, Int.reduceToNat, Nat.reduceAdd, Nat.reduceMul, Nat.reduceEqDiff, zw32_id, zw64_id, zupd_eq, zupd_na, zupd_ni, zupp_eq, zupp_na, zupp_ni, hx7, eq_true c300]
          exact zz _
        · have c4 : kdF b len k = 4 := by omega
          have hlong : 2000 < P.2.2.2.2 + max (sz (a1F b len k)) (sz (a2F b len k)) := by omega
          have i0 : m2 122 12 = 0 := by rw [i2, ← kd0, c4]; rfl
          have j3 := i3 (by rw [← kd0]; exact c4)
          have q4 := b4 c4
          have na : 0 ≤ sz (a1F b len k) ∧ sz (a1F b len k) ≤ 99 := by unfold sz; omega
          have nb : 0 ≤ sz (a2F b len k) ∧ sz (a2F b len k) ≤ 99 := by unfold sz; omega
          have hmo0 : 0 ≤ P.2.2.2.2 := g8.2.2.1
          simp (disch := first | assumption | omega) only [rM_does_37, rM_does_39, rM_does_40, rM_does_43, rM_does_44, rM_does_91, rM_does_92, rM_does_93, rM_does_96, rM_does_99, rM_does_100, rM_does_103, rM_does_106, rM_does_107, rM_does_110, rM_does_111, rM_does_114, rM_does_117, rM_does_118, rM_does_121, rM_does_124, rM_does_127, rM_does_128, rM_does_131, rM_does_134, rM_does_135, rM_does_138, rM_does_139, rM_does_142, rM_does_145, rM_does_146, rM_does_149, rM_does_152, rM_does_153, rM_does_156, rM_does_159, rM_does_160, rM_does_161, rM_does_164, rM_does_165, rM_does_168, rM_does_171, rM_does_174, rM_does_175, rM_does_178, rM_does_181, rM_does_182, rM_does_185, rM_does_186, rM_does_189, rM_does_190, rM_does_191, rM_does_194, rM_does_197, rM_does_200, rM_does_201, rM_does_204, rM_does_207, rM_does_208, rM_does_211, rM_does_212, rM_does_213, rM_does_216, rM_does_217, rM_does_218, rM_does_221, rM_does_222, rM_does_223, rM_does_226, rM_does_227, rM_does_230, kM_size, kM_greater, Bool.false_eq_true, true_implies, false_implies, implies_true, true_and, and_true, not_true_eq_false, not_false_eq_true, zPush_I, zPush_L, zPush_R, zPush_U, Int.reduceLT, Int.reduceLE, Int.reduceEq, Int.reduceNe, Int.reduceAdd, Int.reduceSub, Int.reduceMul, Int.reduceNeg, Int.reduceToNat, Nat.reduceAdd, Nat.reduceMul, Nat.reduceEqDiff, zw32_id, zw64_id, zupd_eq, zupd_na, zupd_ni, zupp_eq, zupp_na, zupp_ni, i0, c300, j3.1, j3.2, hsa, mo2, hlong]
          exact zz _
      have hit : it < 300 := by omega
      have hit' : ¬ it = 300 := by omega
      have fl : frP (fun x j => x = 122 ∧ j = 26) m2 (zupd m2 122 26 0) := frP_up (frP_rf _ _) ⟨rfl, rfl⟩
      have x3 := mTx_fp x2 fl (by omega) (by omega)
      have P3 := mPk_fr P2 fl (by omega)
      have hab1 := g8.1
      have hab2 := g8.2.1
      unfold kOk at hab1 hab2
      have hmo0 : 0 ≤ P.2.2.2.2 := g8.2.2.1
      by_cases c4 : kdF b len k = 4
      · have hst : dStep (kdF b len) (a1F b len) (a2F b len) (f 4) (f 5) (k, o, bd, lf, it, false, se, P) = (k + 1, o, bd, lf, it + 1, false, se + max (cei (a1F b len k) (f 4)) (cei (a2F b len k) (f 5)), pTurn (a1F b len k) (a2F b len k) P) := by
          unfold dStep
          dsimp only
          rw [if_neg c7, if_neg cs, if_pos c4]
        have hlong : ¬ 2000 < P.2.2.2.2 + max (sz (a1F b len k)) (sz (a2F b len k)) := by omega
        have i0 : m2 122 12 = 0 := by rw [i2, ← kd0, c4]; rfl
        have j3 := i3 (by rw [← kd0]; exact c4)
        have q4 := b4 c4
        have na : 0 ≤ sz (a1F b len k) ∧ sz (a1F b len k) ≤ 99 := by unfold sz; omega
        have nb : 0 ≤ sz (a2F b len k) ∧ sz (a2F b len k) ≤ 99 := by unfold sz; omega
        simp (disch := first | assumption | omega) only [rM_does_37, rM_does_39, rM_does_40, rM_does_43, rM_does_44, rM_does_91, rM_does_92, rM_does_93, rM_does_96, rM_does_99, rM_does_100, rM_does_103, rM_does_106, rM_does_107, rM_does_110, rM_does_111, rM_does_114, rM_does_117, rM_does_118, rM_does_121, rM_does_124, rM_does_127, rM_does_128, rM_does_131, rM_does_134, rM_does_135, rM_does_138, rM_does_139, rM_does_142, rM_does_145, rM_does_146, rM_does_149, rM_does_152, rM_does_153, rM_does_156, rM_does_159, rM_does_160, rM_does_161, rM_does_164, rM_does_165, rM_does_168, kM_size, kM_greater, Bool.false_eq_true, true_implies, false_implies, implies_true, true_and, and_true, not_true_eq_false, not_false_eq_true, zPush_I, zPush_L, zPush_R, zPush_U, Int.reduceLT, Int.reduceLE, Int.reduceEq, Int.reduceNe, Int.reduceAdd, Int.reduceSub, Int.reduceMul, Int.reduceNeg, Int.reduceToNat, Nat.reduceAdd, Nat.reduceMul, Nat.reduceEqDiff, zw32_id, zw64_id, zupd_eq, zupd_na, zupd_ni, zupp_eq, zupp_na, zupp_ni, i0, hit', j3.1, j3.2, hsa, mo2, hlong]
        have hX := mul_bd (x := f 6) (y := P.1 4 + P.2.1 4) (a := 9) (b := 4000) (by omega) (by omega) (by omega) (by omega)
        refine mTurn h P3 (px := f 4) (py := f 5) (ab := f 6) q4.1 q4.2 g8 (by omega) ?_ ?_ ?_ ?_ ?_ ⟨n4.1, n4.2⟩ ⟨n5.1, n5.2⟩ ⟨n6.1, n6.2⟩ ?_ (fun m3 k3 f3 e3 => ?_)
        · rw [zupd_na (by decide), w2 0 (by decide) (by decide), hp0]
        · rw [zupd_na (by decide), w2 1 (by decide) (by decide), hp1]
        · rw [zupd_na (by decide), w2 4 (by decide) (by decide)]
        · rw [zupd_na (by decide), w2 5 (by decide) (by decide)]
        · rw [zupd_na (by decide), w2 6 (by decide) (by decide)]
        · rw [zupd_ni (by decide), s2]; omega
        · simp (disch := first | assumption | omega) only [rM_does_171, rM_does_230, Bool.false_eq_true, true_implies, false_implies, implies_true, true_and, and_true, not_true_eq_false, not_false_eq_true, zPush_I, zPush_L, zPush_R, zPush_U, Int.reduceLT, Int.reduceLE, Int.reduceEq, Int.reduceNe, Int.reduceAdd, Int.reduceSub, Int.reduceMul, Int.reduceNeg, Int.reduceToNat, Nat.reduceAdd, Nat.reduceMul, Nat.reduceEqDiff, zw32_id, zw64_id, zupd_eq, zupd_na, zupd_ni, zupp_eq, zupp_na, zupp_ni]
          have h57 := pTurn_57 (a1F b len k) (a2F b len k) P
          refine fin _ m3 _ _ hst rfl rfl ⟨⟨mTx_fp x3 f3 (by unfold pTn; omega) (by unfold pTn; omega), Or.inr (mTk_fr (mTk_fr i1 fl (by omega)) f3 (by unfold pTn; omega))⟩, k3, ?_, ?_, fun j hj => ?_, fun i i0 i1 => ?_, by rw [h57.1]; exact hp0, by rw [h57.2]; exact hp1⟩ (frP_tr (frP_up f2 (by unfold pDo; omega)) (frP_wd f3 (fun x j hj => by unfold pTn at hj; unfold pDo; omega)))
          · rw [e3, zupd_ni (by decide), s2, Int.mul_sub]
            show se + f 6 * (P.1 4 + P.2.1 4) + (max (cei (a1F b len k) (f 4)) (cei (a2F b len k) (f 5)) + (f 6 * ((pTurn (a1F b len k) (a2F b len k) P).1 4 + (pTurn (a1F b len k) (a2F b len k) P).2.1 4) - f 6 * (P.1 4 + P.2.1 4))) = se + max (cei (a1F b len k) (f 4)) (cei (a2F b len k) (f 5)) + f 6 * ((pTurn (a1F b len k) (a2F b len k) P).1 4 + (pTurn (a1F b len k) (a2F b len k) P).2.1 4)
            omega
          · rw [f3 122 26 (by unfold pTn; omega), zupd_eq]; rfl
          · rw [f3 134 j (by unfold pTn; omega), f3 135 j (by unfold pTn; omega), zupd_na (by decide), zupd_na (by decide)]; exact l2 j hj
          · rw [f3 123 i (by unfold pTn; omega), zupd_na (by decide)]; exact w2 i i0 i1
      by_cases c5 : kdF b len k = 5
      · have hst : dStep (kdF b len) (a1F b len) (a2F b len) (f 4) (f 5) (k, o, bd, lf, it, false, se, P) = (k + 1, o, bd, lf, it + 1, false, se, pShake (a1F b len k) P) := by
          unfold dStep
          dsimp only
          rw [if_neg c7, if_neg cs, if_neg c4, if_pos c5]
        have i0 : m2 122 12 = 1 := by rw [i2, ← kd0, c5]; rfl
        have j4 := i4 (by rw [← kd0]; exact Or.inl c5)
        have q5 := b3.1 c5
        simp (disch := first | assumption | omega) only [rM_does_37, rM_does_39, rM_does_40, rM_does_43, rM_does_44, rM_does_91, rM_does_92, rM_does_93, rM_does_96, rM_does_99, rM_does_100, rM_does_103, rM_does_106, rM_does_107, rM_does_110, rM_does_111, rM_does_114, rM_does_117, rM_does_118, rM_does_121, rM_does_124, rM_does_127, rM_does_128, rM_does_131, rM_does_134, rM_does_135, rM_does_138, rM_does_139, rM_does_142, rM_does_145, rM_does_146, rM_does_149, rM_does_152, rM_does_153, rM_does_156, rM_does_159, rM_does_160, rM_does_161, rM_does_164, rM_does_165, rM_does_168, rM_does_171, rM_does_174, rM_does_175, rM_does_178, rM_does_181, rM_does_182, rM_does_185, rM_does_186, rM_does_189, rM_does_190, rM_does_191, rM_does_194, Bool.false_eq_true, true_implies, false_implies, implies_true, true_and, and_true, not_true_eq_false, not_false_eq_true, zPush_I, zPush_L, zPush_R, zPush_U, Int.reduceLT, Int.reduceLE, Int.reduceEq, Int.reduceNe, Int.reduceAdd, Int.reduceSub, Int.reduceMul, Int.reduceNeg, Int.reduceToNat, Nat.reduceAdd, Nat.reduceMul, Nat.reduceEqDiff, zw32_id, zw64_id, zupd_eq, zupd_na, zupd_ni, zupp_eq, zupp_na, zupp_ni, i0, hit', j4]
        refine mShake h P3 q5 g8 (fun m3 k3 f3 => ?_)
        simp (disch := first | assumption | omega) only [rM_does_197, rM_does_230, Bool.false_eq_true, true_implies, false_implies, implies_true, true_and, and_true, not_true_eq_false, not_false_eq_true, zPush_I, zPush_L, zPush_R, zPush_U, Int.reduceLT, Int.reduceLE, Int.reduceEq, Int.reduceNe, Int.reduceAdd, Int.reduceSub, Int.reduceMul, Int.reduceNeg, Int.reduceToNat, Nat.reduceAdd, Nat.reduceMul, Nat.reduceEqDiff, zw32_id, zw64_id, zupd_eq, zupd_na, zupd_ni, zupp_eq, zupp_na, zupp_ni]
        refine fin _ m3 _ _ hst rfl rfl ⟨⟨mTx_fp x3 f3 (by unfold pDr; omega) (by unfold pDr; omega), Or.inr (mTk_fr (mTk_fr i1 fl (by omega)) f3 (by unfold pDr; omega))⟩, k3, ?_, ?_, fun j hj => ?_, fun i i0 i1 => ?_, hp0, hp1⟩ (frP_tr (frP_up f2 (by unfold pDo; omega)) (frP_wd f3 (fun x j hj => by unfold pDr at hj; unfold pDo; omega)))
        · rw [f3 122 25 (by unfold pDr; omega), zupd_ni (by decide)]; exact s2
        · rw [f3 122 26 (by unfold pDr; omega), zupd_eq]; rfl
        · rw [f3 134 j (by unfold pDr; omega), f3 135 j (by unfold pDr; omega), zupd_na (by decide), zupd_na (by decide)]; exact l2 j hj
        · rw [f3 123 i (by unfold pDr; omega), zupd_na (by decide)]; exact w2 i i0 i1
      · have c6 : kdF b len k = 6 := by omega
        have hst : dStep (kdF b len) (a1F b len) (a2F b len) (f 4) (f 5) (k, o, bd, lf, it, false, se, P) = (k + 1, o + 1, nup bd o (k + 1), nup lf o (a1F b len k), it + 1, false, se, P) := by
          unfold dStep
          dsimp only
          rw [if_neg c7, if_neg cs, if_neg c4, if_neg c5]
        have i0 : m2 122 12 = 2 := by rw [i2, ← kd0, c6]; rfl
        have j4 := i4 (by rw [← kd0]; exact Or.inr c6)
        have ho3 : o < 3 := by omega
        have i8 : m2 122 8 = tAt b len (ip b len (k + 1)) := i1.1
        simp (disch := first | assumption | omega) only [rM_does_37, rM_does_39, rM_does_40, rM_does_43, rM_does_44, rM_does_91, rM_does_92, rM_does_93, rM_does_96, rM_does_99, rM_does_100, rM_does_103, rM_does_106, rM_does_107, rM_does_110, rM_does_111, rM_does_114, rM_does_117, rM_does_118, rM_does_121, rM_does_124, rM_does_127, rM_does_128, rM_does_131, rM_does_134, rM_does_135, rM_does_138, rM_does_139, rM_does_142, rM_does_145, rM_does_146, rM_does_149, rM_does_152, rM_does_153, rM_does_156, rM_does_159, rM_does_160, rM_does_161, rM_does_164, rM_does_165, rM_does_168, rM_does_171, rM_does_174, rM_does_175, rM_does_178, rM_does_181, rM_does_182, rM_does_185, rM_does_186, rM_does_189, rM_does_190, rM_does_191, rM_does_194, rM_does_197, rM_does_200, rM_does_201, rM_does_204, rM_does_207, rM_does_208, rM_does_211, rM_does_212, rM_does_213, rM_does_216, rM_does_217, rM_does_218, rM_does_221, rM_does_222, rM_does_223, rM_does_226, rM_does_227, rM_does_230, Bool.false_eq_true, true_implies, false_implies, implies_true, true_and, and_true, not_true_eq_false, not_false_eq_true, zPush_I, zPush_L, zPush_R, zPush_U, Int.reduceLT, Int.reduceLE, Int.reduceEq, Int.reduceNe, Int.reduceAdd, Int.reduceSub, Int.reduceMul, Int.reduceNeg, Int.reduceToNat, Nat.reduceAdd, Nat.reduceMul, Nat.reduceEqDiff, zw32_id, zw64_id, zupd_eq, zupd_na, zupd_ni, zupp_eq, zupp_na, zupp_ni, i0, hit', j4, i8, p134, p135]
        refine fin _ _ _ _ hst (by show _ = ((o + 1 : Nat) : Int); push_cast; rfl) rfl ⟨⟨?_, Or.inr ?_⟩, ?_, ?_, ?_, fun j hj => ?_, fun i i0 i1 => ?_, hp0, hp1⟩ (frP_up (frP_up (frP_up f2 (by unfold pDo; omega)) (by unfold pDo; omega)) (by unfold pDo; omega))
        · exact mTx_fp x3 (frP_up (frP_up (frP_rf (fun x j => x = 134 ∨ x = 135) _) (Or.inl rfl)) (Or.inr rfl)) (by omega) (by omega)
        · exact mTk_fr (mTk_fr i1 fl (by omega)) (frP_up (frP_up (frP_rf (fun x j => x = 134 ∨ x = 135) _) (Or.inl rfl)) (Or.inr rfl)) (by omega)
        · exact mPk_fr P3 (frP_up (frP_up (frP_rf (fun x j => x = 134 ∨ x = 135) _) (Or.inl rfl)) (Or.inr rfl)) (by omega)
        · simp (disch := first | assumption | omega) only [Bool.false_eq_true, true_implies, false_implies, implies_true, true_and, and_true, not_true_eq_false, not_false_eq_true, zPush_I, zPush_L, zPush_R, zPush_U, Int.reduceLT, Int.reduceLE, Int.reduceEq, Int.reduceNe, Int.reduceAdd, Int.reduceSub, Int.reduceMul, Int.reduceNeg, Int.reduceToNat, Nat.reduceAdd, Nat.reduceMul, Nat.reduceEqDiff, zw32_id, zw64_id, zupd_eq, zupd_na, zupd_ni, zupp_eq, zupp_na, zupp_ni]; exact s2
        · simp (disch := first | assumption | omega) only [Bool.false_eq_true, true_implies, false_implies, implies_true, true_and, and_true, not_true_eq_false, not_false_eq_true, zPush_I, zPush_L, zPush_R, zPush_U, Int.reduceLT, Int.reduceLE, Int.reduceEq, Int.reduceNe, Int.reduceAdd, Int.reduceSub, Int.reduceMul, Int.reduceNeg, Int.reduceToNat, Nat.reduceAdd, Nat.reduceMul, Nat.reduceEqDiff, zw32_id, zw64_id, zupd_eq, zupd_na, zupd_ni, zupp_eq, zupp_na, zupp_ni]; rfl
        · have hj' : j < o + 1 := hj
          show _ = tAt b len (ip b len (nup bd o (k + 1) j)) ∧ _ = nup lf o (a1F b len k) j
          unfold nup
          by_cases ej : j = o
          · subst ej
            simp (disch := first | assumption | omega) only [Bool.false_eq_true, true_implies, false_implies, implies_true, true_and, and_true, not_true_eq_false, not_false_eq_true, zPush_I, zPush_L, zPush_R, zPush_U, Int.reduceLT, Int.reduceLE, Int.reduceEq, Int.reduceNe, Int.reduceAdd, Int.reduceSub, Int.reduceMul, Int.reduceNeg, Int.reduceToNat, Nat.reduceAdd, Nat.reduceMul, Nat.reduceEqDiff, zw32_id, zw64_id, zupd_eq, zupd_na, zupd_ni, zupp_eq, zupp_na, zupp_ni, if_true]
          · rw [if_neg ej, if_neg ej]
            have ej' : ¬ (j : Int) = (o : Int) := by omega
            simp (disch := first | assumption | omega) only [Bool.false_eq_true, true_implies, false_implies, implies_true, true_and, and_true, not_true_eq_false, not_false_eq_true, zPush_I, zPush_L, zPush_R, zPush_U, Int.reduceLT, Int.reduceLE, Int.reduceEq, Int.reduceNe, Int.reduceAdd, Int.reduceSub, Int.reduceMul, Int.reduceNeg, Int.reduceToNat, Nat.reduceAdd, Nat.reduceMul, Nat.reduceEqDiff, zw32_id, zw64_id, zupd_eq, zupd_na, zupd_ni, zupp_eq, zupp_na, zupp_ni]
            exact l2 j (by omega)
        · simp (disch := first | assumption | omega) only [Bool.false_eq_true, true_implies, false_implies, implies_true, true_and, and_true, not_true_eq_false, not_false_eq_true, zPush_I, zPush_L, zPush_R, zPush_U, Int.reduceLT, Int.reduceLE, Int.reduceEq, Int.reduceNe, Int.reduceAdd, Int.reduceSub, Int.reduceMul, Int.reduceNeg, Int.reduceToNat, Nat.reduceAdd, Nat.reduceMul, Nat.reduceEqDiff, zw32_id, zw64_id, zupd_eq, zupd_na, zupd_ni, zupp_eq, zupp_na, zupp_ni]; exact w2 i i0 i1
    · have hon' : dOn (nIt b len) σ = false := by simpa using hon
      have e : dRun (kdF b len) (a1F b len) (a2F b len) (f 4) (f 5) (nIt b len) (fu + 1) σ = σ := by
        show (if dOn (nIt b len) σ = true then _ else σ) = _
        rw [if_neg hon]
      rw [e] at hQ
      exact ex σ m ho hon' hD (hQ m hD hfr)
/-- what the program of that number does -/
noncomputable def dOf (f : Int → Int) (p : Int) : zDs := dSg f (bOf f p) (lOf f p)
theorem mDoes (h : zLy sh pp) (hf : fOk f) (hm : ∀ k, 0 ≤ k → k < 986 → mm 123 k = f k) (p0 : 0 ≤ p) (p3 : p ≤ 3) (hr : rd (bOf f p) (lOf f p) = -1) (hQ : ∀ m, mPk (dOf f p).2.2.2.2.2.2.2 m → m 122 25 = (dOf f p).2.2.2.2.2.2.1 + f 6 * ((dOf f p).2.2.2.2.2.2.2.1 4 + (dOf f p).2.2.2.2.2.2.2.2.1 4) → m 122 26 = (if (dOf f p).2.2.2.2.2.1 = true then 1 else 0) → frP pDo mm m → Q zU sh pp m) : zS 196 0 [zR 122, zI p, zU, zU, zU] [] sh pp mm Q := by
  have k122 := k_122 h
  have ht := hf.2.1 p p0 p3
  have hl : 0 ≤ lOf f p ∧ lOf f p ≤ 120 := ⟨ht.1, ht.2.1⟩
  obtain ⟨r1, r2, r3, r4, r5⟩ := rd_it hl hr
  have n4 := hf.1 4 (by decide) (by decide)
  have n5 := hf.1 5 (by decide) (by decide)
  simp [loN, hiN] at n4 n5
  simp (disch := first | assumption | omega) only [rM_does_0, rM_does_1, rM_does_2, rM_does_5, rM_does_6, Bool.false_eq_true, true_implies, false_implies, implies_true, true_and, and_true, not_true_eq_false, not_false_eq_true, zPush_I, zPush_L, zPush_R, zPush_U, Int.reduceLT, Int.reduceLE, Int.reduceEq, Int.reduceNe, Int.reduceAdd, Int.reduceSub, Int.reduceMul, Int.reduceNeg, Int.reduceToNat, Nat.reduceAdd, Nat.reduceMul, Nat.reduceEqDiff, zw32_id, zw64_id, zupd_eq, zupd_na, zupd_ni, zupp_eq, zupp_na, zupp_ni]
  refine mStart h hf (fun k k0 k1 => by rw [zupd_na (by decide)]; exact hm k k0 k1) (fun m1 q1 q2 q3 q4 => ?_)
  simp (disch := first | assumption | omega) only [rM_does_9, rM_does_10, rM_does_11, rM_does_12, rM_does_13, rM_does_14, rM_does_15, Bool.false_eq_true, true_implies, false_implies, implies_true, true_and, and_true, not_true_eq_false, not_false_eq_true, zPush_I, zPush_L, zPush_R, zPush_U, Int.reduceLT, Int.reduceLE, Int.reduceEq, Int.reduceNe, Int.reduceAdd, Int.reduceSub, Int.reduceMul, Int.reduceNeg, Int.reduceToNat, Nat.reduceAdd, Nat.reduceMul, Nat.reduceEqDiff, zw32_id, zw64_id, zupd_eq, zupd_na, zupd_ni, zupp_eq, zupp_na, zupp_ni]
  have hx : mTx p (lOf f p) (bOf f p) m1 := by
    refine ⟨by rw [q4 122 7 (by unfold pSp; omega), zupd_eq], ⟨p0, p3⟩, ?_, hl, fun k k0 k1 => ?_⟩
    · rw [q4 123 _ (by unfold pSp; omega), zupd_na (by decide)]; exact hm _ (by omega) (by omega)
    · rw [q4 123 _ (by unfold pSp; omega), zupd_na (by decide)]
      have : lOf f p = f (9 + 121 * p) := rfl
      exact ⟨hm _ (by omega) (by omega), ht.2.2 k k0 k1⟩
  refine mLook h hx (Int.le_refl 0) hl.1 (fun m2 k2 f2 => ?_)
  have f2' : frP (fun x j => x = 122 ∧ 8 ≤ j ∧ j ≤ 11) m1 m2 := f2
  simp (disch := first | assumption | omega) only [Bool.false_eq_true, true_implies, false_implies, implies_true, true_and, and_true, not_true_eq_false, not_false_eq_true, zPush_I, zPush_L, zPush_R, zPush_U, Int.reduceLT, Int.reduceLE, Int.reduceEq, Int.reduceNe, Int.reduceAdd, Int.reduceSub, Int.reduceMul, Int.reduceNeg, Int.reduceToNat, Nat.reduceAdd, Nat.reduceMul, Nat.reduceEqDiff, zw32_id, zw64_id, zupd_eq, zupd_na, zupd_ni, zupp_eq, zupp_na, zupp_ni]
  have hend := dRun_end (px := f 4) (py := f 5) r5 n4.1 n5.1 10000 (dBeg f) (dBeg_ok hf) (by show (301 - (0 : Int)) * 21 + 0 < 10000; decide)
  refine mDo1 (p := p) (b := bOf f p) (f := f) (mm := mm) h hf hl hr 10000 (dBeg f) m2 (dBeg_ok hf) hend.1 ⟨⟨mTx_fp hx f2' (by omega) (by omega), Or.inr k2⟩, mPk_fr q1 f2' (by omega), ?_, ?_, fun j hj => absurd hj (Nat.not_lt_zero j), fun i i0 i1 => ?_, rfl, rfl⟩ (frP_tr (frP_tr (frP_up (frP_rf pDo mm) (by unfold pDo; omega)) (frP_wd q4 (fun x j hj => by unfold pSp at hj; unfold pDo; omega))) (frP_wd f2' (fun x j hj => by unfold pDo; omega))) (fun m3 d3 f3 => hQ m3 d3.2.1 d3.2.2.1 d3.2.2.2.1 f3)
  · rw [f2' 122 25 (by omega), q2]
    show (0 : Int) = 0 + f 6 * (0 + 0)
    simp
  · rw [f2' 122 26 (by omega), q3]; rfl
  · rw [f2' 123 i (by omega), q4 123 i (by unfold pSp; omega), zupd_na (by decide)]; exact hm i i0 i1
end
