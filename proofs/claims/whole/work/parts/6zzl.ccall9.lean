/-! ===== calls of the class: odds, shaken, before ===== -/
theorem tot_ext {c c' lv : Nat → Nat} {R n : Nat} : ∀ k, (∀ i, i < k → c' i = c i) → tot c' lv R n k = tot c lv R n k
  | 0, _ => rfl
  | k + 1, h => by rw [tot_s, tot_s, tot_ext k (fun i hi => h i (by omega)), h k (by omega)]
theorem wS_ext {c c' lv : Nat → Nat} {l : Nat} : ∀ k, (∀ i, i < k → c' i = c i) → wS c' lv k l = wS c lv k l
  | 0, _ => rfl
  | k + 1, h => by
    show wS c' lv k l + (if lv k = l then c' k else 0) = wS c lv k l + (if lv k = l then c k else 0)
    rw [wS_ext k (fun i hi => h i (by omega)), h k (by omega)]
theorem tot_hS2 {c lv : Nat → Nat} {R n lo hi K : Nat} (hh : hi ≤ n) (hlv : ∀ i, i < K → c i ≠ 0 → lo ≤ lv i ∧ lv i ≤ hi) : tot c lv R n K = R ^ lo * (10 - R) ^ (n - hi) * hS (wS c lv K) R lo (hi + 1 - lo) := by
  have z1 := tot_hS (c := fun i => if i < K then c i else 0) (lv := lv) (R := R) (n := n) (lo := lo) (hi := hi) hh (fun i hi2 => by
    by_cases hx : i < K
    · exact hlv i hx (by simpa [hx] using hi2)
    · exact absurd (if_neg hx) hi2) K
  rw [tot_ext K (fun i hi2 => if_pos hi2)] at z1
  rw [z1]
  congr 1
  exact hS_ext _ (fun j _ => wS_ext K (fun i hi2 => if_pos hi2))
section
variable {sh : zSh} {pp : zPp} {mm m' : zMm} {Q : zV → zSh → zPp → zMm → Prop} {f f' : Int → Int} {G : Int → Option (Int → Int)} {cn cn' : Int → Int} {N D N' D' : Nat}
theorem gAny_ex {f : Int → Int} : ∀ n, gAny f n = true → ∃ p, p < n ∧ gOk f (p : Int) = true
  | 0, h => by simp [gAny] at h
  | n + 1, h => by
    have h' : (gAny f n || gOk f (n : Int)) = true := h
    rw [Bool.or_eq_true] at h'
    rcases h' with h1 | h1
    · obtain ⟨p, hp, hg⟩ := gAny_ex n h1
      exact ⟨p, by omega, hg⟩
    · exact ⟨n, by omega, h1⟩
theorem cWeigh (hc : cOk f G cn N D sh pp mm) (ok : fOk f) (hsn : fSn f) {q a : Int} (q0 : 0 ≤ q) (q2 : q ≤ 2) (a0 : 0 ≤ a) (a1 : a < 384) (hQ : ∀ pp1 m, cOk f G (oShare f cn N D q a).1 (oShare f cn N D q a).2.1 (oShare f cn N D q a).2.2.1 sh pp1 m → frX sh mm sh m → Q (zI (oShare f cn N D q a).2.2.2) sh pp1 m) : zS 149 0 [zR 13, zI q, zI a, zU, zU] [] sh pp mm Q := by
  have h := hc.1
  have k13 := k_13 h
  have k52 := k_52 h
  have p52 := p_13_7 h
  simp (disch := first | assumption | omega) only [rX_weigh_0, rX_weigh_1, rX_weigh_4, Bool.false_eq_true, true_implies, false_implies, implies_true, true_and, and_true, not_true_eq_false, not_false_eq_true, zPush_I, zPush_L, zPush_R, zPush_U, Int.reduceLT, Int.reduceLE, Int.reduceEq, Int.reduceNe, Int.reduceAdd, Int.reduceSub, Int.reduceMul, Int.reduceNeg, Int.reduceToNat, Nat.reduceAdd, Nat.reduceMul, Nat.reduceEqDiff, zw32_id, zw64_id, zupd_eq, zupd_na, zupd_ni, zupp_eq, zupp_na, zupp_ni, p52]
  refine cGBegin h (fun m0 b1 b2 b3 => ?_)
  have r0 : frP (fun x _ => 52 ≤ x ∧ x ≤ 57) mm m0 := frP_wd b3 (fun x j hj => by omega)
  simp (disch := first | assumption | omega) only [rX_weigh_7, rX_weigh_8, Bool.false_eq_true, true_implies, false_implies, implies_true, true_and, and_true, not_true_eq_false, not_false_eq_true, zPush_I, zPush_L, zPush_R, zPush_U, Int.reduceLT, Int.reduceLE, Int.reduceEq, Int.reduceNe, Int.reduceAdd, Int.reduceSub, Int.reduceMul, Int.reduceNeg, Int.reduceToNat, Nat.reduceAdd, Nat.reduceMul, Nat.reduceEqDiff, zw32_id, zw64_id, zupd_eq, zupd_na, zupd_ni, zupp_eq, zupp_na, zupp_ni]
  refine cWeighL (mm := mm) ok (fun pp1 m1 hc1 fx hI => ?_) 4 0 pp m0 (by omega) (cOk_gs hc r0) (frX_P r0 (by omega)) ⟨fun p hp => by rw [b2 p hp, if_neg (fun hx => absurd hx.1 (Nat.not_lt_zero p))], fun p hp => absurd hp (Nat.not_lt_zero p), fun k k0 k1 => b1 k (by omega) k1⟩
  have h := hc1.1
  have k13 := k_13 h
  have k14 := k_14 h
  have p14 := p_13_0 h
  have k15 := k_15 h
  have l15 := l_15 h
  have p15 := p_14_0 h
  have k52 := k_52 h
  have p52 := p_13_7 h
  have k37 := k_37 h
  have l37 := l_37 h
  have p37 := p_13_4 h
  have k57 := k_57 h
  have p57 := p_13_8 h
  have gp : ∀ p : Nat, p < 4 → m1 55 (p : Int) = if gOk f (p : Int) = true then 1 else 0 := fun p hp => by
    rw [hI.1 p hp]
    by_cases hx : gOk f (p : Int) = true
    · rw [if_pos ⟨hp, hx⟩, if_pos hx]
    · rw [if_neg (fun hy => hx hy.2), if_neg hx]
  have p0 : m1 55 0 = if gOk f ((0 : Nat) : Int) = true then 1 else 0 := gp 0 (by decide)
  have p1 : m1 55 1 = if gOk f ((1 : Nat) : Int) = true then 1 else 0 := gp 1 (by decide)
  have p2 : m1 55 2 = if gOk f ((2 : Nat) : Int) = true then 1 else 0 := gp 2 (by decide)
  have p3 : m1 55 3 = if gOk f ((3 : Nat) : Int) = true then 1 else 0 := gp 3 (by decide)
  have eAny : gAny f 4 = ((((false || gOk f ((0 : Nat) : Int)) || gOk f ((1 : Nat) : Int)) || gOk f ((2 : Nat) : Int)) || gOk f ((3 : Nat) : Int)) := rfl
  simp (disch := first | assumption | omega) only [rX_weigh_57, rX_weigh_58, rX_weigh_61, Bool.false_eq_true, true_implies, false_implies, implies_true, true_and, and_true, not_true_eq_false, not_false_eq_true, zPush_I, zPush_L, zPush_R, zPush_U, Int.reduceLT, Int.reduceLE, Int.reduceEq, Int.reduceNe, Int.reduceAdd, Int.reduceSub, Int.reduceMul, Int.reduceNeg, Int.reduceToNat, Nat.reduceAdd, Nat.reduceMul, Nat.reduceEqDiff, zw32_id, zw64_id, zupd_eq, zupd_na, zupd_ni, zupp_eq, zupp_na, zupp_ni, p52]
  refine (kG_isEmpty h p0 p1 p2 p3).mpr ?_
  rw [← eAny]
  unfold oShare at hQ
  by_cases hany : gAny f 4 = true
  · rw [if_pos hany] at hQ
    dsimp only at hQ
    rw [if_pos hany]
    simp (disch := first | assumption | omega) only [rX_weigh_64, rX_weigh_75, rX_weigh_76, rX_weigh_79, rX_weigh_80, rX_weigh_81, rX_weigh_82, rX_weigh_85, Bool.false_eq_true, true_implies, false_implies, implies_true, true_and, and_true, not_true_eq_false, not_false_eq_true, zPush_I, zPush_L, zPush_R, zPush_U, Int.reduceLT, Int.reduceLE, Int.reduceEq, Int.reduceNe, Int.reduceAdd, Int.reduceSub, Int.reduceMul, Int.reduceNeg, Int.reduceToNat, Nat.reduceAdd, Nat.reduceMul, Nat.reduceEqDiff, zw32_id, zw64_id, zupd_eq, zupd_na, zupd_ni, zupp_eq, zupp_na, zupp_ni, p52, p37]
    refine cGather h (cA := gCA f) (cP := gCP q a f) (lv := gLv f) (gd := gGd f) (mn := fun i => gMn q a f ((i / 4 : Nat) : Int) (i % 4)) (gLv_60 ok hsn) (fun i => rfl) (fun i => rfl) (fun i hi => gp (i / 4) (by omega)) (fun i hi hg => ?_) (fun i hi hg m Q hfr => kG_isMeant h (by omega) q0 q2 a0 a1 (drwOk_sm (hI.2.1 (i / 4) (by omega) hg).2 (sm_fr hfr (fun x j hj => by unfold gaF at hj; omega)))) (fun m2 c1 c2 => ?_)
    · have z1 := (hI.2.1 (i / 4) (by omega) hg).1 (i % 4) (by omega)
      rw [show 4 * ((i / 4 : Nat) : Int) + ((i % 4 : Nat) : Int) = (i : Int) by omega] at z1
      exact z1
    · have r2 : frP (fun x _ => 52 ≤ x ∧ x ≤ 57) m1 m2 := frP_wd c2 (fun x j hj => by unfold gaF at hj; omega)
      have hc2 := cOk_gs hc1 r2
      have n8 := ok.1 8 (by decide) (by decide)
      have n8' : 1 ≤ f 8 ∧ f 8 ≤ 9 := n8
      have z8 : m2 15 8 = (((f 8).toNat : Nat) : Int) := by
        have z0 : m2 15 8 = f 8 := hc2.2.2.1.1 8 (by decide) (by decide)
        rw [z0]
        omega
      obtain ⟨R, hR⟩ : ∃ R, R = (f 8).toNat := ⟨_, rfl⟩
      obtain ⟨lo, hlo⟩ : ∃ lo, lo = loS (gGd f) (gLv f) 16 := ⟨_, rfl⟩
      obtain ⟨hi, hhi⟩ : ∃ hi, hi = hiS (gGd f) (gLv f) 16 := ⟨_, rfl⟩
      obtain ⟨nS, hnS⟩ : ∃ nS, nS = seenN f 384 := ⟨_, rfl⟩
      have hR9 : 1 ≤ R ∧ R ≤ 9 := by omega
      have lvn : ∀ i, gLv f i ≤ nS := fun i => by rw [hnS]; exact rc_le f _ 384
      have hhn : hi ≤ nS := by rw [hhi]; exact hi_60 lvn 16
      have hh60 : hi ≤ 60 := by rw [hhi]; exact hi_60 (gLv_60 ok hsn) 16
      have hrg : ∀ i, i < 16 → gGd f i = true → lo ≤ gLv f i ∧ gLv f i ≤ hi := fun i hi2 hg => ⟨by rw [hlo]; exact lo_le hg 16 hi2, by rw [hhi]; exact hi_ge hg 16 hi2⟩
      have hlh : lo ≤ hi := by
        obtain ⟨p, hp, hg⟩ := gAny_ex 4 hany
        have hg' : gGd f (4 * p) = true := by
          unfold gGd
          rw [show 4 * p / 4 = p by omega]
          exact hg
        have := hrg (4 * p) (by omega) hg'
        omega
      have TA := tot_hS2 (c := gCA f) (lv := gLv f) (R := R) (n := nS) (K := 16) hhn (fun i hi2 hx => hrg i hi2 (by
        unfold gCA at hx
        by_cases hg : gGd f i = true
        · exact hg
        · exact absurd (if_neg hg) hx))
      have TP := tot_hS2 (c := gCP q a f) (lv := gLv f) (R := R) (n := nS) (K := 16) hhn (fun i hi2 hx => hrg i hi2 (by
        unfold gCP at hx
        by_cases hg : gGd f i = true
        · exact hg
        · exact absurd (if_neg (fun hy => hg hy.1)) hx))
      obtain ⟨s1, s2⟩ := gT_tot q a f 4
      rw [show 4 * 4 = 16 by decide, ← hR, ← hnS] at s1 s2
      rw [TA] at s1
      rw [TP] at s2
      have gpos := gT_pos ok (q := q) (a := a) 4 hany
      rw [s1] at gpos
      rw [← hR] at z8
      rw [s1, s2] at hQ
      obtain ⟨A, hA⟩ : ∃ A, A = hS (wS (gCP q a f) (gLv f) 16) R lo (hi + 1 - lo) := ⟨_, rfl⟩
      obtain ⟨B, hB⟩ : ∃ B, B = hS (wS (gCA f) (gLv f) 16) R lo (hi + 1 - lo) := ⟨_, rfl⟩
      obtain ⟨K, hK⟩ : ∃ K, K = R ^ lo * (10 - R) ^ (nS - hi) := ⟨_, rfl⟩
      rw [← hK, ← hB] at gpos
      rw [← hK, ← hA, ← hB] at hQ
      have hKp : 0 < K := Nat.pos_of_mul_pos_right gpos
      have hBp : B ≠ 0 := fun hx => by rw [hx, Nat.mul_zero] at gpos; exact absurd gpos (by decide)
      rw [gcd_sc hKp, gcd_sc2 hKp] at hQ
      have h := hc2.1
      have i2 : m2 52 2 = (lo : Int) := by rw [hlo]; exact c1.2.1
      have i3 : m2 52 3 = (hi : Int) := by rw [hhi]; exact c1.2.2
      simp (disch := first | assumption | omega) only [rX_weigh_88, rX_weigh_89, rX_weigh_92, rX_weigh_93, rX_weigh_96, rX_weigh_97, rX_weigh_100, rX_weigh_103, rX_weigh_105, rX_weigh_106, Bool.false_eq_true, true_implies, false_implies, implies_true, true_and, and_true, not_true_eq_false, not_false_eq_true, zPush_I, zPush_L, zPush_R, zPush_U, Int.reduceLT, Int.reduceLE, Int.reduceEq, Int.reduceNe, Int.reduceAdd, Int.reduceSub, Int.reduceMul, Int.reduceNeg, Int.reduceToNat, Nat.reduceAdd, Nat.reduceMul, Nat.reduceEqDiff, zw32_id, zw64_id, zupd_eq, zupd_na, zupd_ni, zupp_eq, zupp_na, zupp_ni, p14, p15, p52, p57, z8]
      refine cFBecome h (wP := wS (gCP q a f) (gLv f) 16) (wA := wS (gCA f) (gLv f) 16) (lo := lo) (hi := hi) hR9 (fun j => wS_24 (fun i => by unfold gCP; split <;> omega) 16 (by decide)) (fun j => wS_24 (fun i => by unfold gCA; split <;> omega) 16 (by decide)) hlh hh60 (fun l hl => (c1.1 l hl).2) (fun l hl => (c1.1 l hl).1) i2 i3 (fun m3 d1 d2 d3 => ?_)
      rw [← hA] at d1
      rw [← hB] at d2
      simp (disch := first | assumption | omega) only [rX_weigh_109, rX_weigh_110, rX_weigh_113, Bool.false_eq_true, true_implies, false_implies, implies_true, true_and, and_true, not_true_eq_false, not_false_eq_true, zPush_I, zPush_L, zPush_R, zPush_U, Int.reduceLT, Int.reduceLE, Int.reduceEq, Int.reduceNe, Int.reduceAdd, Int.reduceSub, Int.reduceMul, Int.reduceNeg, Int.reduceToNat, Nat.reduceAdd, Nat.reduceMul, Nat.reduceEqDiff, zw32_id, zw64_id, zupd_eq, zupd_na, zupd_ni, zupp_eq, zupp_na, zupp_ni, p57]
      refine cReduce h d1 d2 hBp (fun m4 e1 e2 e3 => ?_)
      simp (disch := first | assumption | omega) only [rX_weigh_116, rX_weigh_117, Bool.false_eq_true, true_implies, false_implies, implies_true, true_and, and_true, not_true_eq_false, not_false_eq_true, zPush_I, zPush_L, zPush_R, zPush_U, Int.reduceLT, Int.reduceLE, Int.reduceEq, Int.reduceNe, Int.reduceAdd, Int.reduceSub, Int.reduceMul, Int.reduceNeg, Int.reduceToNat, Nat.reduceAdd, Nat.reduceMul, Nat.reduceEqDiff, zw32_id, zw64_id, zupd_eq, zupd_na, zupd_ni, zupp_eq, zupp_na, zupp_ni]
      have r4 : frP (fun x _ => 58 ≤ x ∧ x ≤ 65) m2 m4 := frP_tr (frP_wd d3 (fun x j hj => by omega)) (frP_wd e3 (fun x j hj => by unfold pFr at hj; omega))
      exact hQ pp1 m4 (cOk_fr hc2 r4 e1 e2) (frX_tr fx (frX_tr (frX_P r2 (by omega)) (frX_P r4 (by omega))))
  · rw [if_neg hany] at hQ
    dsimp only at hQ
    rw [if_neg hany]
    have zq := cBadP hc1 (i := 1) (by decide) (by decide) (fun m hm hx => hQ pp1 m hm (frX_tr fx hx))
    simp (disch := first | assumption | omega) only [rX_weigh_64, rX_weigh_67, rX_weigh_68, rX_weigh_69, rX_weigh_71, rX_weigh_74, kX_refuse h, Bool.false_eq_true, true_implies, false_implies, implies_true, true_and, and_true, not_true_eq_false, not_false_eq_true, zPush_I, zPush_L, zPush_R, zPush_U, Int.reduceLT, Int.reduceLE, Int.reduceEq, Int.reduceNe, Int.reduceAdd, Int.reduceSub, Int.reduceMul, Int.reduceNeg, Int.reduceToNat, Nat.reduceAdd, Nat.reduceMul, Nat.reduceEqDiff, zw32_id, zw64_id, zupd_eq, zupd_na, zupd_ni, zupp_eq, zupp_na, zupp_ni]
    exact zq
theorem cOdds (hc : cOk f G cn N D sh pp mm) (ok : fOk f) (hsn : fSn f) {p : Int} (hQ : ∀ pp1 m, cOk f G (oOdds f cn N D p).1 (oOdds f cn N D p).2.1 (oOdds f cn N D p).2.2.1 sh pp1 m → frX sh mm sh m → Q (zI (oOdds f cn N D p).2.2.2) sh pp1 m) : zS 126 0 [zR 13, zI p] [] sh pp mm Q := by
  have h := hc.1
  have k13 := k_13 h
  unfold oOdds at hQ
  by_cases hg : 0 ≤ p ∧ p ≤ 3
  · rw [if_pos hg] at hQ
    simp (disch := first | assumption | omega) only [rX_odds_0, rX_odds_1, rX_odds_4, rX_odds_7, rX_odds_8, rX_odds_9, rX_odds_11, rX_odds_14, rX_odds_15, rX_odds_16, rX_odds_17, rX_odds_18, rX_odds_21, kX_isProgram, kX_refuse h, Bool.false_eq_true, true_implies, false_implies, implies_true, true_and, and_true, not_true_eq_false, not_false_eq_true, zPush_I, zPush_L, zPush_R, zPush_U, Int.reduceLT, Int.reduceLE, Int.reduceEq, Int.reduceNe, Int.reduceAdd, Int.reduceSub, Int.reduceMul, Int.reduceNeg, Int.reduceToNat, Nat.reduceAdd, Nat.reduceMul, Nat.reduceEqDiff, zw32_id, zw64_id, zupd_eq, zupd_na, zupd_ni, zupp_eq, zupp_na, zupp_ni, eq_true hg]
    refine cWeigh hc ok hsn (by decide) (by decide) (by omega) (by omega) (fun pp1 m hm hx => ?_)
    simp (disch := first | assumption | omega) only [rX_odds_0, rX_odds_1, rX_odds_4, rX_odds_7, rX_odds_8, rX_odds_9, rX_odds_11, rX_odds_14, rX_odds_15, rX_odds_16, rX_odds_17, rX_odds_18, rX_odds_21, Bool.false_eq_true, true_implies, false_implies, implies_true, true_and, and_true, not_true_eq_false, not_false_eq_true, zPush_I, zPush_L, zPush_R, zPush_U, Int.reduceLT, Int.reduceLE, Int.reduceEq, Int.reduceNe, Int.reduceAdd, Int.reduceSub, Int.reduceMul, Int.reduceNeg, Int.reduceToNat, Nat.reduceAdd, Nat.reduceMul, Nat.reduceEqDiff, zw32_id, zw64_id, zupd_eq, zupd_na, zupd_ni, zupp_eq, zupp_na, zupp_ni]
    exact hQ pp1 m hm hx
  · rw [if_neg hg] at hQ
    dsimp only at hQ
    have zq := cBadP hc (i := 0) (by decide) (by decide) (hQ pp)
    simp (disch := first | assumption | omega) only [rX_odds_0, rX_odds_1, rX_odds_4, rX_odds_7, rX_odds_8, rX_odds_9, rX_odds_11, rX_odds_14, rX_odds_15, rX_odds_16, rX_odds_17, rX_odds_18, rX_odds_21, kX_isProgram, kX_refuse h, Bool.false_eq_true, true_implies, false_implies, implies_true, true_and, and_true, not_true_eq_false, not_false_eq_true, zPush_I, zPush_L, zPush_R, zPush_U, Int.reduceLT, Int.reduceLE, Int.reduceEq, Int.reduceNe, Int.reduceAdd, Int.reduceSub, Int.reduceMul, Int.reduceNeg, Int.reduceToNat, Nat.reduceAdd, Nat.reduceMul, Nat.reduceEqDiff, zw32_id, zw64_id, zupd_eq, zupd_na, zupd_ni, zupp_eq, zupp_na, zupp_ni, eq_false hg]
    exact zq
theorem cShaken (hc : cOk f G cn N D sh pp mm) (ok : fOk f) (hsn : fSn f) (hQ : ∀ pp1 m, cOk f G (oShare f cn N D 1 0).1 (oShare f cn N D 1 0).2.1 (oShare f cn N D 1 0).2.2.1 sh pp1 m → frX sh mm sh m → Q (zI (oShare f cn N D 1 0).2.2.2) sh pp1 m) : zS 127 0 [zR 13] [] sh pp mm Q := by
  have h := hc.1
  have k13 := k_13 h
  simp (disch := first | assumption | omega) only [rX_shaken_0, rX_shaken_1, rX_shaken_2, rX_shaken_3, rX_shaken_6, Bool.false_eq_true, true_implies, false_implies, implies_true, true_and, and_true, not_true_eq_false, not_false_eq_true, zPush_I, zPush_L, zPush_R, zPush_U, Int.reduceLT, Int.reduceLE, Int.reduceEq, Int.reduceNe, Int.reduceAdd, Int.reduceSub, Int.reduceMul, Int.reduceNeg, Int.reduceToNat, Nat.reduceAdd, Nat.reduceMul, Nat.reduceEqDiff, zw32_id, zw64_id, zupd_eq, zupd_na, zupd_ni, zupp_eq, zupp_na, zupp_ni]
  refine cWeigh hc ok hsn (by decide) (by decide) (by decide) (by decide) (fun pp1 m hm hx => ?_)
  simp (disch := first | assumption | omega) only [rX_shaken_0, rX_shaken_1, rX_shaken_2, rX_shaken_3, rX_shaken_6, Bool.false_eq_true, true_implies, false_implies, implies_true, true_and, and_true, not_true_eq_false, not_false_eq_true, zPush_I, zPush_L, zPush_R, zPush_U, Int.reduceLT, Int.reduceLE, Int.reduceEq, Int.reduceNe, Int.reduceAdd, Int.reduceSub, Int.reduceMul, Int.reduceNeg, Int.reduceToNat, Nat.reduceAdd, Nat.reduceMul, Nat.reduceEqDiff, zw32_id, zw64_id, zupd_eq, zupd_na, zupd_ni, zupp_eq, zupp_na, zupp_ni]
  exact hQ pp1 m hm hx
theorem cBefore (hc : cOk f G cn N D sh pp mm) (ok : fOk f) (hsn : fSn f) {x y : Int} (hQ : ∀ pp1 m, cOk f G (oBefore f cn N D x y).1 (oBefore f cn N D x y).2.1 (oBefore f cn N D x y).2.2.1 sh pp1 m → frX sh mm sh m → Q (zI (oBefore f cn N D x y).2.2.2) sh pp1 m) : zS 128 0 [zR 13, zI x, zI y] [] sh pp mm Q := by
  have h := hc.1
  have k13 := k_13 h
  unfold oBefore at hQ
  by_cases hg : (0 ≤ x ∧ x ≤ 23) ∧ (0 ≤ y ∧ y ≤ 15)
  · rw [if_pos hg] at hQ
    simp (disch := first | assumption | omega) only [rX_before_0, rX_before_1, rX_before_2, rX_before_5, rX_before_8, rX_before_9, rX_before_10, rX_before_12, rX_before_15, rX_before_16, rX_before_17, rX_before_18, rX_before_19, rX_before_20, rX_before_23, rX_before_26, kX_isCell, kX_cellAt hg.1 hg.2, kX_refuse h, Bool.false_eq_true, true_implies, false_implies, implies_true, true_and, and_true, not_true_eq_false, not_false_eq_true, zPush_I, zPush_L, zPush_R, zPush_U, Int.reduceLT, Int.reduceLE, Int.reduceEq, Int.reduceNe, Int.reduceAdd, Int.reduceSub, Int.reduceMul, Int.reduceNeg, Int.reduceToNat, Nat.reduceAdd, Nat.reduceMul, Nat.reduceEqDiff, zw32_id, zw64_id, zupd_eq, zupd_na, zupd_ni, zupp_eq, zupp_na, zupp_ni, eq_true hg]
    refine cWeigh hc ok hsn (by decide) (by decide) (by omega) (by omega) (fun pp1 m hm hx => ?_)
    simp (disch := first | assumption | omega) only [rX_before_0, rX_before_1, rX_before_2, rX_before_5, rX_before_8, rX_before_9, rX_before_10, rX_before_12, rX_before_15, rX_before_16, rX_before_17, rX_before_18, rX_before_19, rX_before_20, rX_before_23, rX_before_26, Bool.false_eq_true, true_implies, false_implies, implies_true, true_and, and_true, not_true_eq_false, not_false_eq_true, zPush_I, zPush_L, zPush_R, zPush_U, Int.reduceLT, Int.reduceLE, Int.reduceEq, Int.reduceNe, Int.reduceAdd, Int.reduceSub, Int.reduceMul, Int.reduceNeg, Int.reduceToNat, Nat.reduceAdd, Nat.reduceMul, Nat.reduceEqDiff, zw32_id, zw64_id, zupd_eq, zupd_na, zupd_ni, zupp_eq, zupp_na, zupp_ni]
    exact hQ pp1 m hm hx
  · rw [if_neg hg] at hQ
    dsimp only at hQ
    have zq := cBadP hc (i := 0) (by decide) (by decide) (hQ pp)
    simp (disch := first | assumption | omega) only [rX_before_0, rX_before_1, rX_before_2, rX_before_5, rX_before_8, rX_before_9, rX_before_10, rX_before_12, rX_before_15, rX_before_16, rX_before_17, rX_before_18, rX_before_19, rX_before_20, rX_before_23, rX_before_26, kX_isCell, kX_refuse h, Bool.false_eq_true, true_implies, false_implies, implies_true, true_and, and_true, not_true_eq_false, not_false_eq_true, zPush_I, zPush_L, zPush_R, zPush_U, Int.reduceLT, Int.reduceLE, Int.reduceEq, Int.reduceNe, Int.reduceAdd, Int.reduceSub, Int.reduceMul, Int.reduceNeg, Int.reduceToNat, Nat.reduceAdd, Nat.reduceMul, Nat.reduceEqDiff, zw32_id, zw64_id, zupd_eq, zupd_na, zupd_ni, zupp_eq, zupp_na, zupp_ni, eq_false hg]
    exact zq
end
