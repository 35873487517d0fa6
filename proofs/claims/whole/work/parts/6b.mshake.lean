/-! ===== the reference shakes, starts a plate ===== -/
section
variable {sh : zSh} {pp : zPp} {mm : zMm} {Q : zV → zSh → zPp → zMm → Prop} {P : zPl}
def shC (f : Int) (dr : Int → Int) (here c i : Int) : Int := if i < c then pShk f dr here i else dr i
def pDr (x : Nat) (_ : Int) : Prop := x = 132
theorem shC_st {f here c : Int} {dr : Int → Int} {m : zMm} {v : Int} (hm : ∀ i, 0 ≤ i → i < 384 → m 132 i = shC f dr here c i) (hv : v = pShk f dr here c) : ∀ i, 0 ≤ i → i < 384 → zupd m 132 c v 132 i = shC f dr here (c + 1) i := by
  intro i i0 i1
  have h := hm i i0 i1
  by_cases e : i = c
  · subst e
    rw [zupd_eq, hv]
    unfold shC
    rw [if_pos (by omega)]
  · rw [zupd_ni e, h]
    unfold shC
    by_cases e2 : i < c
    · rw [if_pos e2, if_pos (by omega)]
    · rw [if_neg e2, if_neg (by omega)]
theorem mShake1 (h : zLy sh pp) {f : Int} (f0 : 0 ≤ f ∧ f ≤ 2) (hok : pOk P) {y : Int} (y0 : 0 ≤ y) (y1 : y < 16) (h130 : mm 130 0 = P.1 0 ∧ mm 130 1 = P.2.1 0) (hz : ∀ m, (∀ i, 0 ≤ i → i < 384 → m 132 i = shC f P.2.2.1 (pHere P) (24 * y + 24) i) → frP pDr mm m → zS 194 73 [zR 122, zI f, zI y, zU, zU] [] sh pp m Q) : ∀ x, 0 ≤ x → x ≤ 24 → ∀ m, (∀ i, 0 ≤ i → i < 384 → m 132 i = shC f P.2.2.1 (pHere P) (24 * y + x) i) → frP pDr mm m → zS 194 10 [zR 122, zI f, zI y, zI x, zU] [] sh pp m Q := by
  have k122 := k_122 h
  have k130 := k_130 h
  have l130 := l_130 h
  have p130 := p_122_16 h
  have k132 := k_132 h
  have l132 := l_132 h
  have p132 := p_122_18 h
  have hH := pHere_bd hok
  obtain ⟨q1, q2, q3, q4, q5⟩ := hok
  unfold kOk at q1 q2
  have hh : 24 * P.2.1 0 + P.1 0 = pHere P := rfl
  refine zdn ?_ ?_
  · intro m hm hf
    rw [rM_shake_10]
    simp (disch := first | assumption | omega) only [rM_shake_11, rM_shake_13, rM_shake_16, rM_shake_18, rM_shake_19, rM_shake_20, rM_shake_21, rM_shake_22, rM_shake_24, rM_shake_25, rM_shake_28, rM_shake_30, rM_shake_31, rM_shake_34, rM_shake_36, rM_shake_37, rM_shake_40, rM_shake_41, rM_shake_42, rM_shake_43, rM_shake_44, rM_shake_45, rM_shake_46, rM_shake_47, rM_shake_48, rM_shake_49, rM_shake_52, rM_shake_54, rM_shake_55, rM_shake_58, rM_shake_61, rM_shake_62, rM_shake_65, rM_shake_66, rM_shake_67, rM_shake_70, Bool.false_eq_true, true_implies, false_implies, implies_true, true_and, and_true, not_true_eq_false, not_false_eq_true, zPush_I, zPush_L, zPush_R, zPush_U, Int.reduceLT, Int.reduceLE, Int.reduceEq, Int.reduceNe, Int.reduceAdd, Int.reduceSub, Int.reduceMul, Int.reduceNeg, Int.reduceToNat, Nat.reduceAdd, Nat.reduceMul, Nat.reduceEqDiff, zw32_id, zw64_id, zupd_eq, zupd_na, zupd_ni, zupp_eq, zupp_na, zupp_ni]
    exact hz m hm hf
  · intro x x0 x1 ih m hm hf
    have hv := hm (24 * y + x) (by omega) (by omega)
    have hv2 : m 132 (24 * y + x) = P.2.2.1 (24 * y + x) := by rw [hv]; unfold shC; rw [if_neg (by omega)]
    have t0 : m 130 0 = P.1 0 := by rw [hf 130 0 (by unfold pDr; omega)]; exact h130.1
    have t1 : m 130 1 = P.2.1 0 := by rw [hf 130 1 (by unfold pDr; omega)]; exact h130.2
    have nx : ∀ v, v = pShk f P.2.2.1 (pHere P) (24 * y + x) → zS 194 10 [zR 122, zI f, zI y, zI (x + 1), zU] [] sh pp (zupd m 132 (24 * y + x) v) Q := fun v hv => ih _ (by rw [← Int.add_assoc]; exact shC_st hm hv) (frP_up hf rfl)
    have hsp : pShk f P.2.2.1 (pHere P) (24 * y + x) = if (x + 2 * y + f) % 3 = 0 ∧ 24 * y + x ≠ pHere P then 0 else P.2.2.1 (24 * y + x) := by
      unfold pShk
      rw [show (24 * y + x) % 24 = x by omega, show (24 * y + x) / 24 = y by omega]
    have htm : (x + 2 * y + f).tmod 3 = (x + 2 * y + f) % 3 := Int.tmod_eq_emod_of_nonneg (by omega)
    rw [rM_shake_10]
    rcases q4 (24 * y + x) with d0 | d0
    · rw [d0] at hv2
      simp (disch := first | assumption | omega) only [rM_shake_11, rM_shake_13, rM_shake_16, rM_shake_18, rM_shake_19, rM_shake_20, rM_shake_21, rM_shake_22, rM_shake_24, rM_shake_25, rM_shake_28, rM_shake_30, rM_shake_31, rM_shake_34, rM_shake_36, rM_shake_37, rM_shake_40, rM_shake_41, rM_shake_42, rM_shake_43, rM_shake_44, rM_shake_45, rM_shake_46, rM_shake_47, rM_shake_48, rM_shake_49, rM_shake_52, rM_shake_54, rM_shake_55, rM_shake_58, rM_shake_61, rM_shake_62, rM_shake_65, rM_shake_66, rM_shake_67, rM_shake_70, Bool.false_eq_true, true_implies, false_implies, implies_true, true_and, and_true, not_true_eq_false, not_false_eq_true, zPush_I, zPush_L, zPush_R, zPush_U, Int.reduceLT, Int.reduceLE, Int.reduceEq, Int.reduceNe, Int.reduceAdd, Int.reduceSub, Int.reduceMul, Int.reduceNeg, Int.reduceToNat, Nat.reduceAdd, Nat.reduceMul, Nat.reduceEqDiff, zw32_id, zw64_id, zupd_eq, zupd_na, zupd_ni, zupp_eq, zupp_na, zupp_ni, p132, hv2, x1]
      exact nx 0 (by rw [hsp, d0]; simp)
    · rw [d0] at hv2
      by_cases c1 : (x + 2 * y + f) % 3 = 0
      · by_cases c2 : 24 * y + x = pHere P
        · simp (disch := first | assumption | omega) only [rM_shake_11, rM_shake_13, rM_shake_16, rM_shake_18, rM_shake_19, rM_shake_20, rM_shake_21, rM_shake_22, rM_shake_24, rM_shake_25, rM_shake_28, rM_shake_30, rM_shake_31, rM_shake_34, rM_shake_36, rM_shake_37, rM_shake_40, rM_shake_41, rM_shake_42, rM_shake_43, rM_shake_44, rM_shake_45, rM_shake_46, rM_shake_47, rM_shake_48, rM_shake_49, rM_shake_52, rM_shake_54, rM_shake_55, rM_shake_58, rM_shake_61, rM_shake_62, rM_shake_65, rM_shake_66, rM_shake_67, rM_shake_70, rM_place_0, rM_place_2, rM_place_3, rM_place_6, rM_place_7, rM_place_8, rM_place_9, rM_place_10, rM_place_13, rM_place_14, rM_place_15, rM_place_16, Bool.false_eq_true, true_implies, false_implies, implies_true, true_and, and_true, not_true_eq_false, not_false_eq_true, zPush_I, zPush_L, zPush_R, zPush_U, Int.reduceLT, Int.reduceLE, Int.reduceEq, Int.reduceNe, Int.reduceAdd, Int.reduceSub, Int.reduceMul, Int.reduceNeg, Int.reduceToNat, Nat.reduceAdd, Nat.reduceMul, Nat.reduceEqDiff, zw32_id, zw64_id, zupd_eq, zupd_na, zupd_ni, zupp_eq, zupp_na, zupp_ni, p132, p130, hv2, x1, htm, c1, t0, t1, hh, eq_true c2]
          exact nx 1 (by rw [hsp, d0, if_neg (fun hc => hc.2 c2)])
        · simp (disch := first | assumption | omega) only [rM_shake_11, rM_shake_13, rM_shake_16, rM_shake_18, rM_shake_19, rM_shake_20, rM_shake_21, rM_shake_22, rM_shake_24, rM_shake_25, rM_shake_28, rM_shake_30, rM_shake_31, rM_shake_34, rM_shake_36, rM_shake_37, rM_shake_40, rM_shake_41, rM_shake_42, rM_shake_43, rM_shake_44, rM_shake_45, rM_shake_46, rM_shake_47, rM_shake_48, rM_shake_49, rM_shake_52, rM_shake_54, rM_shake_55, rM_shake_58, rM_shake_61, rM_shake_62, rM_shake_65, rM_shake_66, rM_shake_67, rM_shake_70, rM_place_0, rM_place_2, rM_place_3, rM_place_6, rM_place_7, rM_place_8, rM_place_9, rM_place_10, rM_place_13, rM_place_14, rM_place_15, rM_place_16, Bool.false_eq_true, true_implies, false_implies, implies_true, true_and, and_true, not_true_eq_false, not_false_eq_true, zPush_I, zPush_L, zPush_R, zPush_U, Int.reduceLT, Int.reduceLE, Int.reduceEq, Int.reduceNe, Int.reduceAdd, Int.reduceSub, Int.reduceMul, Int.reduceNeg, Int.reduceToNat, Nat.reduceAdd, Nat.reduceMul, Nat.reduceEqDiff, zw32_id, zw64_id, zupd_eq, zupd_na, zupd_ni, zupp_eq, zupp_na, zupp_ni, p132, p130, hv2, x1, htm, c1, t0, t1, hh, c2]
          exact nx 0 (by rw [hsp, if_pos ⟨c1, c2⟩])
      · simp (disch := first | assumption | omega) only [rM_shake_11, rM_shake_13, rM_shake_16, rM_shake_18, rM_shake_19, rM_shake_20, rM_shake_21, rM_shake_22, rM_shake_24, rM_shake_25, rM_shake_28, rM_shake_30, rM_shake_31, rM_shake_34, rM_shake_36, rM_shake_37, rM_shake_40, rM_shake_41, rM_shake_42, rM_shake_43, rM_shake_44, rM_shake_45, rM_shake_46, rM_shake_47, rM_shake_48, rM_shake_49, rM_shake_52, rM_shake_54, rM_shake_55, rM_shake_58, rM_shake_61, rM_shake_62, rM_shake_65, rM_shake_66, rM_shake_67, rM_shake_70, rM_place_0, rM_place_2, rM_place_3, rM_place_6, rM_place_7, rM_place_8, rM_place_9, rM_place_10, rM_place_13, rM_place_14, rM_place_15, rM_place_16, Bool.false_eq_true, true_implies, false_implies, implies_true, true_and, and_true, not_true_eq_false, not_false_eq_true, zPush_I, zPush_L, zPush_R, zPush_U, Int.reduceLT, Int.reduceLE, Int.reduceEq, Int.reduceNe, Int.reduceAdd, Int.reduceSub, Int.reduceMul, Int.reduceNeg, Int.reduceToNat, Nat.reduceAdd, Nat.reduceMul, Nat.reduceEqDiff, zw32_id, zw64_id, zupd_eq, zupd_na, zupd_ni, zupp_eq, zupp_na, zupp_ni, p132, p130, hv2, x1, htm, c1]
        exact nx 1 (by rw [hsp, d0, if_neg (fun hc => c1 hc.1)])
theorem mShake (h : zLy sh pp) (hk : mPk P mm) {f : Int} (f0 : 0 ≤ f ∧ f ≤ 2) (hok : pOk P) (hQ : ∀ m, mPk (pShake f P) m → frP pDr mm m → Q zU sh pp m) : zS 194 0 [zR 122, zI f, zU, zU, zU] [] sh pp mm Q := by
  have key : ∀ y, 0 ≤ y → y ≤ 16 → ∀ m, (∀ i, 0 ≤ i → i < 384 → m 132 i = shC f P.2.2.1 (pHere P) (24 * y) i) → frP pDr mm m → zS 194 2 [zR 122, zI f, zI y, zU, zU] [] sh pp m Q := by
    refine zdn ?_ ?_
    · intro m hm hf
      rw [rM_shake_2]
      simp (disch := first | assumption | omega) only [rM_shake_3, rM_shake_5, rM_shake_8, rM_shake_9, rM_shake_73, rM_shake_76, rM_shake_79, Bool.false_eq_true, true_implies, false_implies, implies_true, true_and, and_true, not_true_eq_false, not_false_eq_true, zPush_I, zPush_L, zPush_R, zPush_U, Int.reduceLT, Int.reduceLE, Int.reduceEq, Int.reduceNe, Int.reduceAdd, Int.reduceSub, Int.reduceMul, Int.reduceNeg, Int.reduceToNat, Nat.reduceAdd, Nat.reduceMul, Nat.reduceEqDiff, zw32_id, zw64_id, zupd_eq, zupd_na, zupd_ni, zupp_eq, zupp_na, zupp_ni]
      refine hQ m ?_ hf
      unfold mPk at hk ⊢
      obtain ⟨x1, x2, x3, x4, x5, x6⟩ := hk
      have g : ∀ a j, a ≠ 132 → m a j = mm a j := fun a j ha => hf a j (by unfold pDr; omega)
      rw [g 129 0 (by decide), g 129 1 (by decide), g 130 0 (by decide), g 130 1 (by decide), g 131 0 (by decide), g 131 1 (by decide), g 122 20 (by decide), g 122 21 (by decide), g 122 22 (by decide), g 122 23 (by decide), g 122 24 (by decide)]
      refine ⟨x1, x2, x3, fun i i0 i1 => ?_, fun i i0 i1 => by rw [g 133 i (by decide)]; exact x5 i i0 i1, x6⟩
      rw [hm i i0 i1]
      show shC f P.2.2.1 (pHere P) (24 * 16) i = pShk f P.2.2.1 (pHere P) i
      unfold shC
      rw [if_pos (by omega)]
    · intro y y0 y1 ih m hm hf
      rw [rM_shake_2]
      simp (disch := first | assumption | omega) only [rM_shake_3, rM_shake_5, rM_shake_8, rM_shake_9, Bool.false_eq_true, true_implies, false_implies, implies_true, true_and, and_true, not_true_eq_false, not_false_eq_true, zPush_I, zPush_L, zPush_R, zPush_U, Int.reduceLT, Int.reduceLE, Int.reduceEq, Int.reduceNe, Int.reduceAdd, Int.reduceSub, Int.reduceMul, Int.reduceNeg, Int.reduceToNat, Nat.reduceAdd, Nat.reduceMul, Nat.reduceEqDiff, zw32_id, zw64_id, zupd_eq, zupd_na, zupd_ni, zupp_eq, zupp_na, zupp_ni, show ¬ (16 : Int) ≤ y by omega, y1]
      have g : ∀ a j, a ≠ 132 → m a j = mm a j := fun a j ha => hf a j (by unfold pDr; omega)
      refine mShake1 (mm := m) h f0 hok y0 y1 ⟨by rw [g 130 0 (by decide)]; exact hk.2.1.1, by rw [g 130 1 (by decide)]; exact hk.2.1.2⟩ (fun m2 hm2 hf2 => ?_) 0 (by decide) (by decide) m (by rw [Int.add_zero]; exact hm) (frP_rf _ _)
      simp (disch := first | assumption | omega) only [rM_shake_73, rM_shake_76, Bool.false_eq_true, true_implies, false_implies, implies_true, true_and, and_true, not_true_eq_false, not_false_eq_true, zPush_I, zPush_L, zPush_R, zPush_U, Int.reduceLT, Int.reduceLE, Int.reduceEq, Int.reduceNe, Int.reduceAdd, Int.reduceSub, Int.reduceMul, Int.reduceNeg, Int.reduceToNat, Nat.reduceAdd, Nat.reduceMul, Nat.reduceEqDiff, zw32_id, zw64_id, zupd_eq, zupd_na, zupd_ni, zupp_eq, zupp_na, zupp_ni]
      exact ih m2 (by rw [show 24 * (y + 1) = 24 * y + 24 by omega]; exact hm2) (frP_tr hf hf2)
  simp (disch := first | assumption | omega) only [rM_shake_0, rM_shake_1, Bool.false_eq_true, true_implies, false_implies, implies_true, true_and, and_true, not_true_eq_false, not_false_eq_true, zPush_I, zPush_L, zPush_R, zPush_U, Int.reduceLT, Int.reduceLE, Int.reduceEq, Int.reduceNe, Int.reduceAdd, Int.reduceSub, Int.reduceMul, Int.reduceNeg, Int.reduceToNat, Nat.reduceAdd, Nat.reduceMul, Nat.reduceEqDiff, zw32_id, zw64_id, zupd_eq, zupd_na, zupd_ni, zupp_eq, zupp_na, zupp_ni]
  exact key 0 (by decide) (by decide) mm (fun i i0 i1 => by rw [hk.2.2.2.1 i i0 i1]; unfold shC; rw [if_neg (by omega)]) (frP_rf _ _)
def kBeg (st pl rm : Int) : Int → Int := fun j => if j = 0 then st else if j = 5 then pl else if j = 7 then rm else 0
def pBeg (f : Int → Int) : zPl := pMark (kBeg (f 2) (f 0) 23, kBeg (f 3) (f 1) 15, fun _ => 0, fun _ => 0, 0)
theorem pBeg_ok {f : Int → Int} (hf : fOk f) : pOk (pBeg f) := by
  have n := hf.1
  have n0 := n 0 (by decide) (by decide)
  have n1 := n 1 (by decide) (by decide)
  have n2 := n 2 (by decide) (by decide)
  have n3 := n 3 (by decide) (by decide)
  simp [loN, hiN] at n0 n1 n2 n3
  refine ⟨?_, ?_, by show (0 : Int) ≤ 0; decide, fun i => ?_, ?_⟩
  · show kOk (kBeg (f 2) (f 0) 23) 23 0
    unfold kOk kBeg
    simp
    omega
  · show kOk (kBeg (f 3) (f 1) 15) 15 0
    unfold kOk kBeg
    simp
    omega
  · show fup (fun _ => 0) _ 1 i = 0 ∨ fup (fun _ => 0) _ 1 i = 1
    unfold fup
    split <;> simp
  · exact fup_eq _ _ _
def pSp (x : Nat) (j : Int) : Prop := (129 ≤ x ∧ x ≤ 133) ∨ (x = 122 ∧ 20 ≤ j ∧ j ≤ 26)
theorem mStart (h : zLy sh pp) {f : Int → Int} (hf : fOk f) (hm : ∀ k, 0 ≤ k → k < 986 → mm 123 k = f k) (hQ : ∀ m, mPk (pBeg f) m → m 122 25 = 0 → m 122 26 = 0 → frP pSp mm m → Q zU sh pp m) : zS 195 0 [zR 122, zU] [] sh pp mm Q := by
  have k122 := k_122 h
  have k129 := k_129 h
  have l129 := l_129 h
  have p129 := p_122_15 h
  have k130 := k_130 h
  have l130 := l_130 h
  have p130 := p_122_16 h
  have k131 := k_131 h
  have l131 := l_131 h
  have p131 := p_122_17 h
  have k132 := k_132 h
  have l132 := l_132 h
  have p132 := p_122_18 h
  have k133 := k_133 h
  have l133 := l_133 h
  have p133 := p_122_19 h
  have k123 := k_123 h
  have l123 := l_123 h
  have p123 := p_122_0 h
  have n := hf.1
  have n2 := n 2 (by decide) (by decide)
  have n3 := n 3 (by decide) (by decide)
  simp [loN, hiN] at n2 n3
  have key : ∀ i, 0 ≤ i → i ≤ 384 → ∀ m, (∀ k, 0 ≤ k → k < i → m 132 k = 0) → frP pDr mm m → zS 195 2 [zR 122, zI i] [] sh pp m Q := by
    refine zdn ?_ ?_
    · intro m hm0 hfr
      have g2 : m 123 2 = f 2 := by rw [hfr 123 2 (by unfold pDr; omega)]; exact hm 2 (by decide) (by decide)
      have g3 : m 123 3 = f 3 := by rw [hfr 123 3 (by unfold pDr; omega)]; exact hm 3 (by decide) (by decide)
      rw [rM_startPlate_2]
      simp (disch := first | assumption | omega) only [rM_startPlate_0, rM_startPlate_1, rM_startPlate_3, rM_startPlate_6, rM_startPlate_9, rM_startPlate_10, rM_startPlate_13, rM_startPlate_14, rM_startPlate_15, rM_startPlate_16, rM_startPlate_19, rM_startPlate_22, rM_startPlate_23, rM_startPlate_25, rM_startPlate_26, rM_startPlate_29, rM_startPlate_30, rM_startPlate_33, rM_startPlate_34, rM_startPlate_35, rM_startPlate_36, rM_startPlate_37, rM_startPlate_40, rM_startPlate_41, rM_startPlate_42, rM_startPlate_43, rM_startPlate_44, rM_startPlate_45, rM_startPlate_48, rM_startPlate_49, rM_startPlate_50, rM_startPlate_53, rM_startPlate_54, rM_startPlate_55, rM_startPlate_56, rM_startPlate_59, rM_startPlate_62, rM_startPlate_63, rM_startPlate_64, rM_startPlate_67, rM_startPlate_68, rM_startPlate_69, rM_startPlate_72, rM_startPlate_73, rM_startPlate_74, rM_startPlate_77, rM_startPlate_78, rM_startPlate_79, rM_startPlate_82, rM_startPlate_83, rM_startPlate_84, rM_startPlate_87, rM_startPlate_88, rM_startPlate_89, rM_startPlate_92, rM_startPlate_93, rM_startPlate_94, rM_startPlate_97, rM_startPlate_98, rM_startPlate_101, rM_startPlate_102, rM_startPlate_105, rM_startPlate_106, rM_startPlate_107, rM_startPlate_108, rM_startPlate_111, rM_startPlate_112, rM_startPlate_113, rM_startPlate_116, rM_startPlate_117, rM_startPlate_24, rM_of_0, rM_of_1, rM_of_4, rM_of_5, rM_of_6, rM_of_7, rM_of_8, rM_place_0, rM_place_2, rM_place_3, rM_place_6, rM_place_7, rM_place_8, rM_place_9, rM_place_10, rM_place_13, rM_place_14, rM_place_15, rM_place_16, Bool.false_eq_true, true_implies, false_implies, implies_true, true_and, and_true, not_true_eq_false, not_false_eq_true, zPush_I, zPush_L, zPush_R, zPush_U, Int.reduceLT, Int.reduceLE, Int.reduceEq, Int.reduceNe, Int.reduceAdd, Int.reduceSub, Int.reduceMul, Int.reduceNeg, Int.reduceToNat, Nat.reduceAdd, Nat.reduceMul, Nat.reduceEqDiff, zw32_id, zw64_id, zupd_eq, zupd_na, zupd_ni, zupp_eq, zupp_na, zupp_ni, p129, p130, p131, p132, p133, p123, g2, g3]
      refine hQ _ ⟨?_, ?_, ?_, fun i i0 i1 => ?_, fun i i0 i1 => ?_, ?_, ?_, ?_, ?_, ?_⟩ ?_ ?_ ?_
      · simp (disch := first | assumption | omega) only [Bool.false_eq_true, true_implies, false_implies, implies_true, true_and, and_true, not_true_eq_false, not_false_eq_true, zPush_I, zPush_L, zPush_R, zPush_U, Int.reduceLT, Int.reduceLE, Int.reduceEq, Int.reduceNe, Int.reduceAdd, Int.reduceSub, Int.reduceMul, Int.reduceNeg, Int.reduceToNat, Nat.reduceAdd, Nat.reduceMul, Nat.reduceEqDiff, zw32_id, zw64_id, zupd_eq, zupd_na, zupd_ni, zupp_eq, zupp_na, zupp_ni]; exact ⟨rfl, rfl⟩
      · simp (disch := first | assumption | omega) only [Bool.false_eq_true, true_implies, false_implies, implies_true, true_and, and_true, not_true_eq_false, not_false_eq_true, zPush_I, zPush_L, zPush_R, zPush_U, Int.reduceLT, Int.reduceLE, Int.reduceEq, Int.reduceNe, Int.reduceAdd, Int.reduceSub, Int.reduceMul, Int.reduceNeg, Int.reduceToNat, Nat.reduceAdd, Nat.reduceMul, Nat.reduceEqDiff, zw32_id, zw64_id, zupd_eq, zupd_na, zupd_ni, zupp_eq, zupp_na, zupp_ni]; exact ⟨rfl, rfl⟩
      · simp (disch := first | assumption | omega) only [Bool.false_eq_true, true_implies, false_implies, implies_true, true_and, and_true, not_true_eq_false, not_false_eq_true, zPush_I, zPush_L, zPush_R, zPush_U, Int.reduceLT, Int.reduceLE, Int.reduceEq, Int.reduceNe, Int.reduceAdd, Int.reduceSub, Int.reduceMul, Int.reduceNeg, Int.reduceToNat, Nat.reduceAdd, Nat.reduceMul, Nat.reduceEqDiff, zw32_id, zw64_id, zupd_eq, zupd_na, zupd_ni, zupp_eq, zupp_na, zupp_ni]; exact ⟨rfl, rfl⟩
      · show _ = fup (fun _ => 0) (24 * f 3 + f 2) 1 i
        unfold fup
        by_cases e : i = 24 * f 3 + f 2
        · rw [if_pos e, e]; simp (disch := first | assumption | omega) only [Bool.false_eq_true, true_implies, false_implies, implies_true, true_and, and_true, not_true_eq_false, not_false_eq_true, zPush_I, zPush_L, zPush_R, zPush_U, Int.reduceLT, Int.reduceLE, Int.reduceEq, Int.reduceNe, Int.reduceAdd, Int.reduceSub, Int.reduceMul, Int.reduceNeg, Int.reduceToNat, Nat.reduceAdd, Nat.reduceMul, Nat.reduceEqDiff, zw32_id, zw64_id, zupd_eq, zupd_na, zupd_ni, zupp_eq, zupp_na, zupp_ni]
        · rw [if_neg e]; simp (disch := first | assumption | omega) only [Bool.false_eq_true, true_implies, false_implies, implies_true, true_and, and_true, not_true_eq_false, not_false_eq_true, zPush_I, zPush_L, zPush_R, zPush_U, Int.reduceLT, Int.reduceLE, Int.reduceEq, Int.reduceNe, Int.reduceAdd, Int.reduceSub, Int.reduceMul, Int.reduceNeg, Int.reduceToNat, Nat.reduceAdd, Nat.reduceMul, Nat.reduceEqDiff, zw32_id, zw64_id, zupd_eq, zupd_na, zupd_ni, zupp_eq, zupp_na, zupp_ni, e]; exact hm0 i i0 i1
      · have e : i = 0 := by have : i ≤ 0 := i1; omega
        subst e
        simp (disch := first | assumption | omega) only [Bool.false_eq_true, true_implies, false_implies, implies_true, true_and, and_true, not_true_eq_false, not_false_eq_true, zPush_I, zPush_L, zPush_R, zPush_U, Int.reduceLT, Int.reduceLE, Int.reduceEq, Int.reduceNe, Int.reduceAdd, Int.reduceSub, Int.reduceMul, Int.reduceNeg, Int.reduceToNat, Nat.reduceAdd, Nat.reduceMul, Nat.reduceEqDiff, zw32_id, zw64_id, zupd_eq, zupd_na, zupd_ni, zupp_eq, zupp_na, zupp_ni]
        show _ = fup (fun _ => 0) 0 (24 * f 3 + f 2) 0
        rw [fup_eq]
      · simp (disch := first | assumption | omega) only [Bool.false_eq_true, true_implies, false_implies, implies_true, true_and, and_true, not_true_eq_false, not_false_eq_true, zPush_I, zPush_L, zPush_R, zPush_U, Int.reduceLT, Int.reduceLE, Int.reduceEq, Int.reduceNe, Int.reduceAdd, Int.reduceSub, Int.reduceMul, Int.reduceNeg, Int.reduceToNat, Nat.reduceAdd, Nat.reduceMul, Nat.reduceEqDiff, zw32_id, zw64_id, zupd_eq, zupd_na, zupd_ni, zupp_eq, zupp_na, zupp_ni]; rfl
      · simp (disch := first | assumption | omega) only [Bool.false_eq_true, true_implies, false_implies, implies_true, true_and, and_true, not_true_eq_false, not_false_eq_true, zPush_I, zPush_L, zPush_R, zPush_U, Int.reduceLT, Int.reduceLE, Int.reduceEq, Int.reduceNe, Int.reduceAdd, Int.reduceSub, Int.reduceMul, Int.reduceNeg, Int.reduceToNat, Nat.reduceAdd, Nat.reduceMul, Nat.reduceEqDiff, zw32_id, zw64_id, zupd_eq, zupd_na, zupd_ni, zupp_eq, zupp_na, zupp_ni]; rfl
      · simp (disch := first | assumption | omega) only [Bool.false_eq_true, true_implies, false_implies, implies_true, true_and, and_true, not_true_eq_false, not_false_eq_true, zPush_I, zPush_L, zPush_R, zPush_U, Int.reduceLT, Int.reduceLE, Int.reduceEq, Int.reduceNe, Int.reduceAdd, Int.reduceSub, Int.reduceMul, Int.reduceNeg, Int.reduceToNat, Nat.reduceAdd, Nat.reduceMul, Nat.reduceEqDiff, zw32_id, zw64_id, zupd_eq, zupd_na, zupd_ni, zupp_eq, zupp_na, zupp_ni]; rfl
      · simp (disch := first | assumption | omega) only [Bool.false_eq_true, true_implies, false_implies, implies_true, true_and, and_true, not_true_eq_false, not_false_eq_true, zPush_I, zPush_L, zPush_R, zPush_U, Int.reduceLT, Int.reduceLE, Int.reduceEq, Int.reduceNe, Int.reduceAdd, Int.reduceSub, Int.reduceMul, Int.reduceNeg, Int.reduceToNat, Nat.reduceAdd, Nat.reduceMul, Nat.reduceEqDiff, zw32_id, zw64_id, zupd_eq, zupd_na, zupd_ni, zupp_eq, zupp_na, zupp_ni]; rfl
      · simp (disch := first | assumption | omega) only [Bool.false_eq_true, true_implies, false_implies, implies_true, true_and, and_true, not_true_eq_false, not_false_eq_true, zPush_I, zPush_L, zPush_R, zPush_U, Int.reduceLT, Int.reduceLE, Int.reduceEq, Int.reduceNe, Int.reduceAdd, Int.reduceSub, Int.reduceMul, Int.reduceNeg, Int.reduceToNat, Nat.reduceAdd, Nat.reduceMul, Nat.reduceEqDiff, zw32_id, zw64_id, zupd_eq, zupd_na, zupd_ni, zupp_eq, zupp_na, zupp_ni]; rfl
      · simp (disch := first | assumption | omega) only [Bool.false_eq_true, true_implies, false_implies, implies_true, true_and, and_true, not_true_eq_false, not_false_eq_true, zPush_I, zPush_L, zPush_R, zPush_U, Int.reduceLT, Int.reduceLE, Int.reduceEq, Int.reduceNe, Int.reduceAdd, Int.reduceSub, Int.reduceMul, Int.reduceNeg, Int.reduceToNat, Nat.reduceAdd, Nat.reduceMul, Nat.reduceEqDiff, zw32_id, zw64_id, zupd_eq, zupd_na, zupd_ni, zupp_eq, zupp_na, zupp_ni]
      · simp (disch := first | assumption | omega) only [Bool.false_eq_true, true_implies, false_implies, implies_true, true_and, and_true, not_true_eq_false, not_false_eq_true, zPush_I, zPush_L, zPush_R, zPush_U, Int.reduceLT, Int.reduceLE, Int.reduceEq, Int.reduceNe, Int.reduceAdd, Int.reduceSub, Int.reduceMul, Int.reduceNeg, Int.reduceToNat, Nat.reduceAdd, Nat.reduceMul, Nat.reduceEqDiff, zw32_id, zw64_id, zupd_eq, zupd_na, zupd_ni, zupp_eq, zupp_na, zupp_ni]
      · have hfr2 : frP pSp mm m := frP_wd hfr (fun x j hj => by unfold pDr at hj; unfold pSp; omega)
        repeat (first | exact hfr2 | refine frP_up ?_ (by unfold pSp; omega))
    · intro i i0 i1 ih m hm0 hfr
      rw [rM_startPlate_2]
      simp (disch := first | assumption | omega) only [rM_startPlate_3, rM_startPlate_6, rM_startPlate_9, rM_startPlate_10, rM_startPlate_13, rM_startPlate_14, rM_startPlate_15, rM_startPlate_16, rM_startPlate_19, Bool.false_eq_true, true_implies, false_implies, implies_true, true_and, and_true, not_true_eq_false, not_false_eq_true, zPush_I, zPush_L, zPush_R, zPush_U, Int.reduceLT, Int.reduceLE, Int.reduceEq, Int.reduceNe, Int.reduceAdd, Int.reduceSub, Int.reduceMul, Int.reduceNeg, Int.reduceToNat, Nat.reduceAdd, Nat.reduceMul, Nat.reduceEqDiff, zw32_id, zw64_id, zupd_eq, zupd_na, zupd_ni, zupp_eq, zupp_na, zupp_ni, p132, i1]
      refine ih _ (fun k k0 k1 => ?_) (frP_up hfr rfl)
      by_cases e : k = i
      · rw [e, zupd_eq]
      · rw [zupd_ni e]; exact hm0 k k0 (by omega)
  simp (disch := first | assumption | omega) only [rM_startPlate_0, rM_startPlate_1, Bool.false_eq_true, true_implies, false_implies, implies_true, true_and, and_true, not_true_eq_false, not_false_eq_true, zPush_I, zPush_L, zPush_R, zPush_U, Int.reduceLT, Int.reduceLE, Int.reduceEq, Int.reduceNe, Int.reduceAdd, Int.reduceSub, Int.reduceMul, Int.reduceNeg, Int.reduceToNat, Nat.reduceAdd, Nat.reduceMul, Nat.reduceEqDiff, zw32_id, zw64_id, zupd_eq, zupd_na, zupd_ni, zupp_eq, zupp_na, zupp_ni]
  exact key 0 (by decide) (by decide) mm (fun k k0 k1 => by omega) (frP_rf _ _)
end
