/-! ===== nets of the class: learn ===== -/
def ntF (x : Nat) (_ : Int) : Prop := 38 ≤ x ∧ x ≤ 45
section
variable {sh : zSh} {pp : zPp} {mm : zMm} {Q : zV → zSh → zPp → zMm → Prop} {f : Int → Int} {G : Int → Option (Int → Int)} {cn : Int → Int} {N D : Nat}
theorem kN_all (h : zLy sh pp) (ok : fOk f) (h3 : mm 38 3 = (nE f : Int)) : zS 58 0 [zR 38] [] sh pp mm Q ↔ Q (zI ((2 ^ nE f - 1 : Nat) : Int)) sh pp mm := by
  have k38 := k_38 h
  have p38 := p_13_5 h
  have l := nE_le ok
  have t : 2 ^ nE f ≤ 4096 := by simpa using Nat.pow_le_pow_right (n := 2) (by omega) l
  have t0 : 0 < 2 ^ nE f := Nat.pow_pos (by omega)
  have z := zshl1 (nE f) (by omega)
  rw [show ((2 ^ nE f - 1 : Nat) : Int) = ((2 ^ nE f : Nat) : Int) - 1 by omega]
  simp (disch := first | assumption | omega) only [rN_allEdges_0, rN_allEdges_1, rN_allEdges_2, rN_allEdges_5, rN_allEdges_6, rN_allEdges_7, rN_allEdges_8, Bool.false_eq_true, true_implies, false_implies, implies_true, true_and, and_true, not_true_eq_false, not_false_eq_true, zPush_I, zPush_L, zPush_R, zPush_U, Int.reduceLT, Int.reduceLE, Int.reduceEq, Int.reduceNe, Int.reduceAdd, Int.reduceSub, Int.reduceMul, Int.reduceNeg, Int.reduceToNat, Nat.reduceAdd, Nat.reduceMul, Nat.reduceEqDiff, zw32_id, zw64_id, zupd_eq, zupd_na, zupd_ni, zupp_eq, zupp_na, zupp_ni, h3, z]
theorem nRw_fr {m m' : zMm} {e : Nat} (h : nRw f m e) (hf : ∀ x, 39 ≤ x → x ≤ 45 → m' x (e : Int) = m x (e : Int)) : nRw f m' e := by
  unfold nRw at h ⊢
  rw [hf 39 (by omega) (by omega), hf 40 (by omega) (by omega), hf 41 (by omega) (by omega), hf 42 (by omega) (by omega), hf 43 (by omega) (by omega), hf 44 (by omega) (by omega), hf 45 (by omega) (by omega)]
  exact h
theorem cLearn1 (h : zLy sh pp) (ok : fOk f) (hS : stI 14 f mm) (hz : ∀ m', frP ntF mm m' → m' 38 3 = (nE f : Int) → m' 38 0 = (oddS (nA f) (nC f) (2 ^ nE f - 1) (nE f) : Nat) → (∀ i, i < nE f → nRw f m' i) → zS 55 77 [zR 38, zU, zU] [] sh pp m' Q) : ∀ (d e : Nat) (m1 : zMm), e + d = nE f → frP ntF mm m1 → m1 38 3 = (nE f : Int) → m1 38 0 = (oddS (nA f) (nC f) (2 ^ nE f - 1) e : Nat) → (∀ i, i < e → nRw f m1 i) → zS 55 31 [zR 38, zR 14, zI (e : Int)] [] sh pp m1 Q := by
  have k38 := k_38 h
  have p38 := p_13_5 h
  have k41 := k_41 h
  have l41 := l_41 h
  have p41 := p_38_6 h
  have k44 := k_44 h
  have l44 := l_44 h
  have p44 := p_38_9 h
  have k14 := k_14 h
  have p14 := p_13_0 h
  have l := nE_le ok
  intro d
  induction d with
  | zero =>
    intro e m1 he hf h3 h0 hr
    have he' : e = nE f := by omega
    rw [rN_learn_31]
    simp (disch := first | assumption | omega) only [rN_learn_32, rN_learn_33, rN_learn_36, Bool.false_eq_true, true_implies, false_implies, implies_true, true_and, and_true, not_true_eq_false, not_false_eq_true, zPush_I, zPush_L, zPush_R, zPush_U, Int.reduceLT, Int.reduceLE, Int.reduceEq, Int.reduceNe, Int.reduceAdd, Int.reduceSub, Int.reduceMul, Int.reduceNeg, Int.reduceToNat, Nat.reduceAdd, Nat.reduceMul, Nat.reduceEqDiff, zw32_id, zw64_id, zupd_eq, zupd_na, zupd_ni, zupp_eq, zupp_na, zupp_ni, h3, eq_false (show ¬ (e : Int) < (nE f : Int) by omega)]
    exact hz m1 hf h3 (by rw [h0, he']) (fun i hi => hr i (by omega))
  | succ d ih =>
    intro e m1 he hf h3 h0 hr
    have hS1 : stI 14 f m1 := stI_sm hS (sm_fr hf (fun x j hj => by unfold ntF at hj; omega))
    have hac := nAC ok (show e < nE f by omega)
    have kl := fun (Q : zV → zSh → zPp → zMm → Prop) => kN_learnEdge (Q := Q) h ok hS1 (e := e) (by omega)
    rw [rN_learn_31]
    simp (disch := first | assumption | omega) only [rN_learn_32, rN_learn_33, rN_learn_36, rN_learn_39, rN_learn_40, rN_learn_41, rN_learn_42, Bool.false_eq_true, true_implies, false_implies, implies_true, true_and, and_true, not_true_eq_false, not_false_eq_true, zPush_I, zPush_L, zPush_R, zPush_U, Int.reduceLT, Int.reduceLE, Int.reduceEq, Int.reduceNe, Int.reduceAdd, Int.reduceSub, Int.reduceMul, Int.reduceNeg, Int.reduceToNat, Nat.reduceAdd, Nat.reduceMul, Nat.reduceEqDiff, zw32_id, zw64_id, zupd_eq, zupd_na, zupd_ni, zupp_eq, zupp_na, zupp_ni, h3, eq_true (show (e : Int) < (nE f : Int) by omega), kl]
    obtain ⟨m2, hm2⟩ : ∃ m2, m2 = zupd (zupd (zupd (zupd (zupd (zupd m1 39 (e : Int) (nA f e : Int)) 40 (e : Int) (nC f e : Int)) 41 (e : Int) (hgO (nA f) (nC f) e : Nat)) 42 (e : Int) (sg (nX f (nC f e) - nX f (nA f e)))) 43 (e : Int) (sg (nY f (nC f e) - nY f (nA f e)))) 45 (e : Int) (nPr f e) := ⟨_, rfl⟩
    rw [← hm2]
    have f2 : frP ntF mm m2 := by
      rw [hm2]
      exact frP_up (frP_up (frP_up (frP_up (frP_up (frP_up hf (by unfold ntF; omega)) (by unfold ntF; omega)) (by unfold ntF; omega)) (by unfold ntF; omega)) (by unfold ntF; omega)) (by unfold ntF; omega)
    have o2 : ∀ x j, j ≠ (e : Int) → m2 x j = m1 x j := fun x j hj => by
      rw [hm2, zupd_ni hj, zupd_ni hj, zupd_ni hj, zupd_ni hj, zupd_ni hj, zupd_ni hj]
    have n2 : ∀ j, m2 38 j = m1 38 j := fun j => by
      rw [hm2, zupd_na (by decide), zupd_na (by decide), zupd_na (by decide), zupd_na (by decide), zupd_na (by decide), zupd_na (by decide)]
    have r2 : m2 39 (e : Int) = (nA f e : Int) ∧ m2 40 (e : Int) = (nC f e : Int) ∧ m2 41 (e : Int) = (hgO (nA f) (nC f) e : Nat) ∧ m2 42 (e : Int) = sg (nX f (nC f e) - nX f (nA f e)) ∧ m2 43 (e : Int) = sg (nY f (nC f e) - nY f (nA f e)) ∧ m2 45 (e : Int) = nPr f e := by
      rw [hm2]
      simp [zupd]
    have hE2 : ∀ i : Nat, i ≤ e → m2 41 (i : Int) = (hgO (nA f) (nC f) i : Nat) := fun i hi => by
      by_cases ei : i = e
      · subst ei; exact r2.2.2.1
      · rw [o2 _ _ (by omega)]; exact (hr i (by omega)).2.2.1
    have kt := fun (Q : zV → zSh → zPp → zMm → Prop) => kN_twins (Q := Q) h ok (show e < nE f by omega) hE2
    have ol := hgO_lt (A := nA f) (C := nC f) (e := e) hac.2.2.2.2.2
    have oo := oddS_lt (R := 2 ^ nE f - 1) e (fun i hi => (nAC ok (show i < nE f by omega)).2.2.2.2.2)
    have x1 : zxor ((oddS (nA f) (nC f) (2 ^ nE f - 1) e : Nat) : Int) ((hgO (nA f) (nC f) e : Nat) : Int) = ((oddS (nA f) (nC f) (2 ^ nE f - 1) (e + 1) : Nat) : Int) := by
      rw [zxorN (by omega) (by omega)]
      show _ = ((oddS (nA f) (nC f) (2 ^ nE f - 1) e ^^^ (if (2 ^ nE f - 1).testBit e = true then 2 ^ nA f e ^^^ 2 ^ nC f e else 0) : Nat) : Int)
      rw [if_pos (tb_all.mpr (by omega)), ← or_xor hac.2.2.2.2.1]
      rfl
    have e0 := n2 0
    rw [h0] at e0
    have h32 := n2 3
    rw [h3] at h32
    have n := ih (e + 1) (zupd (zupd m2 44 (e : Int) (twN f e e : Nat)) 38 0 (oddS (nA f) (nC f) (2 ^ nE f - 1) (e + 1) : Nat)) (by omega) (frP_up (frP_up f2 (by unfold ntF; omega)) (by unfold ntF; omega)) (by rw [zupd_ni (by decide), zupd_na (by decide)]; exact h32) (zupd_eq _ _ _ _) (fun i hi => by
      by_cases ei : i = e
      · subst ei
        obtain ⟨q1, q2, q3, q4, q5, q6⟩ := r2
        refine ⟨?_, ?_, ?_, ?_, ?_, ?_, ?_⟩
        · rw [zupd_na (by decide), zupd_na (by decide)]; exact q1
        · rw [zupd_na (by decide), zupd_na (by decide)]; exact q2
        · rw [zupd_na (by decide), zupd_na (by decide)]; exact q3
        · rw [zupd_na (by decide), zupd_na (by decide)]; exact q4
        · rw [zupd_na (by decide), zupd_na (by decide)]; exact q5
        · rw [zupd_na (by decide), zupd_eq]
        · rw [zupd_na (by decide), zupd_na (by decide)]; exact q6
      · exact nRw_fr (hr i (by omega)) (fun x x1 x2 => by rw [zupd_na (by omega), zupd_ni (by omega), o2 _ _ (by omega)]))
    rw [show ((e + 1 : Nat) : Int) = (e : Int) + 1 by omega] at n
    simp (disch := first | assumption | omega) only [rN_learn_45, rN_learn_46, rN_learn_49, rN_learn_50, rN_learn_51, rN_learn_52, rN_learn_55, rN_learn_56, rN_learn_57, rN_learn_58, rN_learn_61, rN_learn_62, rN_learn_65, rN_learn_66, rN_learn_67, rN_learn_68, rN_learn_71, rN_learn_74, Bool.false_eq_true, true_implies, false_implies, implies_true, true_and, and_true, not_true_eq_false, not_false_eq_true, zPush_I, zPush_L, zPush_R, zPush_U, Int.reduceLT, Int.reduceLE, Int.reduceEq, Int.reduceNe, Int.reduceAdd, Int.reduceSub, Int.reduceMul, Int.reduceNeg, Int.reduceToNat, Nat.reduceAdd, Nat.reduceMul, Nat.reduceEqDiff, zw32_id, zw64_id, zupd_eq, zupd_na, zupd_ni, zupp_eq, zupp_na, zupp_ni, p41, p44, kt, e0, r2.2.2.1, x1]
    exact n
theorem cLearn (hc : cOk f G cn N D sh pp mm) (ok : fOk f) (hQ : ∀ m', cOk f G cn N D sh pp m' → cNtK f m' → m' 38 10 = 1 → frP ntF mm m' → Q zU sh pp m') : zS 55 0 [zR 38, zR 14, zU] [] sh pp mm Q := by
  have h := hc.1
  have k38 := k_38 h
  have p38 := p_13_5 h
  have k39 := k_39 h
  have l39 := l_39 h
  have p39 := p_38_4 h
  have k14 := k_14 h
  have p14 := p_13_0 h
  have k21 := k_21 h
  have p21 := p_14_4 h
  have l := nE_le ok
  have t : 2 ^ nE f ≤ 4096 := by simpa using Nat.pow_le_pow_right (n := 2) (by omega) l
  have t0 : 0 < 2 ^ nE f := Nat.pow_pos (by omega)
  rcases hc.2.2.2.2.2.2.1 with hk | ⟨hk, hK⟩
  · have hS := hc.2.2.1
    have e3 : mm 21 3 = (nE f : Int) := by rw [← nE_eq ok]; exact hS.2.2.2.1.2.2.1
    have mi : min (nE f : Int) 12 = (nE f : Int) := Int.min_eq_left (by omega)
    simp (disch := first | assumption | omega) only [rN_learn_0, rN_learn_1, rN_learn_4, rN_learn_7, rN_learn_8, rN_learn_9, rN_learn_10, rN_learn_13, rN_learn_16, rN_learn_18, rN_learn_21, rN_learn_24, rN_learn_25, rN_learn_26, rN_learn_29, rN_learn_30, kJ_min, Bool.false_eq_true, true_implies, false_implies, implies_true, true_and, and_true, not_true_eq_false, not_false_eq_true, zPush_I, zPush_L, zPush_R, zPush_U, Int.reduceLT, Int.reduceLE, Int.reduceEq, Int.reduceNe, Int.reduceAdd, Int.reduceSub, Int.reduceMul, Int.reduceNeg, Int.reduceToNat, Nat.reduceAdd, Nat.reduceMul, Nat.reduceEqDiff, zw32_id, zw64_id, zupd_eq, zupd_na, zupd_ni, zupp_eq, zupp_na, zupp_ni, p21, hk, e3, mi]
    obtain ⟨ma, hma⟩ : ∃ ma, ma = zupd (zupd mm 38 3 (nE f : Int)) 38 0 0 := ⟨_, rfl⟩
    rw [← hma]
    have fa : frP ntF mm ma := by
      rw [hma]
      exact frP_up (frP_up (frP_rf _ _) (by unfold ntF; omega)) (by unfold ntF; omega)
    refine cLearn1 h ok hS (fun m1 f1 h3 h0 hr => ?_) (nE f) 0 ma (by omega) fa (by rw [hma, zupd_ni (by decide), zupd_eq]) (by rw [hma, zupd_eq]; rfl) (fun i hi => by omega)
    have oo := oddS_lt (R := 2 ^ nE f - 1) (nE f) (fun i hi => (nAC ok hi).2.2.2.2.2)
    have kb := fun (m : zMm) (Q : zV → zSh → zPp → zMm → Prop) => kJ_bits (sh := sh) (pp := pp) (mm := m) (Q := Q) oo
    have ka := fun (Q : zV → zSh → zPp → zMm → Prop) => kN_all (Q := Q) h ok h3
    have fin : ∀ (v1 v2 : Int), v1 = (if hgB f = true then 1 else 0) → v2 = (if onB f = true then 1 else 0) → Q zU sh pp (zupd (zupd (zupd (zupd (zupd (zupd m1 38 1 v1) 38 2 v2) 38 14 (-1)) 38 15 (-1)) 38 16 (-1)) 38 10 1) := by
      intro v1 v2 e1 e2
      obtain ⟨m9, hm9⟩ : ∃ m9, m9 = zupd (zupd (zupd (zupd (zupd (zupd m1 38 1 v1) 38 2 v2) 38 14 (-1)) 38 15 (-1)) 38 16 (-1)) 38 10 1 := ⟨_, rfl⟩
      rw [← hm9]
      have f9 : frP ntF mm m9 := by
        rw [hm9]
        exact frP_up (frP_up (frP_up (frP_up (frP_up (frP_up f1 (by unfold ntF; omega)) (by unfold ntF; omega)) (by unfold ntF; omega)) (by unfold ntF; omega)) (by unfold ntF; omega)) (by unfold ntF; omega)
      have n0 : m9 38 0 = m1 38 0 := by rw [hm9]; simp [zupd]
      have n1 : m9 38 1 = v1 := by rw [hm9]; simp [zupd]
      have n2 : m9 38 2 = v2 := by rw [hm9]; simp [zupd]
      have n3 : m9 38 3 = m1 38 3 := by rw [hm9]; simp [zupd]
      have n10 : m9 38 10 = 1 := by rw [hm9]; simp [zupd]
      have n14 : m9 38 14 = -1 := by rw [hm9]; simp [zupd]
      have n15 : m9 38 15 = -1 := by rw [hm9]; simp [zupd]
      have n16 : m9 38 16 = -1 := by rw [hm9]; simp [zupd]
      have nn : ∀ x j, x ≠ 38 → m9 x j = m1 x j := fun x j hx => by
        rw [hm9, zupd_na hx, zupd_na hx, zupd_na hx, zupd_na hx, zupd_na hx, zupd_na hx]
      have K9 : cNtK f m9 := ⟨⟨by rw [n0]; exact h0, by rw [n1]; exact e1, by rw [n2]; exact e2, by rw [n3]; exact h3⟩, fun e he => nRw_fr (hr e he) (fun x a b => nn x _ (by omega)), Or.inl n14, Or.inl n15, Or.inl n16⟩
      obtain ⟨c1, c2, c3, c4, c5, c6, c7, c8, c9, c10, c11⟩ := id hc
      exact hQ m9 (cOk_mk hc (sm_fr f9 (fun x j hj => by unfold ntF at hj; omega)) (stI_sm c3 (sm_fr f9 (fun x j hj => by unfold ntF at hj; omega))) (fun j j0 j1 => by rw [f9 _ _ (by unfold ntF; omega)]; exact c5 j j0 j1) (fun p hp => cPr_sm (c6 p hp) (sm_fr f9 (fun x j hj => by unfold ntF at hj; omega))) (Or.inr ⟨n10, K9⟩) (cQu_sm c8 (sm_fr f9 (fun x j hj => by unfold ntF at hj; omega))) ⟨bG_sm c9.1 (sm_fr f9 (fun x j hj => by unfold ntF at hj; omega)), bG_sm c9.2 (sm_fr f9 (fun x j hj => by unfold ntF at hj; omega))⟩ (fun x hx => by funext j; exact f9 x j (by unfold ntF; omega))) K9 n10 f9
    have yes : hgB f = true → zS 55 107 [zR 38, zU, zU] [zI 1, zR 38] sh pp m1 Q := by
      intro hb
      by_cases hp : pcN (oddS (nA f) (nC f) (2 ^ nE f - 1) (nE f)) 12 ≤ 2
      · have q := fin 1 1 (by rw [if_pos hb]) (by rw [if_pos ((onB_i f).mpr ⟨hb, hp⟩)])
        simp (disch := first | assumption | omega) only [rN_learn_107, rN_learn_110, rN_learn_111, rN_learn_112, rN_learn_115, rN_learn_118, rN_learn_119, rN_learn_122, rN_learn_125, rN_learn_126, rN_learn_129, rN_learn_130, rN_learn_133, rN_learn_134, rN_learn_137, rN_learn_138, rN_learn_139, rN_learn_142, rN_learn_143, rN_learn_144, rN_learn_147, rN_learn_148, rN_learn_149, rN_learn_152, rN_learn_153, rN_learn_154, rN_learn_157, Bool.false_eq_true, true_implies, false_implies, implies_true, true_and, and_true, not_true_eq_false, not_false_eq_true, zPush_I, zPush_L, zPush_R, zPush_U, Int.reduceLT, Int.reduceLE, Int.reduceEq, Int.reduceNe, Int.reduceAdd, Int.reduceSub, Int.reduceMul, Int.reduceNeg, Int.reduceToNat, Nat.reduceAdd, Nat.reduceMul, Nat.reduceEqDiff, zw32_id, zw64_id, zupd_eq, zupd_na, zupd_ni, zupp_eq, zupp_na, zupp_ni, h0, kb, true_or, or_true, eq_false (show ¬ (2 : Int) < ((pcN (oddS (nA f) (nC f) (2 ^ nE f - 1) (nE f)) 12 : Nat) : Int) by omega)]
        exact q
      · have q := fin 1 0 (by rw [if_pos hb]) (by rw [if_neg (fun x => hp ((onB_i f).mp x).2)])
        simp (disch := first | assumption | omega) only [rN_learn_107, rN_learn_110, rN_learn_111, rN_learn_112, rN_learn_115, rN_learn_118, rN_learn_119, rN_learn_122, rN_learn_125, rN_learn_126, rN_learn_129, rN_learn_130, rN_learn_133, rN_learn_134, rN_learn_137, rN_learn_138, rN_learn_139, rN_learn_142, rN_learn_143, rN_learn_144, rN_learn_147, rN_learn_148, rN_learn_149, rN_learn_152, rN_learn_153, rN_learn_154, rN_learn_157, Bool.false_eq_true, true_implies, false_implies, implies_true, true_and, and_true, not_true_eq_false, not_false_eq_true, zPush_I, zPush_L, zPush_R, zPush_U, Int.reduceLT, Int.reduceLE, Int.reduceEq, Int.reduceNe, Int.reduceAdd, Int.reduceSub, Int.reduceMul, Int.reduceNeg, Int.reduceToNat, Nat.reduceAdd, Nat.reduceMul, Nat.reduceEqDiff, zw32_id, zw64_id, zupd_eq, zupd_na, zupd_ni, zupp_eq, zupp_na, zupp_ni, h0, kb, true_or, or_true, eq_true (show (2 : Int) < ((pcN (oddS (nA f) (nC f) (2 ^ nE f - 1) (nE f)) 12 : Nat) : Int) by omega)]
        exact q
    have no : ¬ hgB f = true → zS 55 107 [zR 38, zU, zU] [zI 0, zR 38] sh pp m1 Q := by
      intro hb
      have q := fin 0 0 (by rw [if_neg hb]) (by rw [if_neg (fun x => hb ((onB_i f).mp x).1)])
      simp (disch := first | assumption | omega) only [rN_learn_107, rN_learn_110, rN_learn_111, rN_learn_112, rN_learn_115, rN_learn_118, rN_learn_119, rN_learn_122, rN_learn_125, rN_learn_126, rN_learn_129, rN_learn_130, rN_learn_133, rN_learn_134, rN_learn_137, rN_learn_138, rN_learn_139, rN_learn_142, rN_learn_143, rN_learn_144, rN_learn_147, rN_learn_148, rN_learn_149, rN_learn_152, rN_learn_153, rN_learn_154, rN_learn_157, Bool.false_eq_true, true_implies, false_implies, implies_true, true_and, and_true, not_true_eq_false, not_false_eq_true, zPush_I, zPush_L, zPush_R, zPush_U, Int.reduceLT, Int.reduceLE, Int.reduceEq, Int.reduceNe, Int.reduceAdd, Int.reduceSub, Int.reduceMul, Int.reduceNeg, Int.reduceToNat, Nat.reduceAdd, Nat.reduceMul, Nat.reduceEqDiff, zw32_id, zw64_id, zupd_eq, zupd_na, zupd_ni, zupp_eq, zupp_na, zupp_ni, true_or, or_true]
      exact q
    by_cases z : nE f = 0
    · have hb : hgB f = true := by
        unfold hgB
        rw [z]
        rfl
      have q := yes hb
      simp (disch := first | assumption | omega) only [rN_learn_77, rN_learn_78, rN_learn_79, rN_learn_82, rN_learn_85, rN_learn_86, rN_learn_87, rN_learn_90, rN_learn_91, rN_learn_92, rN_learn_93, rN_learn_96, rN_learn_99, rN_learn_102, rN_learn_103, Bool.false_eq_true, true_implies, false_implies, implies_true, true_and, and_true, not_true_eq_false, not_false_eq_true, zPush_I, zPush_L, zPush_R, zPush_U, Int.reduceLT, Int.reduceLE, Int.reduceEq, Int.reduceNe, Int.reduceAdd, Int.reduceSub, Int.reduceMul, Int.reduceNeg, Int.reduceToNat, Nat.reduceAdd, Nat.reduceMul, Nat.reduceEqDiff, zw32_id, zw64_id, zupd_eq, zupd_na, zupd_ni, zupp_eq, zupp_na, zupp_ni, h3, eq_true (show (nE f : Int) = 0 by omega)]
      exact q
    · have r0 := (hr 0 (by omega)).1
      simp only [Int.cast_ofNat_Int] at r0
      simp (disch := first | assumption | omega) only [rN_learn_77, rN_learn_78, rN_learn_79, rN_learn_82, rN_learn_85, rN_learn_86, rN_learn_87, rN_learn_90, rN_learn_91, rN_learn_92, rN_learn_93, rN_learn_96, Bool.false_eq_true, true_implies, false_implies, implies_true, true_and, and_true, not_true_eq_false, not_false_eq_true, zPush_I, zPush_L, zPush_R, zPush_U, Int.reduceLT, Int.reduceLE, Int.reduceEq, Int.reduceNe, Int.reduceAdd, Int.reduceSub, Int.reduceMul, Int.reduceNeg, Int.reduceToNat, Nat.reduceAdd, Nat.reduceMul, Nat.reduceEqDiff, zw32_id, zw64_id, zupd_eq, zupd_na, zupd_ni, zupp_eq, zupp_na, zupp_ni, p39, h3, eq_false (show ¬ (nE f : Int) = 0 by omega), r0, ka]
      have a9 := (nAC ok (show 0 < nE f by omega)).2.2.2.2.2.1
      refine cHang h ok h3 (fun e he => (hr e he).2.2.1) (by omega) (by omega) (fun hg => ?_) (fun hg => ?_)
      · have q := yes ((hgB_s ok (by omega)).mpr hg)
        simp (disch := first | assumption | omega) only [rN_learn_99, rN_learn_102, rN_learn_103, rN_learn_106, Bool.false_eq_true, true_implies, false_implies, implies_true, true_and, and_true, not_true_eq_false, not_false_eq_true, zPush_I, zPush_L, zPush_R, zPush_U, Int.reduceLT, Int.reduceLE, Int.reduceEq, Int.reduceNe, Int.reduceAdd, Int.reduceSub, Int.reduceMul, Int.reduceNeg, Int.reduceToNat, Nat.reduceAdd, Nat.reduceMul, Nat.reduceEqDiff, zw32_id, zw64_id, zupd_eq, zupd_na, zupd_ni, zupp_eq, zupp_na, zupp_ni]
        exact q
      · have q := no (fun x => hg ((hgB_s ok (by omega)).mp x))
        simp (disch := first | assumption | omega) only [rN_learn_99, rN_learn_102, rN_learn_103, rN_learn_106, Bool.false_eq_true, true_implies, false_implies, implies_true, true_and, and_true, not_true_eq_false, not_false_eq_true, zPush_I, zPush_L, zPush_R, zPush_U, Int.reduceLT, Int.reduceLE, Int.reduceEq, Int.reduceNe, Int.reduceAdd, Int.reduceSub, Int.reduceMul, Int.reduceNeg, Int.reduceToNat, Nat.reduceAdd, Nat.reduceMul, Nat.reduceEqDiff, zw32_id, zw64_id, zupd_eq, zupd_na, zupd_ni, zupp_eq, zupp_na, zupp_ni]
        exact q
  · have q := hQ mm hc hK hk (frP_rf _ _)
    simp (disch := first | assumption | omega) only [rN_learn_0, rN_learn_1, rN_learn_4, rN_learn_7, rN_learn_157, Bool.false_eq_true, true_implies, false_implies, implies_true, true_and, and_true, not_true_eq_false, not_false_eq_true, zPush_I, zPush_L, zPush_R, zPush_U, Int.reduceLT, Int.reduceLE, Int.reduceEq, Int.reduceNe, Int.reduceAdd, Int.reduceSub, Int.reduceMul, Int.reduceNeg, Int.reduceToNat, Nat.reduceAdd, Nat.reduceMul, Nat.reduceEqDiff, zw32_id, zw64_id, zupd_eq, zupd_na, zupd_ni, zupp_eq, zupp_na, zupp_ni, hk]
    exact q
end
