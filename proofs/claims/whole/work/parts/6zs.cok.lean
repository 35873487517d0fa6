/-! ===== how the class's heap goes on being sound ===== -/
section
variable {sh : zSh} {pp : zPp} {mm m' : zMm} {Q : zV → zSh → zPp → zMm → Prop} {f f' : Int → Int} {G : Int → Option (Int → Int)} {cn cn' : Int → Int} {N D N' D' : Nat}
theorem zCs_sm (h : zCs sh pp mm) (hs : sm 0 12 mm m') : zCs sh pp m' := ⟨h.1, h.2.1, fun a h1 h2 i hi => by rw [hs a (by omega) (by omega)]; exact h.2.2 a h1 h2 i hi⟩
theorem cIm_sm (h : cIm G sh pp mm) (hs : ∀ x, 143 ≤ x → m' x = mm x) : cIm G sh pp m' := ⟨fun i i0 i1 => (h.1 i i0 i1).imp_right (fun hx => by
  obtain ⟨z1, z2, z3, g, z4, z5, z6, z7⟩ := hx
  exact ⟨z1, z2, z3, g, z4, z5, z6, stI_sm z7 (fun x h1 h2 => hs x (by omega))⟩), h.2⟩
theorem cOk_mk (hc : cOk f G cn N D sh pp mm) (hs : sm 0 12 mm m') (hst : stI 14 f' m') (hcn : ∀ i, 0 ≤ i → i < 3 → m' 35 i = cn' i) (hp : ∀ p : Nat, p < 4 → cPr p f' m') (hnt : cNt f' m') (hq : cQu m') (hb : bG 58 N' m' ∧ bG 60 D' m') (hi : ∀ x, 143 ≤ x → m' x = mm x) : cOk f' G cn' N' D' sh pp m' := by
  obtain ⟨c1, c2, -, c4, -, -, -, -, -, c10, c11⟩ := hc
  exact ⟨c1, zCs_sm c2 hs, hst, cIm_sm c4 hi, hcn, hp, hnt, hq, hb, c10, c11⟩
theorem cOk_ref (hc : cOk f G cn N D sh pp mm) {i : Int} (i0 : 0 ≤ i) (i1 : i < 3) : cOk f G (bump cn i) N D sh pp (zupd mm 35 i (zw32 (mm 35 i + 1))) := by
  have hc' := hc
  obtain ⟨c1, c2, c3, c4, c5, c6, c7, c8, c9, c10, c11⟩ := hc'
  refine cOk_mk hc (sm_up (sm_rf _ _ _) (by omega)) (stI_sm c3 (sm_up (sm_rf _ _ _) (by omega))) (fun j j0 j1 => ?_) (fun p hp => cPr_sm (c6 p hp) (sm_up (sm_rf _ _ _) (by omega))) (cNt_sm c7 (sm_up (sm_rf _ _ _) (by omega))) (cQu_sm c8 (sm_up (sm_rf _ _ _) (by omega))) ⟨bG_sm c9.1 (sm_up (sm_rf _ _ _) (by omega)), bG_sm c9.2 (sm_up (sm_rf _ _ _) (by omega))⟩ (fun x hx => by funext j; exact zupd_na (by omega))
  unfold bump
  by_cases hj : j = i
  · subst hj
    rw [if_pos rfl, zupd_eq, c5 j j0 j1]
  · rw [if_neg hj, zupd_ni hj, c5 j j0 j1]
theorem cOk_now (hc : cOk f G cn N D sh pp mm) (ok : fOk f) (hfr : frP (fun x _ => 14 ≤ x ∧ x ≤ 33) mm m') (hst : stI 14 f' m') (hp : ∀ p : Nat, p < 4 → (txE f f' p ∧ ((∀ i, 0 ≤ i → i ≤ 6 → f' i = f i) ∨ mm (73 + 14 * p) 5 = 0)) ∨ (mm (66 + 14 * p) 5 = 0 ∧ mm (73 + 14 * p) 5 = 0)) (hn : netE f f' ∨ mm 38 10 = 0) : cOk f' G cn N D sh pp m' := by
  have hc' := hc
  obtain ⟨c1, c2, c3, c4, c5, c6, c7, c8, c9, c10, c11⟩ := hc'
  have hs1 : sm 34 200 mm m' := sm_fr hfr (by omega)
  have hs0 : sm 0 12 mm m' := sm_fr hfr (by omega)
  refine cOk_mk hc hs0 hst (fun j j0 j1 => by rw [hs1 35 (by omega) (by omega)]; exact c5 j j0 j1) (fun p hp4 => ?_) ?_ (cQu_sm c8 (sm_wd hs1 (by omega) (by omega))) ⟨bG_sm c9.1 (sm_wd hs1 (by omega) (by omega)), bG_sm c9.2 (sm_wd hs1 (by omega) (by omega))⟩ (fun x hx => by funext j; exact hfr x j (by omega))
  · refine cPr_sm ?_ (sm_wd hs1 (by omega) (by omega))
    rcases hp p hp4 with ⟨ht, hx⟩ | ⟨h1, h2⟩
    · exact cPr_ext ok hp4 ht hx (c6 p hp4)
    · exact ⟨Or.inl h1, Or.inl h2⟩
  · refine cNt_sm ?_ (sm_wd hs1 (by omega) (by omega))
    rcases hn with hx | hx
    · exact c7.imp_right (fun hy => ⟨hy.1, cNtK_net hx hy.2⟩)
    · exact Or.inl hx
theorem cOk_oN (hc : cOk f G cn N D sh pp mm) : cOk f G cn N D sh pp (zupd mm 38 10 0) := by
  have hc' := hc
  obtain ⟨c1, c2, c3, c4, c5, c6, c7, c8, c9, c10, c11⟩ := hc'
  exact cOk_mk hc (sm_up (sm_rf _ _ _) (by omega)) (stI_sm c3 (sm_up (sm_rf _ _ _) (by omega))) (fun j j0 j1 => by rw [zupd_na (by decide)]; exact c5 j j0 j1) (fun p hp => cPr_sm (c6 p hp) (sm_up (sm_rf _ _ _) (by omega))) (Or.inl (zupd_eq _ _ _ _)) (cQu_sm c8 (sm_up (sm_rf _ _ _) (by omega))) ⟨bG_sm c9.1 (sm_up (sm_rf _ _ _) (by omega)), bG_sm c9.2 (sm_up (sm_rf _ _ _) (by omega))⟩ (fun x hx => by funext j; exact zupd_na (by omega))
theorem cOk_oP (hc : cOk f G cn N D sh pp mm) {q : Nat} (hq : q < 4) : cOk f G cn N D sh pp (zupd (zupd mm (66 + 14 * q) 5 0) (73 + 14 * q) 5 0) := by
  have hc' := hc
  obtain ⟨c1, c2, c3, c4, c5, c6, c7, c8, c9, c10, c11⟩ := hc'
  refine cOk_mk hc (sm_up (sm_up (sm_rf _ _ _) (by omega)) (by omega)) (stI_sm c3 (sm_up (sm_up (sm_rf _ _ _) (by omega)) (by omega))) (fun j j0 j1 => by rw [zupd_na (by omega), zupd_na (by omega)]; exact c5 j j0 j1) (fun p hp => ?_) (cNt_sm c7 (sm_up (sm_up (sm_rf _ _ _) (by omega)) (by omega))) (cQu_sm c8 (sm_up (sm_up (sm_rf _ _ _) (by omega)) (by omega))) ⟨bG_sm c9.1 (sm_up (sm_up (sm_rf _ _ _) (by omega)) (by omega)), bG_sm c9.2 (sm_up (sm_up (sm_rf _ _ _) (by omega)) (by omega))⟩ (fun x hx => by funext j; rw [zupd_na (by omega), zupd_na (by omega)])
  by_cases hpq : p = q
  · subst hpq
    exact ⟨Or.inl (by rw [zupd_na (by omega), zupd_eq]), Or.inl (zupd_eq _ _ _ _)⟩
  · exact cPr_sm (c6 p hp) (sm_up (sm_up (sm_rf _ _ _) (by omega)) (by omega))
theorem cOk_oD (hc : cOk f G cn N D sh pp mm) {q : Nat} (hq : q < 4) : cOk f G cn N D sh pp (zupd mm (73 + 14 * q) 5 0) := by
  have hc' := hc
  obtain ⟨c1, c2, c3, c4, c5, c6, c7, c8, c9, c10, c11⟩ := hc'
  refine cOk_mk hc (sm_up (sm_rf _ _ _) (by omega)) (stI_sm c3 (sm_up (sm_rf _ _ _) (by omega))) (fun j j0 j1 => by rw [zupd_na (by omega)]; exact c5 j j0 j1) (fun p hp => ?_) (cNt_sm c7 (sm_up (sm_rf _ _ _) (by omega))) (cQu_sm c8 (sm_up (sm_rf _ _ _) (by omega))) ⟨bG_sm c9.1 (sm_up (sm_rf _ _ _) (by omega)), bG_sm c9.2 (sm_up (sm_rf _ _ _) (by omega))⟩ (fun x hx => by funext j; rw [zupd_na (by omega)])
  by_cases hpq : p = q
  · subst hpq
    refine ⟨?_, Or.inl (zupd_eq _ _ _ _)⟩
    rw [zupd_na (by omega)]
    exact (c6 p hp).1.imp_right (fun hx => ⟨hx.1, scrOk_sm hx.2 (sm_up (sm_rf _ _ _) (by omega))⟩)
  · exact cPr_sm (c6 p hp) (sm_up (sm_rf _ _ _) (by omega))
theorem kX_outP (h : zLy sh pp) {q : Nat} (hq : q < 4) : zS 146 0 [zR 13, zI (q : Int)] [] sh pp mm Q ↔ Q zU sh pp (zupd (zupd mm (66 + 14 * q) 5 0) (73 + 14 * q) 5 0) := by
  have k13 := k_13 h
  have k36 := k_36 h
  have l36 := l_36 h
  have p36 := p_13_3 h
  have k37 := k_37 h
  have l37 := l_37 h
  have p37 := p_13_4 h
  obtain ⟨s1, s2⟩ := scL_of h hq
  obtain ⟨d1, d2⟩ := drL_of h hq
  have ks := s1.1.1
  have kd := d1.1
  simp (disch := first | assumption | omega) only [rX_outdateProgram_0, rX_outdateProgram_1, rX_outdateProgram_4, rX_outdateProgram_5, rX_outdateProgram_6, rX_outdateProgram_7, rX_outdateProgram_10, rX_outdateProgram_11, rX_outdateProgram_14, rX_outdateProgram_15, rX_outdateProgram_16, rX_outdateProgram_17, rX_outdateProgram_20, Bool.false_eq_true, true_implies, false_implies, implies_true, true_and, and_true, not_true_eq_false, not_false_eq_true, zPush_I, zPush_L, zPush_R, zPush_U, Int.reduceLT, Int.reduceLE, Int.reduceEq, Int.reduceNe, Int.reduceAdd, Int.reduceSub, Int.reduceMul, Int.reduceNeg, Int.reduceToNat, Nat.reduceAdd, Nat.reduceMul, Nat.reduceEqDiff, zw32_id, zw64_id, zupd_eq, zupd_na, zupd_ni, zupp_eq, zupp_na, zupp_ni, p36, p37, s2, d2, true_or, or_true]
theorem kX_outD (h : zLy sh pp) : zS 147 0 [zR 13, zU] [] sh pp mm Q ↔ Q zU sh pp (zupd (zupd (zupd (zupd mm 73 5 0) 87 5 0) 101 5 0) 115 5 0) := by
  have k13 := k_13 h
  have k37 := k_37 h
  have l37 := l_37 h
  have p37 := p_13_4 h
  have k73 := k_73 h
  have p73 := p_37_0 h
  have k87 := k_87 h
  have p87 := p_37_1 h
  have k101 := k_101 h
  have p101 := p_37_2 h
  have k115 := k_115 h
  have p115 := p_37_3 h
  simp (disch := first | assumption | omega) only [rX_outdateDrawings_0, rX_outdateDrawings_1, rX_outdateDrawings_3, rX_outdateDrawings_4, rX_outdateDrawings_7, rX_outdateDrawings_8, rX_outdateDrawings_11, rX_outdateDrawings_12, rX_outdateDrawings_13, rX_outdateDrawings_14, rX_outdateDrawings_17, rX_outdateDrawings_20, rX_outdateDrawings_23, rX_outdateDrawings_2, Bool.false_eq_true, true_implies, false_implies, implies_true, true_and, and_true, not_true_eq_false, not_false_eq_true, zPush_I, zPush_L, zPush_R, zPush_U, Int.reduceLT, Int.reduceLE, Int.reduceEq, Int.reduceNe, Int.reduceAdd, Int.reduceSub, Int.reduceMul, Int.reduceNeg, Int.reduceToNat, Nat.reduceAdd, Nat.reduceMul, Nat.reduceEqDiff, zw32_id, zw64_id, zupd_eq, zupd_na, zupd_ni, zupp_eq, zupp_na, zupp_ni, p37, p73, p87, p101, p115, true_or, or_true]
theorem kN_out (h : zLy sh pp) : zS 54 0 [zR 38] [] sh pp mm Q ↔ Q zU sh pp (zupd mm 38 10 0) := by
  have k38 := k_38 h
  have p38 := p_13_5 h
  simp (disch := first | assumption | omega) only [rN_outdate_0, rN_outdate_1, rN_outdate_2, rN_outdate_5, Bool.false_eq_true, true_implies, false_implies, implies_true, true_and, and_true, not_true_eq_false, not_false_eq_true, zPush_I, zPush_L, zPush_R, zPush_U, Int.reduceLT, Int.reduceLE, Int.reduceEq, Int.reduceNe, Int.reduceAdd, Int.reduceSub, Int.reduceMul, Int.reduceNeg, Int.reduceToNat, Nat.reduceAdd, Nat.reduceMul, Nat.reduceEqDiff, zw32_id, zw64_id, zupd_eq, zupd_na, zupd_ni, zupp_eq, zupp_na, zupp_ni, true_or, or_true]
end
