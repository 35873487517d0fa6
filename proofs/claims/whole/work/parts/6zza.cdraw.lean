/-! ===== the class reads a text and does a program, where it wants it ===== -/
section
variable {sh : zSh} {pp pp' : zPp} {mm m' : zMm} {Q : zV → zSh → zPp → zMm → Prop} {f f' : Int → Int} {G : Int → Option (Int → Int)} {cn cn' : Int → Int} {N D N' D' : Nat}
theorem tbL_pp {t : Nat} {n : Int} (h : tbL sh pp t n) (hp : pp' t = pp t) : tbL sh pp' t n := by
  unfold tbL
  rw [hp]
  exact h
theorem stL_pp {s : Nat} (h : stL sh pp s) (hp : ∀ x, s ≤ x → pp' x = pp x) : stL sh pp' s := by
  obtain ⟨h0, h1, h2, h3, h4, h5, h6, h7, h8⟩ := h
  have e0 := hp s (by omega)
  have e2 := hp (s + 2) (by omega)
  unfold stL
  rw [e0, e2]
  exact ⟨h0, h1, h2, ⟨tbL_pp h3.1 (hp _ (by omega)), h3.2⟩, ⟨tbL_pp h4.1 (hp _ (by omega)), h4.2⟩, ⟨tbL_pp h5.1 (hp _ (by omega)), h5.2⟩, ⟨tbL_pp h6.1 (hp _ (by omega)), h6.2⟩, h7, fun p hp4 => ⟨tbL_pp (h8 p hp4).1 (hp _ (by omega)), (h8 p hp4).2⟩⟩
theorem cOk_pp (hc : cOk f G cn N D sh pp mm) {a : Nat} (ha : 66 ≤ a ∧ a ≤ 121) (hpp : ∀ x, x ≠ a → pp' x = pp x) (hly : zLy sh pp') : cOk f G cn N D sh pp' mm := by
  obtain ⟨c1, c2, c3, c4, c5, c6, c7, c8, c9, c10, c11⟩ := hc
  have e34 := hpp 34 (by omega)
  have e38 := hpp 38 (by omega)
  refine ⟨hly, ⟨c2.1, ?_, c2.2.2⟩, c3, ⟨fun i i0 i1 => ?_, ?_⟩, c5, c6, c7, c8, c9, ?_, ?_⟩
  · rw [hpp 5 (by omega), hpp 6 (by omega), hpp 7 (by omega), hpp 8 (by omega)]; exact c2.2.1
  · rw [e34]
    refine (c4.1 i i0 i1).imp_right (fun hx => ⟨hx.1, hx.2.1, stL_pp hx.2.2.1 (fun x hx2 => hpp x (by omega)), hx.2.2.2⟩)
  · rw [e34]; exact c4.2
  · unfold cLi at c10 ⊢
    rw [e38, e34]
    refine c10.imp_right (fun hx => ?_)
    rw [hpp (pp 38 17) (by omega)]
    exact hx
  · unfold cRm
    rw [e34, e38]
    exact c11
theorem cOk_blk (hc : cOk f G cn N D sh pp mm) {q : Nat} (hq : q < 4) (hr : frP (fun x _ => 66 + 14 * q ≤ x ∧ x ≤ 79 + 14 * q) mm m') (hp : cPr q f m') : cOk f G cn N D sh pp m' := by
  have hc' := hc
  obtain ⟨c1, c2, c3, c4, c5, c6, c7, c8, c9, c10, c11⟩ := hc'
  have hs : sm 0 65 mm m' := sm_fr hr (by omega)
  refine cOk_mk hc (sm_wd hs (by omega) (by omega)) (stI_sm c3 (sm_wd hs (by omega) (by omega))) (fun j j0 j1 => by rw [hs 35 (by omega) (by omega)]; exact c5 j j0 j1) (fun p hp4 => ?_) (cNt_sm c7 (sm_wd hs (by omega) (by omega))) (cQu_sm c8 (sm_wd hs (by omega) (by omega))) ⟨bG_sm c9.1 (sm_wd hs (by omega) (by omega)), bG_sm c9.2 (sm_wd hs (by omega) (by omega))⟩ (fun x hx => by funext j; exact hr x j (by omega))
  by_cases hpq : p = q
  · subst hpq; exact hp
  · exact cPr_sm (c6 p hp4) (sm_fr hr (by omega))
/-- the script of program q is read -/
theorem cReadQ (hc : cOk f G cn N D sh pp mm) (ok : fOk f) {q : Nat} (hq : q < 4) (hQ : ∀ pp1 m1, cOk f G cn N D sh pp1 m1 → scrOk (66 + 14 * q) (bOf f q) (lOf f q) m1 → frP (fun x _ => 66 + 14 * q ≤ x ∧ x ≤ 72 + 14 * q) mm m1 → Q zU sh pp1 m1) : zS 78 0 [zR (66 + 14 * q), zR (26 + 2 * q), zU, zU] [] sh pp mm Q := by
  have h := hc.1
  obtain ⟨s1, s2⟩ := scL_of h hq
  have zt := (stL_14 h).2.2.2.2.2.2.2.2 q hq
  rw [show 14 + 12 + 2 * q = 26 + 2 * q by omega] at zt
  have tb := hc.2.2.1.2.2.2.2.2.2.2 q hq
  rw [show 14 + 12 + 2 * q = 26 + 2 * q by omega] at tb
  have hp := hc.2.2.2.2.2.1 q hq
  obtain ⟨b1, b2, b3⟩ := ok.2.1 (q : Int) (by omega) (by omega)
  rcases hp.1 with h0 | ⟨h1, hs⟩
  · refine cRead (c := 26 + 2 * q + 1) (len := lOf f q) (b := bOf f q) hc.2.1 s1 zt.1.1 zt.1.2.2.2 ⟨zt.1.2.1, zt.1.2.2.1, by omega, by omega⟩ (by omega) tb.2.2.1 ⟨b1, b2⟩ (fun k k0 k1 => ?_) h0 (fun m1 a1 a2 a3 => ?_)
    · have z1 := tb.2.2.2 k k0 (by have : lOf f q = f (9 + 121 * (q : Int)) := rfl; omega)
      have z2 := b3 k k0 k1
      unfold bOf
      rw [show 9 + 121 * (q : Int) + 1 + k = 10 + 121 * (q : Int) + k by omega] at z2 ⊢
      exact ⟨z1, z2⟩
    · have hr : frP (fun x _ => 66 + 14 * q ≤ x ∧ x ≤ 72 + 14 * q) mm m1 := frP_wd a3 (fun x j hj => by unfold pRw at hj; omega)
      have hc1 := cOk_blk hc hq (frP_wd hr (fun x j hj => by omega)) ⟨Or.inr ⟨a2, a1⟩, by
        have zs : sm (73 + 14 * q) (79 + 14 * q) mm m1 := sm_fr hr (by omega)
        rw [zs (73 + 14 * q) (by omega) (by omega)]
        exact hp.2.imp_right (fun hx => ⟨hx.1, hx.2.1, drwOk_sm hx.2.2 (sm_wd zs (by omega) (by omega))⟩)⟩
      refine hQ _ m1 (cOk_pp hc1 (a := 66 + 14 * q) (by omega) (fun x hx => by funext j; exact zupp_na hx) (zLy_up h ?_)) a1 hr
      rcases (show q = 0 ∨ q = 1 ∨ q = 2 ∨ q = 3 by omega) with rfl | rfl | rfl | rfl <;> decide +kernel
  · exact cReadN s1 h1 (hQ pp mm hc hs (frP_rf _ _))
theorem cDrawingOf (hc : cOk f G cn N D sh pp mm) (ok : fOk f) {q : Nat} (hq : q < 4) (hQ0 : ft f q ≠ -1 → ∀ pp1 m1, cOk f G cn N D sh pp1 m1 → frP (fun x _ => 66 + 14 * q ≤ x ∧ x ≤ 79 + 14 * q) mm m1 → Q (zR 0) sh pp1 m1) (hQ1 : ft f q = -1 → ∀ pp1 m1, cOk f G cn N D sh pp1 m1 → drwOk (73 + 14 * q) f q m1 → frP (fun x _ => 66 + 14 * q ≤ x ∧ x ≤ 79 + 14 * q) mm m1 → Q (zR (73 + 14 * q)) sh pp1 m1) : zS 148 0 [zR 13, zI (q : Int), zU, zU] [] sh pp mm Q := by
  have h := hc.1
  have k13 := k_13 h
  have k14 := k_14 h
  have p14 := p_13_0 h
  have k16 := k_16 h
  have l16 := l_16 h
  have p16 := p_14_1 h
  have k36 := k_36 h
  have l36 := l_36 h
  have p36 := p_13_3 h
  obtain ⟨s1, s2⟩ := scL_of h hq
  have ks := s1.1.1
  have zt := (stL_14 h).2.2.2.2.2.2.2.2 q hq
  rw [show 14 + 12 + 2 * q = 26 + 2 * q by omega] at zt
  have pt : pp 16 (q : Int) = 26 + 2 * q := zt.2
  simp (disch := first | assumption | omega) only [rX_drawingOf_0, rX_drawingOf_1, rX_drawingOf_4, rX_drawingOf_5, rX_drawingOf_6, rX_drawingOf_7, rX_drawingOf_8, rX_drawingOf_9, rX_drawingOf_12, rX_drawingOf_15, rX_drawingOf_16, rX_drawingOf_17, Bool.false_eq_true, true_implies, false_implies, implies_true, true_and, and_true, not_true_eq_false, not_false_eq_true, zPush_I, zPush_L, zPush_R, zPush_U, Int.reduceLT, Int.reduceLE, Int.reduceEq, Int.reduceNe, Int.reduceAdd, Int.reduceSub, Int.reduceMul, Int.reduceNeg, Int.reduceToNat, Nat.reduceAdd, Nat.reduceMul, Nat.reduceEqDiff, zw32_id, zw64_id, zupd_eq, zupd_na, zupd_ni, zupp_eq, zupp_na, zupp_ni, p14, p16, p36, s2, pt]
  refine cReadQ hc ok hq (fun pp1 m1 hc1 a1 a2 => ?_)
  have h := hc1.1
  have k13 := k_13 h
  have k14 := k_14 h
  have p14 := p_13_0 h
  have k15 := k_15 h
  have l15 := l_15 h
  have p15 := p_14_0 h
  have k37 := k_37 h
  have l37 := l_37 h
  have p37 := p_13_4 h
  obtain ⟨d1, d2⟩ := drL_of h hq
  have kd := d1.1
  have e4 := a1.1
  by_cases hr : rd (bOf f q) (lOf f q) = -1
  · rw [hr] at e4
    simp (disch := first | assumption | omega) only [rX_drawingOf_20, rX_drawingOf_21, rX_drawingOf_24, rX_drawingOf_25, rX_drawingOf_28, rX_drawingOf_29, rX_drawingOf_30, rX_drawingOf_31, rX_drawingOf_34, rX_drawingOf_35, rX_drawingOf_36, rX_drawingOf_37, rX_drawingOf_38, rX_drawingOf_39, rX_drawingOf_40, rX_drawingOf_43, rX_drawingOf_46, Bool.false_eq_true, true_implies, false_implies, implies_true, true_and, and_true, not_true_eq_false, not_false_eq_true, zPush_I, zPush_L, zPush_R, zPush_U, Int.reduceLT, Int.reduceLE, Int.reduceEq, Int.reduceNe, Int.reduceAdd, Int.reduceSub, Int.reduceMul, Int.reduceNeg, Int.reduceToNat, Nat.reduceAdd, Nat.reduceMul, Nat.reduceEqDiff, zw32_id, zw64_id, zupd_eq, zupd_na, zupd_ni, zupp_eq, zupp_na, zupp_ni, p14, p15, p37, d2, e4]
    have zq : ∀ m2, cOk f G cn N D sh pp1 m2 → drwOk (73 + 14 * q) f q m2 → frP (fun x _ => 66 + 14 * q ≤ x ∧ x ≤ 79 + 14 * q) m1 m2 → zS 148 49 [zU, zU, zU, zR (73 + 14 * q)] (zPush zU []) sh pp1 m2 Q := by
      intro m2 hc2 b1 b2
      simp (disch := first | assumption | omega) only [rX_drawingOf_49, rX_drawingOf_50, Bool.false_eq_true, true_implies, false_implies, implies_true, true_and, and_true, not_true_eq_false, not_false_eq_true, zPush_I, zPush_L, zPush_R, zPush_U, Int.reduceLT, Int.reduceLE, Int.reduceEq, Int.reduceNe, Int.reduceAdd, Int.reduceSub, Int.reduceMul, Int.reduceNeg, Int.reduceToNat, Nat.reduceAdd, Nat.reduceMul, Nat.reduceEqDiff, zw32_id, zw64_id, zupd_eq, zupd_na, zupd_ni, zupp_eq, zupp_na, zupp_ni]
      exact hQ1 hr pp1 m2 hc2 b1 (frP_tr (frP_wd a2 (fun x j hj => by omega)) b2)
    rcases (hc1.2.2.2.2.2.1 q hq).2 with h0 | ⟨g1, g2, g3⟩
    · refine cPerform d1 (scL_of h hq).1 (by omega) ⟨k15, l15, by omega⟩ ok (by omega) (by omega) hr a1 hc1.2.2.1.1 h0 (fun m2 b1 b2 b3 => ?_)
      have hr2 : frP (fun x _ => 66 + 14 * q ≤ x ∧ x ≤ 79 + 14 * q) m1 m2 := frP_wd b3 (fun x j hj => by unfold pDw at hj; omega)
      refine zq m2 (cOk_blk hc1 hq hr2 ⟨?_, Or.inr ⟨b2, hr, b1⟩⟩) b1 hr2
      have zs : sm (66 + 14 * q) (72 + 14 * q) m1 m2 := sm_fr b3 (fun x j hj => by unfold pDw at hj; omega)
      rw [zs (66 + 14 * q) (by omega) (by omega)]
      exact (hc1.2.2.2.2.2.1 q hq).1.imp_right (fun hx => ⟨hx.1, scrOk_sm hx.2 (sm_wd zs (by omega) (by omega))⟩)
    · exact cPerformN d1 g1 (zq m1 hc1 g3 (frP_rf _ _))
  · simp (disch := first | assumption | omega) only [rX_drawingOf_20, rX_drawingOf_21, rX_drawingOf_24, rX_drawingOf_25, rX_drawingOf_28, rX_drawingOf_29, Bool.false_eq_true, true_implies, false_implies, implies_true, true_and, and_true, not_true_eq_false, not_false_eq_true, zPush_I, zPush_L, zPush_R, zPush_U, Int.reduceLT, Int.reduceLE, Int.reduceEq, Int.reduceNe, Int.reduceAdd, Int.reduceSub, Int.reduceMul, Int.reduceNeg, Int.reduceToNat, Nat.reduceAdd, Nat.reduceMul, Nat.reduceEqDiff, zw32_id, zw64_id, zupd_eq, zupd_na, zupd_ni, zupp_eq, zupp_na, zupp_ni, e4, eq_false hr]
    exact hQ0 hr pp1 m1 hc1 (frP_wd a2 (fun x j hj => by omega))
theorem dPl_ok (ok : fOk f) {p : Int} (p0 : 0 ≤ p) (p3 : p ≤ 3) (hr : ft f p = -1) : pOk (dPl f p) ∧ (dPl f p).2.2.2.2 ≤ 2000 ∧ 0 ≤ sec f p ∧ sec f p ≤ 100000 := by
  have ht := ok.2.1 p p0 p3
  obtain ⟨r1, r2, r3, r4, r5⟩ := rd_it (b := bOf f p) (len := lOf f p) ⟨ht.1, ht.2.1⟩ hr
  have n4 := ok.1 4 (by decide) (by decide)
  have n5 := ok.1 5 (by decide) (by decide)
  have n6 := ok.1 6 (by decide) (by decide)
  simp [loN, hiN] at n4 n5 n6
  have hd := (dRun_end (px := f 4) (py := f 5) r5 n4.1 n5.1 10000 (dBeg f) (dBeg_ok ok) (by show (301 - (0 : Int)) * 21 + 0 < 10000; decide)).2
  have o0 : pOk (dPl f p) := hd.2.2.2.2.2.1
  have o9 : (dPl f p).2.2.2.2 ≤ 2000 := hd.2.2.2.2.2.2
  have s1 : 0 ≤ (dOf f p).2.2.2.2.2.2.1 ∧ (dOf f p).2.2.2.2.2.2.1 ≤ 99 * (dOf f p).2.2.2.2.1 := hd.2.2.2.2.1
  have s2 : 0 ≤ (dOf f p).2.2.2.2.1 ∧ (dOf f p).2.2.2.2.1 ≤ 300 := hd.2.2.2.1
  have o1 := o0.1
  have o2 := o0.2.1
  unfold kOk at o1 o2
  have hX := mul_bd (x := f 6) (y := (dPl f p).1 4 + (dPl f p).2.1 4) (a := 9) (b := 4000) (by omega) (by omega) (by omega) (by omega)
  have he : sec f p = (dOf f p).2.2.2.2.2.2.1 + f 6 * ((dPl f p).1 4 + (dPl f p).2.1 4) := rfl
  exact ⟨o0, o9, by omega, by omega⟩
end
