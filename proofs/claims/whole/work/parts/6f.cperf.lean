/-! ===== the class does a program ===== -/
def cDs (σ : zDs) (d : Nat) (m : zMm) : Prop := cPk σ.2.2.2.2.2.2.2 d m ∧ m d 3 = σ.2.2.2.2.2.2.1 ∧ m d 4 = (if σ.2.2.2.2.2.1 = true then 1 else 0) ∧ m d 8 = σ.2.2.2.2.1 ∧ m d 11 = (σ.2.1 : Int) ∧ ∀ j : Nat, j < σ.2.1 → m (d + 5) (j : Int) = (σ.2.2.1 j : Int) ∧ m (d + 6) (j : Int) = σ.2.2.2.1 j
def pDw (d : Nat) (x : Nat) (_ : Int) : Prop := d ≤ x ∧ x ≤ d + 6
theorem cPk_fr {P : zPl} {d : Nat} {m m' : zMm} {R : Nat → Int → Prop} (h : cPk P d m) (hf : frP R m m') (hR : ∀ x j, (d + 1 ≤ x ∧ x ≤ d + 4) ∨ (x = d ∧ j = 2) → ¬ R x j) : cPk P d m' := by
  obtain ⟨r1, r2, r3, r4, r5⟩ := h
  exact ⟨rowIs_fr r1 hf (fun j => hR _ _ (by omega)), rowIs_fr r2 hf (fun j => hR _ _ (by omega)), fun i a c => by rw [hf _ _ (hR _ _ (by omega))]; exact r3 i a c, fun i a c => by rw [hf _ _ (hR _ _ (by omega))]; exact r4 i a c, by rw [hf _ _ (hR _ _ (by omega))]; exact r5⟩
section
variable {sh : zSh} {pp : zPp} {mm : zMm} {Q : zV → zSh → zPp → zMm → Prop} {d s ns : Nat} {len : Int} {b f : Int → Int}
theorem kK_begin {a : Nat} {st pl rm : Int} (hk : zKd sh a = 4) (hQ : ∀ m, rowIs m a (kBeg st pl rm) → frP (fun x _ => x = a) mm m → Q zU sh pp m) : zS 44 0 [zR a, zI st, zI pl, zI rm] [] sh pp mm Q := by
  simp (disch := first | assumption | omega) only [rK_begin_0, rK_begin_1, rK_begin_2, rK_begin_5, rK_begin_6, rK_begin_7, rK_begin_10, rK_begin_11, rK_begin_12, rK_begin_15, rK_begin_16, rK_begin_17, rK_begin_20, rK_begin_21, rK_begin_22, rK_begin_25, rK_begin_26, rK_begin_27, rK_begin_30, rK_begin_31, rK_begin_32, rK_begin_35, rK_begin_36, rK_begin_37, rK_begin_40, rK_begin_41, rK_begin_42, rK_begin_45, Bool.false_eq_true, true_implies, false_implies, implies_true, true_and, and_true, not_true_eq_false, not_false_eq_true, zPush_I, zPush_L, zPush_R, zPush_U, Int.reduceLT, Int.reduceLE, Int.reduceEq, Int.reduceNe, Int.reduceAdd, Int.reduceSub, Int.reduceMul, Int.reduceNeg, Int.reduceToNat, Nat.reduceAdd, Nat.reduceMul, Nat.reduceEqDiff, zw32_id, zw64_id, zupd_eq, zupd_na, zupd_ni, zupp_eq, zupp_na, zupp_ni]
  refine hQ _ (fun j j0 j1 => ?_) (by repeat (first | exact frP_rf _ _ | refine frP_up ?_ rfl))
  have : j = 0 ∨ j = 1 ∨ j = 2 ∨ j = 3 ∨ j = 4 ∨ j = 5 ∨ j = 6 ∨ j = 7 ∨ j = 8 := by omega
  rcases this with rfl | rfl | rfl | rfl | rfl | rfl | rfl | rfl | rfl <;> simp [zupd, kBeg]
theorem cBegin (hL : drL sh pp d) (hn : zKd sh ns = 20 ∧ zLn sh ns = 9 ∧ ns < d) (hf : fOk f) (hnum : ∀ i, 0 ≤ i → i ≤ 8 → mm ns i = f i) (hQ : ∀ m, cDs (dBeg f) d m → m d 5 = mm d 5 → frP (pDw d) mm m → Q zU sh pp m) : zS 17 0 [zR d, zR ns] [] sh pp mm Q := by
  have hL' := hL
  obtain ⟨k0, ⟨k1, l1, p1⟩, ⟨k2, l2, p2⟩, ⟨k3, p3⟩, ⟨k4, p4⟩, -⟩ := hL'
  obtain ⟨kn, ln, hnd⟩ := hn
  have n0 := hf.1 0 (by decide) (by decide)
  have n1 := hf.1 1 (by decide) (by decide)
  have n2 := hf.1 2 (by decide) (by decide)
  have n3 := hf.1 3 (by decide) (by decide)
  simp [loN, hiN] at n0 n1 n2 n3
  have g0 := hnum 0 (by decide) (by decide)
  have g1 := hnum 1 (by decide) (by decide)
  have g2 := hnum 2 (by decide) (by decide)
  have g3 := hnum 3 (by decide) (by decide)
  simp (disch := first | assumption | omega) only [rD_begin_0, rD_begin_1, rD_begin_4, rD_begin_5, rD_begin_6, rD_begin_7, rD_begin_8, rD_begin_9, rD_begin_10, rD_begin_12, Bool.false_eq_true, true_implies, false_implies, implies_true, true_and, and_true, not_true_eq_false, not_false_eq_true, zPush_I, zPush_L, zPush_R, zPush_U, Int.reduceLT, Int.reduceLE, Int.reduceEq, Int.reduceNe, Int.reduceAdd, Int.reduceSub, Int.reduceMul, Int.reduceNeg, Int.reduceToNat, Nat.reduceAdd, Nat.reduceMul, Nat.reduceEqDiff, zw32_id, zw64_id, zupd_eq, zupd_na, zupd_ni, zupp_eq, zupp_na, zupp_ni, p3, g0, g2]
  refine kK_begin k3 (fun m1 r1 f1 => ?_)
  have h1 : m1 ns 1 = f 1 := by rw [f1 _ _ (by omega), g1]
  have h3 : m1 ns 3 = f 3 := by rw [f1 _ _ (by omega), g3]
  simp (disch := first | assumption | omega) only [rD_begin_15, rD_begin_16, rD_begin_19, rD_begin_20, rD_begin_21, rD_begin_22, rD_begin_23, rD_begin_24, rD_begin_25, rD_begin_27, Bool.false_eq_true, true_implies, false_implies, implies_true, true_and, and_true, not_true_eq_false, not_false_eq_true, zPush_I, zPush_L, zPush_R, zPush_U, Int.reduceLT, Int.reduceLE, Int.reduceEq, Int.reduceNe, Int.reduceAdd, Int.reduceSub, Int.reduceMul, Int.reduceNeg, Int.reduceToNat, Nat.reduceAdd, Nat.reduceMul, Nat.reduceEqDiff, zw32_id, zw64_id, zupd_eq, zupd_na, zupd_ni, zupp_eq, zupp_na, zupp_ni, p4, h1, h3]
  refine kK_begin k4 (fun m2 r2 f2 => ?_)
  simp (disch := first | assumption | omega) only [rD_begin_30, rD_begin_31, rD_begin_34, rD_begin_35, Bool.false_eq_true, true_implies, false_implies, implies_true, true_and, and_true, not_true_eq_false, not_false_eq_true, zPush_I, zPush_L, zPush_R, zPush_U, Int.reduceLT, Int.reduceLE, Int.reduceEq, Int.reduceNe, Int.reduceAdd, Int.reduceSub, Int.reduceMul, Int.reduceNeg, Int.reduceToNat, Nat.reduceAdd, Nat.reduceMul, Nat.reduceEqDiff, zw32_id, zw64_id, zupd_eq, zupd_na, zupd_ni, zupp_eq, zupp_na, zupp_ni, p1]
  refine cFill k1 l1 (by decide) (by decide) (fun m3 r3 f3 => ?_)
  simp (disch := first | assumption | omega) only [rD_begin_38, rD_begin_39, rD_begin_40, rD_begin_43, rD_begin_44, rD_begin_45, rD_begin_48, rD_begin_49, rD_begin_50, rD_begin_53, rD_begin_54, rD_begin_55, rD_begin_58, rD_begin_59, rD_begin_60, rD_begin_63, rD_begin_64, Bool.false_eq_true, true_implies, false_implies, implies_true, true_and, and_true, not_true_eq_false, not_false_eq_true, zPush_I, zPush_L, zPush_R, zPush_U, Int.reduceLT, Int.reduceLE, Int.reduceEq, Int.reduceNe, Int.reduceAdd, Int.reduceSub, Int.reduceMul, Int.reduceNeg, Int.reduceToNat, Nat.reduceAdd, Nat.reduceMul, Nat.reduceEqDiff, zw32_id, zw64_id, zupd_eq, zupd_na, zupd_ni, zupp_eq, zupp_na, zupp_ni]
  have f4 : frP (fun x _ => x = d) m3 (zupd (zupd (zupd (zupd (zupd m3 d 2 0) d 3 0) d 8 0) d 11 0) d 4 0) := by repeat (first | exact frP_rf _ _ | refine frP_up ?_ rfl)
  have fz : frP (pDw d) mm (zupd (zupd (zupd (zupd (zupd m3 d 2 0) d 3 0) d 8 0) d 11 0) d 4 0) := frP_tr (frP_tr (frP_tr (frP_wd f1 (fun x j hj => by unfold pDw; omega)) (frP_wd f2 (fun x j hj => by unfold pDw; omega))) (frP_wd f3 (fun x j hj => by unfold pDw; omega))) (frP_wd f4 (fun x j hj => by unfold pDw; omega))
  have o0 := (pBeg_ok hf)
  have oo1 : kOk (kBeg (f 2) (f 0) 23) 23 0 := o0.1
  have oo2 : kOk (kBeg (f 3) (f 1) 15) 15 0 := o0.2.1
  refine cMark hL (κ := kBeg (f 2) (f 0) 23) (lam := kBeg (f 3) (f 1) 15) (dr := fun _ => 0) (pt := fun _ => 0) (mo := 0) oo1 oo2 (by decide) (rowIs_fr (rowIs_fr (rowIs_fr r1 f2 (by omega)) f3 (by omega)) f4 (by omega)) (rowIs_fr (rowIs_fr r2 f3 (by omega)) f4 (by omega)) (fun i i0 i1 => ?_) (fun i i0 i1 => by omega) ?_ (fun m5 c5 f5 => ?_)
  · rw [f4 _ _ (by omega)]; exact r3 i i0 i1
  · simp (disch := first | assumption | omega) only [Bool.false_eq_true, true_implies, false_implies, implies_true, true_and, and_true, not_true_eq_false, not_false_eq_true, zPush_I, zPush_L, zPush_R, zPush_U, Int.reduceLT, Int.reduceLE, Int.reduceEq, Int.reduceNe, Int.reduceAdd, Int.reduceSub, Int.reduceMul, Int.reduceNeg, Int.reduceToNat, Nat.reduceAdd, Nat.reduceMul, Nat.reduceEqDiff, zw32_id, zw64_id, zupd_eq, zupd_na, zupd_ni, zupp_eq, zupp_na, zupp_ni]
  · simp (disch := first | assumption | omega) only [rD_begin_67, Bool.false_eq_true, true_implies, false_implies, implies_true, true_and, and_true, not_true_eq_false, not_false_eq_true, zPush_I, zPush_L, zPush_R, zPush_U, Int.reduceLT, Int.reduceLE, Int.reduceEq, Int.reduceNe, Int.reduceAdd, Int.reduceSub, Int.reduceMul, Int.reduceNeg, Int.reduceToNat, Nat.reduceAdd, Nat.reduceMul, Nat.reduceEqDiff, zw32_id, zw64_id, zupd_eq, zupd_na, zupd_ni, zupp_eq, zupp_na, zupp_ni]
    refine hQ m5 ⟨c5, ?_, ?_, ?_, ?_, fun j hj => absurd hj (Nat.not_lt_zero j)⟩ ?_ (frP_tr fz (frP_wd f5 (fun x j hj => by unfold pDw; omega)))
    · rw [f5 _ _ (by omega)]; simp (disch := first | assumption | omega) only [Bool.false_eq_true, true_implies, false_implies, implies_true, true_and, and_true, not_true_eq_false, not_false_eq_true, zPush_I, zPush_L, zPush_R, zPush_U, Int.reduceLT, Int.reduceLE, Int.reduceEq, Int.reduceNe, Int.reduceAdd, Int.reduceSub, Int.reduceMul, Int.reduceNeg, Int.reduceToNat, Nat.reduceAdd, Nat.reduceMul, Nat.reduceEqDiff, zw32_id, zw64_id, zupd_eq, zupd_na, zupd_ni, zupp_eq, zupp_na, zupp_ni]; rfl
    · rw [f5 _ _ (by omega)]; simp (disch := first | assumption | omega) only [Bool.false_eq_true, true_implies, false_implies, implies_true, true_and, and_true, not_true_eq_false, not_false_eq_true, zPush_I, zPush_L, zPush_R, zPush_U, Int.reduceLT, Int.reduceLE, Int.reduceEq, Int.reduceNe, Int.reduceAdd, Int.reduceSub, Int.reduceMul, Int.reduceNeg, Int.reduceToNat, Nat.reduceAdd, Nat.reduceMul, Nat.reduceEqDiff, zw32_id, zw64_id, zupd_eq, zupd_na, zupd_ni, zupp_eq, zupp_na, zupp_ni]; rfl
    · rw [f5 _ _ (by omega)]; simp (disch := first | assumption | omega) only [Bool.false_eq_true, true_implies, false_implies, implies_true, true_and, and_true, not_true_eq_false, not_false_eq_true, zPush_I, zPush_L, zPush_R, zPush_U, Int.reduceLT, Int.reduceLE, Int.reduceEq, Int.reduceNe, Int.reduceAdd, Int.reduceSub, Int.reduceMul, Int.reduceNeg, Int.reduceToNat, Nat.reduceAdd, Nat.reduceMul, Nat.reduceEqDiff, zw32_id, zw64_id, zupd_eq, zupd_na, zupd_ni, zupp_eq, zupp_na, zupp_ni]; rfl
    · rw [f5 _ _ (by omega)]; simp (disch := first | assumption | omega) only [Bool.false_eq_true, true_implies, false_implies, implies_true, true_and, and_true, not_true_eq_false, not_false_eq_true, zPush_I, zPush_L, zPush_R, zPush_U, Int.reduceLT, Int.reduceLE, Int.reduceEq, Int.reduceNe, Int.reduceAdd, Int.reduceSub, Int.reduceMul, Int.reduceNeg, Int.reduceToNat, Nat.reduceAdd, Nat.reduceMul, Nat.reduceEqDiff, zw32_id, zw64_id, zupd_eq, zupd_na, zupd_ni, zupp_eq, zupp_na, zupp_ni]; rfl
    · rw [f5 _ _ (by omega)]
      simp (disch := first | assumption | omega) only [Bool.false_eq_true, true_implies, false_implies, implies_true, true_and, and_true, not_true_eq_false, not_false_eq_true, zPush_I, zPush_L, zPush_R, zPush_U, Int.reduceLT, Int.reduceLE, Int.reduceEq, Int.reduceNe, Int.reduceAdd, Int.reduceSub, Int.reduceMul, Int.reduceNeg, Int.reduceToNat, Nat.reduceAdd, Nat.reduceMul, Nat.reduceEqDiff, zw32_id, zw64_id, zupd_eq, zupd_na, zupd_ni, zupp_eq, zupp_na, zupp_ni]
      rw [f3 _ _ (by omega), f2 _ _ (by omega), f1 _ _ (by omega)]
theorem cPerfItem (hL : drL sh pp d) (hS : scL sh pp s) (hsd : s + 6 < d) (hn : zKd sh ns = 20 ∧ zLn sh ns = 9 ∧ ns < d) (hf : fOk f) {n : Nat} (n1 : n ≤ 30) (hi : iOk (kdF b len) (a1F b len) (a2F b len) (dp b len) n) {k o : Nat} {bd : Nat → Nat} {lf : Nat → Int} {it se : Int} {P : zPl} (ho : dOk (kdF b len) (a1F b len) (dp b len) n (k, o, bd, lf, it, false, se, P)) (hk : k < n) (hD : cDs (k, o, bd, lf, it, false, se, P) d mm) (hI : cItm s b len (ip b len k) (k : Int) mm) (hnum : ∀ i, 0 ≤ i → i ≤ 8 → mm ns i = f i) (hQ : ∀ m, cDs (dStep (kdF b len) (a1F b len) (a2F b len) (f 4) (f 5) (k, o, bd, lf, it, false, se, P)) d m → m d 5 = mm d 5 → frP (pDw d) mm m → Q (zI ((dStep (kdF b len) (a1F b len) (a2F b len) (f 4) (f 5) (k, o, bd, lf, it, false, se, P)).1 : Int)) sh pp m) : zS 18 0 [zR d, zR s, zI k, zR ns, zU, zU, zU, zU, zU] [] sh pp mm Q := by
  have hL' := hL
  obtain ⟨k0, ⟨k1, l1, p1⟩, ⟨k2, l2, p2⟩, ⟨k3, p3⟩, ⟨k4, p4⟩, ⟨k5, l5, p5⟩, ⟨k6, l6, p6⟩⟩ := hL'
  obtain ⟨⟨ks, s13⟩, ⟨q1, w1, v1⟩, ⟨q2, w2, v2⟩, ⟨q3, w3, v3⟩, -⟩ := hS
  obtain ⟨kn, ln, hnd⟩ := hn
  obtain ⟨⟨g1, g2, g3⟩, g4, g5, g6, g7, g8, g9⟩ := ho
  obtain ⟨b1, b2, b3, b4⟩ := hi k hk
  obtain ⟨c1, c2, c3⟩ := hI
  obtain ⟨e1, e2, e3, e4, e5, e6⟩ := hD
  dsimp only at *
  have n4 := hf.1 4 (by decide) (by decide)
  have n5 := hf.1 5 (by decide) (by decide)
  simp [loN, hiN] at n4 n5
  have h4 := hnum 4 (by decide) (by decide)
  have h5 := hnum 5 (by decide) (by decide)
  have hkd : kdF b len k = tKd b len (ip b len k) := rfl
  have ka1 : a1F b len k = tVl b len (tEn b len (ip b len k)) := rfl
  have ka2 : a2F b len k = tVl b len (tEn b len (tEn b len (ip b len k))) := rfl
  rw [← hkd] at c1 c2 c3
  rw [← ka1] at c2
  rw [← ka2] at c3
  have hB := b1
  unfold iBg at hB
  have hmo : mm d 2 = P.2.2.2.2 := e1.2.2.2.2
  have hmo0 : 0 ≤ P.2.2.2.2 := g8.2.2.1
  simp only [Bool.false_eq_true, if_false] at e3
  by_cases c7 : kdF b len k = 7
  · rw [c7] at c1
    obtain ⟨o', ho'⟩ : ∃ o', o = o' + 1 := ⟨o - 1, by omega⟩
    subst ho'
    have hll := e6 o' (by omega)
    have hlf := g5 o' (by omega)
    have hbd := g4 o' (by omega)
    have e9 : ((o' + 1 : Nat) : Int) - 1 = (o' : Int) := by push_cast; omega
    have hst : dStep (kdF b len) (a1F b len) (a2F b len) (f 4) (f 5) (k, o' + 1, bd, lf, it, false, se, P) = (if 0 < lf o' - 1 then (bd o', o' + 1, bd, nup lf o' (lf o' - 1), it, false, se, P) else (k + 1, o', bd, nup lf o' (lf o' - 1), it, false, se, P)) := by
      unfold dStep
      dsimp only
      rw [if_pos c7, Nat.add_sub_cancel]
    rw [hst] at hQ
    have lp : ∀ m : zMm, (∀ j : Int, m (d + 5) j = mm (d + 5) j) → (∀ j : Int, m (d + 6) j = if j = (o' : Int) then lf o' - 1 else mm (d + 6) j) → ∀ j : Nat, j < o' + 1 → m (d + 5) (j : Int) = (bd j : Int) ∧ m (d + 6) (j : Int) = nup lf o' (lf o' - 1) j := fun m m5 m6 j hj => by
      rw [m5, m6]
      refine ⟨(e6 j hj).1, ?_⟩
      unfold nup
      by_cases ej : j = o'
      · rw [if_pos ej, if_pos (by omega)]
      · rw [if_neg ej, if_neg (by omega)]; exact (e6 j hj).2
    by_cases c8 : 0 < lf o' - 1
    · rw [if_pos c8] at hQ
      simp (disch := first | assumption | omega) only [rD_performItem_0, rD_performItem_1, rD_performItem_4, rD_performItem_5, rD_performItem_6, rD_performItem_8, rD_performItem_10, rD_performItem_12, rD_performItem_15, rD_performItem_16, rD_performItem_17, rD_performItem_20, rD_afterEnd_0, rD_afterEnd_1, rD_afterEnd_4, rD_afterEnd_7, rD_afterEnd_8, rD_afterEnd_9, rD_afterEnd_10, rD_afterEnd_11, rD_afterEnd_12, rD_afterEnd_15, rD_afterEnd_16, rD_afterEnd_17, rD_afterEnd_18, rD_afterEnd_19, rD_afterEnd_22, rD_afterEnd_23, rD_afterEnd_24, rD_afterEnd_25, rD_afterEnd_26, rD_afterEnd_27, rD_afterEnd_28, rD_afterEnd_29, rD_afterEnd_32, rD_afterEnd_33, rD_afterEnd_34, rD_afterEnd_37, rD_afterEnd_38, rD_afterEnd_41, rD_afterEnd_42, rD_afterEnd_43, rD_afterEnd_44, rD_afterEnd_45, rD_afterEnd_46, rD_afterEnd_49, rD_afterEnd_50, rD_afterEnd_51, rD_afterEnd_54, rD_afterEnd_55, rD_afterEnd_56, rD_afterEnd_57, Bool.false_eq_true, true_implies, false_implies, implies_true, true_and, and_true, not_true_eq_false, not_false_eq_true, zPush_I, zPush_L, zPush_R, zPush_U, Int.reduceLT, Int.reduceLE, Int.reduceEq, Int.reduceNe, Int.reduceAdd, Int.reduceSub, Int.reduceMul, Int.reduceNeg, Int.reduceToNat, Nat.reduceAdd, Nat.reduceMul, Nat.reduceEqDiff, zw32_id, zw64_id, zupd_eq, zupd_na, zupd_ni, zupp_eq, zupp_na, zupp_ni, v1, c1, p5, p6, e5, show ¬ ((o' + 1 : Nat) : Int) = 0 by omega, e9, hll.1, hll.2, c8]
      have fl : frP (fun x _ => x = d + 6) mm (zupd mm (d + 6) (o' : Int) (lf o' - 1)) := frP_up (frP_rf _ _) rfl
      refine hQ _ ⟨cPk_fr e1 fl (by omega), by rw [fl _ _ (by omega)]; exact e2, by rw [fl _ _ (by omega)]; exact e3, by rw [fl _ _ (by omega)]; exact e4, by rw [fl _ _ (by omega)]; exact e5, lp _ (fun j => fl _ _ (by omega)) (fun j => ?_)⟩ (fl _ _ (by omega)) (frP_wd fl (fun x j hj => by unfold pDw; omega))
      unfold zupd
      by_cases ej : j = (o' : Int)
      · simp [ej]
      · simp [ej]
    · rw [if_neg c8] at hQ
      simp (disch := first | assumption | omega) only [rD_performItem_0, rD_performItem_1, rD_performItem_4, rD_performItem_5, rD_performItem_6, rD_performItem_8, rD_performItem_10, rD_performItem_12, rD_performItem_15, rD_performItem_16, rD_performItem_17, rD_performItem_20, rD_afterEnd_0, rD_afterEnd_1, rD_afterEnd_4, rD_afterEnd_7, rD_afterEnd_8, rD_afterEnd_9, rD_afterEnd_10, rD_afterEnd_11, rD_afterEnd_12, rD_afterEnd_15, rD_afterEnd_16, rD_afterEnd_17, rD_afterEnd_18, rD_afterEnd_19, rD_afterEnd_22, rD_afterEnd_23, rD_afterEnd_24, rD_afterEnd_25, rD_afterEnd_26, rD_afterEnd_27, rD_afterEnd_28, rD_afterEnd_29, rD_afterEnd_32, rD_afterEnd_33, rD_afterEnd_34, rD_afterEnd_37, rD_afterEnd_38, rD_afterEnd_41, rD_afterEnd_42, rD_afterEnd_43, rD_afterEnd_44, rD_afterEnd_45, rD_afterEnd_46, rD_afterEnd_49, rD_afterEnd_50, rD_afterEnd_51, rD_afterEnd_54, rD_afterEnd_55, rD_afterEnd_56, rD_afterEnd_57, Bool.false_eq_true, true_implies, false_implies, implies_true, true_and, and_true, not_true_eq_false, not_false_eq_true, zPush_I, zPush_L, zPush_R, zPush_U, Int.reduceLT, Int.reduceLE, Int.reduceEq, Int.reduceNe, Int.reduceAdd, Int.reduceSub, Int.reduceMul, Int.reduceNeg, Int.reduceToNat, Nat.reduceAdd, Nat.reduceMul, Nat.reduceEqDiff, zw32_id, zw64_id, zupd_eq, zupd_na, zupd_ni, zupp_eq, zupp_na, zupp_ni, v1, c1, p5, p6, e5, show ¬ ((o' + 1 : Nat) : Int) = 0 by omega, e9, hll.1, hll.2, c8]
      have fl : frP (fun x j => x = d + 6 ∨ (x = d ∧ j = 11)) mm (zupd (zupd mm (d + 6) (o' : Int) (lf o' - 1)) d 11 (o' : Int)) := frP_up (frP_up (frP_rf _ _) (Or.inl rfl)) (Or.inr ⟨rfl, rfl⟩)
      have := hQ _ ⟨cPk_fr e1 fl (by omega), by rw [fl _ _ (by omega)]; exact e2, by rw [fl _ _ (by omega)]; exact e3, by rw [fl _ _ (by omega)]; exact e4, zupd_eq _ _ _ _, fun j hj => lp _ (fun j => fl _ _ (by omega)) (fun j => ?_) j (by have : j < o' := hj; omega)⟩ (fl _ _ (by omega)) (frP_wd fl (fun x j hj => by unfold pDw; omega))
      · push_cast at this
        exact this
      · rw [zupd_na (by omega)]
        unfold zupd
        by_cases ej : j = (o' : Int)
        · simp [ej]
        · simp [ej]
  have c2 := c2 c7
  by_cases cs : 300 ≤ it ∨ (kdF b len k = 4 ∧ 2000 < P.2.2.2.2 + max (sz (a1F b len k)) (sz (a2F b len k)))
  · have hst : dStep (kdF b len) (a1F b len) (a2F b len) (f 4) (f 5) (k, o, bd, lf, it, false, se, P) = (k, o, bd, lf, it, true, se, P) := by
      unfold dStep
      dsimp only
      rw [if_neg c7, if_pos cs]
    rw [hst] at hQ
    have fl : frP (fun x j => x = d ∧ j = 4) mm (zupd mm d 4 1) := frP_up (frP_rf _ _) ⟨rfl, rfl⟩
    have zz := hQ _ ⟨cPk_fr e1 fl (by omega), by rw [fl _ _ (by omega)]; exact e2, zupd_eq _ _ _ _, by rw [fl _ _ (by omega)]; exact e4, by rw [fl _ _ (by omega)]; exact e5, fun j hj => by rw [fl _ _ (by omega), fl _ _ (by omega)]; exact e6 j hj⟩ (fl _ _ (by omega)) (frP_wd fl (fun x j hj => by unfold pDw; omega))
    by_cases c4 : kdF b len k = 4
    · have c3 := c3 c4
      have q4 := b4 c4
      have na : 0 ≤ sz (a1F b len k) ∧ sz (a1F b len k) ≤ 99 := by unfold sz; omega
      have nb : 0 ≤ sz (a2F b len k) ∧ sz (a2F b len k) ≤ 99 := by unfold sz; omega
      rw [c4] at c1
      by_cases hlong : 2000 < P.2.2.2.2 + max (sz (a1F b len k)) (sz (a2F b len k))
      · simp (disch := first | assumption | omega) only [rD_performItem_0, rD_performItem_1, rD_performItem_4, rD_performItem_5, rD_performItem_6, rD_performItem_8, rD_performItem_10, rD_performItem_12, rD_performItem_15, rD_performItem_16, rD_performItem_17, rD_performItem_20, rD_performItem_21, rD_performItem_22, rD_performItem_25, rD_performItem_26, rD_performItem_27, rD_performItem_29, rD_performItem_30, rD_performItem_33, rD_performItem_34, rD_performItem_35, rD_performItem_37, rD_performItem_39, rD_performItem_40, rD_performItem_43, rD_performItem_44, rD_performItem_47, rD_performItem_48, rD_performItem_50, rD_performItem_52, rD_performItem_55, rD_performItem_56, rD_performItem_59, rD_performItem_61, rD_performItem_63, rD_performItem_66, rD_performItem_67, rD_performItem_70, rD_performItem_73, rD_performItem_74, rD_performItem_77, rD_performItem_78, rD_performItem_80, rD_performItem_82, rD_performItem_85, rD_performItem_86, rD_performItem_89, rD_performItem_92, rD_performItem_95, rD_performItem_96, rD_performItem_97, rD_performItem_100, rD_performItem_101, kD_longer q4.1 q4.2, Bool.false_eq_true, true_implies, false_implies, implies_true, true_and, and_true, not_true_eq_false, not_false_eq_true, zPush_I, zPush_L, zPush_R, zPush_U, Int.reduceLT, Int.reduceLE, Int.reduceEq, Int.reduceNe, Int.reduceAdd, Int.reduceSub, Int.reduceMul, Int.reduceNeg, Int.reduceToNat, Nat.reduceAdd, Nat.reduceMul, Nat.reduceEqDiff, zw32_id, zw64_id, zupd_eq, zupd_na, zupd_ni, zupp_eq, zupp_na, zupp_ni, v1, v2, v3, c1, c2, c3, hmo, hlong]
        exact zz
      · simp (disch := first | assumption | omega) only [rD_performItem_0, rD_performItem_1, rD_performItem_4, rD_performItem_5, rD_performItem_6, rD_performItem_8, rD_performItem_10, rD_performItem_12, rD_performItem_15, rD_performItem_16, rD_performItem_17, rD_performItem_20, rD_performItem_21, rD_performItem_22, rD_performItem_25, rD_performItem_26, rD_performItem_27, rD_performItem_29, rD_performItem_30, rD_performItem_33, rD_performItem_34, rD_performItem_35, rD_performItem_37, rD_performItem_39, rD_performItem_40, rD_performItem_43, rD_performItem_44, rD_performItem_47, rD_performItem_48, rD_performItem_50, rD_performItem_52, rD_performItem_55, rD_performItem_56, rD_performItem_59, rD_performItem_61, rD_performItem_63, rD_performItem_66, rD_performItem_67, rD_performItem_70, rD_performItem_73, rD_performItem_74, rD_performItem_77, rD_performItem_78, rD_performItem_80, rD_performItem_82, rD_performItem_85, rD_performItem_86, rD_performItem_89, rD_performItem_92, rD_performItem_95, rD_performItem_96, rD_performItem_97, rD_performItem_100, rD_performItem_101, kD_longer q4.1 q4.2, Bool.false_eq_true, true_implies, false_implies, implies_true, true_and, and_true, not_true_eq_false, not_false_eq_true, zPush_I, zPush_L, zPush_R, zPush_U, Int.reduceLT, Int.reduceLE, Int.reduceEq, Int.reduceNe, Int.reduceAdd, Int.reduceSub, Int.reduceMul, Int.reduceNeg, Int.reduceToNat, Nat.reduceAdd, Nat.reduceMul, Nat.reduceEqDiff, zw32_id, zw64_id, zupd_eq, zupd_na, zupd_ni, zupp_eq, zupp_na, zupp_ni, v1, v2, v3, c1, c2, c3, hmo, hlong, e4, show ¬ it < 300 by omega]
        exact zz
    · simp (disch := first | assumption | omega) only [rD_performItem_0, rD_performItem_1, rD_performItem_4, rD_performItem_5, rD_performItem_6, rD_performItem_8, rD_performItem_10, rD_performItem_12, rD_performItem_15, rD_performItem_16, rD_performItem_17, rD_performItem_20, rD_performItem_21, rD_performItem_22, rD_performItem_25, rD_performItem_26, rD_performItem_27, rD_performItem_29, rD_performItem_30, rD_performItem_33, rD_performItem_34, rD_performItem_35, rD_performItem_37, rD_performItem_39, rD_performItem_40, rD_performItem_43, rD_performItem_44, rD_performItem_47, rD_performItem_48, rD_performItem_50, rD_performItem_52, rD_performItem_55, rD_performItem_56, rD_performItem_59, rD_performItem_61, rD_performItem_63, rD_performItem_66, rD_performItem_67, rD_performItem_70, rD_performItem_73, rD_performItem_74, rD_performItem_77, rD_performItem_78, rD_performItem_80, rD_performItem_82, rD_performItem_85, rD_performItem_86, rD_performItem_89, rD_performItem_92, rD_performItem_95, rD_performItem_96, rD_performItem_97, rD_performItem_100, rD_performItem_101, Bool.false_eq_true, true_implies, false_implies, implies_true, true_and, and_true, not_true_eq_false, not_false_eq_true, zPush_I, zPush_L, zPush_R, zPush_U, Int.reduceLT, Int.reduceLE, Int.reduceEq, Int.reduceNe, Int.reduceAdd, Int.reduceSub, Int.reduceMul, Int.reduceNeg, Int.reduceToNat, Nat.reduceAdd, Nat.reduceMul, Nat.reduceEqDiff, zw32_id, zw64_id, zupd_eq, zupd_na, zupd_ni, zupp_eq, zupp_na, zupp_ni, v1, v2, v3, c1, c7, c4, e4, show ¬ it < 300 by omega]
      exact zz
  have hit : it < 300 := by omega
  by_cases c4 : kdF b len k = 4
  · have hst : dStep (kdF b len) (a1F b len) (a2F b len) (f 4) (f 5) (k, o, bd, lf, it, false, se, P) = (k + 1, o, bd, lf, it + 1, false, se + max (cei (a1F b len k) (f 4)) (cei (a2F b len k) (f 5)), pTurn (a1F b len k) (a2F b len k) P) := by
      unfold dStep
      dsimp only
      rw [if_neg c7, if_neg cs, if_pos c4]
    rw [hst] at hQ
    have hlong : ¬ 2000 < P.2.2.2.2 + max (sz (a1F b len k)) (sz (a2F b len k)) := by omega
    have c3 := c3 c4
    have q4 := b4 c4
    have na : 0 ≤ sz (a1F b len k) ∧ sz (a1F b len k) ≤ 99 := by unfold sz; omega
    have nb : 0 ≤ sz (a2F b len k) ∧ sz (a2F b len k) ≤ 99 := by unfold sz; omega
    have u1 := cei_bd q4.1 n4.1
    have u2 := cei_bd q4.2 n5.1
    rw [c4] at c1
    simp (disch := first | assumption | omega) only [rD_performItem_0, rD_performItem_1, rD_performItem_4, rD_performItem_5, rD_performItem_6, rD_performItem_8, rD_performItem_10, rD_performItem_12, rD_performItem_15, rD_performItem_16, rD_performItem_17, rD_performItem_20, rD_performItem_21, rD_performItem_22, rD_performItem_25, rD_performItem_26, rD_performItem_27, rD_performItem_29, rD_performItem_30, rD_performItem_33, rD_performItem_34, rD_performItem_35, rD_performItem_37, rD_performItem_39, rD_performItem_40, rD_performItem_43, rD_performItem_44, rD_performItem_47, rD_performItem_48, rD_performItem_50, rD_performItem_52, rD_performItem_55, rD_performItem_56, rD_performItem_59, rD_performItem_61, rD_performItem_63, rD_performItem_66, rD_performItem_67, rD_performItem_70, rD_performItem_73, rD_performItem_74, rD_performItem_77, rD_performItem_78, rD_performItem_80, rD_performItem_82, rD_performItem_85, rD_performItem_86, rD_performItem_89, rD_performItem_92, rD_performItem_95, rD_performItem_96, rD_performItem_97, rD_performItem_100, rD_performItem_101, rD_performItem_102, rD_performItem_103, rD_performItem_104, rD_performItem_107, rD_performItem_108, rD_performItem_109, rD_performItem_112, rD_performItem_114, rD_performItem_117, rD_performItem_118, rD_performItem_120, rD_performItem_122, kD_longer q4.1 q4.2, Bool.false_eq_true, true_implies, false_implies, implies_true, true_and, and_true, not_true_eq_false, not_false_eq_true, zPush_I, zPush_L, zPush_R, zPush_U, Int.reduceLT, Int.reduceLE, Int.reduceEq, Int.reduceNe, Int.reduceAdd, Int.reduceSub, Int.reduceMul, Int.reduceNeg, Int.reduceToNat, Nat.reduceAdd, Nat.reduceMul, Nat.reduceEqDiff, zw32_id, zw64_id, zupd_eq, zupd_na, zupd_ni, zupp_eq, zupp_na, zupp_ni, v1, v2, v3, c1, c2, c3, hmo, hlong, e4, hit]
    have fl : frP (fun x j => x = d ∧ j = 8) mm (zupd mm d 8 (it + 1)) := frP_up (frP_rf _ _) ⟨rfl, rfl⟩
    refine cTurn hL (cPk_fr e1 fl (by omega)) q4.1 q4.2 g8 (by omega) (fun m2 c5 f2 => ?_)
    have h4' : m2 ns 4 = f 4 := by rw [f2 _ _ (by unfold pDt; omega), fl _ _ (by omega), h4]
    have h5' : m2 ns 5 = f 5 := by rw [f2 _ _ (by unfold pDt; omega), fl _ _ (by omega), h5]
    have h3' : m2 d 3 = se := by rw [f2 _ _ (by unfold pDt; omega), fl _ _ (by omega), e2]
    simp (disch := first | assumption | omega) only [rD_performItem_125, rD_performItem_126, rD_performItem_127, rD_performItem_130, rD_performItem_132, rD_performItem_133, rD_performItem_134, rD_performItem_135, rD_performItem_138, rD_performItem_140, rD_performItem_141, rD_performItem_142, rD_performItem_143, rD_performItem_146, rD_performItem_149, rD_performItem_150, rD_performItem_153, rD_performItem_156, rD_performItem_158, rD_performItem_159, rD_performItem_162, rD_performItem_163, rD_performItem_165, rD_performItem_168, rD_performItem_171, rD_performItem_172, rD_performItem_173, rD_performItem_175, rD_performItem_178, rD_performItem_179, rD_performItem_180, rD_performItem_181, kD_handsTake q4.1 n4, kD_handsTake q4.2 n5, kJ_max, Bool.false_eq_true, true_implies, false_implies, implies_true, true_and, and_true, not_true_eq_false, not_false_eq_true, zPush_I, zPush_L, zPush_R, zPush_U, Int.reduceLT, Int.reduceLE, Int.reduceEq, Int.reduceNe, Int.reduceAdd, Int.reduceSub, Int.reduceMul, Int.reduceNeg, Int.reduceToNat, Nat.reduceAdd, Nat.reduceMul, Nat.reduceEqDiff, zw32_id, zw64_id, zupd_eq, zupd_na, zupd_ni, zupp_eq, zupp_na, zupp_ni, h3', h4', h5']
    have f3 : frP (fun x j => x = d ∧ j = 3) m2 (zupd m2 d 3 (se + max (cei (a1F b len k) (f 4)) (cei (a2F b len k) (f 5)))) := frP_up (frP_rf _ _) ⟨rfl, rfl⟩
    have := hQ _ ⟨cPk_fr c5 f3 (by omega), zupd_eq _ _ _ _, by rw [f3 _ _ (by omega), f2 _ _ (by unfold pDt; omega), fl _ _ (by omega)]; exact e3, by rw [f3 _ _ (by omega), f2 _ _ (by unfold pDt; omega)]; exact zupd_eq _ _ _ _, by rw [f3 _ _ (by omega), f2 _ _ (by unfold pDt; omega), fl _ _ (by omega)]; exact e5, fun j hj => by rw [f3 _ _ (by omega), f2 _ _ (by unfold pDt; omega), fl _ _ (by omega), f3 _ _ (by omega), f2 _ _ (by unfold pDt; omega), fl _ _ (by omega)]; exact e6 j hj⟩ (by rw [f3 _ _ (by omega), f2 _ _ (by unfold pDt; omega), fl _ _ (by omega)]) (frP_tr (frP_tr (frP_wd fl (fun x j hj => by unfold pDw; omega)) (frP_wd f2 (fun x j hj => by unfold pDt at hj; unfold pDw; omega))) (frP_wd f3 (fun x j hj => by unfold pDw; omega)))
    push_cast at this
    exact this
  by_cases c5 : kdF b len k = 5
  · have hst : dStep (kdF b len) (a1F b len) (a2F b len) (f 4) (f 5) (k, o, bd, lf, it, false, se, P) = (k + 1, o, bd, lf, it + 1, false, se, pShake (a1F b len k) P) := by
      unfold dStep
      dsimp only
      rw [if_neg c7, if_neg cs, if_neg c4, if_pos c5]
    rw [hst] at hQ
    have q5 := b3.1 c5
    rw [c5] at c1
    simp (disch := first | assumption | omega) only [rD_performItem_0, rD_performItem_1, rD_performItem_4, rD_performItem_5, rD_performItem_6, rD_performItem_8, rD_performItem_10, rD_performItem_12, rD_performItem_15, rD_performItem_16, rD_performItem_17, rD_performItem_20, rD_performItem_21, rD_performItem_22, rD_performItem_25, rD_performItem_26, rD_performItem_27, rD_performItem_29, rD_performItem_30, rD_performItem_33, rD_performItem_34, rD_performItem_35, rD_performItem_37, rD_performItem_39, rD_performItem_40, rD_performItem_43, rD_performItem_44, rD_performItem_47, rD_performItem_48, rD_performItem_50, rD_performItem_52, rD_performItem_55, rD_performItem_56, rD_performItem_59, rD_performItem_61, rD_performItem_63, rD_performItem_66, rD_performItem_67, rD_performItem_70, rD_performItem_73, rD_performItem_74, rD_performItem_77, rD_performItem_78, rD_performItem_80, rD_performItem_82, rD_performItem_85, rD_performItem_86, rD_performItem_89, rD_performItem_92, rD_performItem_95, rD_performItem_96, rD_performItem_97, rD_performItem_100, rD_performItem_101, rD_performItem_102, rD_performItem_103, rD_performItem_104, rD_performItem_107, rD_performItem_108, rD_performItem_109, rD_performItem_112, rD_performItem_114, rD_performItem_117, rD_performItem_118, rD_performItem_120, rD_performItem_122, rD_performItem_125, rD_performItem_126, rD_performItem_127, rD_performItem_130, rD_performItem_132, rD_performItem_133, rD_performItem_134, rD_performItem_135, rD_performItem_138, rD_performItem_140, rD_performItem_141, rD_performItem_142, rD_performItem_143, rD_performItem_146, rD_performItem_149, rD_performItem_150, rD_performItem_153, rD_performItem_156, rD_performItem_158, rD_performItem_159, rD_performItem_162, rD_performItem_163, rD_performItem_165, Bool.false_eq_true, true_implies, false_implies, implies_true, true_and, and_true, not_true_eq_false, not_false_eq_true, zPush_I, zPush_L, zPush_R, zPush_U, Int.reduceLT, Int.reduceLE, Int.reduceEq, Int.reduceNe, Int.reduceAdd, Int.reduceSub, Int.reduceMul, Int.reduceNeg, Int.reduceToNat, Nat.reduceAdd, Nat.reduceMul, Nat.reduceEqDiff, zw32_id, zw64_id, zupd_eq, zupd_na, zupd_ni, zupp_eq, zupp_na, zupp_ni, v1, v2, v3, c1, c2, e4, hit]
    have fl : frP (fun x j => x = d ∧ j = 8) mm (zupd mm d 8 (it + 1)) := frP_up (frP_rf _ _) ⟨rfl, rfl⟩
    refine cShake hL (cPk_fr e1 fl (by omega)) q5 g8 (fun m2 c5 f2 => ?_)
    simp (disch := first | assumption | omega) only [rD_performItem_168, rD_performItem_171, rD_performItem_172, rD_performItem_173, rD_performItem_175, rD_performItem_178, rD_performItem_179, rD_performItem_180, rD_performItem_181, Bool.false_eq_true, true_implies, false_implies, implies_true, true_and, and_true, not_true_eq_false, not_false_eq_true, zPush_I, zPush_L, zPush_R, zPush_U, Int.reduceLT, Int.reduceLE, Int.reduceEq, Int.reduceNe, Int.reduceAdd, Int.reduceSub, Int.reduceMul, Int.reduceNeg, Int.reduceToNat, Nat.reduceAdd, Nat.reduceMul, Nat.reduceEqDiff, zw32_id, zw64_id, zupd_eq, zupd_na, zupd_ni, zupp_eq, zupp_na, zupp_ni]
    have := hQ m2 ⟨c5, by rw [f2 _ _ (by omega), fl _ _ (by omega)]; exact e2, by rw [f2 _ _ (by omega), fl _ _ (by omega)]; exact e3, by rw [f2 _ _ (by omega)]; exact zupd_eq _ _ _ _, by rw [f2 _ _ (by omega), fl _ _ (by omega)]; exact e5, fun j hj => by rw [f2 _ _ (by omega), fl _ _ (by omega), f2 _ _ (by omega), fl _ _ (by omega)]; exact e6 j hj⟩ (by rw [f2 _ _ (by omega), fl _ _ (by omega)]) (frP_tr (frP_wd fl (fun x j hj => by unfold pDw; omega)) (frP_wd f2 (fun x j hj => by unfold pDw; omega)))
    push_cast at this
    exact this
  · have c6 : kdF b len k = 6 := by omega
    have hst : dStep (kdF b len) (a1F b len) (a2F b len) (f 4) (f 5) (k, o, bd, lf, it, false, se, P) = (k + 1, o + 1, nup bd o (k + 1), nup lf o (a1F b len k), it + 1, false, se, P) := by
      unfold dStep
      dsimp only
      rw [if_neg c7, if_neg cs, if_neg c4, if_neg c5]
    rw [hst] at hQ
    have ho3 : o < 3 := by omega
    rw [c6] at c1
    simp (disch := first | assumption | omega) only [rD_performItem_0, rD_performItem_1, rD_performItem_4, rD_performItem_5, rD_performItem_6, rD_performItem_8, rD_performItem_10, rD_performItem_12, rD_performItem_15, rD_performItem_16, rD_performItem_17, rD_performItem_20, rD_performItem_21, rD_performItem_22, rD_performItem_25, rD_performItem_26, rD_performItem_27, rD_performItem_29, rD_performItem_30, rD_performItem_33, rD_performItem_34, rD_performItem_35, rD_performItem_37, rD_performItem_39, rD_performItem_40, rD_performItem_43, rD_performItem_44, rD_performItem_47, rD_performItem_48, rD_performItem_50, rD_performItem_52, rD_performItem_55, rD_performItem_56, rD_performItem_59, rD_performItem_61, rD_performItem_63, rD_performItem_66, rD_performItem_67, rD_performItem_70, rD_performItem_73, rD_performItem_74, rD_performItem_77, rD_performItem_78, rD_performItem_80, rD_performItem_82, rD_performItem_85, rD_performItem_86, rD_performItem_89, rD_performItem_92, rD_performItem_95, rD_performItem_96, rD_performItem_97, rD_performItem_100, rD_performItem_101, rD_performItem_102, rD_performItem_103, rD_performItem_104, rD_performItem_107, rD_performItem_108, rD_performItem_109, rD_performItem_112, rD_performItem_114, rD_performItem_117, rD_performItem_118, rD_performItem_120, rD_performItem_122, rD_performItem_125, rD_performItem_126, rD_performItem_127, rD_performItem_130, rD_performItem_132, rD_performItem_133, rD_performItem_134, rD_performItem_135, rD_performItem_138, rD_performItem_140, rD_performItem_141, rD_performItem_142, rD_performItem_143, rD_performItem_146, rD_performItem_149, rD_performItem_150, rD_performItem_153, rD_performItem_156, rD_performItem_158, rD_performItem_159, rD_performItem_162, rD_performItem_163, rD_performItem_165, rD_performItem_168, rD_performItem_171, rD_performItem_172, rD_performItem_173, rD_performItem_175, rD_performItem_178, rD_performItem_179, rD_performItem_180, rD_performItem_181, rD_openLoop_0, rD_openLoop_1, rD_openLoop_4, rD_openLoop_5, rD_openLoop_8, rD_openLoop_9, rD_openLoop_12, rD_openLoop_13, rD_openLoop_16, rD_openLoop_17, rD_openLoop_18, rD_openLoop_19, rD_openLoop_20, rD_openLoop_21, rD_openLoop_24, rD_openLoop_25, rD_openLoop_28, rD_openLoop_29, rD_openLoop_30, rD_openLoop_31, rD_openLoop_32, rD_openLoop_35, rD_openLoop_36, rD_openLoop_37, rD_openLoop_40, Bool.false_eq_true, true_implies, false_implies, implies_true, true_and, and_true, not_true_eq_false, not_false_eq_true, zPush_I, zPush_L, zPush_R, zPush_U, Int.reduceLT, Int.reduceLE, Int.reduceEq, Int.reduceNe, Int.reduceAdd, Int.reduceSub, Int.reduceMul, Int.reduceNeg, Int.reduceToNat, Nat.reduceAdd, Nat.reduceMul, Nat.reduceEqDiff, zw32_id, zw64_id, zupd_eq, zupd_na, zupd_ni, zupp_eq, zupp_na, zupp_ni, v1, v2, v3, c1, c2, e4, hit, e5, show (o : Int) < 3 by omega, p5, p6]
    have fl : frP (fun x j => x = d + 5 ∨ x = d + 6 ∨ (x = d ∧ (j = 8 ∨ j = 11))) mm (zupd (zupd (zupd (zupd mm d 8 (it + 1)) (d + 5) (o : Int) ((k : Int) + 1)) (d + 6) (o : Int) (a1F b len k)) d 11 ((o : Int) + 1)) := frP_up (frP_up (frP_up (frP_up (frP_rf _ _) (by omega)) (by omega)) (by omega)) (by omega)
    have := hQ _ ⟨cPk_fr e1 fl (by omega), by rw [fl _ _ (by omega)]; exact e2, by rw [fl _ _ (by omega)]; exact e3, ?_, ?_, fun j hj => ?_⟩ (fl _ _ (by omega)) (frP_wd fl (fun x j hj => by unfold pDw; omega))
    · push_cast at this
      exact this
    · simp (disch := first | assumption | omega) only [Bool.false_eq_true, true_implies, false_implies, implies_true, true_and, and_true, not_true_eq_false, not_false_eq_true, zPush_I, zPush_L, zPush_R, zPush_U, Int.reduceLT, Int.reduceLE, Int.reduceEq, Int.reduceNe, Int.reduceAdd, Int.reduceSub, Int.reduceMul, Int.reduceNeg, Int.reduceToNat, Nat.reduceAdd, Nat.reduceMul, Nat.reduceEqDiff, zw32_id, zw64_id, zupd_eq, zupd_na, zupd_ni, zupp_eq, zupp_na, zupp_ni]
    · simp (disch := first | assumption | omega) only [Bool.false_eq_true, true_implies, false_implies, implies_true, true_and, and_true, not_true_eq_false, not_false_eq_true, zPush_I, zPush_L, zPush_R, zPush_U, Int.reduceLT, Int.reduceLE, Int.reduceEq, Int.reduceNe, Int.reduceAdd, Int.reduceSub, Int.reduceMul, Int.reduceNeg, Int.reduceToNat, Nat.reduceAdd, Nat.reduceMul, Nat.reduceEqDiff, zw32_id, zw64_id, zupd_eq, zupd_na, zupd_ni, zupp_eq, zupp_na, zupp_ni]; show _ = ((o + 1 : Nat) : Int); push_cast; rfl
    · have hj' : j < o + 1 := hj
      show _ = ((nup bd o (k + 1) j : Nat) : Int) ∧ _ = nup lf o (a1F b len k) j
      unfold nup
      by_cases ej : j = o
      · subst ej
        simp (disch := first | assumption | omega) only [Bool.false_eq_true, true_implies, false_implies, implies_true, true_and, and_true, not_true_eq_false, not_false_eq_true, zPush_I, zPush_L, zPush_R, zPush_U, Int.reduceLT, Int.reduceLE, Int.reduceEq, Int.reduceNe, Int.reduceAdd, Int.reduceSub, Int.reduceMul, Int.reduceNeg, Int.reduceToNat, Nat.reduceAdd, Nat.reduceMul, Nat.reduceEqDiff, zw32_id, zw64_id, zupd_eq, zupd_na, zupd_ni, zupp_eq, zupp_na, zupp_ni, if_true]
        simp
      · rw [if_neg ej, if_neg ej]
        have ej' : ¬ (j : Int) = (o : Int) := by omega
        simp (disch := first | assumption | omega) only [Bool.false_eq_true, true_implies, false_implies, implies_true, true_and, and_true, not_true_eq_false, not_false_eq_true, zPush_I, zPush_L, zPush_R, zPush_U, Int.reduceLT, Int.reduceLE, Int.reduceEq, Int.reduceNe, Int.reduceAdd, Int.reduceSub, Int.reduceMul, Int.reduceNeg, Int.reduceToNat, Nat.reduceAdd, Nat.reduceMul, Nat.reduceEqDiff, zw32_id, zw64_id, zupd_eq, zupd_na, zupd_ni, zupp_eq, zupp_na, zupp_ni]
        exact e6 j (by omega)
/-- what a drawing holds once the program is done -/
def drwOk (d : Nat) (f : Int → Int) (p : Int) (m : zMm) : Prop := cPk (dOf f p).2.2.2.2.2.2.2 d m ∧ m d 3 = (dOf f p).2.2.2.2.2.2.1 + f 6 * ((dOf f p).2.2.2.2.2.2.2.1 4 + (dOf f p).2.2.2.2.2.2.2.2.1 4) ∧ m d 4 = (if (dOf f p).2.2.2.2.2.1 = true then 1 else 0)
theorem dRun_off {kd a1 a2 : Nat → Int} {px py : Int} {n : Nat} {σ : zDs} (h : dOn n σ = false) : ∀ m, dRun kd a1 a2 px py n m σ = σ
  | 0 => rfl
  | m + 1 => by show (if dOn n σ = true then _ else σ) = σ; rw [h]; rfl
theorem cPerf1 (hL : drL sh pp d) (hS : scL sh pp s) (hsd : s + 6 < d) (hn : zKd sh ns = 20 ∧ zLn sh ns = 9 ∧ ns < d) (hf : fOk f) {n : Nat} (n1 : n ≤ 30) (hi : iOk (kdF b len) (a1F b len) (a2F b len) (dp b len) n) (hit : ∀ k : Nat, k < n → cItm s b len (ip b len k) (k : Int) mm) (h3 : mm s 3 = (n : Int)) (hnum : ∀ i, 0 ≤ i → i ≤ 8 → mm ns i = f i) (hz : ∀ σ m, cDs σ d m → dOk (kdF b len) (a1F b len) (dp b len) n σ → σ = dRun (kdF b len) (a1F b len) (a2F b len) (f 4) (f 5) n 10000 (dBeg f) → m d 5 = mm d 5 → frP (pDw d) mm m → zS 16 55 [zR d, zU, zR ns, zU, zU] [] sh pp m Q) : ∀ (fu : Nat) (σ : zDs) (m : zMm), fu ≤ 10000 → dOk (kdF b len) (a1F b len) (dp b len) n σ → dRun (kdF b len) (a1F b len) (a2F b len) (f 4) (f 5) n fu σ = dRun (kdF b len) (a1F b len) (a2F b len) (f 4) (f 5) n 10000 (dBeg f) → cDs σ d m → m d 5 = mm d 5 → frP (pDw d) mm m → zS 16 18 [zR d, zR s, zR ns, zI σ.1, zI (10000 - (fu : Int))] [] sh pp m Q := by
  have k0 := hL.1
  have ks := hS.1.1
  have n4 := hf.1 4 (by decide) (by decide)
  have n5 := hf.1 5 (by decide) (by decide)
  simp [loN, hiN] at n4 n5
  intro fu
  induction fu with
  | zero =>
    intro σ m hfu ho he hD h5 hfr
    rw [rD_perform_18]
    simp (disch := first | assumption | omega) only [rD_perform_20, rD_perform_23, rD_perform_26, rD_perform_27, rD_perform_30, rD_perform_33, rD_perform_34, rD_perform_35, rD_perform_38, Bool.false_eq_true, true_implies, false_implies, implies_true, true_and, and_true, not_true_eq_false, not_false_eq_true, zPush_I, zPush_L, zPush_R, zPush_U, Int.reduceLT, Int.reduceLE, Int.reduceEq, Int.reduceNe, Int.reduceAdd, Int.reduceSub, Int.reduceMul, Int.reduceNeg, Int.reduceToNat, Nat.reduceAdd, Nat.reduceMul, Nat.reduceEqDiff, zw32_id, zw64_id, zupd_eq, zupd_na, zupd_ni, zupp_eq, zupp_na, zupp_ni, show ¬ (10000 - ((0 : Nat) : Int)) < 10000 by omega]
    exact hz σ m hD ho he h5 hfr
  | succ fu ih =>
    intro σ m hfu ho he hD h5 hfr
    have g3 : m s 3 = (n : Int) := by rw [hfr _ _ (by unfold pDw; omega), h3]
    have hst : (10000 - ((fu + 1 : Nat) : Int)) < 10000 := by omega
    rw [rD_perform_18]
    by_cases hon : dOn n σ = true
    · have hkn : σ.1 < n := by unfold dOn at hon; simp at hon; exact hon.2
      have hsp : σ.2.2.2.2.2.1 = false := by unfold dOn at hon; simp at hon; exact hon.1
      have e : dRun (kdF b len) (a1F b len) (a2F b len) (f 4) (f 5) n (fu + 1) σ = dRun (kdF b len) (a1F b len) (a2F b len) (f 4) (f 5) n fu (dStep (kdF b len) (a1F b len) (a2F b len) (f 4) (f 5) σ) := by
        show (if dOn n σ = true then _ else σ) = _
        rw [if_pos hon]
      rw [e] at he
      have ho2 := dStep_ok (px := f 4) (py := f 5) hi n4.1 n5.1 ho hkn
      obtain ⟨k, o, bd, lf, it, sp, se, P⟩ := σ
      dsimp only at hkn hsp
      subst hsp
      have g4 : m d 4 = 0 := hD.2.2.1
      simp (disch := first | assumption | omega) only [rD_perform_20, rD_perform_23, rD_perform_26, rD_perform_27, rD_perform_30, rD_perform_33, rD_perform_34, rD_perform_35, rD_perform_38, rD_perform_41, rD_perform_42, rD_perform_43, rD_perform_44, rD_perform_45, Bool.false_eq_true, true_implies, false_implies, implies_true, true_and, and_true, not_true_eq_false, not_false_eq_true, zPush_I, zPush_L, zPush_R, zPush_U, Int.reduceLT, Int.reduceLE, Int.reduceEq, Int.reduceNe, Int.reduceAdd, Int.reduceSub, Int.reduceMul, Int.reduceNeg, Int.reduceToNat, Nat.reduceAdd, Nat.reduceMul, Nat.reduceEqDiff, zw32_id, zw64_id, zupd_eq, zupd_na, zupd_ni, zupp_eq, zupp_na, zupp_ni, hst, g4, g3, show (k : Int) < (n : Int) by omega]
      refine cPerfItem hL hS hsd hn hf n1 hi ho hkn hD ?_ (fun i i0 i1 => by rw [hfr _ _ (by unfold pDw; omega)]; exact hnum i i0 i1) (fun m2 d2 e2 f2 => ?_)
      · have := hit k hkn
        unfold cItm at *
        rw [hfr _ _ (by unfold pDw; omega), hfr _ _ (by unfold pDw; omega), hfr _ _ (by unfold pDw; omega)]
        exact this
      · simp (disch := first | assumption | omega) only [rD_perform_48, rD_perform_49, rD_perform_52, Bool.false_eq_true, true_implies, false_implies, implies_true, true_and, and_true, not_true_eq_false, not_false_eq_true, zPush_I, zPush_L, zPush_R, zPush_U, Int.reduceLT, Int.reduceLE, Int.reduceEq, Int.reduceNe, Int.reduceAdd, Int.reduceSub, Int.reduceMul, Int.reduceNeg, Int.reduceToNat, Nat.reduceAdd, Nat.reduceMul, Nat.reduceEqDiff, zw32_id, zw64_id, zupd_eq, zupd_na, zupd_ni, zupp_eq, zupp_na, zupp_ni]
        have := ih _ m2 (by omega) ho2 he d2 (by rw [e2, h5]) (frP_tr hfr f2)
        rw [show 10000 - ((fu + 1 : Nat) : Int) + 1 = 10000 - (fu : Int) by push_cast; omega]
        exact this
    · have hon' : dOn n σ = false := by simpa using hon
      rw [dRun_off hon'] at he
      have z := hz σ m hD ho he h5 hfr
      obtain ⟨k, o, bd, lf, it, sp, se, P⟩ := σ
      cases sp with
      | true =>
        have g4 : m d 4 = 1 := hD.2.2.1
        simp (disch := first | assumption | omega) only [rD_perform_20, rD_perform_23, rD_perform_26, rD_perform_27, rD_perform_30, rD_perform_33, rD_perform_34, rD_perform_35, rD_perform_38, Bool.false_eq_true, true_implies, false_implies, implies_true, true_and, and_true, not_true_eq_false, not_false_eq_true, zPush_I, zPush_L, zPush_R, zPush_U, Int.reduceLT, Int.reduceLE, Int.reduceEq, Int.reduceNe, Int.reduceAdd, Int.reduceSub, Int.reduceMul, Int.reduceNeg, Int.reduceToNat, Nat.reduceAdd, Nat.reduceMul, Nat.reduceEqDiff, zw32_id, zw64_id, zupd_eq, zupd_na, zupd_ni, zupp_eq, zupp_na, zupp_ni, hst, g4]
        exact z
      | false =>
        have g4 : m d 4 = 0 := hD.2.2.1
        have hk : ¬ (k : Int) < (n : Int) := by
          unfold dOn at hon'
          simp at hon'
          omega
        simp (disch := first | assumption | omega) only [rD_perform_20, rD_perform_23, rD_perform_26, rD_perform_27, rD_perform_30, rD_perform_33, rD_perform_34, rD_perform_35, rD_perform_38, Bool.false_eq_true, true_implies, false_implies, implies_true, true_and, and_true, not_true_eq_false, not_false_eq_true, zPush_I, zPush_L, zPush_R, zPush_U, Int.reduceLT, Int.reduceLE, Int.reduceEq, Int.reduceNe, Int.reduceAdd, Int.reduceSub, Int.reduceMul, Int.reduceNeg, Int.reduceToNat, Nat.reduceAdd, Nat.reduceMul, Nat.reduceEqDiff, zw32_id, zw64_id, zupd_eq, zupd_na, zupd_ni, zupp_eq, zupp_na, zupp_ni, hst, g4, g3, hk]
        exact z
theorem cPerform (hL : drL sh pp d) (hS : scL sh pp s) (hsd : s + 6 < d) (hn : zKd sh ns = 20 ∧ zLn sh ns = 9 ∧ ns < d) (hf : fOk f) {p : Int} (p0 : 0 ≤ p) (p3 : p ≤ 3) (hr : rd (bOf f p) (lOf f p) = -1) (hsc : scrOk s (bOf f p) (lOf f p) mm) (hnum : ∀ i, 0 ≤ i → i ≤ 8 → mm ns i = f i) (h5 : mm d 5 = 0) (hQ : ∀ m, drwOk d f p m → m d 5 = 1 → frP (pDw d) mm m → Q zU sh pp m) : zS 16 0 [zR d, zR s, zR ns, zU, zU] [] sh pp mm Q := by
  have hL' := hL
  obtain ⟨k0, -, -, ⟨k3, q3⟩, ⟨k4, q4⟩, -⟩ := hL'
  have ht := hf.2.1 p p0 p3
  obtain ⟨r1, r2, r3, r4, r5⟩ := rd_it (b := bOf f p) (len := lOf f p) ⟨ht.1, ht.2.1⟩ hr
  obtain ⟨n, s1, s2, s3, s4, s5⟩ := hsc.2 hr
  have en : nIt (bOf f p) (lOf f p) = n := nItF_eq s3 (fun k hk => (s5 k hk).1) 31 0 (by omega) (by omega)
  rw [en] at r1 r2 r3 r4 r5
  have n6 := hf.1 6 (by decide) (by decide)
  simp [loN, hiN] at n6
  have hdo : dRun (kdF (bOf f p) (lOf f p)) (a1F (bOf f p) (lOf f p)) (a2F (bOf f p) (lOf f p)) (f 4) (f 5) n 10000 (dBeg f) = dOf f p := by unfold dOf dSg; rw [en]
  simp (disch := first | assumption | omega) only [rD_perform_0, rD_perform_1, rD_perform_4, rD_perform_7, rD_perform_8, rD_perform_9, rD_perform_10, Bool.false_eq_true, true_implies, false_implies, implies_true, true_and, and_true, not_true_eq_false, not_false_eq_true, zPush_I, zPush_L, zPush_R, zPush_U, Int.reduceLT, Int.reduceLE, Int.reduceEq, Int.reduceNe, Int.reduceAdd, Int.reduceSub, Int.reduceMul, Int.reduceNeg, Int.reduceToNat, Nat.reduceAdd, Nat.reduceMul, Nat.reduceEqDiff, zw32_id, zw64_id, zupd_eq, zupd_na, zupd_ni, zupp_eq, zupp_na, zupp_ni, h5]
  refine cBegin hL hn hf hnum (fun m1 d1 e1 f1 => ?_)
  simp (disch := first | assumption | omega) only [rD_perform_13, rD_perform_14, rD_perform_15, rD_perform_16, Bool.false_eq_true, true_implies, false_implies, implies_true, true_and, and_true, not_true_eq_false, not_false_eq_true, zPush_I, zPush_L, zPush_R, zPush_U, Int.reduceLT, Int.reduceLE, Int.reduceEq, Int.reduceNe, Int.reduceAdd, Int.reduceSub, Int.reduceMul, Int.reduceNeg, Int.reduceToNat, Nat.reduceAdd, Nat.reduceMul, Nat.reduceEqDiff, zw32_id, zw64_id, zupd_eq, zupd_na, zupd_ni, zupp_eq, zupp_na, zupp_ni]
  have := cPerf1 (Q := Q) (mm := m1) hL hS hsd hn hf s1 r5 (fun k hk => ?_) ?_ (fun i i0 i1 => by rw [f1 _ _ (by unfold pDw; omega)]; exact hnum i i0 i1) (fun σ m2 d2 ho2 es e2 f2 => ?_) 10000 (dBeg f) m1 (Nat.le_refl _) (dBeg_ok hf) rfl d1 rfl (frP_rf _ _)
  · exact this
  · have := (s5 k hk).2.2
    unfold cItm at *
    rw [f1 _ _ (by unfold pDw; omega), f1 _ _ (by unfold pDw; omega), f1 _ _ (by unfold pDw; omega)]
    exact this
  · rw [f1 _ _ (by unfold pDw; omega)]; exact s2
  · rw [hdo] at es
    subst es
    obtain ⟨c1, c2, c3, -⟩ := d2
    obtain ⟨-, -, -, g6, g7, g8, g9⟩ := ho2
    have a1 := c1.1 4 (by decide) (by decide)
    have a2 := c1.2.1 4 (by decide) (by decide)
    have o1 := g8.1
    have o2 := g8.2.1
    unfold kOk at o1 o2
    have h6 : m2 ns 6 = f 6 := by rw [f2 _ _ (by unfold pDw; omega), f1 _ _ (by unfold pDw; omega)]; exact hnum 6 (by decide) (by decide)
    have hX := mul_bd (x := f 6) (y := (dOf f p).2.2.2.2.2.2.2.1 4 + (dOf f p).2.2.2.2.2.2.2.2.1 4) (a := 9) (b := 4000) (by omega) (by omega) (by omega) (by omega)
    simp (disch := first | assumption | omega) only [rD_perform_55, rD_perform_56, rD_perform_57, rD_perform_60, rD_perform_61, rD_perform_63, rD_perform_64, rD_perform_65, rD_perform_68, rD_perform_71, rD_perform_72, rD_perform_75, rD_perform_78, rD_perform_79, rD_perform_80, rD_perform_81, rD_perform_84, rD_perform_85, rD_perform_86, rD_perform_89, Bool.false_eq_true, true_implies, false_implies, implies_true, true_and, and_true, not_true_eq_false, not_false_eq_true, zPush_I, zPush_L, zPush_R, zPush_U, Int.reduceLT, Int.reduceLE, Int.reduceEq, Int.reduceNe, Int.reduceAdd, Int.reduceSub, Int.reduceMul, Int.reduceNeg, Int.reduceToNat, Nat.reduceAdd, Nat.reduceMul, Nat.reduceEqDiff, zw32_id, zw64_id, zupd_eq, zupd_na, zupd_ni, zupp_eq, zupp_na, zupp_ni, q3, q4, a1, a2, c2, h6]
    have f3 : frP (fun x j => x = d ∧ (j = 3 ∨ j = 5)) m2 (zupd (zupd m2 d 3 ((dOf f p).2.2.2.2.2.2.1 + f 6 * ((dOf f p).2.2.2.2.2.2.2.1 4 + (dOf f p).2.2.2.2.2.2.2.2.1 4))) d 5 1) := frP_up (frP_up (frP_rf _ _) (by omega)) (by omega)
    refine hQ _ ⟨cPk_fr c1 f3 (by omega), ?_, ?_⟩ (zupd_eq _ _ _ _) (frP_tr (frP_tr f1 f2) (frP_wd f3 (fun x j hj => by unfold pDw; omega)))
    · simp (disch := first | assumption | omega) only [Bool.false_eq_true, true_implies, false_implies, implies_true, true_and, and_true, not_true_eq_false, not_false_eq_true, zPush_I, zPush_L, zPush_R, zPush_U, Int.reduceLT, Int.reduceLE, Int.reduceEq, Int.reduceNe, Int.reduceAdd, Int.reduceSub, Int.reduceMul, Int.reduceNeg, Int.reduceToNat, Nat.reduceAdd, Nat.reduceMul, Nat.reduceEqDiff, zw32_id, zw64_id, zupd_eq, zupd_na, zupd_ni, zupp_eq, zupp_na, zupp_ni]
    · rw [f3 _ _ (by omega)]; exact c3
theorem cPerformN (hL : drL sh pp d) (h5 : mm d 5 = 1) (hQ : Q zU sh pp mm) : zS 16 0 [zR d, zR s, zR ns, zU, zU] [] sh pp mm Q := by
  have k0 := hL.1
  simp (disch := first | assumption | omega) only [rD_perform_0, rD_perform_1, rD_perform_4, rD_perform_7, Bool.false_eq_true, true_implies, false_implies, implies_true, true_and, and_true, not_true_eq_false, not_false_eq_true, zPush_I, zPush_L, zPush_R, zPush_U, Int.reduceLT, Int.reduceLE, Int.reduceEq, Int.reduceNe, Int.reduceAdd, Int.reduceSub, Int.reduceMul, Int.reduceNeg, Int.reduceToNat, Nat.reduceAdd, Nat.reduceMul, Nat.reduceEqDiff, zw32_id, zw64_id, zupd_eq, zupd_na, zupd_ni, zupp_eq, zupp_na, zupp_ni, h5]
  exact hQ
end
