/-! ===== bends of the class ===== -/
section
variable {sh : zSh} {pp : zPp} {mm : zMm} {Q : zV → zSh → zPp → zMm → Prop} {f : Int → Int} {G : Int → Option (Int → Int)} {cn : Int → Int} {N D : Nat}
theorem cIm_1 (h : cIm G sh pp mm) (i : Int) (i0 : 0 ≤ i) (i1 : i < 2) : cIm1 G sh pp mm i := h.1 i i0 i1
theorem cLines (hc : cOk f G cn N D sh pp mm) (h17 : pp 38 17 = 0) {sh' : zSh} {pp' : zPp} {mm' : zMm} (he : exH sh sh') (hl : sh'.length = sh.length + 3) (hs : zSm sh' = zSm sh + 40962) (hp17 : pp' 38 17 = sh.length) (hL : lnL sh' pp' sh.length) (hp : ∀ a i, a < sh.length → ¬ (a = 38 ∧ i = 17) → pp' a i = pp a i) (hm : ∀ a, a < sh.length → mm' a = mm a) : cOk f G cn N D sh' pp' mm' := by
  have c1 := hc.1
  have l := c1.2.2
  have c4 := hc.2.2.2.1
  have c11 := hc.2.2.2.2.2.2.2.2.2.2
  have pE : ppE sh.length pp pp' := fun a i a1 _ a3 => hp a i a1 a3
  have e0 := hp 34 0 (by omega) (by decide)
  have e1 := hp 34 1 (by omega) (by decide)
  have ei : ∀ i, 0 ≤ i → i < 2 → pp' 34 i = pp 34 i := fun i _ _ => hp 34 i (by omega) (by omega)
  refine cOk_ex hc he pE hm ⟨fun i i0 i1 => cIm1_ex (cIm_1 c4 i i0 i1) he rfl (ei i i0 i1) pE hm, ?_⟩ (Or.inr ?_) ?_
  · have z := c4.2
    rw [e0, e1]
    exact z
  · rw [hp17]
    refine ⟨l, by omega, hL, fun i i0 i1 => ?_⟩
    have z := ei i i0 i1
    rw [z]
    rcases c4.1 i i0 i1 with x | ⟨x1, x2, -⟩
    · exact Or.inl x.1
    · exact Or.inr (Or.inl x2)
  · obtain ⟨r1, r2⟩ := c11
    rw [if_pos h17] at r1 r2
    unfold cRm
    have n17 : ¬ pp' 38 17 = 0 := by omega
    have e0' : pp' 34 0 = pp 34 0 := e0
    have e1' : pp' 34 1 = pp 34 1 := e1
    rw [if_neg n17, if_neg n17, e0', e1']
    exact ⟨by omega, by omega⟩
theorem cBends (hc : cOk f G cn N D sh pp mm) (ok : fOk f) (hQ1 : ¬ (onB f = true ∧ 0 < nE f) → ∀ m, cOk f G (bump cn 1) N D sh pp m → frX sh mm sh m → Q (zI (-3)) sh pp m) (hQ2 : onB f = true → 0 < nE f → ∀ sh' pp' m v, cOk f G cn N D sh' pp' m → frX sh mm sh' m → (∀ a, a < 143 → a ≠ 34 → a ≠ 38 → pp' a = pp a) → bnA f v → Q (zI v) sh' pp' m) : zS 122 0 [zR 13] [] sh pp mm Q := by
  have h := hc.1
  have k13 := k_13 h
  have k14 := k_14 h
  have p14 := p_13_0 h
  have k38 := k_38 h
  have p38 := p_13_5 h
  have l := h.2.2
  simp (disch := first | assumption | omega) only [rX_bends_0, rX_bends_1, rX_bends_4, rX_bends_5, rX_bends_8, Bool.false_eq_true, true_implies, false_implies, implies_true, true_and, and_true, not_true_eq_false, not_false_eq_true, zPush_I, zPush_L, zPush_R, zPush_U, Int.reduceLT, Int.reduceLE, Int.reduceEq, Int.reduceNe, Int.reduceAdd, Int.reduceSub, Int.reduceMul, Int.reduceNeg, Int.reduceToNat, Nat.reduceAdd, Nat.reduceMul, Nat.reduceEqDiff, zw32_id, zw64_id, zupd_eq, zupd_na, zupd_ni, zupp_eq, zupp_na, zupp_ni, p14, p38]
  refine cLearn hc ok (fun m1 c1 k1 k10 f1 => ?_)
  have hl := fun (Q : zV → zSh → zPp → zMm → Prop) => kN_hasLine (Q := Q) h k1
  by_cases o : onB f = true ∧ 0 < nE f
  · rw [if_pos o] at hl
    have q := hQ2 o.1 o.2
    simp (disch := first | assumption | omega) only [rX_bends_11, rX_bends_12, rX_bends_15, rX_bends_18, rX_bends_29, rX_bends_30, rX_bends_33, Bool.false_eq_true, true_implies, false_implies, implies_true, true_and, and_true, not_true_eq_false, not_false_eq_true, zPush_I, zPush_L, zPush_R, zPush_U, Int.reduceLT, Int.reduceLE, Int.reduceEq, Int.reduceNe, Int.reduceAdd, Int.reduceSub, Int.reduceMul, Int.reduceNeg, Int.reduceToNat, Nat.reduceAdd, Nat.reduceMul, Nat.reduceEqDiff, zw32_id, zw64_id, zupd_eq, zupd_na, zupd_ni, zupp_eq, zupp_na, zupp_ni, p38, hl]
    by_cases e15 : m1 38 15 = -1
    · rcases c1.2.2.2.2.2.2.2.2.2.1 with z | ⟨z1, z2, z3, z4⟩
      · simp (disch := first | assumption | omega) only [rN_fewestAbouts_0, rN_fewestAbouts_1, rN_fewestAbouts_4, rN_fewestAbouts_5, rN_fewestAbouts_13, rN_fewestAbouts_14, rN_fewestAbouts_17, Bool.false_eq_true, true_implies, false_implies, implies_true, true_and, and_true, not_true_eq_false, not_false_eq_true, zPush_I, zPush_L, zPush_R, zPush_U, Int.reduceLT, Int.reduceLE, Int.reduceEq, Int.reduceNe, Int.reduceAdd, Int.reduceSub, Int.reduceMul, Int.reduceNeg, Int.reduceToNat, Nat.reduceAdd, Nat.reduceMul, Nat.reduceEqDiff, zw32_id, zw64_id, zupd_eq, zupd_na, zupd_ni, zupp_eq, zupp_na, zupp_ni, eq_true e15, eq_true z]
        refine newLines h (fun sh' pp' mm' g1 g2 g3 g4 g5 g6 g7 => ?_)
        have c2 := cLines c1 z g1 g2 g3 g4 g5 g6 g7
        have fx : frX sh m1 sh' mm' := ⟨fun a ha => g7 a (by omega), fun a ha => g1.2 a (by omega)⟩
        have k2 : cNtK f mm' := cNtK_sm k1 (fun x a b => g7 x (by omega))
        refine cAbLoop c2.1 ok g4 g5 l k2 o (fun m9 v a1 a2 => ?_)
        obtain ⟨d1, d2⟩ := cAbEnd c2 g4 l k2 (by rw [g7 38 (by omega)]; exact k10) a1 a2
        have q2 := q sh' pp' _ v d1 (frX_tr (frX_nt f1) (frX_tr fx d2)) (fun a a1 a2 a3 => by funext i; exact g6 a i (by omega) (by omega)) a2
        simp (disch := first | assumption | omega) only [rX_bends_36, Bool.false_eq_true, true_implies, false_implies, implies_true, true_and, and_true, not_true_eq_false, not_false_eq_true, zPush_I, zPush_L, zPush_R, zPush_U, Int.reduceLT, Int.reduceLE, Int.reduceEq, Int.reduceNe, Int.reduceAdd, Int.reduceSub, Int.reduceMul, Int.reduceNeg, Int.reduceToNat, Nat.reduceAdd, Nat.reduceMul, Nat.reduceEqDiff, zw32_id, zw64_id, zupd_eq, zupd_na, zupd_ni, zupp_eq, zupp_na, zupp_ni]
        exact q2
      · have nz : ¬ pp 38 17 = 0 := by omega
        simp (disch := first | assumption | omega) only [rN_fewestAbouts_0, rN_fewestAbouts_1, rN_fewestAbouts_4, rN_fewestAbouts_5, rN_fewestAbouts_13, rN_fewestAbouts_14, rN_fewestAbouts_17, Bool.false_eq_true, true_implies, false_implies, implies_true, true_and, and_true, not_true_eq_false, not_false_eq_true, zPush_I, zPush_L, zPush_R, zPush_U, Int.reduceLT, Int.reduceLE, Int.reduceEq, Int.reduceNe, Int.reduceAdd, Int.reduceSub, Int.reduceMul, Int.reduceNeg, Int.reduceToNat, Nat.reduceAdd, Nat.reduceMul, Nat.reduceEqDiff, zw32_id, zw64_id, zupd_eq, zupd_na, zupd_ni, zupp_eq, zupp_na, zupp_ni, eq_true e15, eq_false nz]
        refine cAbLoop h ok rfl z3 z1 k1 o (fun m9 v a1 a2 => ?_)
        obtain ⟨d1, d2⟩ := cAbEnd c1 rfl z1 k1 k10 a1 a2
        have q2 := q sh pp _ v d1 (frX_tr (frX_nt f1) d2) (fun a _ _ _ => rfl) a2
        simp (disch := first | assumption | omega) only [rX_bends_36, Bool.false_eq_true, true_implies, false_implies, implies_true, true_and, and_true, not_true_eq_false, not_false_eq_true, zPush_I, zPush_L, zPush_R, zPush_U, Int.reduceLT, Int.reduceLE, Int.reduceEq, Int.reduceNe, Int.reduceAdd, Int.reduceSub, Int.reduceMul, Int.reduceNeg, Int.reduceToNat, Nat.reduceAdd, Nat.reduceMul, Nat.reduceEqDiff, zw32_id, zw64_id, zupd_eq, zupd_na, zupd_ni, zupp_eq, zupp_na, zupp_ni]
        exact q2
    · have e : bnA f (m1 38 15) := by
        rcases k1.2.2.2.1 with x | x
        · exact absurd x e15
        · exact x
      have q2 := q sh pp m1 _ c1 (frX_nt f1) (fun a _ _ _ => rfl) e
      simp (disch := first | assumption | omega) only [rN_fewestAbouts_0, rN_fewestAbouts_1, rN_fewestAbouts_4, rN_fewestAbouts_5, rN_fewestAbouts_8, rN_fewestAbouts_9, rN_fewestAbouts_12, rX_bends_36, Bool.false_eq_true, true_implies, false_implies, implies_true, true_and, and_true, not_true_eq_false, not_false_eq_true, zPush_I, zPush_L, zPush_R, zPush_U, Int.reduceLT, Int.reduceLE, Int.reduceEq, Int.reduceNe, Int.reduceAdd, Int.reduceSub, Int.reduceMul, Int.reduceNeg, Int.reduceToNat, Nat.reduceAdd, Nat.reduceMul, Nat.reduceEqDiff, zw32_id, zw64_id, zupd_eq, zupd_na, zupd_ni, zupp_eq, zupp_na, zupp_ni, eq_false e15]
      exact q2
  · rw [if_neg o] at hl
    have q := cBadP c1 (i := 1) (by decide) (by decide) (fun m a1 a2 => hQ1 o m a1 (frX_tr (frX_nt f1) a2))
    simp (disch := first | assumption | omega) only [rX_bends_11, rX_bends_12, rX_bends_15, rX_bends_18, rX_bends_21, rX_bends_22, rX_bends_23, rX_bends_25, rX_bends_28, kX_refuse h, Bool.false_eq_true, true_implies, false_implies, implies_true, true_and, and_true, not_true_eq_false, not_false_eq_true, zPush_I, zPush_L, zPush_R, zPush_U, Int.reduceLT, Int.reduceLE, Int.reduceEq, Int.reduceNe, Int.reduceAdd, Int.reduceSub, Int.reduceMul, Int.reduceNeg, Int.reduceToNat, Nat.reduceAdd, Nat.reduceMul, Nat.reduceEqDiff, zw32_id, zw64_id, zupd_eq, zupd_na, zupd_ni, zupp_eq, zupp_na, zupp_ni, p38, hl]
    exact q
end
