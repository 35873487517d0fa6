/-! ===== the sums of all guesses, by programs and by levels ===== -/
theorem gTerm {f : Int → Int} {c : Nat → Nat} {b : Bool} {p s : Nat} (hs : s < 4) (hc : c (4 * p + s) = if b = true then gWt (4 * p + s) else 0) : c (4 * p + s) * (f 8).toNat ^ gLv f (4 * p + s) * (10 - (f 8).toNat) ^ (seenN f 384 - gLv f (4 * p + s)) = if b = true then gW f (p : Int) s else 0 := by
  have e1 : (4 * p + s) / 4 = p := by omega
  have e2 : (4 * p + s) % 4 = s := by omega
  rw [hc]
  unfold gLv gWt gW wtN
  rw [e1, e2]
  by_cases hb : b = true
  · rw [if_pos hb, if_pos hb]
  · rw [if_neg hb, if_neg hb, Nat.zero_mul, Nat.zero_mul]
theorem tot_s (c lv : Nat → Nat) (R n k : Nat) : tot c lv R n (k + 1) = tot c lv R n k + c k * R ^ lv k * (10 - R) ^ (n - lv k) := rfl
theorem gT_tot (q a : Int) (f : Int → Int) : ∀ p : Nat, (gT q a f p).1 = tot (gCA f) (gLv f) (f 8).toNat (seenN f 384) (4 * p) ∧ (gT q a f p).2 = tot (gCP q a f) (gLv f) (f 8).toNat (seenN f 384) (4 * p)
  | 0 => ⟨rfl, rfl⟩
  | p + 1 => by
    obtain ⟨z1, z2⟩ := gT_tot q a f p
    have hA : ∀ s, s < 4 → gCA f (4 * p + s) = if gOk f (p : Int) = true then gWt (4 * p + s) else 0 := fun s hs => by
      have e1 : (4 * p + s) / 4 = p := by omega
      unfold gCA gGd
      rw [e1]
    have hP : ∀ s, s < 4 → gCP q a f (4 * p + s) = if (gOk f (p : Int) && gMn q a f (p : Int) s) = true then gWt (4 * p + s) else 0 := fun s hs => by
      have e1 : (4 * p + s) / 4 = p := by omega
      have e2 : (4 * p + s) % 4 = s := by omega
      unfold gCP gGd
      rw [e1, e2]
      simp only [Bool.and_eq_true]
    have t0 := gTerm (f := f) (by decide) (hA 0 (by decide))
    have t1 := gTerm (f := f) (by decide) (hA 1 (by decide))
    have t2 := gTerm (f := f) (by decide) (hA 2 (by decide))
    have t3 := gTerm (f := f) (by decide) (hA 3 (by decide))
    have u0 := gTerm (f := f) (by decide) (hP 0 (by decide))
    have u1 := gTerm (f := f) (by decide) (hP 1 (by decide))
    have u2 := gTerm (f := f) (by decide) (hP 2 (by decide))
    have u3 := gTerm (f := f) (by decide) (hP 3 (by decide))
    rw [Nat.add_zero] at t0 u0
    have eT : gT q a f (p + 1) = if gOk f (p : Int) = true then ((gT q a f p).1 + (gP q a f (p : Int) 4).1, (gT q a f p).2 + (gP q a f (p : Int) 4).2) else gT q a f p := rfl
    have p1 : (gP q a f (p : Int) 4).1 = 0 + gW f (p : Int) 0 + gW f (p : Int) 1 + gW f (p : Int) 2 + gW f (p : Int) 3 := rfl
    have p2 : (gP q a f (p : Int) 4).2 = 0 + (if gMn q a f (p : Int) 0 = true then gW f (p : Int) 0 else 0) + (if gMn q a f (p : Int) 1 = true then gW f (p : Int) 1 else 0) + (if gMn q a f (p : Int) 2 = true then gW f (p : Int) 2 else 0) + (if gMn q a f (p : Int) 3 = true then gW f (p : Int) 3 else 0) := rfl
    rw [show 4 * (p + 1) = 4 * p + 3 + 1 by omega, tot_s, tot_s, show 4 * p + 3 = 4 * p + 2 + 1 by omega, tot_s, tot_s, show 4 * p + 2 = 4 * p + 1 + 1 by omega, tot_s, tot_s, tot_s, tot_s, eT]
    rw [show 4 * p + 1 + 1 + 1 = 4 * p + 3 by omega, show 4 * p + 1 + 1 = 4 * p + 2 by omega, t0, t1, t2, t3, u0, u1, u2, u3, ← z1, ← z2]
    generalize gW f (p : Int) 0 = w0 at *
    generalize gW f (p : Int) 1 = w1 at *
    generalize gW f (p : Int) 2 = w2 at *
    generalize gW f (p : Int) 3 = w3 at *
    cases hg : gOk f (p : Int) with
    | true =>
      simp only [if_true, Bool.true_and, p1, p2]
      exact ⟨by omega, by omega⟩
    | false =>
      simp only [Bool.false_eq_true, if_false, Bool.false_and, Nat.add_zero, and_self]
section
variable {sh : zSh} {pp : zPp} {mm m' : zMm} {Q : zV → zSh → zPp → zMm → Prop} {f f' : Int → Int} {G : Int → Option (Int → Int)} {cn cn' : Int → Int} {N D N' D' : Nat}
theorem cOk_gs (hc : cOk f G cn N D sh pp mm) (hr : frP (fun x _ => 52 ≤ x ∧ x ≤ 57) mm m') : cOk f G cn N D sh pp m' := by
  obtain ⟨c1, c2, c3, c4, c5, c6, c7, c8, c9, c10, c11⟩ := id hc
  exact cOk_mk hc (sm_fr hr (by omega)) (stI_sm c3 (sm_fr hr (by omega))) (fun j j0 j1 => by rw [hr _ _ (by omega)]; exact c5 j j0 j1) (fun p hp => cPr_sm (c6 p hp) (sm_fr hr (by omega))) (cNt_sm c7 (sm_fr hr (by omega))) (cQu_sm c8 (sm_fr hr (by omega))) ⟨bG_sm c9.1 (sm_fr hr (by omega)), bG_sm c9.2 (sm_fr hr (by omega))⟩ (fun x hx => by funext j; exact hr x j (by omega))
theorem cOk_fr (hc : cOk f G cn N D sh pp mm) (hr : frP (fun x _ => 58 ≤ x ∧ x ≤ 65) mm m') (h1 : bG 58 N' m') (h2 : bG 60 D' m') : cOk f G cn N' D' sh pp m' := by
  obtain ⟨c1, c2, c3, c4, c5, c6, c7, c8, c9, c10, c11⟩ := id hc
  exact cOk_mk hc (sm_fr hr (by omega)) (stI_sm c3 (sm_fr hr (by omega))) (fun j j0 j1 => by rw [hr _ _ (by omega)]; exact c5 j j0 j1) (fun p hp => cPr_sm (c6 p hp) (sm_fr hr (by omega))) (cNt_sm c7 (sm_fr hr (by omega))) (cQu_sm c8 (sm_fr hr (by omega))) ⟨h1, h2⟩ (fun x hx => by funext j; exact hr x j (by omega))
/-- what the loop over the programs has found -/
def wgI (f : Int → Int) (i : Nat) (m : zMm) : Prop := (∀ p : Nat, p < 4 → m 55 (p : Int) = if p < i ∧ gOk f (p : Int) = true then 1 else 0) ∧ (∀ p : Nat, p < i → gOk f (p : Int) = true → (∀ r : Nat, r < 4 → m 56 (4 * (p : Int) + (r : Int)) = ((rcN f (gDv f p r) 384 : Nat) : Int)) ∧ drwOk (73 + 14 * p) f p m) ∧ ∀ k, 4 * (i : Int) ≤ k → k < 16 → m 56 k = 0
theorem cWeighL (ok : fOk f) {q a : Int} (hz : ∀ pp1 m1, cOk f G cn N D sh pp1 m1 → frX sh mm sh m1 → wgI f 4 m1 → zS 149 57 [zR 13, zI q, zI a, zU, zU] [] sh pp1 m1 Q) : ∀ (t i : Nat) (pp1 : zPp) (m1 : zMm), i + t = 4 → cOk f G cn N D sh pp1 m1 → frX sh mm sh m1 → wgI f i m1 → zS 149 9 [zR 13, zI q, zI a, zI (i : Int), zU] [] sh pp1 m1 Q := by
  intro t
  induction t with
  | zero =>
    intro i pp1 m1 hi hc1 fx hI
    have hi : i = 4 := by omega
    rw [hi] at hI
    rw [rX_weigh_9]
    simp (disch := first | assumption | omega) only [rX_weigh_10, rX_weigh_11, Bool.false_eq_true, true_implies, false_implies, implies_true, true_and, and_true, not_true_eq_false, not_false_eq_true, zPush_I, zPush_L, zPush_R, zPush_U, Int.reduceLT, Int.reduceLE, Int.reduceEq, Int.reduceNe, Int.reduceAdd, Int.reduceSub, Int.reduceMul, Int.reduceNeg, Int.reduceToNat, Nat.reduceAdd, Nat.reduceMul, Nat.reduceEqDiff, zw32_id, zw64_id, zupd_eq, zupd_na, zupd_ni, zupp_eq, zupp_na, zupp_ni, eq_false (show ¬ (i : Int) < 4 by omega)]
    exact hz pp1 m1 hc1 fx hI
  | succ t ih =>
    intro i pp1 m1 hi hc1 fx hI
    have hi4 : i < 4 := by omega
    have h := hc1.1
    have k13 := k_13 h
    have skip : gOk f (i : Int) = false → ∀ pp2 m2, cOk f G cn N D sh pp2 m2 → frP (fun x _ => 66 + 14 * i ≤ x ∧ x ≤ 79 + 14 * i) m1 m2 → zS 149 51 [zR 13, zI q, zI a, zI (i : Int), zU] [] sh pp2 m2 Q := by
      intro hg pp2 m2 hc2 a2
      have zi := ih (i + 1) pp2 m2 (by omega) hc2 (frX_tr fx (frX_P a2 (by omega))) ⟨fun p hp => ?_, fun p hp hg2 => ?_, fun k k0 k1 => ?_⟩
      · rw [show ((i + 1 : Nat) : Int) = (i : Int) + 1 by omega] at zi
        simp (disch := first | assumption | omega) only [rX_weigh_51, rX_weigh_54, Bool.false_eq_true, true_implies, false_implies, implies_true, true_and, and_true, not_true_eq_false, not_false_eq_true, zPush_I, zPush_L, zPush_R, zPush_U, Int.reduceLT, Int.reduceLE, Int.reduceEq, Int.reduceNe, Int.reduceAdd, Int.reduceSub, Int.reduceMul, Int.reduceNeg, Int.reduceToNat, Nat.reduceAdd, Nat.reduceMul, Nat.reduceEqDiff, zw32_id, zw64_id, zupd_eq, zupd_na, zupd_ni, zupp_eq, zupp_na, zupp_ni]
        exact zi
      · rw [a2 _ _ (by omega), hI.1 p hp]
        by_cases hpi : p = i
        · subst hpi
          rw [if_neg (fun hx => absurd hx.1 (Nat.lt_irrefl p)), if_neg (fun hx => by rw [hg] at hx; exact absurd hx.2 (by decide))]
        · by_cases hlt : p < i ∧ gOk f (p : Int) = true
          · rw [if_pos hlt, if_pos ⟨by omega, hlt.2⟩]
          · rw [if_neg hlt, if_neg (fun hx => hlt ⟨by omega, hx.2⟩)]
      · have hpi : p ≠ i := fun hx => by rw [hx, hg] at hg2; exact absurd hg2 (by decide)
        obtain ⟨y1, y2⟩ := hI.2.1 p (by omega) hg2
        exact ⟨fun r hr => by rw [a2 _ _ (by omega)]; exact y1 r hr, drwOk_keep hpi y2 a2⟩
      · rw [a2 _ _ (by omega)]
        exact hI.2.2 k (by push_cast at k0; omega) k1
    rw [rX_weigh_9]
    simp (disch := first | assumption | omega) only [rX_weigh_10, rX_weigh_11, rX_weigh_14, rX_weigh_15, rX_weigh_16, Bool.false_eq_true, true_implies, false_implies, implies_true, true_and, and_true, not_true_eq_false, not_false_eq_true, zPush_I, zPush_L, zPush_R, zPush_U, Int.reduceLT, Int.reduceLE, Int.reduceEq, Int.reduceNe, Int.reduceAdd, Int.reduceSub, Int.reduceMul, Int.reduceNeg, Int.reduceToNat, Nat.reduceAdd, Nat.reduceMul, Nat.reduceEqDiff, zw32_id, zw64_id, zupd_eq, zupd_na, zupd_ni, zupp_eq, zupp_na, zupp_ni, eq_true (show (i : Int) < 4 by omega)]
    refine cDrawingOf hc1 ok hi4 (fun hr pp2 m2 hc2 a2 => ?_) (fun hr pp2 m2 hc2 a1 a2 => ?_)
    · have hg : gOk f (i : Int) = false := by
        unfold gOk
        rw [decide_eq_false (show ¬ rd (bOf f (i : Int)) (lOf f (i : Int)) = -1 from hr), Bool.false_and]
      have zq := skip hg pp2 m2 hc2 a2
      simp (disch := first | assumption | omega) only [rX_weigh_19, rX_weigh_21, rX_weigh_23, Bool.false_eq_true, true_implies, false_implies, implies_true, true_and, and_true, not_true_eq_false, not_false_eq_true, zPush_I, zPush_L, zPush_R, zPush_U, Int.reduceLT, Int.reduceLE, Int.reduceEq, Int.reduceNe, Int.reduceAdd, Int.reduceSub, Int.reduceMul, Int.reduceNeg, Int.reduceToNat, Nat.reduceAdd, Nat.reduceMul, Nat.reduceEqDiff, zw32_id, zw64_id, zupd_eq, zupd_na, zupd_ni, zupp_eq, zupp_na, zupp_ni]
      exact zq
    · have e4 := a1.2.2
      have hgE : gOk f (i : Int) = !(dOf f (i : Int)).2.2.2.2.2.1 := by
        unfold gOk
        rw [decide_eq_true (show rd (bOf f (i : Int)) (lOf f (i : Int)) = -1 from hr), Bool.true_and]
      have h := hc2.1
      have k13 := k_13 h
      have k14 := k_14 h
      have p14 := p_13_0 h
      have k25 := k_25 h
      have l25 := l_25 h
      have p25 := p_14_6 h
      have k52 := k_52 h
      have p52 := p_13_7 h
      obtain ⟨d1, d2⟩ := drL_of h hi4
      have kd := d1.1
      by_cases hsp : (dOf f (i : Int)).2.2.2.2.2.1 = true
      · rw [if_pos hsp] at e4
        have zq := skip (by rw [hgE, hsp]; rfl) pp2 m2 hc2 a2
        simp (disch := first | assumption | omega) only [rX_weigh_19, rX_weigh_21, rX_weigh_23, rX_weigh_26, rX_weigh_28, rX_weigh_31, Bool.false_eq_true, true_implies, false_implies, implies_true, true_and, and_true, not_true_eq_false, not_false_eq_true, zPush_I, zPush_L, zPush_R, zPush_U, Int.reduceLT, Int.reduceLE, Int.reduceEq, Int.reduceNe, Int.reduceAdd, Int.reduceSub, Int.reduceMul, Int.reduceNeg, Int.reduceToNat, Nat.reduceAdd, Nat.reduceMul, Nat.reduceEqDiff, zw32_id, zw64_id, zupd_eq, zupd_na, zupd_ni, zupp_eq, zupp_na, zupp_ni, eq_false (show ¬ 73 + 14 * i = 0 by omega), e4]
        exact zq
      · rw [if_neg hsp] at e4
        have hg : gOk f (i : Int) = true := by rw [hgE]; cases hx : (dOf f (i : Int)).2.2.2.2.2.1 with
          | true => exact absurd hx hsp
          | false => rfl
        simp (disch := first | assumption | omega) only [rX_weigh_19, rX_weigh_21, rX_weigh_23, rX_weigh_26, rX_weigh_28, rX_weigh_31, rX_weigh_34, rX_weigh_35, rX_weigh_38, rX_weigh_39, rX_weigh_41, rX_weigh_42, rX_weigh_45, rX_weigh_48, Bool.false_eq_true, true_implies, false_implies, implies_true, true_and, and_true, not_true_eq_false, not_false_eq_true, zPush_I, zPush_L, zPush_R, zPush_U, Int.reduceLT, Int.reduceLE, Int.reduceEq, Int.reduceNe, Int.reduceAdd, Int.reduceSub, Int.reduceMul, Int.reduceNeg, Int.reduceToNat, Nat.reduceAdd, Nat.reduceMul, Nat.reduceEqDiff, zw32_id, zw64_id, zupd_eq, zupd_na, zupd_ni, zupp_eq, zupp_na, zupp_ni, eq_false (show ¬ 73 + 14 * i = 0 by omega), e4, p14, p25, p52]
        refine cCompare h hi4 ok hr a1 hc2.2.2.1.2.2.2.2.2.1 (fun r hr4 => ?_) (fun m3 b1 b2 b3 => ?_)
        · rw [a2 _ _ (by omega)]; exact hI.2.2 _ (by omega) (by omega)
        · have r3 : frP (fun x _ => 52 ≤ x ∧ x ≤ 57) m2 m3 := frP_wd b3 (fun x j hj => by omega)
          have zi := ih (i + 1) pp2 m3 (by omega) (cOk_gs hc2 r3) (frX_tr fx (frX_tr (frX_P a2 (by omega)) (frX_P r3 (by omega)))) ⟨fun p hp => ?_, fun p hp hg2 => ?_, fun k k0 k1 => ?_⟩
          · rw [show ((i + 1 : Nat) : Int) = (i : Int) + 1 by omega] at zi
            simp (disch := first | assumption | omega) only [rX_weigh_51, rX_weigh_54, Bool.false_eq_true, true_implies, false_implies, implies_true, true_and, and_true, not_true_eq_false, not_false_eq_true, zPush_I, zPush_L, zPush_R, zPush_U, Int.reduceLT, Int.reduceLE, Int.reduceEq, Int.reduceNe, Int.reduceAdd, Int.reduceSub, Int.reduceMul, Int.reduceNeg, Int.reduceToNat, Nat.reduceAdd, Nat.reduceMul, Nat.reduceEqDiff, zw32_id, zw64_id, zupd_eq, zupd_na, zupd_ni, zupp_eq, zupp_na, zupp_ni]
            exact zi
          · by_cases hpi : p = i
            · subst hpi
              rw [b2, if_pos ⟨Nat.lt_succ_self p, hg⟩]
            · rw [b3 _ _ (by omega), a2 _ _ (by omega), hI.1 p hp]
              by_cases hlt : p < i ∧ gOk f (p : Int) = true
              · rw [if_pos hlt, if_pos ⟨by omega, hlt.2⟩]
              · rw [if_neg hlt, if_neg (fun hx => hlt ⟨by omega, hx.2⟩)]
          · by_cases hpi : p = i
            · subst hpi
              exact ⟨b1, drwOk_sm a1 (sm_fr b3 (by omega))⟩
            · obtain ⟨y1, y2⟩ := hI.2.1 p (by omega) hg2
              exact ⟨fun r hr4 => by rw [b3 _ _ (by omega), a2 _ _ (by omega)]; exact y1 r hr4, drwOk_sm (drwOk_keep hpi y2 a2) (sm_fr b3 (by omega))⟩
          · push_cast at k0
            rw [b3 _ _ (by omega), a2 _ _ (by omega)]
            exact hI.2.2 k (by omega) k1
end
