/-! ===== bends of the class: all strokes from a set ===== -/
section
variable {sh : zSh} {pp : zPp} {mm : zMm} {Q : zV → zSh → zPp → zMm → Prop} {f : Int → Int} {G : Int → Option (Int → Int)} {cn : Int → Int} {N D : Nat}
def lfF (P : Nat) (x : Nat) (_ : Int) : Prop := x = P + 2
theorem cStrk (ok : fOk f) {P S e w c : Nat} (hL : lnL sh pp P) (hc : c < 10) (hS : S < 2 ^ nE f) (he : e < nE f) (hb : S.testBit e = false) (hmt : mts (nA f) (nC f) e w) (hw : whB f c S = (w : Int)) (hwS : mm (P + 1) (S : Int) = (w : Int)) (hwT : ¬ mm (P + 1) ((S ||| 2 ^ e : Nat) : Int) = -1) (hQ : ∀ m', frP (lfF P) mm m' → bInv (tP f) f c (cb P m') (cD S (e + 1) 0) → Q zU sh pp m') (hI : bInv (tP f) f c (cb P mm) (cD S e 0)) : zS 50 0 [zR P, zI (S : Int), zI ((S ||| 2 ^ e : Nat) : Int), zI (sg (nX f (oth (nA f) (nC f) e w) - nX f w)), zI (sg (nY f (oth (nA f) (nC f) e w) - nY f w)), zU, zU, zU, zU, zU] [] sh pp mm Q := by
  have l := nE_le ok
  have t : 2 ^ nE f ≤ 4096 := by simpa using Nat.pow_le_pow_right (n := 2) (by omega) l
  have lt : S ||| 2 ^ e < 2 ^ nE f := Nat.or_lt_two_pow hS (Nat.pow_lt_pow_right (by decide) he)
  have key : ∀ (d W : Nat) (m1 : zMm), W + d = 9 → frP (lfF P) mm m1 → bInv (tP f) f c (cb P m1) (cD S e (W : Int)) → zS 50 3 [zR P, zI (S : Int), zI ((S ||| 2 ^ e : Nat) : Int), zI (sg (nX f (oth (nA f) (nC f) e w) - nX f w)), zI (sg (nY f (oth (nA f) (nC f) e w) - nY f w)), zI (W : Int), zU, zU, zU, zU] [] sh pp m1 Q := by
    intro d
    induction d with
    | zero =>
      intro W m1 hW hf h1
      have q := hQ m1 hf (bInv_wk h1 (fun S' e' w' gx gy a1 a2 a3 a4 a5 a6 a7 a8 a9 a10 => by
        have z1 := hc_r a7
        have z2 := hc_r a8
        unfold cD at a10 ⊢
        omega))
      rw [rL_stroke_3]
      simp (disch := first | assumption | omega) only [rL_stroke_5, rL_stroke_7, rL_stroke_110, Bool.false_eq_true, true_implies, false_implies, implies_true, true_and, and_true, not_true_eq_false, not_false_eq_true, zPush_I, zPush_L, zPush_R, zPush_U, Int.reduceLT, Int.reduceLE, Int.reduceEq, Int.reduceNe, Int.reduceAdd, Int.reduceSub, Int.reduceMul, Int.reduceNeg, Int.reduceToNat, Nat.reduceAdd, Nat.reduceMul, Nat.reduceEqDiff, zw32_id, zw64_id, zupd_eq, zupd_na, zupd_ni, zupp_eq, zupp_na, zupp_ni, eq_false (show ¬ (W : Int) < 9 by omega)]
      exact q
    | succ d ih =>
      intro W m1 hW hf h1
      obtain ⟨hx, hy, vx, vy, eW⟩ := c9 (W := W) (by omega)
      have e1 : m1 (P + 1) (S : Int) = (w : Int) := by rw [hf _ _ (by unfold lfF; omega)]; exact hwS
      have e2 : ¬ m1 (P + 1) ((S ||| 2 ^ e : Nat) : Int) = -1 := by rw [hf _ _ (by unfold lfF; omega)]; exact hwT
      have ecb : cb P m1 S hx hy = m1 (P + 2) ((S : Int) * 9 + 3 * hcd hx + hcd hy) := if_neg (by rw [e1]; omega)
      have ecT : ∀ gx gy, cb P m1 (S ||| 2 ^ e) gx gy = m1 (P + 2) (((S ||| 2 ^ e : Nat) : Int) * 9 + 3 * hcd gx + hcd gy) := fun gx gy => if_neg e2
      have bb := h1.1 S hx hy hS vx vy
      have nx : ∀ m2, frP (lfF P) mm m2 → bInv (tP f) f c (cb P m2) (cD S e ((W : Int) + 1)) → zS 50 104 [zR P, zI (S : Int), zI ((S ||| 2 ^ e : Nat) : Int), zI (sg (nX f (oth (nA f) (nC f) e w) - nX f w)), zI (sg (nY f (oth (nA f) (nC f) e w) - nY f w)), zI (W : Int), zU, zU, zU, zU] [] sh pp m2 Q := fun m2 a1 a2 => by
        have n := ih (W + 1) m2 (by omega) a1 (by rw [show ((W + 1 : Nat) : Int) = (W : Int) + 1 by omega]; exact a2)
        rw [show ((W + 1 : Nat) : Int) = (W : Int) + 1 by omega] at n
        simp (disch := first | assumption | omega) only [rL_stroke_104, rL_stroke_107, Bool.false_eq_true, true_implies, false_implies, implies_true, true_and, and_true, not_true_eq_false, not_false_eq_true, zPush_I, zPush_L, zPush_R, zPush_U, Int.reduceLT, Int.reduceLE, Int.reduceEq, Int.reduceNe, Int.reduceAdd, Int.reduceSub, Int.reduceMul, Int.reduceNeg, Int.reduceToNat, Nat.reduceAdd, Nat.reduceMul, Nat.reduceEqDiff, zw32_id, zw64_id, zupd_eq, zupd_na, zupd_ni, zupp_eq, zupp_na, zupp_ni]
        exact n
      have ux := sg_r (nX f (oth (nA f) (nC f) e w) - nX f w)
      have uy := sg_r (nY f (oth (nA f) (nC f) e w) - nY f w)
      rw [rL_stroke_3]
      have c1 : (W : Int) < 9 := by omega
      by_cases hl : cb P m1 S hx hy < 1000000
      · have k1 := kL_one (mm := m1) (Q := Q) hL (show S < 4096 by omega) (show S ||| 2 ^ e < 4096 by omega) vx vy ux uy ecb.symm bb.1 hl
        rw [← eW] at k1
        simp only [rL_stroke_5, rL_stroke_7, eq_true c1, true_implies, not_true_eq_false, false_implies, and_true]
        rw [k1]
        refine nx _ (frP_up hf rfl) (bInv_wk (bInv_st (D := cD S e (W : Int)) h1 ok hc hS he hb hmt hw vx vy hl (fun S' e' gx gy hd => by unfold cD at hd; omega) (fun T gx gy a1 a2 a3 => ?_)) (fun S' e' w' gx gy a1 a2 a3 a4 a5 a6 a7 a8 a9 a10 => by
          unfold cD at a10 ⊢
          by_cases hq : 3 * hcd gx + hcd gy = (W : Int)
          · have z1 := hc_r a7
            have z2 := hc_r a8
            have z3 := hc_r vx
            have z4 := hc_r vy
            have x1 : hcd gx = hcd hx := by omega
            have x2 : hcd gy = hcd hy := by omega
            have x3 := hc_i a7 vx x1
            have x4 := hc_i a8 vy x2
            omega
          · omega))
        have vax : hV (hA hx (sg (nX f (oth (nA f) (nC f) e w) - nX f w))) := hA_r vx _
        have vay : hV (hA hy (sg (nY f (oth (nA f) (nC f) e w) - nY f w))) := hA_r vy _
        have z1 := hc_r a2
        have z2 := hc_r a3
        have z3 := hc_r vax
        have z4 := hc_r vay
        generalize hA hx (sg (nX f (oth (nA f) (nC f) e w) - nX f w)) = ax at *
        generalize hA hy (sg (nY f (oth (nA f) (nC f) e w) - nY f w)) = ay at *
        by_cases hq : T = S ||| 2 ^ e ∧ gx = ax ∧ gy = ay
        · rw [if_pos hq, hq.1, hq.2.1, hq.2.2, ecT]
          show (if zupd _ _ _ _ _ _ = -1 then _ else _) = _
          rw [if_neg (by rw [zupd_na (by omega)]; exact e2), zupd_eq, Int.min_comm]
        · rw [if_neg hq]
          show (if zupd _ _ _ _ _ _ = -1 then _ else _) = (if _ = -1 then _ else _)
          rw [zupd_na (by omega)]
          by_cases hq1 : m1 (P + 1) (T : Int) = -1
          · rw [if_pos hq1, if_pos hq1]
          · rw [if_neg hq1, if_neg hq1, zupd_ni (fun x => hq ?_)]
            have t1 : T = S ||| 2 ^ e := by omega
            have t2 : hcd gx = hcd ax := by omega
            have t3 : hcd gy = hcd ay := by omega
            exact ⟨t1, hc_i a2 vax t2, hc_i a3 vay t3⟩
      · have q := nx m1 hf (bInv_wk h1 (fun S' e' w' gx gy a1 a2 a3 a4 a5 a6 a7 a8 a9 a10 => by
          unfold cD at a10 ⊢
          by_cases hq : S' = S ∧ 3 * hcd gx + hcd gy = (W : Int)
          · have z1 := hc_r a7
            have z2 := hc_r a8
            have z3 := hc_r vx
            have z4 := hc_r vy
            have x1 : hcd gx = hcd hx := by omega
            have x2 : hcd gy = hcd hy := by omega
            have x3 := hc_i a7 vx x1
            have x4 := hc_i a8 vy x2
            rw [hq.1, x3, x4] at a9
            exact absurd a9 hl
          · omega))
        obtain ⟨k0, -, k2, l2, p2⟩ := hL
        obtain ⟨⟨i0, i1⟩, ⟨w1, -⟩, w2, w3⟩ := cIx vx vy (show S < 4096 by omega)
        have i1' : (S : Int) * 9 + 3 * hcd hx + hcd hy < zLn sh (P + 2) := by rw [l2]; exact i1
        have kb : zKd sh (P + 2) = 20 ∨ zKd sh (P + 2) = 30 := Or.inl k2
        have w4 : (S : Int) * 9 + (W : Int) = (S : Int) * 9 + 3 * hcd hx + hcd hy := by rw [eW]; exact (Int.add_assoc _ _ _).symm
        rw [ecb] at hl
        simp (disch := assumption) only [rL_stroke_5, rL_stroke_7, rL_stroke_10, rL_stroke_11, rL_stroke_14, rL_stroke_15, rL_stroke_17, rL_stroke_18, rL_stroke_20, rL_stroke_21, rL_stroke_22, rL_stroke_24, rL_stroke_26, rL_stroke_28, p2, w1, w4, w3, eq_true c1, eq_false hl, true_implies, false_implies, not_true_eq_false, not_false_eq_true, and_true, true_and]
        exact q
  have k := key 9 0 mm (by omega) (frP_rf _ _) hI
  simp (disch := first | assumption | omega) only [rL_stroke_0, rL_stroke_1, Bool.false_eq_true, true_implies, false_implies, implies_true, true_and, and_true, not_true_eq_false, not_false_eq_true, zPush_I, zPush_L, zPush_R, zPush_U, Int.reduceLT, Int.reduceLE, Int.reduceEq, Int.reduceNe, Int.reduceAdd, Int.reduceSub, Int.reduceMul, Int.reduceNeg, Int.reduceToNat, Nat.reduceAdd, Nat.reduceMul, Nat.reduceEqDiff, zw32_id, zw64_id, zupd_eq, zupd_na, zupd_ni, zupp_eq, zupp_na, zupp_ni]
  exact k
end
