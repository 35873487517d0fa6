/-! ===== bends of the class: going on from a set ===== -/
theorem sg_neg (v : Int) : sg (-v) = -sg v := by
  unfold sg
  split <;> split <;> (try split) <;> (try split) <;> omega
theorem bInv_cg {P : Nat → Nat → Prop} {f : Int → Int} {c : Nat} {tb tb' : Nat → Int → Int → Int} {D : Nat → Nat → Int → Int → Prop} (h : bInv P f c tb D) (he : ∀ S hx hy, S < 2 ^ nE f → hV hx → hV hy → tb' S hx hy = tb S hx hy) : bInv P f c tb' D := by
  obtain ⟨h1, h2, h3, h4⟩ := h
  refine ⟨fun S hx hy a b d => by rw [he S hx hy a b d]; exact h1 S hx hy a b d, fun S hx hy a b d e => ?_, ?_, fun S e w hx hy a1 a2 a3 a4 a5 a6 a7 a8 a9 a10 => ?_⟩
  · rw [he S hx hy a b d] at e ⊢
    exact h2 S hx hy a b d e
  · rw [he 0 0 0 (Nat.pow_pos (by decide)) (Or.inr (Or.inl rfl)) (Or.inr (Or.inl rfl))]; exact h3
  · have s1 : S ||| 2 ^ e < 2 ^ nE f := Nat.or_lt_two_pow a1 (Nat.pow_lt_pow_right (by decide) a2)
    have u1 := hA_r a7 (nX f (oth (nA f) (nC f) e w) - nX f w)
    have u2 := hA_r a8 (nY f (oth (nA f) (nC f) e w) - nY f w)
    rw [he S hx hy a1 a7 a8] at a9
    have z := h4 S e w hx hy a1 a2 a3 a4 a5 a6 a7 a8 a9 a10
    unfold bStp at z ⊢
    rw [he _ _ _ s1 u1 u2, he S hx hy a1 a7 a8]
    exact z
section
variable {sh : zSh} {pp : zPp} {mm : zMm} {Q : zV → zSh → zPp → zMm → Prop} {f : Int → Int} {G : Int → Option (Int → Int)} {cn : Int → Int} {N D : Nat}
def whI (f : Int → Int) (c P : Nat) (m : zMm) : Prop := ∀ T : Nat, T < 2 ^ nE f → m (P + 1) (T : Int) = -1 ∨ m (P + 1) (T : Int) = whB f c T
theorem lw_rw {P : Nat} (hP : 143 ≤ P) {m m' : zMm} (h : frP (lwF P) m m') : ∀ x, x ≤ 142 → m' x = m x := fun x hx => by
  funext j
  exact h x j (by unfold lwF; omega)
theorem ways_o (ok : fOk f) {e w : Nat} (he : e < nE f) (hm : mts (nA f) (nC f) e w) (g : Nat → Int) : (nA f e = w → 1 * sg (g (nC f e) - g (nA f e)) = sg (g (oth (nA f) (nC f) e w) - g w)) ∧ (¬ nA f e = w → (-1) * sg (g (nC f e) - g (nA f e)) = sg (g (oth (nA f) (nC f) e w) - g w)) := by
  constructor
  · intro h
    have : oth (nA f) (nC f) e w = nC f e := if_pos h
    rw [this, h, Int.one_mul]
  · intro h
    have h1 : oth (nA f) (nC f) e w = nA f e := if_neg h
    have h2 : nC f e = w := by
      rcases hm with x | x
      · exact absurd x h
      · exact x
    rw [h1, h2, show g (nA f e) - g w = -(g w - g (nA f e)) by omega, sg_neg]
    omega
theorem cGoL (h : zLy sh pp) (ok : fOk f) {P S w c : Nat} (hL : lnL sh pp P) (hP : 143 ≤ P) (h3 : mm 38 3 = (nE f : Int)) (hr : ∀ e, e < nE f → nRw f mm e) (hc : c < 10) (hS : S < 2 ^ nE f) (hw : whB f c S = (w : Int)) (hQ : ∀ m', frP (lwF P) mm m' → whI f c P m' → bInv (tP f) f c (cb P m') (cD (S + 1) 0 0) → Q zU sh pp m') : ∀ (d e : Nat) (m1 : zMm), e + d = nE f → frP (lwF P) mm m1 → whI f c P m1 → m1 (P + 1) (S : Int) = (w : Int) → bInv (tP f) f c (cb P m1) (cD S e 0) → zS 49 10 [zR P, zI (S : Int), zR 38, zI (w : Int), zI (e : Int), zU, zU, zU] [] sh pp m1 Q := by
  have k38 := k_38 h
  have p38 := p_13_5 h
  have k39 := k_39 h
  have l39 := l_39 h
  have p39 := p_38_4 h
  have k41 := k_41 h
  have l41 := l_41 h
  have p41 := p_38_6 h
  have k44 := k_44 h
  have l44 := l_44 h
  have p44 := p_38_9 h
  have k42 := k_42 h
  have l42 := l_42 h
  have p42 := p_38_7 h
  have k43 := k_43 h
  have l43 := l_43 h
  have p43 := p_38_8 h
  have k5 := hL.1
  have l := nE_le ok
  have t : 2 ^ nE f ≤ 4096 := by simpa using Nat.pow_le_pow_right (n := 2) (by omega) l
  have w10 : w < 10 := by
    rcases whB_n ok hc S with h1 | ⟨w', hw', h1, _⟩ <;> omega
  intro d
  induction d with
  | zero =>
    intro e m1 he hf hW hwS hI
    have r := lw_rw hP hf
    have h3' : m1 38 3 = (nE f : Int) := by rw [r _ (by omega)]; exact h3
    have q := hQ m1 hf hW (bInv_wk hI (fun S' e' w' gx gy a1 a2 a3 a4 a5 a6 a7 a8 a9 a10 => by
      have z1 := hc_r a7
      have z2 := hc_r a8
      unfold cD at a10 ⊢
      omega))
    rw [rL_goOn_10]
    simp (disch := first | assumption | omega) only [rL_goOn_12, rL_goOn_13, rL_goOn_16, rL_goOn_141, Bool.false_eq_true, true_implies, false_implies, implies_true, true_and, and_true, not_true_eq_false, not_false_eq_true, zPush_I, zPush_L, zPush_R, zPush_U, Int.reduceLT, Int.reduceLE, Int.reduceEq, Int.reduceNe, Int.reduceAdd, Int.reduceSub, Int.reduceMul, Int.reduceNeg, Int.reduceToNat, Nat.reduceAdd, Nat.reduceMul, Nat.reduceEqDiff, zw32_id, zw64_id, zupd_eq, zupd_na, zupd_ni, zupp_eq, zupp_na, zupp_ni, h3', eq_false (show ¬ (e : Int) < (nE f : Int) by omega)]
    exact q
  | succ d ih =>
    intro e m1 he hf hW hwS hI
    have r := lw_rw hP hf
    have h3' : m1 38 3 = (nE f : Int) := by rw [r _ (by omega)]; exact h3
    have hie : e < nE f := by omega
    have hr1 : nRw f m1 e := nRw_fr (hr e hie) (fun x a b => by rw [r _ (by omega)])
    have nx : ∀ m2, frP (lwF P) mm m2 → whI f c P m2 → m2 (P + 1) (S : Int) = (w : Int) → bInv (tP f) f c (cb P m2) (cD S (e + 1) 0) → zS 49 135 [zR P, zI (S : Int), zR 38, zI (w : Int), zI (e : Int), zU, zU, zU] [] sh pp m2 Q := fun m2 a1 a2 a3 a4 => by
      have n := ih (e + 1) m2 (by omega) a1 a2 a3 a4
      rw [show ((e + 1 : Nat) : Int) = (e : Int) + 1 by omega] at n
      simp (disch := first | assumption | omega) only [rL_goOn_135, rL_goOn_138, Bool.false_eq_true, true_implies, false_implies, implies_true, true_and, and_true, not_true_eq_false, not_false_eq_true, zPush_I, zPush_L, zPush_R, zPush_U, Int.reduceLT, Int.reduceLE, Int.reduceEq, Int.reduceNe, Int.reduceAdd, Int.reduceSub, Int.reduceMul, Int.reduceNeg, Int.reduceToNat, Nat.reduceAdd, Nat.reduceMul, Nat.reduceEqDiff, zw32_id, zw64_id, zupd_eq, zupd_na, zupd_ni, zupp_eq, zupp_na, zupp_ni]
      exact n
    have lt : (e : Int) < (nE f : Int) := by omega
    have b := bit_i (show S < 2147483648 by omega) (show e < 31 by omega)
    obtain ⟨r1, r2, r3, r4, r5, r6, -⟩ := hr1
    have tl := twN_lt (f := f) (e := e) e
    have p12 : 2 ^ e < 2 ^ 12 := Nat.pow_lt_pow_right (by decide) (by omega)
    have x1 := zanN (a := twN f e e) (b := S) (by omega) (by omega)
    have ol := hgO_lt (A := nA f) (C := nC f) (e := e) (nAC ok hie).2.2.2.2.2
    have b2 := tb_i ol w10
    rw [rL_goOn_10]
    by_cases hb : S.testBit e = true
    · rw [if_pos hb] at b
      have q := nx m1 hf hW hwS (bInv_wk hI (fun S' e' w' gx gy a1 a2 a3 a4 a5 a6 a7 a8 a9 a10 => by
        have z1 := hc_r a7
        have z2 := hc_r a8
        unfold cD at a10 ⊢
        by_cases hq : S' = S ∧ e' = e
        · rw [hq.1, hq.2, hb] at a3; cases a3
        · omega))
      clear x1 b2 r1 r2 r3 r4 r5 r6 tl p12 ol
      simp (disch := first | assumption | omega) only [rL_goOn_12, rL_goOn_13, rL_goOn_16, rL_goOn_19, rL_goOn_20, rL_goOn_22, rL_goOn_23, rL_goOn_24, rL_goOn_25, rL_goOn_28, rL_goOn_29, rL_goOn_32, rL_goOn_34, rL_goOn_35, rL_goOn_36, rL_goOn_37, rL_goOn_38, rL_goOn_39, rL_goOn_42, rL_goOn_43, rL_goOn_46, rL_goOn_47, rL_goOn_49, rL_goOn_51, Bool.false_eq_true, true_implies, false_implies, implies_true, true_and, and_true, not_true_eq_false, not_false_eq_true, zPush_I, zPush_L, zPush_R, zPush_U, Int.reduceLT, Int.reduceLE, Int.reduceEq, Int.reduceNe, Int.reduceAdd, Int.reduceSub, Int.reduceMul, Int.reduceNeg, Int.reduceToNat, Nat.reduceAdd, Nat.reduceMul, Nat.reduceEqDiff, zw32_id, zw64_id, zupd_eq, zupd_na, zupd_ni, zupp_eq, zupp_na, zupp_ni, h3', eq_true lt, b]
      exact q
    · rw [if_neg hb] at b
      have hb' : S.testBit e = false := by simpa using hb
      by_cases ht : tP f S e
      · have x1' : twN f e e ^^^ (twN f e e &&& S) = 0 := tP_an.mpr ht
        rw [x1'] at x1
        by_cases hm : mts (nA f) (nC f) e w
        · rw [if_pos (tb_hgO.mpr hm)] at b2
          have x2 := zshl1 e (by omega)
          have x3 : zor (S : Int) ((2 ^ e : Nat) : Int) = ((S ||| 2 ^ e : Nat) : Int) := zorN (by omega) (by omega)
          have hT : S ||| 2 ^ e < 2 ^ nE f := Nat.or_lt_two_pow hS (Nat.pow_lt_pow_right (by decide) hie)
          have hgt := or_gt hb'
          have hL1 : nLd f m1 := ⟨h3', fun e he => by
            have z := hr e he
            rw [r _ (by omega), r _ (by omega), r _ (by omega)]
            exact ⟨z.1, z.2.1, z.2.2.1⟩⟩
          have ko := fun (Q : zV → zSh → zPp → zMm → Prop) => kN_other (Q := Q) h ok hL1 (w := w) hie
          have eo : whB f c (S ||| 2 ^ e) = (oth (nA f) (nC f) e w : Nat) := by rw [or_x hb']; exact whB_st ok hc w10 hw hie hm
          have go : ∀ s : Int, s = 1 ∨ s = -1 → s * sg (nX f (nC f e) - nX f (nA f e)) = sg (nX f (oth (nA f) (nC f) e w) - nX f w) → s * sg (nY f (nC f e) - nY f (nA f e)) = sg (nY f (oth (nA f) (nC f) e w) - nY f w) → zS 49 95 [zR P, zI (S : Int), zR 38, zI (w : Int), zI (e : Int), zU, zI ((S ||| 2 ^ e : Nat) : Int), zI s] [] sh pp m1 Q := by
            intro s hs sx sy
            simp (disch := assumption) only [rL_goOn_95, rL_goOn_96, rL_goOn_98, rL_goOn_99, rL_goOn_101, rL_goOn_102, rL_goOn_105, ko, zPush_I]
            refine cCome hL (show S ||| 2 ^ e < 4096 by omega) (fun m2 f2 g1 g2 g3 g4 => ?_)
            have f2' : frP (lwF P) mm m2 := frP_tr hf f2
            have r' := lw_rw hP f2'
            have wS2 : m2 (P + 1) (S : Int) = (w : Int) := by rw [g1 _ (by omega)]; exact hwS
            have wT2 : m2 (P + 1) ((S ||| 2 ^ e : Nat) : Int) = (oth (nA f) (nC f) e w : Nat) := by
              rw [g2]
              by_cases hq : m1 (P + 1) ((S ||| 2 ^ e : Nat) : Int) = -1
              · rw [if_pos hq]
              · rw [if_neg hq]
                rcases hW _ hT with y | y
                · exact absurd y hq
                · rw [y, eo]
            have W2 : whI f c P m2 := fun T hT' => by
              by_cases hq : T = S ||| 2 ^ e
              · subst hq
                exact Or.inr (by rw [wT2, eo])
              · rw [g1 _ (by omega)]; exact hW T hT'
            have I2 : bInv (tP f) f c (cb P m2) (cD S e 0) := bInv_cg hI (fun T hx hy a1 a2 a3 => by
              have z1 := hc_r a2
              have z2 := hc_r a3
              unfold cb
              by_cases hq : T = S ||| 2 ^ e
              · subst hq
                rw [if_neg (by rw [wT2]; omega), g4 _ (by omega) (by omega)]
              · rw [g1 _ (by omega), g3 _ (by omega)])
            have rx : m2 42 (e : Int) = sg (nX f (nC f e) - nX f (nA f e)) := by rw [r' _ (by omega)]; exact (hr e hie).2.2.2.1
            have ry : m2 43 (e : Int) = sg (nY f (nC f e) - nY f (nA f e)) := by rw [r' _ (by omega)]; exact (hr e hie).2.2.2.2.1
            have g5 := sg_r (nX f (oth (nA f) (nC f) e w) - nX f w)
            have g6 := sg_r (nY f (oth (nA f) (nC f) e w) - nY f w)
            have vx : zw32 (s * sg (nX f (nC f e) - nX f (nA f e))) = sg (nX f (oth (nA f) (nC f) e w) - nX f w) := by
              rw [sx]
              exact zw32_id (by rcases g5 with y | y | y <;> rw [y] <;> decide) (by rcases g5 with y | y | y <;> rw [y] <;> decide)
            have vy : zw32 (s * sg (nY f (nC f e) - nY f (nA f e))) = sg (nY f (oth (nA f) (nC f) e w) - nY f w) := by
              rw [sy]
              exact zw32_id (by rcases g6 with y | y | y <;> rw [y] <;> decide) (by rcases g6 with y | y | y <;> rw [y] <;> decide)
            have q := cStrk (sh := sh) (pp := pp) (mm := m2) (Q := fun v sh pp mm => zS 49 135 [zR P, zI (S : Int), zR 38, zI (w : Int), zI (e : Int), zU, zU, zU] (zPush v []) sh pp mm Q) ok hL hc hS hie hb' hm hw wS2 (by rw [wT2]; omega) (fun m3 f3 i3 => by
              simp only [zPush_U]
              exact nx m3 (frP_tr f2' (frP_wd f3 (fun x j hj => Or.inr hj))) (fun T hT' => by rw [f3 _ _ (by unfold lfF; omega)]; exact W2 T hT') (by rw [f3 _ _ (by unfold lfF; omega)]; exact wS2) i3) I2
            have i0 : 0 ≤ (e : Int) := by omega
            have i1 : (e : Int) < zLn sh 42 := by rw [l42]; omega
            have i2 : (e : Int) < zLn sh 43 := by rw [l43]; omega
            have kx : zKd sh 42 = 20 ∨ zKd sh 42 = 30 := Or.inl k42
            have ky : zKd sh 43 = 20 ∨ zKd sh 43 = 30 := Or.inl k43
            simp (disch := assumption) only [rL_goOn_108, rL_goOn_109, rL_goOn_110, rL_goOn_112, rL_goOn_114, rL_goOn_115, rL_goOn_118, rL_goOn_120, rL_goOn_121, rL_goOn_122, rL_goOn_124, rL_goOn_125, rL_goOn_128, rL_goOn_130, rL_goOn_131, rL_goOn_132, p42, p43, rx, ry, vx, vy, zPush_U]
            exact q
          have wo := ways_o ok hie hm
          have x1'' : zand ((twN f e e : Nat) : Int) (zxor (S : Int) (-1)) = 0 := x1
          by_cases ha : nA f e = w
          · have q := go 1 (Or.inl rfl) ((wo (nX f)).1 ha) ((wo (nY f)).1 ha)
            clear go wo x1 tl p12 r2 r4 r5
            simp (disch := first | assumption | omega) only [rL_goOn_12, rL_goOn_13, rL_goOn_16, rL_goOn_19, rL_goOn_20, rL_goOn_22, rL_goOn_23, rL_goOn_24, rL_goOn_25, rL_goOn_28, rL_goOn_29, rL_goOn_32, rL_goOn_34, rL_goOn_35, rL_goOn_36, rL_goOn_37, rL_goOn_38, rL_goOn_39, rL_goOn_42, rL_goOn_43, rL_goOn_46, rL_goOn_47, rL_goOn_49, rL_goOn_51, rL_goOn_54, rL_goOn_55, rL_goOn_58, rL_goOn_60, rL_goOn_61, rL_goOn_62, rL_goOn_63, rL_goOn_64, rL_goOn_65, rL_goOn_66, rL_goOn_69, rL_goOn_70, rL_goOn_71, rL_goOn_73, rL_goOn_74, rL_goOn_75, rL_goOn_77, rL_goOn_78, rL_goOn_81, rL_goOn_83, rL_goOn_84, rL_goOn_85, rL_goOn_88, rL_goOn_89, rL_goOn_92, rL_goOn_93, Bool.false_eq_true, true_implies, false_implies, implies_true, true_and, and_true, not_true_eq_false, not_false_eq_true, zPush_I, zPush_L, zPush_R, zPush_U, Int.reduceLT, Int.reduceLE, Int.reduceEq, Int.reduceNe, Int.reduceAdd, Int.reduceSub, Int.reduceMul, Int.reduceNeg, Int.reduceToNat, Nat.reduceAdd, Nat.reduceMul, Nat.reduceEqDiff, zw32_id, zw64_id, zupd_eq, zupd_na, zupd_ni, zupp_eq, zupp_na, zupp_ni, p39, p41, p44, h3', eq_true lt, b, r6, x1'', r3, b2, x2, x3, r1, eq_true (show (nA f e : Int) = (w : Int) by omega)]
            exact q
          · have q := go (-1) (Or.inr rfl) ((wo (nX f)).2 ha) ((wo (nY f)).2 ha)
            clear go wo x1 tl p12 r2 r4 r5
            simp (disch := first | assumption | omega) only [rL_goOn_12, rL_goOn_13, rL_goOn_16, rL_goOn_19, rL_goOn_20, rL_goOn_22, rL_goOn_23, rL_goOn_24, rL_goOn_25, rL_goOn_28, rL_goOn_29, rL_goOn_32, rL_goOn_34, rL_goOn_35, rL_goOn_36, rL_goOn_37, rL_goOn_38, rL_goOn_39, rL_goOn_42, rL_goOn_43, rL_goOn_46, rL_goOn_47, rL_goOn_49, rL_goOn_51, rL_goOn_54, rL_goOn_55, rL_goOn_58, rL_goOn_60, rL_goOn_61, rL_goOn_62, rL_goOn_63, rL_goOn_64, rL_goOn_65, rL_goOn_66, rL_goOn_69, rL_goOn_70, rL_goOn_71, rL_goOn_73, rL_goOn_74, rL_goOn_75, rL_goOn_77, rL_goOn_78, rL_goOn_81, rL_goOn_83, rL_goOn_84, rL_goOn_85, rL_goOn_88, rL_goOn_89, rL_goOn_92, rL_goOn_93, Bool.false_eq_true, true_implies, false_implies, implies_true, true_and, and_true, not_true_eq_false, not_false_eq_true, zPush_I, zPush_L, zPush_R, zPush_U, Int.reduceLT, Int.reduceLE, Int.reduceEq, Int.reduceNe, Int.reduceAdd, Int.reduceSub, Int.reduceMul, Int.reduceNeg, Int.reduceToNat, Nat.reduceAdd, Nat.reduceMul, Nat.reduceEqDiff, zw32_id, zw64_id, zupd_eq, zupd_na, zupd_ni, zupp_eq, zupp_na, zupp_ni, p39, p41, p44, h3', eq_true lt, b, r6, x1'', r3, b2, x2, x3, r1, eq_false (show ¬ (nA f e : Int) = (w : Int) by omega)]
            exact q
        · rw [if_neg (fun x => hm (tb_hgO.mp x))] at b2
          have q := nx m1 hf hW hwS (bInv_wk hI (fun S' e' w' gx gy a1 a2 a3 a4 a5 a6 a7 a8 a9 a10 => by
            have z1 := hc_r a7
            have z2 := hc_r a8
            unfold cD at a10 ⊢
            by_cases hq : S' = S ∧ e' = e
            · rw [hq.1] at a5
              rw [hq.2] at a4
              have : w' = w := by omega
              subst this
              exact absurd a4 hm
            · omega))
          have x1'' : zand ((twN f e e : Nat) : Int) (zxor (S : Int) (-1)) = 0 := x1
          clear x1 tl p12 r2 r4 r5
          simp (disch := first | assumption | omega) only [rL_goOn_12, rL_goOn_13, rL_goOn_16, rL_goOn_19, rL_goOn_20, rL_goOn_22, rL_goOn_23, rL_goOn_24, rL_goOn_25, rL_goOn_28, rL_goOn_29, rL_goOn_32, rL_goOn_34, rL_goOn_35, rL_goOn_36, rL_goOn_37, rL_goOn_38, rL_goOn_39, rL_goOn_42, rL_goOn_43, rL_goOn_46, rL_goOn_47, rL_goOn_49, rL_goOn_51, rL_goOn_54, rL_goOn_55, rL_goOn_58, rL_goOn_60, rL_goOn_61, rL_goOn_62, rL_goOn_63, rL_goOn_64, rL_goOn_65, rL_goOn_66, Bool.false_eq_true, true_implies, false_implies, implies_true, true_and, and_true, not_true_eq_false, not_false_eq_true, zPush_I, zPush_L, zPush_R, zPush_U, Int.reduceLT, Int.reduceLE, Int.reduceEq, Int.reduceNe, Int.reduceAdd, Int.reduceSub, Int.reduceMul, Int.reduceNeg, Int.reduceToNat, Nat.reduceAdd, Nat.reduceMul, Nat.reduceEqDiff, zw32_id, zw64_id, zupd_eq, zupd_na, zupd_ni, zupp_eq, zupp_na, zupp_ni, p41, p44, h3', eq_true lt, b, r6, x1'', r3, b2]
          exact q
      · have x1' : ¬ twN f e e ^^^ (twN f e e &&& S) = 0 := fun x => ht (tP_an.mp x)
        have q := nx m1 hf hW hwS (bInv_wk hI (fun S' e' w' gx gy a1 a2 a3 a4 a5 a6 a7 a8 a9 a10 => by
          have z1 := hc_r a7
          have z2 := hc_r a8
          unfold cD at a10 ⊢
          by_cases hq : S' = S ∧ e' = e
          · rw [hq.1, hq.2] at a6; exact absurd a6 ht
          · omega))
        clear tl p12 r1 r2 r3 r4 r5 b2
        simp (disch := first | assumption | omega) only [rL_goOn_12, rL_goOn_13, rL_goOn_16, rL_goOn_19, rL_goOn_20, rL_goOn_22, rL_goOn_23, rL_goOn_24, rL_goOn_25, rL_goOn_28, rL_goOn_29, rL_goOn_32, rL_goOn_34, rL_goOn_35, rL_goOn_36, rL_goOn_37, rL_goOn_38, rL_goOn_39, rL_goOn_42, rL_goOn_43, rL_goOn_46, rL_goOn_47, rL_goOn_49, rL_goOn_51, Bool.false_eq_true, true_implies, false_implies, implies_true, true_and, and_true, not_true_eq_false, not_false_eq_true, zPush_I, zPush_L, zPush_R, zPush_U, Int.reduceLT, Int.reduceLE, Int.reduceEq, Int.reduceNe, Int.reduceAdd, Int.reduceSub, Int.reduceMul, Int.reduceNeg, Int.reduceToNat, Nat.reduceAdd, Nat.reduceMul, Nat.reduceEqDiff, zw32_id, zw64_id, zupd_eq, zupd_na, zupd_ni, zupp_eq, zupp_na, zupp_ni, p44, h3', eq_true lt, b, r6, x1, eq_false (show ¬ ((twN f e e ^^^ (twN f e e &&& S) : Nat) : Int) = 0 by omega)]
        exact q
end
