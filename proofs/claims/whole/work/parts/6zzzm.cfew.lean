/-! ===== bends of the class: all lines from a corner ===== -/
section
variable {sh : zSh} {pp : zPp} {mm : zMm} {Q : zV → zSh → zPp → zMm → Prop} {f : Int → Int} {G : Int → Option (Int → Int)} {cn : Int → Int} {N D : Nat}
theorem cFew1 {P : Nat} (hL : lnL sh pp P) {c A : Nat} (hA : A < 4096) (hz : ∀ m', frP (lwF P) mm m' → (∀ T : Nat, T ≤ A → m' (P + 1) (T : Int) = -1) → zS 47 28 [zR P, zI (c : Int), zR 38, zI (A : Int), zU, zU] [] sh pp m' Q) : ∀ (d i : Nat) (m1 : zMm), i + d = A + 1 → frP (lwF P) mm m1 → (∀ T : Nat, T < i → m1 (P + 1) (T : Int) = -1) → zS 47 8 [zR P, zI (c : Int), zR 38, zI (A : Int), zI (i : Int), zU] [] sh pp m1 Q := by
  obtain ⟨k0, ⟨k1, l1, p1⟩, k2, l2, p2⟩ := hL
  intro d
  induction d with
  | zero =>
    intro i m1 hi hf hk
    have q := hz m1 hf (fun T hT => hk T (by omega))
    rw [rL_fewestFrom_8]
    simp (disch := first | assumption | omega) only [rL_fewestFrom_10, rL_fewestFrom_11, Bool.false_eq_true, true_implies, false_implies, implies_true, true_and, and_true, not_true_eq_false, not_false_eq_true, zPush_I, zPush_L, zPush_R, zPush_U, Int.reduceLT, Int.reduceLE, Int.reduceEq, Int.reduceNe, Int.reduceAdd, Int.reduceSub, Int.reduceMul, Int.reduceNeg, Int.reduceToNat, Nat.reduceAdd, Nat.reduceMul, Nat.reduceEqDiff, zw32_id, zw64_id, zupd_eq, zupd_na, zupd_ni, zupp_eq, zupp_na, zupp_ni, eq_true (show (A : Int) < (i : Int) by omega)]
    exact q
  | succ d ih =>
    intro i m1 hi hf hk
    have n := ih (i + 1) (zupd m1 (P + 1) (i : Int) (-1)) (by omega) (frP_up hf (Or.inl rfl)) (fun T hT => by
      by_cases e : T = i
      · subst e; rw [zupd_eq]
      · rw [zupd_ni (by omega)]; exact hk T (by omega))
    rw [show ((i + 1 : Nat) : Int) = (i : Int) + 1 by omega] at n
    rw [rL_fewestFrom_8]
    simp (disch := first | assumption | omega) only [rL_fewestFrom_10, rL_fewestFrom_11, rL_fewestFrom_14, rL_fewestFrom_15, rL_fewestFrom_18, rL_fewestFrom_20, rL_fewestFrom_21, rL_fewestFrom_22, rL_fewestFrom_25, Bool.false_eq_true, true_implies, false_implies, implies_true, true_and, and_true, not_true_eq_false, not_false_eq_true, zPush_I, zPush_L, zPush_R, zPush_U, Int.reduceLT, Int.reduceLE, Int.reduceEq, Int.reduceNe, Int.reduceAdd, Int.reduceSub, Int.reduceMul, Int.reduceNeg, Int.reduceToNat, Nat.reduceAdd, Nat.reduceMul, Nat.reduceEqDiff, zw32_id, zw64_id, zupd_eq, zupd_na, zupd_ni, zupp_eq, zupp_na, zupp_ni, p1, eq_false (show ¬ (A : Int) < (i : Int) by omega)]
    exact n
theorem cFew2 (h : zLy sh pp) (ok : fOk f) {P c : Nat} (hL : lnL sh pp P) (hP : 143 ≤ P) (h3 : mm 38 3 = (nE f : Int)) (hr : ∀ e, e < nE f → nRw f mm e) (hc : c < 10) {A : Nat} (eA : A = 2 ^ nE f - 1) (hz : ∀ m', frP (lwF P) mm m' → bInv (tP f) f c (cb P m') (cD A 0 0) → zS 47 74 [zR P, zU, zU, zI (A : Int), zU, zU] [] sh pp m' Q) : ∀ (d S : Nat) (m1 : zMm), S + d = A → frP (lwF P) mm m1 → whI f c P m1 → bInv (tP f) f c (cb P m1) (cD S 0 0) → zS 47 44 [zR P, zU, zR 38, zI (A : Int), zI (S : Int), zU] [] sh pp m1 Q := by
  have hL' := hL
  obtain ⟨k0, ⟨k1, l1, p1⟩, k2, l2, p2⟩ := hL'
  have l := nE_le ok
  have t : 2 ^ nE f ≤ 4096 := by simpa using Nat.pow_le_pow_right (n := 2) (by omega) l
  have t0 : 0 < 2 ^ nE f := Nat.pow_pos (by omega)
  intro d
  induction d with
  | zero =>
    intro S m1 hS hf hW hI
    have hS : S = A := by omega
    rw [hS] at hI
    have q := hz m1 hf hI
    rw [rL_fewestFrom_44]
    simp (disch := first | assumption | omega) only [rL_fewestFrom_46, rL_fewestFrom_47, Bool.false_eq_true, true_implies, false_implies, implies_true, true_and, and_true, not_true_eq_false, not_false_eq_true, zPush_I, zPush_L, zPush_R, zPush_U, Int.reduceLT, Int.reduceLE, Int.reduceEq, Int.reduceNe, Int.reduceAdd, Int.reduceSub, Int.reduceMul, Int.reduceNeg, Int.reduceToNat, Nat.reduceAdd, Nat.reduceMul, Nat.reduceEqDiff, zw32_id, zw64_id, zupd_eq, zupd_na, zupd_ni, zupp_eq, zupp_na, zupp_ni, eq_false (show ¬ (S : Int) < (A : Int) by omega)]
    exact q
  | succ d ih =>
    intro S m1 hS hf hW hI
    have r := lw_rw hP hf
    have h3' : m1 38 3 = (nE f : Int) := by rw [r _ (by omega)]; exact h3
    have nx : ∀ m2, frP (lwF P) mm m2 → whI f c P m2 → bInv (tP f) f c (cb P m2) (cD (S + 1) 0 0) → zS 47 68 [zR P, zU, zR 38, zI (A : Int), zI (S : Int), zU] [] sh pp m2 Q := fun m2 a1 a2 a3 => by
      have n := ih (S + 1) m2 (by omega) a1 a2 a3
      rw [show ((S + 1 : Nat) : Int) = (S : Int) + 1 by omega] at n
      simp (disch := first | assumption | omega) only [rL_fewestFrom_68, rL_fewestFrom_71, Bool.false_eq_true, true_implies, false_implies, implies_true, true_and, and_true, not_true_eq_false, not_false_eq_true, zPush_I, zPush_L, zPush_R, zPush_U, Int.reduceLT, Int.reduceLE, Int.reduceEq, Int.reduceNe, Int.reduceAdd, Int.reduceSub, Int.reduceMul, Int.reduceNeg, Int.reduceToNat, Nat.reduceAdd, Nat.reduceMul, Nat.reduceEqDiff, zw32_id, zw64_id, zupd_eq, zupd_na, zupd_ni, zupp_eq, zupp_na, zupp_ni]
      exact n
    have lt : (S : Int) < (A : Int) := by omega
    rw [rL_fewestFrom_44]
    by_cases hq : m1 (P + 1) (S : Int) = -1
    · have q := nx m1 hf hW (bInv_wk hI (fun S' e' w' gx gy a1 a2 a3 a4 a5 a6 a7 a8 a9 a10 => by
        have z1 := hc_r a7
        have z2 := hc_r a8
        unfold cD at a10 ⊢
        by_cases hq' : S' = S
        · rw [hq'] at a9
          unfold cb at a9
          rw [if_pos hq] at a9
          omega
        · omega))
      simp (disch := first | assumption | omega) only [rL_fewestFrom_46, rL_fewestFrom_47, rL_fewestFrom_50, rL_fewestFrom_51, rL_fewestFrom_54, rL_fewestFrom_56, rL_fewestFrom_57, rL_fewestFrom_58, Bool.false_eq_true, true_implies, false_implies, implies_true, true_and, and_true, not_true_eq_false, not_false_eq_true, zPush_I, zPush_L, zPush_R, zPush_U, Int.reduceLT, Int.reduceLE, Int.reduceEq, Int.reduceNe, Int.reduceAdd, Int.reduceSub, Int.reduceMul, Int.reduceNeg, Int.reduceToNat, Nat.reduceAdd, Nat.reduceMul, Nat.reduceEqDiff, zw32_id, zw64_id, zupd_eq, zupd_na, zupd_ni, zupp_eq, zupp_na, zupp_ni, p1, eq_true lt, eq_true hq]
      exact q
    · have hw : m1 (P + 1) (S : Int) = whB f c S := by
        rcases hW S (by omega) with y | y
        · exact absurd y hq
        · exact y
      rcases whB_n ok hc S with hn | ⟨w, hw10, hwe, -⟩
      · rw [hn] at hw; exact absurd hw hq
      · rw [hwe] at hw
        have nq : ¬ (w : Int) = -1 := by omega
        simp (disch := first | assumption | omega) only [rL_fewestFrom_46, rL_fewestFrom_47, rL_fewestFrom_50, rL_fewestFrom_51, rL_fewestFrom_54, rL_fewestFrom_56, rL_fewestFrom_57, rL_fewestFrom_58, rL_fewestFrom_61, rL_fewestFrom_62, rL_fewestFrom_64, rL_fewestFrom_65, Bool.false_eq_true, true_implies, false_implies, implies_true, true_and, and_true, not_true_eq_false, not_false_eq_true, zPush_I, zPush_L, zPush_R, zPush_U, Int.reduceLT, Int.reduceLE, Int.reduceEq, Int.reduceNe, Int.reduceAdd, Int.reduceSub, Int.reduceMul, Int.reduceNeg, Int.reduceToNat, Nat.reduceAdd, Nat.reduceMul, Nat.reduceEqDiff, zw32_id, zw64_id, zupd_eq, zupd_na, zupd_ni, zupp_eq, zupp_na, zupp_ni, p1, eq_true lt, hw, eq_false nq]
        have g := cGoL (mm := m1) (Q := fun v sh pp mm => zS 47 68 [zR P, zU, zR 38, zI (A : Int), zI (S : Int), zU] (zPush v []) sh pp mm Q) h ok hL hP h3' (fun e he => nRw_fr (hr e he) (fun x a b => by rw [r _ (by omega)])) hc (show S < 2 ^ nE f by omega) hwe (fun m2 f2 w2 i2 => by
          simp only [zPush_U]
          exact nx m2 (frP_tr hf f2) w2 i2) (nE f) 0 m1 (by omega) (frP_rf _ _) hW hw hI
        simp (disch := first | assumption | omega) only [rL_goOn_0, rL_goOn_1, rL_goOn_4, rL_goOn_5, rL_goOn_6, rL_goOn_7, rL_goOn_8, Bool.false_eq_true, true_implies, false_implies, implies_true, true_and, and_true, not_true_eq_false, not_false_eq_true, zPush_I, zPush_L, zPush_R, zPush_U, Int.reduceLT, Int.reduceLE, Int.reduceEq, Int.reduceNe, Int.reduceAdd, Int.reduceSub, Int.reduceMul, Int.reduceNeg, Int.reduceToNat, Nat.reduceAdd, Nat.reduceMul, Nat.reduceEqDiff, zw32_id, zw64_id, zupd_eq, zupd_na, zupd_ni, zupp_eq, zupp_na, zupp_ni, p1, hw]
        exact g
theorem cFewest (h : zLy sh pp) (ok : fOk f) {P c : Nat} (hL : lnL sh pp P) (hP : 143 ≤ P) (hK : cNtK f mm) (hc : c < 10) (hQ : ∀ m' v, frP (lwF P) mm m' → mnB (bnP f c) v → Q (zI v) sh pp m') : zS 47 0 [zR P, zI (c : Int), zR 38, zU, zU, zU] [] sh pp mm Q := by
  have k38 := k_38 h
  have p38 := p_13_5 h
  have hL' := hL
  obtain ⟨k0, ⟨k1, l1, p1⟩, k2, l2, p2⟩ := hL'
  have l := nE_le ok
  have t : 2 ^ nE f ≤ 4096 := by simpa using Nat.pow_le_pow_right (n := 2) (by omega) l
  have t0 : 0 < 2 ^ nE f := Nat.pow_pos (by omega)
  have h3 := hK.1.2.2.2
  have hr : ∀ e, e < nE f → nRw f mm e := hK.2.1
  have ka := fun (Q : zV → zSh → zPp → zMm → Prop) => kN_all (Q := Q) h ok h3
  obtain ⟨A, eA⟩ : ∃ A, A = 2 ^ nE f - 1 := ⟨_, rfl⟩
  rw [← eA] at ka
  simp (disch := first | assumption | omega) only [rL_fewestFrom_0, rL_fewestFrom_1, rL_fewestFrom_4, rL_fewestFrom_5, rL_fewestFrom_6, Bool.false_eq_true, true_implies, false_implies, implies_true, true_and, and_true, not_true_eq_false, not_false_eq_true, zPush_I, zPush_L, zPush_R, zPush_U, Int.reduceLT, Int.reduceLE, Int.reduceEq, Int.reduceNe, Int.reduceAdd, Int.reduceSub, Int.reduceMul, Int.reduceNeg, Int.reduceToNat, Nat.reduceAdd, Nat.reduceMul, Nat.reduceEqDiff, zw32_id, zw64_id, zupd_eq, zupd_na, zupd_ni, zupp_eq, zupp_na, zupp_ni, ka]
  refine cFew1 hL (by omega) (fun m1 f1 e1 => ?_) (A + 1) 0 mm (by omega) (frP_rf _ _) (fun T hT => by omega)
  simp (disch := first | assumption | omega) only [rL_fewestFrom_28, rL_fewestFrom_29, rL_fewestFrom_30, rL_fewestFrom_31, Bool.false_eq_true, true_implies, false_implies, implies_true, true_and, and_true, not_true_eq_false, not_false_eq_true, zPush_I, zPush_L, zPush_R, zPush_U, Int.reduceLT, Int.reduceLE, Int.reduceEq, Int.reduceNe, Int.reduceAdd, Int.reduceSub, Int.reduceMul, Int.reduceNeg, Int.reduceToNat, Nat.reduceAdd, Nat.reduceMul, Nat.reduceEqDiff, zw32_id, zw64_id, zupd_eq, zupd_na, zupd_ni, zupp_eq, zupp_na, zupp_ni]
  refine cCome (T := 0) hL (by decide) (fun m2 f2 g1 g2 g3 g4 => ?_)
  rw [e1 0 (by omega), if_pos rfl] at g2
  obtain ⟨m3, hm3⟩ : ∃ m3, m3 = zupd m2 (P + 2) 0 0 := ⟨_, rfl⟩
  have f3 : frP (lwF P) mm m3 := by
    rw [hm3]
    exact frP_up (frP_tr f1 f2) (Or.inr rfl)
  have w3 : ∀ T : Nat, T ≤ A → m3 (P + 1) (T : Int) = if T = 0 then (c : Int) else -1 := fun T hT => by
    rw [hm3, zupd_na (by omega)]
    by_cases hT0 : T = 0
    · subst hT0
      rw [if_pos rfl]
      exact g2
    · rw [if_neg hT0, g1 _ (by omega)]
      exact e1 T hT
  have W3 : whI f c P m3 := fun T hT => by
    rw [w3 T (by omega)]
    by_cases hT0 : T = 0
    · subst hT0
      rw [if_pos rfl]
      exact Or.inr (whB_e hc hc (by rw [oddS_0, Nat.xor_self])).symm
    · rw [if_neg hT0]; exact Or.inl rfl
  have I3 : bInv (tP f) f c (cb P m3) (cD 0 0 0) := bInv_0 ok hc (fun S e hx hy vx vy hd => by
    have z1 := hc_r vx
    have z2 := hc_r vy
    unfold cD at hd
    omega) (fun S hx hy a1 a2 a3 => by
    have z1 := hc_r a2
    have z2 := hc_r a3
    unfold cb
    rw [w3 S (by omega)]
    by_cases hS0 : S = 0
    · subst hS0
      rw [if_pos rfl, if_neg (show ¬ (c : Int) = -1 by omega)]
      by_cases hq : hx = 0 ∧ hy = 0
      · rw [if_pos ⟨rfl, hq⟩, hq.1, hq.2, hm3]
        exact zupd_eq _ _ _ _
      · rw [if_neg (fun x => hq x.2), hm3, zupd_ni (fun x => hq ?_), g4 _ (by omega) (by omega), e1 0 (by omega), if_pos rfl]
        have y1 : hcd hx = hcd 0 := by show hcd hx = 0; omega
        have y2 : hcd hy = hcd 0 := by show hcd hy = 0; omega
        exact ⟨hc_i a2 (Or.inr (Or.inl rfl)) y1, hc_i a3 (Or.inr (Or.inl rfl)) y2⟩
    · rw [if_neg hS0, if_pos rfl, if_neg (fun x => hS0 x.1)])
  have k := cFew2 (mm := mm) (Q := Q) h ok hL hP h3 hr hc eA (fun m4 f4 i4 => ?_) A 0 m3 (by omega) f3 W3 I3
  · simp (disch := first | assumption | omega) only [rL_fewestFrom_34, rL_fewestFrom_35, rL_fewestFrom_38, rL_fewestFrom_39, rL_fewestFrom_40, rL_fewestFrom_41, rL_fewestFrom_42, Bool.false_eq_true, true_implies, false_implies, implies_true, true_and, and_true, not_true_eq_false, not_false_eq_true, zPush_I, zPush_L, zPush_R, zPush_U, Int.reduceLT, Int.reduceLE, Int.reduceEq, Int.reduceNe, Int.reduceAdd, Int.reduceSub, Int.reduceMul, Int.reduceNeg, Int.reduceToNat, Nat.reduceAdd, Nat.reduceMul, Nat.reduceEqDiff, zw32_id, zw64_id, zupd_eq, zupd_na, zupd_ni, zupp_eq, zupp_na, zupp_ni, p2]
    rw [← hm3]
    exact k
  · by_cases hq : m4 (P + 1) (A : Int) = -1
    · have fin := bInv_end2 (v := 1000000) ok i4 hc (fun S e hx hy hS => by unfold cD; omega) (Int.le_refl _) (fun hx hy vx vy => by
        unfold cb
        rw [← eA, if_pos hq]
        exact Int.le_refl _) (fun hl => by omega)
      have q := hQ m4 _ f4 fin
      simp (disch := first | assumption | omega) only [rL_fewestFrom_74, rL_fewestFrom_76, rL_fewestFrom_78, rL_fewestFrom_79, rL_fewestFrom_81, rL_fewestFrom_83, rL_fewestFrom_85, rL_fewestFrom_88, rL_fewestFrom_89, rL_fewestFrom_92, rL_fewestFrom_93, rL_fewestFrom_94, rL_fewestFrom_95, rL_fewestFrom_123, rL_fewestFrom_125, Bool.false_eq_true, true_implies, false_implies, implies_true, true_and, and_true, not_true_eq_false, not_false_eq_true, zPush_I, zPush_L, zPush_R, zPush_U, Int.reduceLT, Int.reduceLE, Int.reduceEq, Int.reduceNe, Int.reduceAdd, Int.reduceSub, Int.reduceMul, Int.reduceNeg, Int.reduceToNat, Nat.reduceAdd, Nat.reduceMul, Nat.reduceEqDiff, zw32_id, zw64_id, zupd_eq, zupd_na, zupd_ni, zupp_eq, zupp_na, zupp_ni, p1, hq]
      exact q
    · have ecb : ∀ hx hy, cb P m4 A hx hy = m4 (P + 2) ((A : Int) * 9 + 3 * hcd hx + hcd hy) := fun hx hy => if_neg hq
      have fin := bInv_end2 (v := mnF (fun W => m4 (P + 2) ((A : Int) * 9 + (W : Int))) 9) ok i4 hc (fun S e hx hy hS => by unfold cD; omega) (mnF_M _ 9) (fun hx hy vx vy => by
        have z1 := hc_r vx
        have z2 := hc_r vy
        have z := mnF_le (g := fun W : Nat => m4 (P + 2) ((A : Int) * 9 + (W : Int))) (q := (3 * hcd hx + hcd hy).toNat) 9 (by omega)
        rw [Int.toNat_of_nonneg (by omega)] at z
        rw [← eA, ecb, Int.add_assoc]
        exact z) (fun hl => by
        obtain ⟨q, a, b⟩ := mnF_ex 9 hl
        obtain ⟨hx, hy, vx, vy, e⟩ := c9 a
        refine ⟨hx, hy, vx, vy, ?_⟩
        rw [b, ← eA, ecb, Int.add_assoc, ← e])
      have q := hQ m4 _ f4 fin
      clear fin
      have A4 : (A : Int) < 4096 := by omega
      have key : ∀ (d W : Nat), W + d = 9 → zS 47 81 [zR P, zU, zU, zI (A : Int), zI (mnF (fun W => m4 (P + 2) ((A : Int) * 9 + (W : Int))) W), zI (W : Int)] [] sh pp m4 Q := by
        intro d
        induction d with
        | zero =>
          intro W hW
          have hW : W = 9 := by omega
          subst hW
          rw [rL_fewestFrom_81]
          simp (disch := first | assumption | omega) only [rL_fewestFrom_83, rL_fewestFrom_85, rL_fewestFrom_123, rL_fewestFrom_125, Bool.false_eq_true, true_implies, false_implies, implies_true, true_and, and_true, not_true_eq_false, not_false_eq_true, zPush_I, zPush_L, zPush_R, zPush_U, Int.reduceLT, Int.reduceLE, Int.reduceEq, Int.reduceNe, Int.reduceAdd, Int.reduceSub, Int.reduceMul, Int.reduceNeg, Int.reduceToNat, Nat.reduceAdd, Nat.reduceMul, Nat.reduceEqDiff, zw32_id, zw64_id, zupd_eq, zupd_na, zupd_ni, zupp_eq, zupp_na, zupp_ni, Int.cast_ofNat_Int, Int.lt_irrefl]
          exact q
        | succ d ih =>
          intro W hW
          have n := ih (W + 1) (by omega)
          have em : mnF (fun W : Nat => m4 (P + 2) ((A : Int) * 9 + (W : Int))) (W + 1) = min (mnF (fun W : Nat => m4 (P + 2) ((A : Int) * 9 + (W : Int))) W) (m4 (P + 2) ((A : Int) * 9 + (W : Int))) := rfl
          rw [em, show ((W + 1 : Nat) : Int) = (W : Int) + 1 by omega] at n
          rw [rL_fewestFrom_81]
          generalize mnF (fun W : Nat => m4 (P + 2) ((A : Int) * 9 + (W : Int))) W = L at *
          simp (disch := first | assumption | omega) only [rL_fewestFrom_83, rL_fewestFrom_85, rL_fewestFrom_88, rL_fewestFrom_89, rL_fewestFrom_92, rL_fewestFrom_93, rL_fewestFrom_94, rL_fewestFrom_95, rL_fewestFrom_98, rL_fewestFrom_100, rL_fewestFrom_101, rL_fewestFrom_104, rL_fewestFrom_105, rL_fewestFrom_107, rL_fewestFrom_108, rL_fewestFrom_110, rL_fewestFrom_111, rL_fewestFrom_112, rL_fewestFrom_115, rL_fewestFrom_117, rL_fewestFrom_120, kJ_min, Bool.false_eq_true, true_implies, false_implies, implies_true, true_and, and_true, not_true_eq_false, not_false_eq_true, zPush_I, zPush_L, zPush_R, zPush_U, Int.reduceLT, Int.reduceLE, Int.reduceEq, Int.reduceNe, Int.reduceAdd, Int.reduceSub, Int.reduceMul, Int.reduceNeg, Int.reduceToNat, Nat.reduceAdd, Nat.reduceMul, Nat.reduceEqDiff, zw32_id, zw64_id, zupd_eq, zupd_na, zupd_ni, zupp_eq, zupp_na, zupp_ni, p1, p2, eq_true (show (W : Int) < 9 by omega), eq_false hq]
          exact n
      simp (disch := first | assumption | omega) only [rL_fewestFrom_74, rL_fewestFrom_76, rL_fewestFrom_78, rL_fewestFrom_79, Bool.false_eq_true, true_implies, false_implies, implies_true, true_and, and_true, not_true_eq_false, not_false_eq_true, zPush_I, zPush_L, zPush_R, zPush_U, Int.reduceLT, Int.reduceLE, Int.reduceEq, Int.reduceNe, Int.reduceAdd, Int.reduceSub, Int.reduceMul, Int.reduceNeg, Int.reduceToNat, Nat.reduceAdd, Nat.reduceMul, Nat.reduceEqDiff, zw32_id, zw64_id, zupd_eq, zupd_na, zupd_ni, zupp_eq, zupp_na, zupp_ni]
      exact key 9 0 (by omega)
end
