/-! ===== bends of the class: holds, coming to a place, a stroke ===== -/
def hcd (h : Int) : Int := if h = -1 then 2 else h
def lnL (sh : zSh) (pp : zPp) (P : Nat) : Prop := zKd sh P = 5 ∧ (zKd sh (P + 1) = 20 ∧ zLn sh (P + 1) = 4096 ∧ pp P 0 = P + 1) ∧ zKd sh (P + 2) = 20 ∧ zLn sh (P + 2) = 36864 ∧ pp P 1 = P + 2
def cb (P : Nat) (m : zMm) (T : Nat) (hx hy : Int) : Int := if m (P + 1) (T : Int) = -1 then 1000000 else m (P + 2) ((T : Int) * 9 + 3 * hcd hx + hcd hy)
theorem hc_r {h : Int} (v : hV h) : 0 ≤ hcd h ∧ hcd h ≤ 2 := by
  unfold hcd
  unfold hV at v
  split <;> omega
theorem hc_i {h g : Int} (v : hV h) (u : hV g) (e : hcd h = hcd g) : h = g := by
  unfold hcd at e
  unfold hV at v u
  split at e <;> split at e <;> omega
theorem c3d {hx hy : Int} (vx : hV hx) (vy : hV hy) : zw32 ((3 * hcd hx + hcd hy).tdiv 3) = hcd hx := by
  rcases vx with rfl | rfl | rfl <;> rcases vy with rfl | rfl | rfl <;> decide +kernel
theorem c3m {hx hy : Int} (vx : hV hx) (vy : hV hy) : (3 * hcd hx + hcd hy).tmod 3 = hcd hy := by
  rcases vx with rfl | rfl | rfl <;> rcases vy with rfl | rfl | rfl <;> decide +kernel
theorem c9 {W : Nat} (h : W < 9) : ∃ hx hy : Int, hV hx ∧ hV hy ∧ (W : Int) = 3 * hcd hx + hcd hy := by
  refine ⟨if W / 3 = 2 then -1 else ((W / 3 : Nat) : Int), if W % 3 = 2 then -1 else ((W % 3 : Nat) : Int), ?_, ?_, ?_⟩
  · unfold hV; split <;> omega
  · unfold hV; split <;> omega
  · unfold hcd
    split <;> split <;> omega
section
variable {sh : zSh} {pp : zPp} {mm : zMm} {Q : zV → zSh → zPp → zMm → Prop} {f : Int → Int} {G : Int → Option (Int → Int)} {cn : Int → Int} {N D : Nat}
theorem kL_hold {h g : Int} (v : hV h) (u : hV g) : zS 52 0 [zI (hcd h), zI g] [] sh pp mm Q ↔ Q (zI (hcd (hA h g))) sh pp mm := by
  unfold hV at u
  unfold hA
  by_cases g0 : g = 0
  · rw [if_pos g0]
    simp (disch := first | assumption | omega) only [rL_holdAfter_0, rL_holdAfter_1, rL_holdAfter_4, rL_holdAfter_5, rL_holdAfter_6, rL_holdAfter_7, rL_holdAfter_10, rL_holdAfter_11, rL_holdAfter_14, rL_holdAfter_15, Bool.false_eq_true, true_implies, false_implies, implies_true, true_and, and_true, not_true_eq_false, not_false_eq_true, zPush_I, zPush_L, zPush_R, zPush_U, Int.reduceLT, Int.reduceLE, Int.reduceEq, Int.reduceNe, Int.reduceAdd, Int.reduceSub, Int.reduceMul, Int.reduceNeg, Int.reduceToNat, Nat.reduceAdd, Nat.reduceMul, Nat.reduceEqDiff, zw32_id, zw64_id, zupd_eq, zupd_na, zupd_ni, zupp_eq, zupp_na, zupp_ni, eq_true g0]
  · rw [if_neg g0]
    unfold hcd
    by_cases g1 : 0 < g
    · rw [if_neg (show ¬ g = -1 by omega), show g = 1 by omega]
      simp (disch := first | assumption | omega) only [rL_holdAfter_0, rL_holdAfter_1, rL_holdAfter_4, rL_holdAfter_5, rL_holdAfter_6, rL_holdAfter_7, rL_holdAfter_10, rL_holdAfter_11, rL_holdAfter_14, rL_holdAfter_15, Bool.false_eq_true, true_implies, false_implies, implies_true, true_and, and_true, not_true_eq_false, not_false_eq_true, zPush_I, zPush_L, zPush_R, zPush_U, Int.reduceLT, Int.reduceLE, Int.reduceEq, Int.reduceNe, Int.reduceAdd, Int.reduceSub, Int.reduceMul, Int.reduceNeg, Int.reduceToNat, Nat.reduceAdd, Nat.reduceMul, Nat.reduceEqDiff, zw32_id, zw64_id, zupd_eq, zupd_na, zupd_ni, zupp_eq, zupp_na, zupp_ni]
    · rw [if_pos (show g = -1 by omega), show g = -1 by omega]
      simp (disch := first | assumption | omega) only [rL_holdAfter_0, rL_holdAfter_1, rL_holdAfter_4, rL_holdAfter_5, rL_holdAfter_6, rL_holdAfter_7, rL_holdAfter_10, rL_holdAfter_11, rL_holdAfter_14, rL_holdAfter_15, Bool.false_eq_true, true_implies, false_implies, implies_true, true_and, and_true, not_true_eq_false, not_false_eq_true, zPush_I, zPush_L, zPush_R, zPush_U, Int.reduceLT, Int.reduceLE, Int.reduceEq, Int.reduceNe, Int.reduceAdd, Int.reduceSub, Int.reduceMul, Int.reduceNeg, Int.reduceToNat, Nat.reduceAdd, Nat.reduceMul, Nat.reduceEqDiff, zw32_id, zw64_id, zupd_eq, zupd_na, zupd_ni, zupp_eq, zupp_na, zupp_ni]
theorem kL_turns {h g : Int} (v : hV h) (u : hV g) : zS 51 0 [zI (hcd h), zI g] [] sh pp mm Q ↔ Q (zI (tB h g)) sh pp mm := by
  have kh := fun (Q : zV → zSh → zPp → zMm → Prop) => kL_hold (sh := sh) (pp := pp) (mm := mm) (Q := Q) v u
  have z0 : hcd h = 0 ↔ h = 0 := by
    unfold hcd
    unfold hV at v
    split <;> omega
  unfold tB
  by_cases h0 : h = 0
  · rw [if_neg (fun x => x.2.1 h0)]
    simp (disch := first | assumption | omega) only [rL_turnsAbout_0, rL_turnsAbout_1, rL_turnsAbout_4, rL_turnsAbout_5, rL_turnsAbout_8, rL_turnsAbout_9, rL_turnsAbout_10, rL_turnsAbout_11, rL_turnsAbout_14, rL_turnsAbout_17, rL_turnsAbout_18, rL_turnsAbout_21, rL_turnsAbout_22, Bool.false_eq_true, true_implies, false_implies, implies_true, true_and, and_true, not_true_eq_false, not_false_eq_true, zPush_I, zPush_L, zPush_R, zPush_U, Int.reduceLT, Int.reduceLE, Int.reduceEq, Int.reduceNe, Int.reduceAdd, Int.reduceSub, Int.reduceMul, Int.reduceNeg, Int.reduceToNat, Nat.reduceAdd, Nat.reduceMul, Nat.reduceEqDiff, zw32_id, zw64_id, zupd_eq, zupd_na, zupd_ni, zupp_eq, zupp_na, zupp_ni, eq_true (z0.mpr h0)]
  · have h0' : ¬ hcd h = 0 := fun x => h0 (z0.mp x)
    by_cases g0 : g = 0
    · rw [if_neg (fun x => x.1 g0)]
      simp (disch := first | assumption | omega) only [rL_turnsAbout_0, rL_turnsAbout_1, rL_turnsAbout_4, rL_turnsAbout_5, rL_turnsAbout_8, rL_turnsAbout_9, rL_turnsAbout_10, rL_turnsAbout_11, rL_turnsAbout_14, rL_turnsAbout_17, rL_turnsAbout_18, rL_turnsAbout_21, rL_turnsAbout_22, Bool.false_eq_true, true_implies, false_implies, implies_true, true_and, and_true, not_true_eq_false, not_false_eq_true, zPush_I, zPush_L, zPush_R, zPush_U, Int.reduceLT, Int.reduceLE, Int.reduceEq, Int.reduceNe, Int.reduceAdd, Int.reduceSub, Int.reduceMul, Int.reduceNeg, Int.reduceToNat, Nat.reduceAdd, Nat.reduceMul, Nat.reduceEqDiff, zw32_id, zw64_id, zupd_eq, zupd_na, zupd_ni, zupp_eq, zupp_na, zupp_ni, eq_false h0', eq_true g0]
    · have eA : hA h g = g := by unfold hA; rw [if_neg g0]
      rw [eA] at kh
      by_cases gh : g = h
      · rw [if_neg (fun x => x.2.2 gh)]
        have e : hcd h = hcd g := by rw [gh]
        simp (disch := first | assumption | omega) only [rL_turnsAbout_0, rL_turnsAbout_1, rL_turnsAbout_4, rL_turnsAbout_5, rL_turnsAbout_8, rL_turnsAbout_9, rL_turnsAbout_10, rL_turnsAbout_11, rL_turnsAbout_14, rL_turnsAbout_17, rL_turnsAbout_18, rL_turnsAbout_21, rL_turnsAbout_22, Bool.false_eq_true, true_implies, false_implies, implies_true, true_and, and_true, not_true_eq_false, not_false_eq_true, zPush_I, zPush_L, zPush_R, zPush_U, Int.reduceLT, Int.reduceLE, Int.reduceEq, Int.reduceNe, Int.reduceAdd, Int.reduceSub, Int.reduceMul, Int.reduceNeg, Int.reduceToNat, Nat.reduceAdd, Nat.reduceMul, Nat.reduceEqDiff, zw32_id, zw64_id, zupd_eq, zupd_na, zupd_ni, zupp_eq, zupp_na, zupp_ni, kh, eq_false h0', eq_false g0, eq_true e]
      · rw [if_pos ⟨g0, h0, gh⟩]
        have e : ¬ hcd h = hcd g := fun x => gh (hc_i v u x).symm
        simp (disch := first | assumption | omega) only [rL_turnsAbout_0, rL_turnsAbout_1, rL_turnsAbout_4, rL_turnsAbout_5, rL_turnsAbout_8, rL_turnsAbout_9, rL_turnsAbout_10, rL_turnsAbout_11, rL_turnsAbout_14, rL_turnsAbout_17, rL_turnsAbout_18, rL_turnsAbout_21, rL_turnsAbout_22, Bool.false_eq_true, true_implies, false_implies, implies_true, true_and, and_true, not_true_eq_false, not_false_eq_true, zPush_I, zPush_L, zPush_R, zPush_U, Int.reduceLT, Int.reduceLE, Int.reduceEq, Int.reduceNe, Int.reduceAdd, Int.reduceSub, Int.reduceMul, Int.reduceNeg, Int.reduceToNat, Nat.reduceAdd, Nat.reduceMul, Nat.reduceEqDiff, zw32_id, zw64_id, zupd_eq, zupd_na, zupd_ni, zupp_eq, zupp_na, zupp_ni, kh, eq_false h0', eq_false g0, eq_false e]
def lwF (P : Nat) (x : Nat) (_ : Int) : Prop := x = P + 1 ∨ x = P + 2
theorem cCome {P T w : Nat} (hL : lnL sh pp P) (hT : T < 4096) (hQ : ∀ m', frP (lwF P) mm m' → (∀ j, j ≠ (T : Int) → m' (P + 1) j = mm (P + 1) j) → m' (P + 1) (T : Int) = (if mm (P + 1) (T : Int) = -1 then (w : Int) else mm (P + 1) (T : Int)) → (∀ j, (j < (T : Int) * 9 ∨ (T : Int) * 9 + 9 ≤ j) → m' (P + 2) j = mm (P + 2) j) → (∀ j, (T : Int) * 9 ≤ j → j < (T : Int) * 9 + 9 → m' (P + 2) j = if mm (P + 1) (T : Int) = -1 then 1000000 else mm (P + 2) j) → Q zU sh pp m') : zS 48 0 [zR P, zI (T : Int), zI (w : Int), zU] [] sh pp mm Q := by
  obtain ⟨k0, ⟨k1, l1, p1⟩, k2, l2, p2⟩ := hL
  by_cases e : mm (P + 1) (T : Int) = -1
  · have key : ∀ (d i : Nat) (m1 : zMm), i + d = 9 → frP (lwF P) mm m1 → (∀ j, j ≠ (T : Int) → m1 (P + 1) j = mm (P + 1) j) → m1 (P + 1) (T : Int) = (w : Int) → (∀ j, (j < (T : Int) * 9 ∨ (T : Int) * 9 + 9 ≤ j) → m1 (P + 2) j = mm (P + 2) j) → (∀ j, (T : Int) * 9 ≤ j → j < (T : Int) * 9 + (i : Int) → m1 (P + 2) j = 1000000) → zS 48 19 [zR P, zI (T : Int), zU, zI (i : Int)] [] sh pp m1 Q := by
      intro d
      induction d with
      | zero =>
        intro i m1 hi hf h1 h2 h3 h4
        have q := hQ m1 hf h1 (by rw [if_pos e]; exact h2) h3 (fun j a b => by rw [if_pos e]; exact h4 j a (by omega))
        rw [rL_come_19]
        simp (disch := first | assumption | omega) only [rL_come_20, rL_come_22, rL_come_44, Bool.false_eq_true, true_implies, false_implies, implies_true, true_and, and_true, not_true_eq_false, not_false_eq_true, zPush_I, zPush_L, zPush_R, zPush_U, Int.reduceLT, Int.reduceLE, Int.reduceEq, Int.reduceNe, Int.reduceAdd, Int.reduceSub, Int.reduceMul, Int.reduceNeg, Int.reduceToNat, Nat.reduceAdd, Nat.reduceMul, Nat.reduceEqDiff, zw32_id, zw64_id, zupd_eq, zupd_na, zupd_ni, zupp_eq, zupp_na, zupp_ni, eq_false (show ¬ (i : Int) < 9 by omega)]
        exact q
      | succ d ih =>
        intro i m1 hi hf h1 h2 h3 h4
        have n := ih (i + 1) (zupd m1 (P + 2) ((T : Int) * 9 + (i : Int)) 1000000) (by omega) (frP_up hf (Or.inr rfl)) (fun j hj => by rw [zupd_na (by omega)]; exact h1 j hj) (by rw [zupd_na (by omega)]; exact h2) (fun j hj => by rw [zupd_ni (by omega)]; exact h3 j hj) (fun j a b => by
          by_cases ej : j = (T : Int) * 9 + (i : Int)
          · rw [ej, zupd_eq]
          · rw [zupd_ni ej]; exact h4 j a (by omega))
        rw [show ((i + 1 : Nat) : Int) = (i : Int) + 1 by omega] at n
        rw [rL_come_19]
        simp (disch := first | assumption | omega) only [rL_come_20, rL_come_22, rL_come_25, rL_come_26, rL_come_29, rL_come_30, rL_come_32, rL_come_33, rL_come_34, rL_come_35, rL_come_37, rL_come_38, rL_come_41, Bool.false_eq_true, true_implies, false_implies, implies_true, true_and, and_true, not_true_eq_false, not_false_eq_true, zPush_I, zPush_L, zPush_R, zPush_U, Int.reduceLT, Int.reduceLE, Int.reduceEq, Int.reduceNe, Int.reduceAdd, Int.reduceSub, Int.reduceMul, Int.reduceNeg, Int.reduceToNat, Nat.reduceAdd, Nat.reduceMul, Nat.reduceEqDiff, zw32_id, zw64_id, zupd_eq, zupd_na, zupd_ni, zupp_eq, zupp_na, zupp_ni, p2, eq_true (show (i : Int) < 9 by omega)]
        exact n
    have k := key 9 0 (zupd mm (P + 1) (T : Int) (w : Int)) (by omega) (frP_up (frP_rf _ _) (Or.inl rfl)) (fun j hj => zupd_ni hj) (zupd_eq _ _ _ _) (fun j hj => zupd_na (by omega)) (fun j a b => by omega)
    simp (disch := first | assumption | omega) only [rL_come_0, rL_come_1, rL_come_4, rL_come_5, rL_come_6, rL_come_7, rL_come_10, rL_come_11, rL_come_14, rL_come_15, rL_come_16, rL_come_17, rL_come_18, Bool.false_eq_true, true_implies, false_implies, implies_true, true_and, and_true, not_true_eq_false, not_false_eq_true, zPush_I, zPush_L, zPush_R, zPush_U, Int.reduceLT, Int.reduceLE, Int.reduceEq, Int.reduceNe, Int.reduceAdd, Int.reduceSub, Int.reduceMul, Int.reduceNeg, Int.reduceToNat, Nat.reduceAdd, Nat.reduceMul, Nat.reduceEqDiff, zw32_id, zw64_id, zupd_eq, zupd_na, zupd_ni, zupp_eq, zupp_na, zupp_ni, p1, e]
    exact k
  · have q := hQ mm (frP_rf _ _) (fun j _ => rfl) (by rw [if_neg e]) (fun j _ => rfl) (fun j _ _ => by rw [if_neg e])
    simp (disch := first | assumption | omega) only [rL_come_0, rL_come_1, rL_come_4, rL_come_5, rL_come_6, rL_come_7, rL_come_44, Bool.false_eq_true, true_implies, false_implies, implies_true, true_and, and_true, not_true_eq_false, not_false_eq_true, zPush_I, zPush_L, zPush_R, zPush_U, Int.reduceLT, Int.reduceLE, Int.reduceEq, Int.reduceNe, Int.reduceAdd, Int.reduceSub, Int.reduceMul, Int.reduceNeg, Int.reduceToNat, Nat.reduceAdd, Nat.reduceMul, Nat.reduceEqDiff, zw32_id, zw64_id, zupd_eq, zupd_na, zupd_ni, zupp_eq, zupp_na, zupp_ni, p1, eq_false e]
    exact q
/-- what is done of the class's steps -/
def cD (S0 e0 : Nat) (W0 : Int) (S e : Nat) (hx hy : Int) : Prop := S < S0 ∨ (S = S0 ∧ (e < e0 ∨ (e = e0 ∧ 3 * hcd hx + hcd hy < W0)))
theorem cIx {S : Nat} {hx hy : Int} (vx : hV hx) (vy : hV hy) (hS : S < 4096) : (0 ≤ (S : Int) * 9 + 3 * hcd hx + hcd hy ∧ (S : Int) * 9 + 3 * hcd hx + hcd hy < 36864) ∧ (zw32 ((S : Int) * 9) = (S : Int) * 9 ∧ zw32 (3 * hcd hx) = 3 * hcd hx) ∧ (zw32 ((S : Int) * 9 + 3 * hcd hx) = (S : Int) * 9 + 3 * hcd hx ∧ zw32 ((S : Int) * 9 + 3 * hcd hx + hcd hy) = (S : Int) * 9 + 3 * hcd hx + hcd hy) := by
  have a := hc_r vx
  have b := hc_r vy
  generalize hcd hx = x at *
  generalize hcd hy = y at *
  exact ⟨⟨by omega, by omega⟩, ⟨zw32_id (by omega) (by omega), zw32_id (by omega) (by omega)⟩, zw32_id (by omega) (by omega), zw32_id (by omega) (by omega)⟩
theorem kL_one {P S T : Nat} {gx gy hx hy b : Int} (hL : lnL sh pp P) (hS : S < 4096) (hT : T < 4096) (vx : hV hx) (vy : hV hy) (ux : hV gx) (uy : hV gy) (hb : mm (P + 2) ((S : Int) * 9 + 3 * hcd hx + hcd hy) = b) (b0 : 0 ≤ b) (b1 : b < 1000000) : zS 50 10 [zR P, zI (S : Int), zI (T : Int), zI gx, zI gy, zI (3 * hcd hx + hcd hy), zU, zU, zU, zU] [] sh pp mm Q ↔ zS 50 104 [zR P, zI (S : Int), zI (T : Int), zI gx, zI gy, zI (3 * hcd hx + hcd hy), zU, zU, zU, zU] [] sh pp (zupd mm (P + 2) ((T : Int) * 9 + 3 * hcd (hA hx gx) + hcd (hA hy gy)) (min (mm (P + 2) ((T : Int) * 9 + 3 * hcd (hA hx gx) + hcd (hA hy gy))) (b + tB hx gx + tB hy gy))) Q := by
  obtain ⟨k0, -, k2, l2, p2⟩ := hL
  have vax : hV (hA hx gx) := by unfold hA; split; (· exact vx); (· exact ux)
  have vay : hV (hA hy gy) := by unfold hA; split; (· exact vy); (· exact uy)
  obtain ⟨⟨i0, i1⟩, ⟨w1, -⟩, w2, w3⟩ := cIx vx vy hS
  obtain ⟨⟨j0, j1⟩, ⟨x1, x2⟩, x3, x4⟩ := cIx vax vay hT
  have i1' : (S : Int) * 9 + 3 * hcd hx + hcd hy < zLn sh (P + 2) := by rw [l2]; exact i1
  have j1' : (T : Int) * 9 + 3 * hcd (hA hx gx) + hcd (hA hy gy) < zLn sh (P + 2) := by rw [l2]; exact j1
  have kb : zKd sh (P + 2) = 20 ∨ zKd sh (P + 2) = 30 := Or.inl k2
  have kt1 := fun (Q : zV → zSh → zPp → zMm → Prop) => kL_turns (sh := sh) (pp := pp) (mm := mm) (Q := Q) vx ux
  have kt2 := fun (Q : zV → zSh → zPp → zMm → Prop) => kL_turns (sh := sh) (pp := pp) (mm := mm) (Q := Q) vy uy
  have kh1 := fun (Q : zV → zSh → zPp → zMm → Prop) => kL_hold (sh := sh) (pp := pp) (mm := mm) (Q := Q) vx ux
  have kh2 := fun (Q : zV → zSh → zPp → zMm → Prop) => kL_hold (sh := sh) (pp := pp) (mm := mm) (Q := Q) vy uy
  have t1 := tB_r hx gx
  have t2 := tB_r hy gy
  have s1 : zw32 (tB hx gx + tB hy gy) = tB hx gx + tB hy gy := zw32_id (by clear w1 w2 w3 x1 x2 x3 x4; omega) (by clear w1 w2 w3 x1 x2 x3 x4; omega)
  have s2 : zw32 (b + (tB hx gx + tB hy gy)) = b + tB hx gx + tB hy gy := by
    clear w1 w2 w3 x1 x2 x3 x4 s1
    rw [zw32_id (by omega) (by omega)]
    omega
  have dz : (3 : Int) ≠ 0 := by decide
  have w4 : (S : Int) * 9 + (3 * hcd hx + hcd hy) = (S : Int) * 9 + 3 * hcd hx + hcd hy := (Int.add_assoc _ _ _).symm
  simp (disch := assumption) only [rL_stroke_10, rL_stroke_11, rL_stroke_14, rL_stroke_15, rL_stroke_17, rL_stroke_18, rL_stroke_20, rL_stroke_21, rL_stroke_22, rL_stroke_24, rL_stroke_26, rL_stroke_28, rL_stroke_31, rL_stroke_33, rL_stroke_34, rL_stroke_35, rL_stroke_37, rL_stroke_39, rL_stroke_40, rL_stroke_41, rL_stroke_43, rL_stroke_45, rL_stroke_47, rL_stroke_48, rL_stroke_51, rL_stroke_53, rL_stroke_55, rL_stroke_58, rL_stroke_59, rL_stroke_60, rL_stroke_62, rL_stroke_63, rL_stroke_65, rL_stroke_66, rL_stroke_67, rL_stroke_69, rL_stroke_70, rL_stroke_73, rL_stroke_74, rL_stroke_75, rL_stroke_77, rL_stroke_79, rL_stroke_82, rL_stroke_83, rL_stroke_85, rL_stroke_86, rL_stroke_89, rL_stroke_91, rL_stroke_92, rL_stroke_95, rL_stroke_97, rL_stroke_98, rL_stroke_100, rL_stroke_103, p2, w1, w4, w3, hb, eq_true b1, c3d vx vy, c3m vx vy, kt1, kt2, s1, s2, x1, kh1, x2, x3, kh2, x4, kJ_min, zPush_I, true_implies, false_implies, not_true_eq_false, not_false_eq_true, and_true, true_and]
end
