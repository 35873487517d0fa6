/-! ===== the class's whole numbers: less, half, which is greater ===== -/
theorem hvV {g g' : Int → Int} : ∀ n : Nat, (∀ j, 0 ≤ j → j < (n : Int) → g' j = g j / 2 + (g (j + 1) % 2) * 536870912) → 2 * bV g' n + g 0 % 2 = bV g n + (g n % 2) * 2 ^ (30 * n)
  | 0, _ => by simp [bV]
  | n + 1, h => by
    have ih := hvV n (fun j a b => h j a (by omega))
    have e := h n (by omega) (by omega)
    rw [bV_s, bV_s, two30, e]
    generalize (2 : Int) ^ (30 * n) = P at *
    have e1 : g ((n + 1 : Nat) : Int) = g ((n : Int) + 1) := by push_cast; rfl
    rw [e1]
    generalize hx : g ((n : Int) + 1) % 2 = x at *
    have e2 : g n = 2 * (g n / 2) + g n % 2 := by omega
    generalize g n / 2 = q at *
    generalize g n % 2 = r at *
    rw [e2]
    grind
theorem zshl29 {y : Int} (h : y = 0 ∨ y = 1) : zshl y 29 = y * 536870912 := by
  rcases h with rfl | rfl <;> decide
theorem hlv {x y : Int} (h0 : 0 ≤ x) (h1 : x < 1073741824) (hy : y = 0 ∨ y = 1) : zor (zshr x 1) (zshl y 29) = x / 2 + y * 536870912 := by
  have e1 : zshr x 1 = x / 2 := by
    have := zshrD (x := x) (k := 1) (by omega) (by omega) (by decide)
    simpa using this
  rw [e1, zshl29 hy]
  obtain ⟨n, hn⟩ : ∃ n : Nat, x / 2 = (n : Int) := ⟨(x / 2).toNat, by omega⟩
  rw [hn]
  rcases hy with rfl | rfl
  · have := zorN (a := n) (b := 0) (by omega) (by decide)
    simpa using this
  · have := zorN (a := n) (b := 536870912) (by omega) (by decide)
    rw [show (536870912 : Nat) = 2 ^ 29 from rfl, Nat.or_two_pow_eq_add_of_lt (by omega), show (2 ^ 29 : Nat) = 536870912 from rfl] at this
    rw [show (1 : Int) * 536870912 = ((536870912 : Nat) : Int) from rfl, this]
    omega
theorem bV_par {g : Int → Int} {n : Nat} (h : 0 < n) : bV g n % 2 = g 0 % 2 := by
  rw [bV_low g n h]
  omega
/-- halved until it is odd -/
def hu : Nat → Nat → Nat
  | 0, v => v
  | n + 1, v => if v ≠ 0 ∧ v % 2 = 0 then hu n (v / 2) else v
section
variable {sh : zSh} {pp : zPp} {mm : zMm} {Q : zV → zSh → zPp → zMm → Prop} {a b v w : Nat}
theorem cSubtract (hL : bgL sh pp a) (hM : bgL sh pp b) (hab : a + 1 < b ∨ b + 1 < a) (hW : bW a v mm) (hW2 : bW b w mm) (hle : w ≤ v) (hQ : ∀ m, bG a (v - w) m → frP (pB a) mm m → Q zU sh pp m) : zS 8 0 [zR a, zR b, zU, zU, zU] [] sh pp mm Q := by
  have hL' := hL
  obtain ⟨k0, k1, l1, p1⟩ := hL
  obtain ⟨k2, k3, l3, p3⟩ := hM
  have key : ∀ (d i : Nat) (m : zMm) (c : Int), i + d = 8 → (∀ k, 0 ≤ k → k < (i : Int) → 0 ≤ m (a + 1) k ∧ m (a + 1) k < 1073741824) → (∀ k, (i : Int) ≤ k → m (a + 1) k = mm (a + 1) k) → bV (m (a + 1)) i - c * 2 ^ (30 * i) = bV (mm (a + 1)) i - bV (mm (b + 1)) i → (c = 0 ∨ c = 1) → frP (pB a) mm m → zS 8 4 [zR a, zR b, zI c, zI i, zU] [] sh pp m Q := by
    intro d
    induction d with
    | zero =>
      intro i m c hi h1 h2 h3 c0 hf
      have hi : i = 8 := by omega
      subst hi
      have hn := bV_bd (g := m (a + 1)) 8 (fun k a b => h1 k a b)
      rw [hW.2, hW2.2, p240] at h3
      rw [p240] at hn
      have hc : c = 0 := by omega
      subst hc
      rw [rB_subtract_4]
      simp (disch := first | assumption | omega) only [rB_subtract_5, rB_subtract_7, rB_subtract_10, rB_subtract_11, rB_subtract_14, rB_subtract_15, rB_subtract_16, rB_subtract_17, rB_subtract_20, rB_subtract_21, rB_subtract_22, rB_subtract_23, rB_subtract_24, rB_subtract_25, rB_subtract_27, rB_subtract_29, rB_subtract_32, rB_subtract_33, rB_subtract_36, rB_subtract_37, rB_subtract_38, rB_subtract_39, rB_subtract_42, rB_subtract_43, rB_subtract_45, rB_subtract_47, rB_subtract_48, rB_subtract_49, rB_subtract_52, rB_subtract_55, rB_subtract_56, Bool.false_eq_true, true_implies, false_implies, implies_true, true_and, and_true, not_true_eq_false, not_false_eq_true, zPush_I, zPush_L, zPush_R, zPush_U, Int.reduceLT, Int.reduceLE, Int.reduceEq, Int.reduceNe, Int.reduceAdd, Int.reduceSub, Int.reduceMul, Int.reduceNeg, Int.reduceToNat, Nat.reduceAdd, Nat.reduceMul, Nat.reduceEqDiff, zw32_id, zw64_id, zupd_eq, zupd_na, zupd_ni, zupp_eq, zupp_na, zupp_ni, show ¬ ((8 : Nat) : Int) < 8 by omega]
      refine cTrim (v := v - w) hL' ⟨fun k a b => h1 k a b, ?_⟩ (fun m2 g2 f2 => ?_)
      · omega
      · simp (disch := first | assumption | omega) only [rB_subtract_59, Bool.false_eq_true, true_implies, false_implies, implies_true, true_and, and_true, not_true_eq_false, not_false_eq_true, zPush_I, zPush_L, zPush_R, zPush_U, Int.reduceLT, Int.reduceLE, Int.reduceEq, Int.reduceNe, Int.reduceAdd, Int.reduceSub, Int.reduceMul, Int.reduceNeg, Int.reduceToNat, Nat.reduceAdd, Nat.reduceMul, Nat.reduceEqDiff, zw32_id, zw64_id, zupd_eq, zupd_na, zupd_ni, zupp_eq, zupp_na, zupp_ni]
        exact hQ m2 g2 (frP_tr hf (frP_wd f2 (fun x j hj => Or.inr hj)))
    | succ d ih =>
      intro i m c hi h1 h2 h3 c0 hf
      have hl := hW.1 (i : Int) (by omega) (by omega)
      have hr := hW2.1 (i : Int) (by omega) (by omega)
      have hi2 := h2 (i : Int) (by omega)
      have hi3 : m (b + 1) (i : Int) = mm (b + 1) (i : Int) := hf _ _ (by unfold pB; omega)
      obtain ⟨l, hl'⟩ : ∃ l, mm (a + 1) (i : Int) = l := ⟨_, rfl⟩
      obtain ⟨r, hr'⟩ : ∃ r, mm (b + 1) (i : Int) = r := ⟨_, rfl⟩
      rw [hl'] at hl hi2
      rw [hr'] at hr hi3
      have hst := stSub (X := l - r - c) (w := r) rfl h3
      obtain ⟨X, hX⟩ : ∃ X, l - r - c = X := ⟨_, rfl⟩
      rw [hX] at hst
      have hXb : -1073741824 ≤ X ∧ X < 1073741824 := by omega
      have nx : ∀ c', c' = -(X / 1073741824) → zS 8 4 [zR a, zR b, zI c', zI ((i : Int) + 1), zU] [] sh pp (zupd m (a + 1) (i : Int) (X % 1073741824)) Q := by
        intro c' hc'
        have := ih (i + 1) (zupd m (a + 1) (i : Int) (X % 1073741824)) c' (by omega) (fun k k0 k1 => ?_) (fun k k0 => ?_) ?_ (by omega) (frP_up hf (Or.inl rfl))
        · push_cast at this
          exact this
        · by_cases e : k = (i : Int)
          · rw [e, zupd_eq]; omega
          · rw [zupd_ni e]; exact h1 k k0 (by push_cast at k1; omega)
        · rw [zupd_ni (by push_cast at k0; omega)]; exact h2 k (by push_cast at k0; omega)
        · rw [bV_s, bV_s, bV_s, zu_bV (by omega), zupd_eq, hl', hr', two30, hc']
          exact hst
      rw [rB_subtract_4]
      by_cases hneg : X < 0
      · simp (disch := first | assumption | omega) only [rB_subtract_5, rB_subtract_7, rB_subtract_10, rB_subtract_11, rB_subtract_14, rB_subtract_15, rB_subtract_16, rB_subtract_17, rB_subtract_20, rB_subtract_21, rB_subtract_22, rB_subtract_23, rB_subtract_24, rB_subtract_25, rB_subtract_27, rB_subtract_29, rB_subtract_32, rB_subtract_33, rB_subtract_36, rB_subtract_37, rB_subtract_38, rB_subtract_39, rB_subtract_42, rB_subtract_43, rB_subtract_45, rB_subtract_47, rB_subtract_48, rB_subtract_49, rB_subtract_52, Bool.false_eq_true, true_implies, false_implies, implies_true, true_and, and_true, not_true_eq_false, not_false_eq_true, zPush_I, zPush_L, zPush_R, zPush_U, Int.reduceLT, Int.reduceLE, Int.reduceEq, Int.reduceNe, Int.reduceAdd, Int.reduceSub, Int.reduceMul, Int.reduceNeg, Int.reduceToNat, Nat.reduceAdd, Nat.reduceMul, Nat.reduceEqDiff, zw32_id, zw64_id, zupd_eq, zupd_na, zupd_ni, zupp_eq, zupp_na, zupp_ni, show (i : Int) < 8 by omega, p1, p3, hi2, hi3, hX, zand30, hneg]
        exact nx 1 (by omega)
      · simp (disch := first | assumption | omega) only [rB_subtract_5, rB_subtract_7, rB_subtract_10, rB_subtract_11, rB_subtract_14, rB_subtract_15, rB_subtract_16, rB_subtract_17, rB_subtract_20, rB_subtract_21, rB_subtract_22, rB_subtract_23, rB_subtract_24, rB_subtract_25, rB_subtract_27, rB_subtract_29, rB_subtract_32, rB_subtract_33, rB_subtract_36, rB_subtract_37, rB_subtract_38, rB_subtract_39, rB_subtract_42, rB_subtract_43, rB_subtract_45, rB_subtract_47, rB_subtract_48, rB_subtract_49, rB_subtract_52, Bool.false_eq_true, true_implies, false_implies, implies_true, true_and, and_true, not_true_eq_false, not_false_eq_true, zPush_I, zPush_L, zPush_R, zPush_U, Int.reduceLT, Int.reduceLE, Int.reduceEq, Int.reduceNe, Int.reduceAdd, Int.reduceSub, Int.reduceMul, Int.reduceNeg, Int.reduceToNat, Nat.reduceAdd, Nat.reduceMul, Nat.reduceEqDiff, zw32_id, zw64_id, zupd_eq, zupd_na, zupd_ni, zupp_eq, zupp_na, zupp_ni, show (i : Int) < 8 by omega, p1, p3, hi2, hi3, hX, zand30, hneg]
        exact nx 0 (by omega)
  simp (disch := first | assumption | omega) only [rB_subtract_0, rB_subtract_1, rB_subtract_2, rB_subtract_3, Bool.false_eq_true, true_implies, false_implies, implies_true, true_and, and_true, not_true_eq_false, not_false_eq_true, zPush_I, zPush_L, zPush_R, zPush_U, Int.reduceLT, Int.reduceLE, Int.reduceEq, Int.reduceNe, Int.reduceAdd, Int.reduceSub, Int.reduceMul, Int.reduceNeg, Int.reduceToNat, Nat.reduceAdd, Nat.reduceMul, Nat.reduceEqDiff, zw32_id, zw64_id, zupd_eq, zupd_na, zupd_ni, zupp_eq, zupp_na, zupp_ni]
  exact key 8 0 mm 0 rfl (fun k a b => by omega) (fun k _ => rfl) (by simp [bV]) (Or.inl rfl) (frP_rf _ _)
theorem cHalve (hL : bgL sh pp a) (hW : bW a v mm) (hQ : ∀ m, bG a (v / 2) m → frP (pB a) mm m → Q zU sh pp m) : zS 9 0 [zR a, zU, zU] [] sh pp mm Q := by
  have hL' := hL
  obtain ⟨k0, k1, l1, p1⟩ := hL
  have key : ∀ (d i : Nat) (m : zMm), i + d = 8 → (∀ k, 0 ≤ k → k < (i : Int) → m (a + 1) k = mm (a + 1) k / 2 + ((if k = 7 then 0 else mm (a + 1) (k + 1)) % 2) * 536870912) → (∀ k, (i : Int) ≤ k → m (a + 1) k = mm (a + 1) k) → frP (pB a) mm m → zS 9 2 [zR a, zI i, zU] [] sh pp m Q := by
    intro d
    induction d with
    | zero =>
      intro i m hi h1 h2 hf
      have hi : i = 8 := by omega
      subst hi
      rw [rB_halve_2]
      simp (disch := first | assumption | omega) only [rB_halve_3, rB_halve_5, rB_halve_8, rB_halve_9, rB_halve_10, rB_halve_11, rB_halve_13, rB_halve_16, rB_halve_17, rB_halve_20, rB_halve_21, rB_halve_22, rB_halve_23, rB_halve_24, rB_halve_27, rB_halve_28, rB_halve_29, rB_halve_30, rB_halve_33, rB_halve_34, rB_halve_35, rB_halve_38, rB_halve_39, rB_halve_40, rB_halve_41, rB_halve_42, rB_halve_43, rB_halve_44, rB_halve_45, rB_halve_47, rB_halve_48, rB_halve_49, rB_halve_50, rB_halve_53, rB_halve_56, rB_halve_57, Bool.false_eq_true, true_implies, false_implies, implies_true, true_and, and_true, not_true_eq_false, not_false_eq_true, zPush_I, zPush_L, zPush_R, zPush_U, Int.reduceLT, Int.reduceLE, Int.reduceEq, Int.reduceNe, Int.reduceAdd, Int.reduceSub, Int.reduceMul, Int.reduceNeg, Int.reduceToNat, Nat.reduceAdd, Nat.reduceMul, Nat.reduceEqDiff, zw32_id, zw64_id, zupd_eq, zupd_na, zupd_ni, zupp_eq, zupp_na, zupp_ni, show ¬ ((8 : Nat) : Int) < 8 by omega]
      have hv := hvV (g := fun k => if k = 8 then 0 else mm (a + 1) k) (g' := m (a + 1)) 8 (fun j a b => by
        rw [h1 j a b]
        rw [if_neg (show ¬ j = 8 by omega)]
        by_cases e : j = 7
        · subst e; simp
        · rw [if_neg e, if_neg (show ¬ j + 1 = 8 by omega)])
      have e1 : bV (fun k => if k = 8 then 0 else mm (a + 1) k) 8 = (v : Int) := by
        rw [← hW.2]
        exact bV_ext 8 (fun k a b => by rw [if_neg (by omega)])
      have e2 := bV_par (g := mm (a + 1)) (n := 8) (by decide)
      rw [hW.2] at e2
      rw [e1] at hv
      have hv : 2 * bV (m (a + 1)) 8 + mm (a + 1) 0 % 2 = (v : Int) + 0 % 2 * 2 ^ (30 * 8) := hv
      rw [p240] at hv
      refine cTrim (v := v / 2) hL' ⟨fun k k0 k1 => ?_, ?_⟩ (fun m2 g2 f2 => ?_)
      · have q := hW.1 k k0 k1
        rw [h1 k k0 k1]
        omega
      · omega
      · simp (disch := first | assumption | omega) only [rB_halve_60, Bool.false_eq_true, true_implies, false_implies, implies_true, true_and, and_true, not_true_eq_false, not_false_eq_true, zPush_I, zPush_L, zPush_R, zPush_U, Int.reduceLT, Int.reduceLE, Int.reduceEq, Int.reduceNe, Int.reduceAdd, Int.reduceSub, Int.reduceMul, Int.reduceNeg, Int.reduceToNat, Nat.reduceAdd, Nat.reduceMul, Nat.reduceEqDiff, zw32_id, zw64_id, zupd_eq, zupd_na, zupd_ni, zupp_eq, zupp_na, zupp_ni]
        exact hQ m2 g2 (frP_tr hf (frP_wd f2 (fun x j hj => Or.inr hj)))
    | succ d ih =>
      intro i m hi h1 h2 hf
      have hl := hW.1 (i : Int) (by omega) (by omega)
      have hi2 := h2 (i : Int) (by omega)
      have hi3 := h2 ((i : Int) + 1) (by omega)
      have nx : ∀ z, z = mm (a + 1) (i : Int) / 2 + ((if (i : Int) = 7 then 0 else mm (a + 1) ((i : Int) + 1)) % 2) * 536870912 → zS 9 2 [zR a, zI ((i : Int) + 1), zU] [] sh pp (zupd m (a + 1) (i : Int) z) Q := by
        intro z hz
        have := ih (i + 1) (zupd m (a + 1) (i : Int) z) (by omega) (fun k k0 k1 => ?_) (fun k k0 => ?_) (frP_up hf (Or.inl rfl))
        · push_cast at this
          exact this
        · by_cases e : k = (i : Int)
          · rw [e, zupd_eq, hz]
          · rw [zupd_ni e]; exact h1 k k0 (by push_cast at k1; omega)
        · rw [zupd_ni (by push_cast at k0; omega)]; exact h2 k (by push_cast at k0; omega)
      rw [rB_halve_2]
      by_cases e7 : (i : Int) = 7
      · have h8 := hlv hl.1 hl.2 (show (0 : Int) % 2 = 0 ∨ (0 : Int) % 2 = 1 by decide)
        simp (disch := first | assumption | omega) only [rB_halve_3, rB_halve_5, rB_halve_8, rB_halve_9, rB_halve_10, rB_halve_11, rB_halve_13, rB_halve_16, rB_halve_17, rB_halve_20, rB_halve_21, rB_halve_22, rB_halve_23, rB_halve_24, rB_halve_27, rB_halve_28, rB_halve_29, rB_halve_30, rB_halve_33, rB_halve_34, rB_halve_35, rB_halve_38, rB_halve_39, rB_halve_40, rB_halve_41, rB_halve_42, rB_halve_43, rB_halve_44, rB_halve_45, rB_halve_47, rB_halve_48, rB_halve_49, rB_halve_50, rB_halve_53, Bool.false_eq_true, true_implies, false_implies, implies_true, true_and, and_true, not_true_eq_false, not_false_eq_true, zPush_I, zPush_L, zPush_R, zPush_U, Int.reduceLT, Int.reduceLE, Int.reduceEq, Int.reduceNe, Int.reduceAdd, Int.reduceSub, Int.reduceMul, Int.reduceNeg, Int.reduceToNat, Nat.reduceAdd, Nat.reduceMul, Nat.reduceEqDiff, zw32_id, zw64_id, zupd_eq, zupd_na, zupd_ni, zupp_eq, zupp_na, zupp_ni, show (i : Int) < 8 by omega, show ¬ (i : Int) + 1 < 8 by omega, p1, hi2, zand1, h8]
        exact nx _ (by rw [if_pos e7])
      · have hr := hW.1 ((i : Int) + 1) (by omega) (by omega)
        have h8 := hlv hl.1 hl.2 (show mm (a + 1) ((i : Int) + 1) % 2 = 0 ∨ mm (a + 1) ((i : Int) + 1) % 2 = 1 by omega)
        simp (disch := first | assumption | omega) only [rB_halve_3, rB_halve_5, rB_halve_8, rB_halve_9, rB_halve_10, rB_halve_11, rB_halve_13, rB_halve_16, rB_halve_17, rB_halve_20, rB_halve_21, rB_halve_22, rB_halve_23, rB_halve_24, rB_halve_27, rB_halve_28, rB_halve_29, rB_halve_30, rB_halve_33, rB_halve_34, rB_halve_35, rB_halve_38, rB_halve_39, rB_halve_40, rB_halve_41, rB_halve_42, rB_halve_43, rB_halve_44, rB_halve_45, rB_halve_47, rB_halve_48, rB_halve_49, rB_halve_50, rB_halve_53, Bool.false_eq_true, true_implies, false_implies, implies_true, true_and, and_true, not_true_eq_false, not_false_eq_true, zPush_I, zPush_L, zPush_R, zPush_U, Int.reduceLT, Int.reduceLE, Int.reduceEq, Int.reduceNe, Int.reduceAdd, Int.reduceSub, Int.reduceMul, Int.reduceNeg, Int.reduceToNat, Nat.reduceAdd, Nat.reduceMul, Nat.reduceEqDiff, zw32_id, zw64_id, zupd_eq, zupd_na, zupd_ni, zupp_eq, zupp_na, zupp_ni, show (i : Int) < 8 by omega, show (i : Int) + 1 < 8 by omega, p1, hi2, hi3, zand1, h8]
        exact nx _ (by rw [if_neg e7])
  simp (disch := first | assumption | omega) only [rB_halve_0, rB_halve_1, Bool.false_eq_true, true_implies, false_implies, implies_true, true_and, and_true, not_true_eq_false, not_false_eq_true, zPush_I, zPush_L, zPush_R, zPush_U, Int.reduceLT, Int.reduceLE, Int.reduceEq, Int.reduceNe, Int.reduceAdd, Int.reduceSub, Int.reduceMul, Int.reduceNeg, Int.reduceToNat, Nat.reduceAdd, Nat.reduceMul, Nat.reduceEqDiff, zw32_id, zw64_id, zupd_eq, zupd_na, zupd_ni, zupp_eq, zupp_na, zupp_ni]
  exact key 8 0 mm rfl (fun k a b => by omega) (fun k _ => rfl) (frP_rf _ _)
theorem kB_isEven (hL : bgL sh pp a) (hW : bW a v mm) : zS 3 0 [zR a] [] sh pp mm Q ↔ ((v % 2 = 0 → Q (zI 1) sh pp mm) ∧ (¬ v % 2 = 0 → Q (zI 0) sh pp mm)) := by
  obtain ⟨k0, k1, l1, p1⟩ := hL
  have e2 := bV_par (g := mm (a + 1)) (n := 8) (by decide)
  rw [hW.2] at e2
  by_cases h : v % 2 = 0
  · have : mm (a + 1) 0 % 2 = 0 := by omega
    simp (disch := first | assumption | omega) only [rB_isEven_0, rB_isEven_1, rB_isEven_4, rB_isEven_5, rB_isEven_6, rB_isEven_7, rB_isEven_8, rB_isEven_11, rB_isEven_12, rB_isEven_15, rB_isEven_16, Bool.false_eq_true, true_implies, false_implies, implies_true, true_and, and_true, not_true_eq_false, not_false_eq_true, zPush_I, zPush_L, zPush_R, zPush_U, Int.reduceLT, Int.reduceLE, Int.reduceEq, Int.reduceNe, Int.reduceAdd, Int.reduceSub, Int.reduceMul, Int.reduceNeg, Int.reduceToNat, Nat.reduceAdd, Nat.reduceMul, Nat.reduceEqDiff, zw32_id, zw64_id, zupd_eq, zupd_na, zupd_ni, zupp_eq, zupp_na, zupp_ni, p1, zand1, this, h]
  · have : ¬ mm (a + 1) 0 % 2 = 0 := by omega
    simp (disch := first | assumption | omega) only [rB_isEven_0, rB_isEven_1, rB_isEven_4, rB_isEven_5, rB_isEven_6, rB_isEven_7, rB_isEven_8, rB_isEven_11, rB_isEven_12, rB_isEven_15, rB_isEven_16, Bool.false_eq_true, true_implies, false_implies, implies_true, true_and, and_true, not_true_eq_false, not_false_eq_true, zPush_I, zPush_L, zPush_R, zPush_U, Int.reduceLT, Int.reduceLE, Int.reduceEq, Int.reduceNe, Int.reduceAdd, Int.reduceSub, Int.reduceMul, Int.reduceNeg, Int.reduceToNat, Nat.reduceAdd, Nat.reduceMul, Nat.reduceEqDiff, zw32_id, zw64_id, zupd_eq, zupd_na, zupd_ni, zupp_eq, zupp_na, zupp_ni, p1, zand1, this, h]
theorem kB_isOne (hL : bgL sh pp a) (hW : bG a v mm) : zS 4 0 [zR a] [] sh pp mm Q ↔ ((v = 1 → Q (zI 1) sh pp mm) ∧ (¬ v = 1 → Q (zI 0) sh pp mm)) := by
  obtain ⟨k0, k1, l1, p1⟩ := hL
  obtain ⟨⟨hl, hv⟩, hs⟩ := hW
  have e0 : bV (mm (a + 1)) 8 / 2 ^ (30 * 0) % 1073741824 = mm (a + 1) ((0 : Nat) : Int) := bV_limb (g := mm (a + 1)) 8 (fun k a b => hl k a (by omega)) 0 (by decide)
  have e1 : mm (a + 1) 0 = (v : Int) % 1073741824 := by
    rw [hv] at e0
    simp at e0
    exact e0.symm
  by_cases h1 : nlim v = 1
  · have hlt : v < 1073741824 := by
      by_cases hc : v < 2 ^ (30 * 1)
      · exact hc
      · exfalso
        unfold nlim at h1
        by_cases hv0 : v = 0
        · subst hv0; simp at h1
        · rw [if_neg hv0] at h1
          have h3 : 30 * 1 ≤ v.log2 := (Nat.le_log2 hv0).mpr (by omega)
          omega
    by_cases h : v = 1
    · have e2 : mm (a + 1) 0 = 1 := by omega
      simp (disch := first | assumption | omega) only [rB_isOne_0, rB_isOne_1, rB_isOne_4, rB_isOne_5, rB_isOne_8, rB_isOne_9, rB_isOne_12, rB_isOne_13, rB_isOne_14, rB_isOne_15, rB_isOne_18, rB_isOne_19, rB_isOne_22, rB_isOne_23, Bool.false_eq_true, true_implies, false_implies, implies_true, true_and, and_true, not_true_eq_false, not_false_eq_true, zPush_I, zPush_L, zPush_R, zPush_U, Int.reduceLT, Int.reduceLE, Int.reduceEq, Int.reduceNe, Int.reduceAdd, Int.reduceSub, Int.reduceMul, Int.reduceNeg, Int.reduceToNat, Nat.reduceAdd, Nat.reduceMul, Nat.reduceEqDiff, zw32_id, zw64_id, zupd_eq, zupd_na, zupd_ni, zupp_eq, zupp_na, zupp_ni, p1, hs, h1, e2, eq_true h]
    · have e2 : ¬ mm (a + 1) 0 = 1 := by omega
      simp (disch := first | assumption | omega) only [rB_isOne_0, rB_isOne_1, rB_isOne_4, rB_isOne_5, rB_isOne_8, rB_isOne_9, rB_isOne_12, rB_isOne_13, rB_isOne_14, rB_isOne_15, rB_isOne_18, rB_isOne_19, rB_isOne_22, rB_isOne_23, Bool.false_eq_true, true_implies, false_implies, implies_true, true_and, and_true, not_true_eq_false, not_false_eq_true, zPush_I, zPush_L, zPush_R, zPush_U, Int.reduceLT, Int.reduceLE, Int.reduceEq, Int.reduceNe, Int.reduceAdd, Int.reduceSub, Int.reduceMul, Int.reduceNeg, Int.reduceToNat, Nat.reduceAdd, Nat.reduceMul, Nat.reduceEqDiff, zw32_id, zw64_id, zupd_eq, zupd_na, zupd_ni, zupp_eq, zupp_na, zupp_ni, p1, hs, h1, e2, h]
  · have h : ¬ v = 1 := by
      intro h
      subst h
      exact h1 (by decide)
    simp (disch := first | assumption | omega) only [rB_isOne_0, rB_isOne_1, rB_isOne_4, rB_isOne_5, rB_isOne_8, rB_isOne_9, rB_isOne_12, rB_isOne_13, rB_isOne_14, rB_isOne_15, rB_isOne_18, rB_isOne_19, rB_isOne_22, rB_isOne_23, Bool.false_eq_true, true_implies, false_implies, implies_true, true_and, and_true, not_true_eq_false, not_false_eq_true, zPush_I, zPush_L, zPush_R, zPush_U, Int.reduceLT, Int.reduceLE, Int.reduceEq, Int.reduceNe, Int.reduceAdd, Int.reduceSub, Int.reduceMul, Int.reduceNeg, Int.reduceToNat, Nat.reduceAdd, Nat.reduceMul, Nat.reduceEqDiff, zw32_id, zw64_id, zupd_eq, zupd_na, zupd_ni, zupp_eq, zupp_na, zupp_ni, p1, hs, h1, h]
theorem cHalveUO (hL : bgL sh pp a) : ∀ (n : Nat) (v : Nat) (m : zMm), n ≤ 240 → bG a v m → frP (pB a) mm m → (∀ m', bG a (hu n v) m' → frP (pB a) mm m' → Q zU sh pp m') → zS 10 2 [zR a, zI (240 - (n : Int))] [] sh pp m Q := by
  have hL' := hL
  obtain ⟨k0, k1, l1, p1⟩ := hL
  intro n
  induction n with
  | zero =>
    intro v m hn hG hf hQ
    rw [rB_halveUntilOdd_2]
    simp (disch := first | assumption | omega) only [rB_halveUntilOdd_3, rB_halveUntilOdd_6, rB_halveUntilOdd_9, rB_halveUntilOdd_10, rB_halveUntilOdd_13, rB_halveUntilOdd_16, rB_halveUntilOdd_17, rB_halveUntilOdd_20, rB_halveUntilOdd_23, rB_halveUntilOdd_24, rB_halveUntilOdd_27, rB_halveUntilOdd_30, rB_halveUntilOdd_33, Bool.false_eq_true, true_implies, false_implies, implies_true, true_and, and_true, not_true_eq_false, not_false_eq_true, zPush_I, zPush_L, zPush_R, zPush_U, Int.reduceLT, Int.reduceLE, Int.reduceEq, Int.reduceNe, Int.reduceAdd, Int.reduceSub, Int.reduceMul, Int.reduceNeg, Int.reduceToNat, Nat.reduceAdd, Nat.reduceMul, Nat.reduceEqDiff, zw32_id, zw64_id, zupd_eq, zupd_na, zupd_ni, zupp_eq, zupp_na, zupp_ni, show ¬ (240 - ((0 : Nat) : Int)) < 240 by omega]
    exact hQ m hG hf
  | succ n ih =>
    intro v m hn hG hf hQ
    have hlt : (240 - ((n + 1 : Nat) : Int)) < 240 := by omega
    rw [rB_halveUntilOdd_2]
    by_cases h0 : v = 0
    · have e : hu (n + 1) v = v := by show (if _ then _ else _) = _; rw [if_neg (fun h => h.1 h0)]
      rw [e] at hQ
      have hs : ¬ (0 : Int) < nlim v := by rw [(nlim_0 v).mpr h0]; decide
      simp (disch := first | assumption | omega) only [rB_halveUntilOdd_3, rB_halveUntilOdd_6, rB_halveUntilOdd_9, rB_halveUntilOdd_10, rB_halveUntilOdd_13, rB_halveUntilOdd_16, rB_halveUntilOdd_17, rB_halveUntilOdd_20, rB_halveUntilOdd_23, rB_halveUntilOdd_24, rB_halveUntilOdd_27, rB_halveUntilOdd_30, rB_halveUntilOdd_33, Bool.false_eq_true, true_implies, false_implies, implies_true, true_and, and_true, not_true_eq_false, not_false_eq_true, zPush_I, zPush_L, zPush_R, zPush_U, Int.reduceLT, Int.reduceLE, Int.reduceEq, Int.reduceNe, Int.reduceAdd, Int.reduceSub, Int.reduceMul, Int.reduceNeg, Int.reduceToNat, Nat.reduceAdd, Nat.reduceMul, Nat.reduceEqDiff, zw32_id, zw64_id, zupd_eq, zupd_na, zupd_ni, zupp_eq, zupp_na, zupp_ni, hlt, hG.2, hs]
      exact hQ m hG hf
    · have hs : (0 : Int) < nlim v := by have := nlim_nn v; have := nlim_0 v; omega
      by_cases h2 : v % 2 = 0
      · have e : hu (n + 1) v = hu n (v / 2) := by show (if _ then _ else _) = _; rw [if_pos ⟨h0, h2⟩]
        rw [e] at hQ
        simp (disch := first | assumption | omega) only [rB_halveUntilOdd_3, rB_halveUntilOdd_6, rB_halveUntilOdd_9, rB_halveUntilOdd_10, rB_halveUntilOdd_13, rB_halveUntilOdd_16, rB_halveUntilOdd_17, rB_halveUntilOdd_20, rB_halveUntilOdd_23, rB_halveUntilOdd_24, kB_isEven hL' hG.1, Bool.false_eq_true, true_implies, false_implies, implies_true, true_and, and_true, not_true_eq_false, not_false_eq_true, zPush_I, zPush_L, zPush_R, zPush_U, Int.reduceLT, Int.reduceLE, Int.reduceEq, Int.reduceNe, Int.reduceAdd, Int.reduceSub, Int.reduceMul, Int.reduceNeg, Int.reduceToNat, Nat.reduceAdd, Nat.reduceMul, Nat.reduceEqDiff, zw32_id, zw64_id, zupd_eq, zupd_na, zupd_ni, zupp_eq, zupp_na, zupp_ni, hlt, hG.2, hs, h2]
        refine cHalve hL' hG.1 (fun m2 g2 f2 => ?_)
        simp (disch := first | assumption | omega) only [rB_halveUntilOdd_27, rB_halveUntilOdd_30, Bool.false_eq_true, true_implies, false_implies, implies_true, true_and, and_true, not_true_eq_false, not_false_eq_true, zPush_I, zPush_L, zPush_R, zPush_U, Int.reduceLT, Int.reduceLE, Int.reduceEq, Int.reduceNe, Int.reduceAdd, Int.reduceSub, Int.reduceMul, Int.reduceNeg, Int.reduceToNat, Nat.reduceAdd, Nat.reduceMul, Nat.reduceEqDiff, zw32_id, zw64_id, zupd_eq, zupd_na, zupd_ni, zupp_eq, zupp_na, zupp_ni]
        have := ih (v / 2) m2 (by omega) g2 (frP_tr hf f2) hQ
        rw [show 240 - ((n + 1 : Nat) : Int) + 1 = 240 - (n : Int) by push_cast; omega]
        exact this
      · have e : hu (n + 1) v = v := by show (if _ then _ else _) = _; rw [if_neg (fun h => h2 h.2)]
        rw [e] at hQ
        simp (disch := first | assumption | omega) only [rB_halveUntilOdd_3, rB_halveUntilOdd_6, rB_halveUntilOdd_9, rB_halveUntilOdd_10, rB_halveUntilOdd_13, rB_halveUntilOdd_16, rB_halveUntilOdd_17, rB_halveUntilOdd_20, rB_halveUntilOdd_23, rB_halveUntilOdd_24, rB_halveUntilOdd_27, rB_halveUntilOdd_30, rB_halveUntilOdd_33, kB_isEven hL' hG.1, Bool.false_eq_true, true_implies, false_implies, implies_true, true_and, and_true, not_true_eq_false, not_false_eq_true, zPush_I, zPush_L, zPush_R, zPush_U, Int.reduceLT, Int.reduceLE, Int.reduceEq, Int.reduceNe, Int.reduceAdd, Int.reduceSub, Int.reduceMul, Int.reduceNeg, Int.reduceToNat, Nat.reduceAdd, Nat.reduceMul, Nat.reduceEqDiff, zw32_id, zw64_id, zupd_eq, zupd_na, zupd_ni, zupp_eq, zupp_na, zupp_ni, hlt, hG.2, hs, h2]
        exact hQ m hG hf
theorem cHalveUntilOdd (hL : bgL sh pp a) (hG : bG a v mm) (hQ : ∀ m, bG a (hu 240 v) m → frP (pB a) mm m → Q zU sh pp m) : zS 10 0 [zR a, zU] [] sh pp mm Q := by
  simp (disch := first | assumption | omega) only [rB_halveUntilOdd_0, rB_halveUntilOdd_1, Bool.false_eq_true, true_implies, false_implies, implies_true, true_and, and_true, not_true_eq_false, not_false_eq_true, zPush_I, zPush_L, zPush_R, zPush_U, Int.reduceLT, Int.reduceLE, Int.reduceEq, Int.reduceNe, Int.reduceAdd, Int.reduceSub, Int.reduceMul, Int.reduceNeg, Int.reduceToNat, Nat.reduceAdd, Nat.reduceMul, Nat.reduceEqDiff, zw32_id, zw64_id, zupd_eq, zupd_na, zupd_ni, zupp_eq, zupp_na, zupp_ni]
  have := cHalveUO (Q := Q) (mm := mm) hL 240 v mm (Nat.le_refl _) hG (frP_rf _ _) hQ
  simpa using this
theorem cAgainst (hL : bgL sh pp a) (hM : bgL sh pp b) (hW : bW a v mm) (hW2 : bW b w mm) (h1 : v < w → Q (zI (-1)) sh pp mm) (h2 : v = w → Q (zI 0) sh pp mm) (h3 : w < v → Q (zI 1) sh pp mm) : zS 11 0 [zR a, zR b, zU] [] sh pp mm Q := by
  obtain ⟨k0, k1, l1, p1⟩ := hL
  obtain ⟨k2, k3, l3, p3⟩ := hM
  have key : ∀ n : Nat, n ≤ 8 → (∀ k, (n : Int) ≤ k → k < 8 → mm (a + 1) k = mm (b + 1) k) → zS 11 3 [zR a, zR b, zI ((n : Int) - 1)] [] sh pp mm Q := by
    intro n
    induction n with
    | zero =>
      intro _ he
      rw [rB_against_3]
      simp (disch := first | assumption | omega) only [rB_against_4, rB_against_7, rB_against_8, rB_against_11, rB_against_12, rB_against_13, rB_against_14, rB_against_17, rB_against_18, rB_against_19, rB_against_22, rB_against_23, rB_against_26, rB_against_27, rB_against_28, rB_against_29, rB_against_32, rB_against_33, rB_against_34, rB_against_37, rB_against_38, rB_against_41, rB_against_42, rB_against_43, rB_against_46, rB_against_49, rB_against_50, Bool.false_eq_true, true_implies, false_implies, implies_true, true_and, and_true, not_true_eq_false, not_false_eq_true, zPush_I, zPush_L, zPush_R, zPush_U, Int.reduceLT, Int.reduceLE, Int.reduceEq, Int.reduceNe, Int.reduceAdd, Int.reduceSub, Int.reduceMul, Int.reduceNeg, Int.reduceToNat, Nat.reduceAdd, Nat.reduceMul, Nat.reduceEqDiff, zw32_id, zw64_id, zupd_eq, zupd_na, zupd_ni, zupp_eq, zupp_na, zupp_ni, show ((0 : Nat) : Int) - 1 < 0 by omega]
      refine h2 ?_
      have := bV_ext (g := mm (a + 1)) (g' := mm (b + 1)) 8 (fun k a b => he k a b)
      rw [hW.2, hW2.2] at this
      omega
    | succ n ih =>
      intro hn he
      have e1 : ((n + 1 : Nat) : Int) - 1 = (n : Int) := by push_cast; omega
      rw [e1, rB_against_3]
      by_cases h : mm (a + 1) (n : Int) = mm (b + 1) (n : Int)
      · simp (disch := first | assumption | omega) only [rB_against_4, rB_against_7, rB_against_8, rB_against_11, rB_against_12, rB_against_13, rB_against_14, rB_against_17, rB_against_18, rB_against_19, rB_against_22, rB_against_23, rB_against_26, rB_against_27, rB_against_28, rB_against_29, rB_against_32, rB_against_33, rB_against_34, rB_against_37, rB_against_38, rB_against_41, rB_against_42, rB_against_43, rB_against_46, Bool.false_eq_true, true_implies, false_implies, implies_true, true_and, and_true, not_true_eq_false, not_false_eq_true, zPush_I, zPush_L, zPush_R, zPush_U, Int.reduceLT, Int.reduceLE, Int.reduceEq, Int.reduceNe, Int.reduceAdd, Int.reduceSub, Int.reduceMul, Int.reduceNeg, Int.reduceToNat, Nat.reduceAdd, Nat.reduceMul, Nat.reduceEqDiff, zw32_id, zw64_id, zupd_eq, zupd_na, zupd_ni, zupp_eq, zupp_na, zupp_ni, show ¬ (n : Int) < 0 by omega, p1, p3, h]
        exact ih (by omega) (fun k a b => by
          by_cases e : k = (n : Int)
          · rw [e]; exact h
          · exact he k (by push_cast; omega) b)
      · by_cases hl : mm (a + 1) (n : Int) < mm (b + 1) (n : Int)
        · simp (disch := first | assumption | omega) only [rB_against_4, rB_against_7, rB_against_8, rB_against_11, rB_against_12, rB_against_13, rB_against_14, rB_against_17, rB_against_18, rB_against_19, rB_against_22, rB_against_23, rB_against_26, rB_against_27, rB_against_28, rB_against_29, rB_against_32, rB_against_33, rB_against_34, rB_against_37, rB_against_38, rB_against_41, rB_against_42, Bool.false_eq_true, true_implies, false_implies, implies_true, true_and, and_true, not_true_eq_false, not_false_eq_true, zPush_I, zPush_L, zPush_R, zPush_U, Int.reduceLT, Int.reduceLE, Int.reduceEq, Int.reduceNe, Int.reduceAdd, Int.reduceSub, Int.reduceMul, Int.reduceNeg, Int.reduceToNat, Nat.reduceAdd, Nat.reduceMul, Nat.reduceEqDiff, zw32_id, zw64_id, zupd_eq, zupd_na, zupd_ni, zupp_eq, zupp_na, zupp_ni, show ¬ (n : Int) < 0 by omega, p1, p3, h, hl]
          have := bV_cmp (g := mm (a + 1)) (h := mm (b + 1)) 8 (fun k a b => hW.1 k a b) (fun k a b => hW2.1 k a b) (n : Int) (by omega) (by omega) (fun k a b => he k (by push_cast; omega) b) hl
          rw [hW.2, hW2.2] at this
          exact h1 (by omega)
        · simp (disch := first | assumption | omega) only [rB_against_4, rB_against_7, rB_against_8, rB_against_11, rB_against_12, rB_against_13, rB_against_14, rB_against_17, rB_against_18, rB_against_19, rB_against_22, rB_against_23, rB_against_26, rB_against_27, rB_against_28, rB_against_29, rB_against_32, rB_against_33, rB_against_34, rB_against_37, rB_against_38, rB_against_41, rB_against_42, Bool.false_eq_true, true_implies, false_implies, implies_true, true_and, and_true, not_true_eq_false, not_false_eq_true, zPush_I, zPush_L, zPush_R, zPush_U, Int.reduceLT, Int.reduceLE, Int.reduceEq, Int.reduceNe, Int.reduceAdd, Int.reduceSub, Int.reduceMul, Int.reduceNeg, Int.reduceToNat, Nat.reduceAdd, Nat.reduceMul, Nat.reduceEqDiff, zw32_id, zw64_id, zupd_eq, zupd_na, zupd_ni, zupp_eq, zupp_na, zupp_ni, show ¬ (n : Int) < 0 by omega, p1, p3, h, hl]
          have := bV_cmp (g := mm (b + 1)) (h := mm (a + 1)) 8 (fun k a b => hW2.1 k a b) (fun k a b => hW.1 k a b) (n : Int) (by omega) (by omega) (fun k a b => (he k (by push_cast; omega) b).symm) (by omega)
          rw [hW.2, hW2.2] at this
          exact h3 (by omega)
  simp (disch := first | assumption | omega) only [rB_against_0, rB_against_2, Bool.false_eq_true, true_implies, false_implies, implies_true, true_and, and_true, not_true_eq_false, not_false_eq_true, zPush_I, zPush_L, zPush_R, zPush_U, Int.reduceLT, Int.reduceLE, Int.reduceEq, Int.reduceNe, Int.reduceAdd, Int.reduceSub, Int.reduceMul, Int.reduceNeg, Int.reduceToNat, Nat.reduceAdd, Nat.reduceMul, Nat.reduceEqDiff, zw32_id, zw64_id, zupd_eq, zupd_na, zupd_ni, zupp_eq, zupp_na, zupp_ni]
  exact key 8 (by omega) (fun k a b => by omega)
theorem cBecome (hL : bgL sh pp a) {t : Nat} (t1 : t < 1073741824) (hQ : ∀ m, bG a t m → frP (pB a) mm m → Q zU sh pp m) : zS 1 0 [zR a, zI t] [] sh pp mm Q := by
  obtain ⟨k0, k1, l1, p1⟩ := hL
  simp (disch := first | assumption | omega) only [rB_become_0, rB_become_1, rB_become_4, rB_become_5, Bool.false_eq_true, true_implies, false_implies, implies_true, true_and, and_true, not_true_eq_false, not_false_eq_true, zPush_I, zPush_L, zPush_R, zPush_U, Int.reduceLT, Int.reduceLE, Int.reduceEq, Int.reduceNe, Int.reduceAdd, Int.reduceSub, Int.reduceMul, Int.reduceNeg, Int.reduceToNat, Nat.reduceAdd, Nat.reduceMul, Nat.reduceEqDiff, zw32_id, zw64_id, zupd_eq, zupd_na, zupd_ni, zupp_eq, zupp_na, zupp_ni, p1]
  refine cFill k1 l1 (by decide) (by decide) (fun m r f => ?_)
  have hw : ∀ z, bW a t (zupd (zupd m (a + 1) 0 (t : Int)) a 1 z) := by
    intro z
    refine bW_fr (m := zupd m (a + 1) 0 (t : Int)) ⟨fun k k0 k1 => ?_, ?_⟩ (fun j => zupd_na (by omega))
    · by_cases e : k = 0
      · rw [e, zupd_eq]; omega
      · rw [zupd_ni e, r k k0 k1]; decide
    · have e := bV_z (g := zupd m (a + 1) 0 (t : Int) (a + 1)) 8 1 (by omega) (fun k k0 k1 => by rw [zupd_ni (by push_cast at k0; omega)]; exact r k (by push_cast at k0; omega) (by push_cast at k1; omega))
      rw [e]
      show 0 + zupd m (a + 1) 0 (t : Int) (a + 1) ((0 : Nat) : Int) * 2 ^ (30 * 0) = (t : Int)
      simp [zupd]
  have fz : ∀ z, frP (pB a) mm (zupd (zupd m (a + 1) 0 (t : Int)) a 1 z) := fun z => frP_up (frP_up (frP_wd f (fun x j hj => Or.inl hj)) (Or.inl rfl)) (Or.inr ⟨rfl, rfl⟩)
  have e3 : ((t : Int)) % 1073741824 = t := by omega
  by_cases h0 : (t : Int) = 0
  · simp (disch := first | assumption | omega) only [rB_become_8, rB_become_9, rB_become_12, rB_become_13, rB_become_14, rB_become_16, rB_become_17, rB_become_18, rB_become_19, rB_become_20, rB_become_23, rB_become_24, rB_become_27, rB_become_28, rB_become_31, Bool.false_eq_true, true_implies, false_implies, implies_true, true_and, and_true, not_true_eq_false, not_false_eq_true, zPush_I, zPush_L, zPush_R, zPush_U, Int.reduceLT, Int.reduceLE, Int.reduceEq, Int.reduceNe, Int.reduceAdd, Int.reduceSub, Int.reduceMul, Int.reduceNeg, Int.reduceToNat, Nat.reduceAdd, Nat.reduceMul, Nat.reduceEqDiff, zw32_id, zw64_id, zupd_eq, zupd_na, zupd_ni, zupp_eq, zupp_na, zupp_ni, p1, zand30, e3, eq_true h0]
    exact hQ _ ⟨hw 0, by rw [zupd_eq, (nlim_0 t).mpr (by omega)]⟩ (fz 0)
  · simp (disch := first | assumption | omega) only [rB_become_8, rB_become_9, rB_become_12, rB_become_13, rB_become_14, rB_become_16, rB_become_17, rB_become_18, rB_become_19, rB_become_20, rB_become_23, rB_become_24, rB_become_27, rB_become_28, rB_become_31, Bool.false_eq_true, true_implies, false_implies, implies_true, true_and, and_true, not_true_eq_false, not_false_eq_true, zPush_I, zPush_L, zPush_R, zPush_U, Int.reduceLT, Int.reduceLE, Int.reduceEq, Int.reduceNe, Int.reduceAdd, Int.reduceSub, Int.reduceMul, Int.reduceNeg, Int.reduceToNat, Nat.reduceAdd, Nat.reduceMul, Nat.reduceEqDiff, zw32_id, zw64_id, zupd_eq, zupd_na, zupd_ni, zupp_eq, zupp_na, zupp_ni, p1, zand30, e3, h0]
    refine hQ _ ⟨hw 1, ?_⟩ (fz 1)
    rw [zupd_eq]
    have h1 := nlim_le (v := t) (k := 1) (by omega)
    have h2 := nlim_nn t
    have h3 := nlim_0 t
    omega
theorem cTakeB (hL : bgL sh pp a) (hM : bgL sh pp b) (hab : a + 1 < b ∨ b + 1 < a) (hG : bG b w mm) (hQ : ∀ m, bG a w m → frP (pB a) mm m → Q zU sh pp m) : zS 2 0 [zR a, zR b] [] sh pp mm Q := by
  obtain ⟨k0, k1, l1, p1⟩ := hL
  obtain ⟨k2, k3, l3, p3⟩ := hM
  have e1 : zcpy mm (b + 1) 0 (a + 1) 0 8 b 1 = mm b 1 := zcpy_na (by omega)
  simp (disch := first | assumption | omega) only [rB_take_0, rB_take_1, rB_take_4, rB_take_5, rB_take_6, rB_take_9, rB_take_10, rB_take_12, rB_take_15, rB_take_16, rB_take_17, rB_take_20, rB_take_23, Bool.false_eq_true, true_implies, false_implies, implies_true, true_and, and_true, not_true_eq_false, not_false_eq_true, zPush_I, zPush_L, zPush_R, zPush_U, Int.reduceLT, Int.reduceLE, Int.reduceEq, Int.reduceNe, Int.reduceAdd, Int.reduceSub, Int.reduceMul, Int.reduceNeg, Int.reduceToNat, Nat.reduceAdd, Nat.reduceMul, Nat.reduceEqDiff, zw32_id, zw64_id, zupd_eq, zupd_na, zupd_ni, zupp_eq, zupp_na, zupp_ni, p1, p3, e1, hG.2]
  have hr : ∀ j, 0 ≤ j → j < 8 → zupd (zcpy mm (b + 1) 0 (a + 1) 0 8) a 1 (nlim w) (a + 1) j = mm (b + 1) j := fun j j0 j1 => by
    rw [zupd_na (by omega), zcpy_in j0 (by omega)]
    congr 1
    omega
  refine hQ _ ⟨⟨fun k k0 k1 => by rw [hr k k0 k1]; exact hG.1.1 k k0 k1, ?_⟩, zupd_eq _ _ _ _⟩ (fun x j hx => ?_)
  · rw [← hG.1.2]
    exact bV_ext 8 (fun k a b => hr k a b)
  · unfold pB at hx
    rw [← zcpy_na (mm := mm) (s := b + 1) (sp := 0) (d := a + 1) (dp := 0) (n := 8) (show x ≠ a + 1 by omega)]
    unfold zupd
    rw [if_neg (by omega)]
end
