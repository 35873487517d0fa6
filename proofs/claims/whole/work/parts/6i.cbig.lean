/-! ===== the class's whole numbers ===== -/
def bgL (sh : zSh) (pp : zPp) (a : Nat) : Prop := zKd sh a = 0 ∧ zKd sh (a + 1) = 20 ∧ zLn sh (a + 1) = 8 ∧ pp a 0 = a + 1
def lmb (m : zMm) (c : Nat) : Prop := ∀ k, 0 ≤ k → k < 8 → 0 ≤ m c k ∧ m c k < 1073741824
def bW (a v : Nat) (m : zMm) : Prop := lmb m (a + 1) ∧ bV (m (a + 1)) 8 = (v : Int)
def bG (a v : Nat) (m : zMm) : Prop := bW a v m ∧ m a 1 = nlim v
def pB (a : Nat) (x : Nat) (j : Int) : Prop := x = a + 1 ∨ (x = a ∧ j = 1)
theorem p240 : (2 : Int) ^ (30 * 8) = 1766847064778384329583297500742918515827483896875618958121606201292619776 := by decide
theorem bW_fr {a v : Nat} {m m' : zMm} (h : bW a v m) (hf : ∀ j, m' (a + 1) j = m (a + 1) j) : bW a v m' := by
  have e : m' (a + 1) = m (a + 1) := funext hf
  unfold bW lmb at *
  rw [e]
  exact h
theorem bG_fr {a v : Nat} {m m' : zMm} {R : Nat → Int → Prop} (h : bG a v m) (hf : frP R m m') (h1 : ∀ j, ¬ R (a + 1) j) (h2 : ¬ R a 1) : bG a v m' := ⟨bW_fr h.1 (fun j => hf _ _ (h1 j)), by rw [hf _ _ h2]; exact h.2⟩
theorem zu_row (m : zMm) (c : Nat) (i v : Int) : zupd m c i v c = fup (m c) i v := by
  funext j
  unfold zupd fup
  simp
theorem zu_bV {m : zMm} {c : Nat} {i v : Int} {n : Nat} (h : (n : Int) ≤ i) : bV (zupd m c i v c) n = bV (m c) n := by rw [zu_row]; exact bV_up n h
theorem zlshr30 {x : Int} (h0 : -9223372036854775808 ≤ x) (h1 : x ≤ 9223372036854775807) : zlshr x 30 = x / 1073741824 := by
  have := zlshrD (k := 30) h0 h1 (by decide)
  simpa using this
theorem bW_lt {a v : Nat} {m : zMm} (h : bW a v m) : (v : Int) < 1766847064778384329583297500742918515827483896875618958121606201292619776 := by
  have := (bV_bd (g := m (a + 1)) 8 (fun k a b => h.1 k a (by omega))).2
  rw [h.2, p240] at this
  exact this
section
variable {sh : zSh} {pp : zPp} {mm : zMm} {Q : zV → zSh → zPp → zMm → Prop} {a b v w : Nat}
theorem cTrim (hL : bgL sh pp a) (hW : bW a v mm) (hQ : ∀ m, bG a v m → frP (fun x j => x = a ∧ j = 1) mm m → Q zU sh pp m) : zS 5 0 [zR a] [] sh pp mm Q := by
  obtain ⟨k0, k1, l1, p1⟩ := hL
  have key : ∀ n : Nat, n ≤ 8 → (∀ k, (n : Int) ≤ k → k < 8 → mm (a + 1) k = 0) → zS 5 6 [zR a] [] sh pp (zupd mm a 1 (n : Int)) Q := by
    intro n
    induction n with
    | zero =>
      intro _ hz
      rw [rB_trim_6]
      simp (disch := first | assumption | omega) only [rB_trim_7, rB_trim_10, rB_trim_13, rB_trim_14, rB_trim_17, rB_trim_18, rB_trim_21, rB_trim_22, rB_trim_23, rB_trim_24, rB_trim_27, rB_trim_28, rB_trim_29, rB_trim_32, rB_trim_33, rB_trim_34, rB_trim_37, rB_trim_40, Bool.false_eq_true, true_implies, false_implies, implies_true, true_and, and_true, not_true_eq_false, not_false_eq_true, zPush_I, zPush_L, zPush_R, zPush_U, Int.reduceLT, Int.reduceLE, Int.reduceEq, Int.reduceNe, Int.reduceAdd, Int.reduceSub, Int.reduceMul, Int.reduceNeg, Int.reduceToNat, Nat.reduceAdd, Nat.reduceMul, Nat.reduceEqDiff, zw32_id, zw64_id, zupd_eq, zupd_na, zupd_ni, zupp_eq, zupp_na, zupp_ni, show ¬ (0 : Int) < ((0 : Nat) : Int) by omega]
      refine hQ _ ⟨bW_fr hW (fun j => zupd_na (by omega)), ?_⟩ (frP_up (frP_rf _ _) ⟨rfl, rfl⟩)
      rw [zupd_eq]
      have e := bV_z (g := mm (a + 1)) 8 0 (by omega) (fun k a b => hz k a (by omega))
      rw [hW.2] at e
      have e2 : (v : Int) = 0 := e
      rw [(nlim_0 v).mpr (by omega)]
      rfl
    | succ n ih =>
      intro hn hz
      have hr := hW.1 (n : Int) (by omega) (by omega)
      rw [rB_trim_6]
      have e1 : ((n + 1 : Nat) : Int) - 1 = (n : Int) := by push_cast; omega
      by_cases h0 : mm (a + 1) (n : Int) = 0
      · simp (disch := first | assumption | omega) only [rB_trim_7, rB_trim_10, rB_trim_13, rB_trim_14, rB_trim_17, rB_trim_18, rB_trim_21, rB_trim_22, rB_trim_23, rB_trim_24, rB_trim_27, rB_trim_28, rB_trim_29, rB_trim_32, rB_trim_33, rB_trim_34, rB_trim_37, Bool.false_eq_true, true_implies, false_implies, implies_true, true_and, and_true, not_true_eq_false, not_false_eq_true, zPush_I, zPush_L, zPush_R, zPush_U, Int.reduceLT, Int.reduceLE, Int.reduceEq, Int.reduceNe, Int.reduceAdd, Int.reduceSub, Int.reduceMul, Int.reduceNeg, Int.reduceToNat, Nat.reduceAdd, Nat.reduceMul, Nat.reduceEqDiff, zw32_id, zw64_id, zupd_eq, zupd_na, zupd_ni, zupp_eq, zupp_na, zupp_ni, show (0 : Int) < ((n + 1 : Nat) : Int) by omega, p1, e1, h0, zupd_2]
        exact ih (by omega) (fun k a b => by
          by_cases e : k = (n : Int)
          · rw [e]; exact h0
          · exact hz k (by push_cast; omega) b)
      · simp (disch := first | assumption | omega) only [rB_trim_7, rB_trim_10, rB_trim_13, rB_trim_14, rB_trim_17, rB_trim_18, rB_trim_21, rB_trim_22, rB_trim_23, rB_trim_24, rB_trim_27, rB_trim_28, rB_trim_29, rB_trim_32, rB_trim_33, rB_trim_34, rB_trim_37, rB_trim_40, Bool.false_eq_true, true_implies, false_implies, implies_true, true_and, and_true, not_true_eq_false, not_false_eq_true, zPush_I, zPush_L, zPush_R, zPush_U, Int.reduceLT, Int.reduceLE, Int.reduceEq, Int.reduceNe, Int.reduceAdd, Int.reduceSub, Int.reduceMul, Int.reduceNeg, Int.reduceToNat, Nat.reduceAdd, Nat.reduceMul, Nat.reduceEqDiff, zw32_id, zw64_id, zupd_eq, zupd_na, zupd_ni, zupp_eq, zupp_na, zupp_ni, show (0 : Int) < ((n + 1 : Nat) : Int) by omega, p1, e1, h0]
        refine hQ _ ⟨bW_fr hW (fun j => zupd_na (by omega)), ?_⟩ (frP_up (frP_rf _ _) ⟨rfl, rfl⟩)
        rw [zupd_eq]
        have e := bV_z (g := mm (a + 1)) 8 (n + 1) (by omega) (fun k a b => hz k a (by omega))
        rw [hW.2] at e
        exact (nlim_of (g := mm (a + 1)) (n := n + 1) (fun k a b => hW.1 k a (by push_cast at b; omega)) e.symm (fun _ => by rw [e1]; exact h0)).symm
  simp (disch := first | assumption | omega) only [rB_trim_0, rB_trim_1, rB_trim_3, Bool.false_eq_true, true_implies, false_implies, implies_true, true_and, and_true, not_true_eq_false, not_false_eq_true, zPush_I, zPush_L, zPush_R, zPush_U, Int.reduceLT, Int.reduceLE, Int.reduceEq, Int.reduceNe, Int.reduceAdd, Int.reduceSub, Int.reduceMul, Int.reduceNeg, Int.reduceToNat, Nat.reduceAdd, Nat.reduceMul, Nat.reduceEqDiff, zw32_id, zw64_id, zupd_eq, zupd_na, zupd_ni, zupp_eq, zupp_na, zupp_ni]
  exact key 8 (by omega) (fun k a b => by omega)
theorem cMultiply (hL : bgL sh pp a) (hW : bW a v mm) {t : Nat} (t1 : t ≤ 10) (hlt : v * t < 1766847064778384329583297500742918515827483896875618958121606201292619776) (hQ : ∀ m, bG a (v * t) m → frP (pB a) mm m → Q zU sh pp m) : zS 6 0 [zR a, zI t, zU, zU, zU] [] sh pp mm Q := by
  have hL' := hL
  obtain ⟨k0, k1, l1, p1⟩ := hL
  have key : ∀ (d i : Nat) (m : zMm) (c : Int), i + d = 8 → (∀ k, 0 ≤ k → k < (i : Int) → 0 ≤ m (a + 1) k ∧ m (a + 1) k < 1073741824) → (∀ k, (i : Int) ≤ k → m (a + 1) k = mm (a + 1) k) → bV (m (a + 1)) i + c * 2 ^ (30 * i) = (t : Int) * bV (mm (a + 1)) i → 0 ≤ c → c ≤ t → frP (pB a) mm m → zS 6 5 [zR a, zI t, zL c, zU, zI i] [] sh pp m Q := by
    intro d
    induction d with
    | zero =>
      intro i m c hi h1 h2 h3 c0 c1 hf
      have hi : i = 8 := by omega
      subst hi
      have hn := bV_nn (g := m (a + 1)) (n := 8) (fun k a b => h1 k a b)
      rw [hW.2, p240] at h3
      have hlt' : (t : Int) * (v : Int) < 1766847064778384329583297500742918515827483896875618958121606201292619776 := by
        have h8 := Int.ofNat_lt.mpr hlt
        rw [Int.natCast_mul, Int.mul_comm] at h8
        omega
      have hc : c = 0 := by
        generalize (t : Int) * (v : Int) = y at *
        omega
      subst hc
      rw [rB_multiply_5]
      simp (disch := first | assumption | omega) only [rB_multiply_7, rB_multiply_9, rB_multiply_12, rB_multiply_13, rB_multiply_14, rB_multiply_17, rB_multiply_19, rB_multiply_20, rB_multiply_21, rB_multiply_22, rB_multiply_23, rB_multiply_24, rB_multiply_25, rB_multiply_26, rB_multiply_27, rB_multiply_30, rB_multiply_32, rB_multiply_33, rB_multiply_36, rB_multiply_37, rB_multiply_38, rB_multiply_39, rB_multiply_40, rB_multiply_42, rB_multiply_43, rB_multiply_44, rB_multiply_47, rB_multiply_50, rB_multiply_51, Bool.false_eq_true, true_implies, false_implies, implies_true, true_and, and_true, not_true_eq_false, not_false_eq_true, zPush_I, zPush_L, zPush_R, zPush_U, Int.reduceLT, Int.reduceLE, Int.reduceEq, Int.reduceNe, Int.reduceAdd, Int.reduceSub, Int.reduceMul, Int.reduceNeg, Int.reduceToNat, Nat.reduceAdd, Nat.reduceMul, Nat.reduceEqDiff, zw32_id, zw64_id, zupd_eq, zupd_na, zupd_ni, zupp_eq, zupp_na, zupp_ni, show ¬ ((8 : Nat) : Int) < 8 by omega]
      refine cTrim (v := v * t) hL' ⟨fun k a b => h1 k a b, ?_⟩ (fun m2 g2 f2 => ?_)
      · push_cast
        rw [Int.mul_comm]
        omega
      · simp (disch := first | assumption | omega) only [rB_multiply_54, Bool.false_eq_true, true_implies, false_implies, implies_true, true_and, and_true, not_true_eq_false, not_false_eq_true, zPush_I, zPush_L, zPush_R, zPush_U, Int.reduceLT, Int.reduceLE, Int.reduceEq, Int.reduceNe, Int.reduceAdd, Int.reduceSub, Int.reduceMul, Int.reduceNeg, Int.reduceToNat, Nat.reduceAdd, Nat.reduceMul, Nat.reduceEqDiff, zw32_id, zw64_id, zupd_eq, zupd_na, zupd_ni, zupp_eq, zupp_na, zupp_ni]
        exact hQ m2 g2 (frP_tr hf (frP_wd f2 (fun x j hj => Or.inr hj)))
    | succ d ih =>
      intro i m c hi h1 h2 h3 c0 c1 hf
      have hl := hW.1 (i : Int) (by omega) (by omega)
      have hi2 := h2 (i : Int) (by omega)
      obtain ⟨l, hl'⟩ : ∃ l, mm (a + 1) (i : Int) = l := ⟨_, rfl⟩
      rw [hl'] at hl hi2
      have hb := mul_bd (x := l) (y := (t : Int)) (a := 1073741823) (b := 10) hl.1 (by omega) (by omega) (by omega)
      have hst := stMul (X := c + l * t) (Int.add_comm c (l * t)) h3
      obtain ⟨X, hX⟩ : ∃ X, c + l * (t : Int) = X := ⟨_, rfl⟩
      rw [hX] at hst
      have hXb : 0 ≤ X ∧ X ≤ 20737418240 := by omega
      have hXc : X / 1073741824 ≤ t := by
        have h5 : l * (t : Int) ≤ 1073741823 * (t : Int) := Int.mul_le_mul_of_nonneg_right (by omega) (by omega)
        omega
      rw [rB_multiply_5]
      simp (disch := first | assumption | omega) only [rB_multiply_7, rB_multiply_9, rB_multiply_12, rB_multiply_13, rB_multiply_14, rB_multiply_17, rB_multiply_19, rB_multiply_20, rB_multiply_21, rB_multiply_22, rB_multiply_23, rB_multiply_24, rB_multiply_25, rB_multiply_26, rB_multiply_27, rB_multiply_30, rB_multiply_32, rB_multiply_33, rB_multiply_36, rB_multiply_37, rB_multiply_38, rB_multiply_39, rB_multiply_40, rB_multiply_42, rB_multiply_43, rB_multiply_44, rB_multiply_47, Bool.false_eq_true, true_implies, false_implies, implies_true, true_and, and_true, not_true_eq_false, not_false_eq_true, zPush_I, zPush_L, zPush_R, zPush_U, Int.reduceLT, Int.reduceLE, Int.reduceEq, Int.reduceNe, Int.reduceAdd, Int.reduceSub, Int.reduceMul, Int.reduceNeg, Int.reduceToNat, Nat.reduceAdd, Nat.reduceMul, Nat.reduceEqDiff, zw32_id, zw64_id, zupd_eq, zupd_na, zupd_ni, zupp_eq, zupp_na, zupp_ni, show (i : Int) < 8 by omega, p1, hi2, hX, zland30, zlshr30]
      have := ih (i + 1) (zupd m (a + 1) (i : Int) (X % 1073741824)) (X / 1073741824) (by omega) (fun k k0 k1 => ?_) (fun k k0 => ?_) ?_ (by omega) hXc (frP_up hf (Or.inl rfl))
      · push_cast at this
        exact this
      · by_cases e : k = (i : Int)
        · rw [e, zupd_eq]; omega
        · rw [zupd_ni e]; exact h1 k k0 (by push_cast at k1; omega)
      · rw [zupd_ni (by push_cast at k0; omega)]; exact h2 k (by push_cast at k0; omega)
      · rw [bV_s, bV_s, zu_bV (by omega), zupd_eq, hl', two30]
        exact hst
  simp (disch := first | assumption | omega) only [rB_multiply_0, rB_multiply_1, rB_multiply_2, rB_multiply_3, Bool.false_eq_true, true_implies, false_implies, implies_true, true_and, and_true, not_true_eq_false, not_false_eq_true, zPush_I, zPush_L, zPush_R, zPush_U, Int.reduceLT, Int.reduceLE, Int.reduceEq, Int.reduceNe, Int.reduceAdd, Int.reduceSub, Int.reduceMul, Int.reduceNeg, Int.reduceToNat, Nat.reduceAdd, Nat.reduceMul, Nat.reduceEqDiff, zw32_id, zw64_id, zupd_eq, zupd_na, zupd_ni, zupp_eq, zupp_na, zupp_ni]
  exact key 8 0 mm 0 rfl (fun k a b => by omega) (fun k _ => rfl) (by simp [bV]) (by decide) (by omega) (frP_rf _ _)
theorem cAddTimes (hL : bgL sh pp a) (hM : bgL sh pp b) (hab : a + 1 < b ∨ b + 1 < a) (hW : bW a v mm) (hW2 : bW b w mm) {t : Nat} (t1 : t ≤ 30) (hlt : v + w * t < 1766847064778384329583297500742918515827483896875618958121606201292619776) (hQ : ∀ m, bG a (v + w * t) m → frP (pB a) mm m → Q zU sh pp m) : zS 7 0 [zR a, zR b, zI t, zU, zU, zU] [] sh pp mm Q := by
  have hL' := hL
  obtain ⟨k0, k1, l1, p1⟩ := hL
  obtain ⟨k2, k3, l3, p3⟩ := hM
  have key : ∀ (d i : Nat) (m : zMm) (c : Int), i + d = 8 → (∀ k, 0 ≤ k → k < (i : Int) → 0 ≤ m (a + 1) k ∧ m (a + 1) k < 1073741824) → (∀ k, (i : Int) ≤ k → m (a + 1) k = mm (a + 1) k) → bV (m (a + 1)) i + c * 2 ^ (30 * i) = bV (mm (a + 1)) i + (t : Int) * bV (mm (b + 1)) i → 0 ≤ c → c ≤ t + 1 → frP (pB a) mm m → zS 7 5 [zR a, zR b, zI t, zL c, zU, zI i] [] sh pp m Q := by
    intro d
    induction d with
    | zero =>
      intro i m c hi h1 h2 h3 c0 c1 hf
      have hi : i = 8 := by omega
      subst hi
      have hn := bV_nn (g := m (a + 1)) (n := 8) (fun k a b => h1 k a b)
      rw [hW.2, hW2.2, p240] at h3
      have hlt' : (v : Int) + (t : Int) * (w : Int) < 1766847064778384329583297500742918515827483896875618958121606201292619776 := by
        have h8 := Int.ofNat_lt.mpr hlt
        rw [Int.natCast_add, Int.natCast_mul, Int.mul_comm (w : Int)] at h8
        omega
      have hc : c = 0 := by
        generalize (t : Int) * (w : Int) = y at *
        omega
      subst hc
      rw [rB_addTimes_5]
      simp (disch := first | assumption | omega) only [rB_addTimes_7, rB_addTimes_9, rB_addTimes_12, rB_addTimes_13, rB_addTimes_14, rB_addTimes_17, rB_addTimes_19, rB_addTimes_20, rB_addTimes_21, rB_addTimes_22, rB_addTimes_25, rB_addTimes_27, rB_addTimes_28, rB_addTimes_29, rB_addTimes_30, rB_addTimes_31, rB_addTimes_32, rB_addTimes_33, rB_addTimes_34, rB_addTimes_35, rB_addTimes_36, rB_addTimes_39, rB_addTimes_41, rB_addTimes_42, rB_addTimes_45, rB_addTimes_46, rB_addTimes_47, rB_addTimes_48, rB_addTimes_49, rB_addTimes_51, rB_addTimes_52, rB_addTimes_53, rB_addTimes_56, rB_addTimes_59, rB_addTimes_60, Bool.false_eq_true, true_implies, false_implies, implies_true, true_and, and_true, not_true_eq_false, not_false_eq_true, zPush_I, zPush_L, zPush_R, zPush_U, Int.reduceLT, Int.reduceLE, Int.reduceEq, Int.reduceNe, Int.reduceAdd, Int.reduceSub, Int.reduceMul, Int.reduceNeg, Int.reduceToNat, Nat.reduceAdd, Nat.reduceMul, Nat.reduceEqDiff, zw32_id, zw64_id, zupd_eq, zupd_na, zupd_ni, zupp_eq, zupp_na, zupp_ni, show ¬ ((8 : Nat) : Int) < 8 by omega]
      refine cTrim (v := v + w * t) hL' ⟨fun k a b => h1 k a b, ?_⟩ (fun m2 g2 f2 => ?_)
      · push_cast
        rw [Int.mul_comm (w : Int)]
        omega
      · simp (disch := first | assumption | omega) only [rB_addTimes_63, Bool.false_eq_true, true_implies, false_implies, implies_true, true_and, and_true, not_true_eq_false, not_false_eq_true, zPush_I, zPush_L, zPush_R, zPush_U, Int.reduceLT, Int.reduceLE, Int.reduceEq, Int.reduceNe, Int.reduceAdd, Int.reduceSub, Int.reduceMul, Int.reduceNeg, Int.reduceToNat, Nat.reduceAdd, Nat.reduceMul, Nat.reduceEqDiff, zw32_id, zw64_id, zupd_eq, zupd_na, zupd_ni, zupp_eq, zupp_na, zupp_ni]
        exact hQ m2 g2 (frP_tr hf (frP_wd f2 (fun x j hj => Or.inr hj)))
    | succ d ih =>
      intro i m c hi h1 h2 h3 c0 c1 hf
      have hl := hW.1 (i : Int) (by omega) (by omega)
      have hr := hW2.1 (i : Int) (by omega) (by omega)
      have hi2 := h2 (i : Int) (by omega)
      have hi3 : m (b + 1) (i : Int) = mm (b + 1) (i : Int) := hf _ _ (by unfold pB; omega)
      obtain ⟨l, hl'⟩ : ∃ l, mm (a + 1) (i : Int) = l := ⟨_, rfl⟩
      obtain ⟨r, hr'⟩ : ∃ r, mm (b + 1) (i : Int) = r := ⟨_, rfl⟩
      rw [hl'] at hl hi2
      rw [hr'] at hr hi3
      have hb := mul_bd (x := r) (y := (t : Int)) (a := 1073741823) (b := 30) hr.1 (by omega) (by omega) (by omega)
      have hst := stAdd (X := c + (l + r * t)) (w := r) rfl h3
      obtain ⟨X, hX⟩ : ∃ X, c + (l + r * (t : Int)) = X := ⟨_, rfl⟩
      rw [hX] at hst
      have hXb : 0 ≤ X ∧ X ≤ 40737418240 := by omega
      have hXc : X / 1073741824 ≤ t + 1 := by
        have h5 : r * (t : Int) ≤ 1073741823 * (t : Int) := Int.mul_le_mul_of_nonneg_right (by omega) (by omega)
        omega
      rw [rB_addTimes_5]
      simp (disch := first | assumption | omega) only [rB_addTimes_7, rB_addTimes_9, rB_addTimes_12, rB_addTimes_13, rB_addTimes_14, rB_addTimes_17, rB_addTimes_19, rB_addTimes_20, rB_addTimes_21, rB_addTimes_22, rB_addTimes_25, rB_addTimes_27, rB_addTimes_28, rB_addTimes_29, rB_addTimes_30, rB_addTimes_31, rB_addTimes_32, rB_addTimes_33, rB_addTimes_34, rB_addTimes_35, rB_addTimes_36, rB_addTimes_39, rB_addTimes_41, rB_addTimes_42, rB_addTimes_45, rB_addTimes_46, rB_addTimes_47, rB_addTimes_48, rB_addTimes_49, rB_addTimes_51, rB_addTimes_52, rB_addTimes_53, rB_addTimes_56, Bool.false_eq_true, true_implies, false_implies, implies_true, true_and, and_true, not_true_eq_false, not_false_eq_true, zPush_I, zPush_L, zPush_R, zPush_U, Int.reduceLT, Int.reduceLE, Int.reduceEq, Int.reduceNe, Int.reduceAdd, Int.reduceSub, Int.reduceMul, Int.reduceNeg, Int.reduceToNat, Nat.reduceAdd, Nat.reduceMul, Nat.reduceEqDiff, zw32_id, zw64_id, zupd_eq, zupd_na, zupd_ni, zupp_eq, zupp_na, zupp_ni, show (i : Int) < 8 by omega, p1, p3, hi2, hi3, hX, zland30, zlshr30]
      have := ih (i + 1) (zupd m (a + 1) (i : Int) (X % 1073741824)) (X / 1073741824) (by omega) (fun k k0 k1 => ?_) (fun k k0 => ?_) ?_ (by omega) hXc (frP_up hf (Or.inl rfl))
      · push_cast at this
        exact this
      · by_cases e : k = (i : Int)
        · rw [e, zupd_eq]; omega
        · rw [zupd_ni e]; exact h1 k k0 (by push_cast at k1; omega)
      · rw [zupd_ni (by push_cast at k0; omega)]; exact h2 k (by push_cast at k0; omega)
      · rw [bV_s, bV_s, bV_s, zu_bV (by omega), zupd_eq, hl', hr', two30]
        exact hst
  simp (disch := first | assumption | omega) only [rB_addTimes_0, rB_addTimes_1, rB_addTimes_2, rB_addTimes_3, Bool.false_eq_true, true_implies, false_implies, implies_true, true_and, and_true, not_true_eq_false, not_false_eq_true, zPush_I, zPush_L, zPush_R, zPush_U, Int.reduceLT, Int.reduceLE, Int.reduceEq, Int.reduceNe, Int.reduceAdd, Int.reduceSub, Int.reduceMul, Int.reduceNeg, Int.reduceToNat, Nat.reduceAdd, Nat.reduceMul, Nat.reduceEqDiff, zw32_id, zw64_id, zupd_eq, zupd_na, zupd_ni, zupp_eq, zupp_na, zupp_ni]
  exact key 8 0 mm 0 rfl (fun k a b => by omega) (fun k _ => rfl) (by simp [bV]) (by decide) (by omega) (frP_rf _ _)
end
