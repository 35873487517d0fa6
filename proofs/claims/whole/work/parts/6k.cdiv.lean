/-! ===== the class divides ===== -/
theorem zw32_k (z : Int) : ∃ k, zw32 z = z + 4294967296 * k := ⟨-((z + 2147483648) / 4294967296), by unfold zw32; omega⟩
theorem invSt {x y m M p q : Int} (h : (x * y) % m = 1) (hM : m * m = M * p) (hq : 4294967296 = M * q) (hM1 : 1 < M) : (x * zw32 (y * zw32 (2 - zw32 (x * y)))) % M = 1 := by
  obtain ⟨k1, h1⟩ := zw32_k (x * y)
  rw [h1]
  obtain ⟨k2, h2⟩ := zw32_k (2 - (x * y + 4294967296 * k1))
  rw [h2]
  obtain ⟨k3, h3⟩ := zw32_k (y * (2 - (x * y + 4294967296 * k1) + 4294967296 * k2))
  rw [h3]
  have e := Int.emod_add_mul_ediv (x * y) m
  rw [h] at e
  generalize (x * y) / m = j at e
  have e2 : x * (y * (2 - (x * y + 4294967296 * k1) + 4294967296 * k2) + 4294967296 * k3) = 1 + M * (-(p * j * j) + q * (x * y * (k2 - k1) + x * k3)) := by
    rw [hq]
    grind
  rw [e2, Int.add_mul_emod_self_left]
  exact Int.emod_eq_of_lt (by decide) hM1
theorem inv8 {x : Int} (h : x % 2 = 1) : (x * x) % 8 = 1 := by
  have h1 : x % 8 = 1 ∨ x % 8 = 3 ∨ x % 8 = 5 ∨ x % 8 = 7 := by omega
  rw [Int.mul_emod]
  rcases h1 with h1 | h1 | h1 | h1 <;> rw [h1] <;> decide
theorem stDv {S S' T c l w q P X : Int} (hX : X = c + (l - q * w)) (h : S' + c * P = S - q * T) : S' + (X % 1073741824) * P + (X / 1073741824) * (1073741824 * P) = (S + l * P) - q * (T + w * P) := by
  have e := em30 X
  generalize X % 1073741824 = r at *
  generalize X / 1073741824 = s at *
  subst e
  grind
/-- the rest of a row -/
theorem bV_cut (g : Int → Int) : ∀ (n t : Nat), t ≤ n → ∃ r, bV g n = bV g t + 2 ^ (30 * t) * r
  | 0, t, h => ⟨0, by rw [show t = 0 by omega]; simp⟩
  | n + 1, t, h => by
    by_cases e : t = n + 1
    · exact ⟨0, by rw [e]; simp⟩
    · obtain ⟨r, hr⟩ := bV_cut g n t (by omega)
      have e2 : (2 : Int) ^ (30 * n) = 2 ^ (30 * t) * 2 ^ (30 * (n - t)) := by
        rw [← Int.pow_add]
        congr 1
        omega
      refine ⟨r + g n * 2 ^ (30 * (n - t)), ?_⟩
      rw [bV_s, hr, e2]
      grind
section
variable {sh : zSh} {pp : zPp} {mm : zMm} {Q : zV → zSh → zPp → zMm → Prop} {a b v w : Nat}
theorem invIt {u0 : zV} {x y k k' : Int} (hk : k < 30) (h2 : zw32 (k * 2) = k') : zS 13 11 [u0, zI x, zI y, zI k] [] sh pp mm Q ↔ zS 13 11 [zU, zI x, zI (zw32 (y * zw32 (2 - zw32 (x * y)))), zI k'] [] sh pp mm Q := by
  rw [rB_inverseOfLowest_11]
  simp only [rB_inverseOfLowest_12, rB_inverseOfLowest_14, rB_inverseOfLowest_17, rB_inverseOfLowest_18, rB_inverseOfLowest_19, rB_inverseOfLowest_20, rB_inverseOfLowest_21, rB_inverseOfLowest_22, rB_inverseOfLowest_23, rB_inverseOfLowest_24, rB_inverseOfLowest_25, rB_inverseOfLowest_26, rB_inverseOfLowest_27, rB_inverseOfLowest_28, rB_inverseOfLowest_29, hk, h2, true_implies, false_implies, implies_true, true_and, and_true, not_true_eq_false]
theorem invEn {u0 : zV} {x y k : Int} (hk : ¬ k < 30) : zS 13 11 [u0, zI x, zI y, zI k] [] sh pp mm Q ↔ Q (zI y) sh pp mm := by
  rw [rB_inverseOfLowest_11]
  simp only [rB_inverseOfLowest_12, rB_inverseOfLowest_14, rB_inverseOfLowest_17, rB_inverseOfLowest_18, rB_inverseOfLowest_19, rB_inverseOfLowest_20, rB_inverseOfLowest_21, rB_inverseOfLowest_22, rB_inverseOfLowest_23, rB_inverseOfLowest_24, rB_inverseOfLowest_25, rB_inverseOfLowest_26, rB_inverseOfLowest_27, rB_inverseOfLowest_28, rB_inverseOfLowest_29, rB_inverseOfLowest_32, rB_inverseOfLowest_33, hk, true_implies, false_implies, implies_true, true_and, and_true, not_false_eq_true]
theorem cInverse (hM : bgL sh pp b) (hW : bW b w mm) (ho : w % 2 = 1) (hQ : ∀ y, (mm (b + 1) 0 * y) % 1073741824 = 1 → -2147483648 ≤ y → y ≤ 2147483647 → Q (zI y) sh pp mm) : zS 13 0 [zR b, zU, zU, zU] [] sh pp mm Q := by
  obtain ⟨k2, k3, l3, p3⟩ := hM
  have hl := hW.1 0 (by decide) (by decide)
  have e2 := bV_par (g := mm (b + 1)) (n := 8) (by decide)
  rw [hW.2] at e2
  obtain ⟨x, hx⟩ : ∃ x, mm (b + 1) 0 = x := ⟨_, rfl⟩
  rw [hx] at hl e2 hQ
  have i0 := inv8 (x := x) (by omega)
  have i1 := invSt (m := 8) (M := 64) (p := 1) (q := 67108864) i0 (by decide) (by decide) (by decide)
  have i2 := invSt (m := 64) (M := 4096) (p := 1) (q := 1048576) i1 (by decide) (by decide) (by decide)
  have i3 := invSt (m := 4096) (M := 16777216) (p := 1) (q := 256) i2 (by decide) (by decide) (by decide)
  have i4 := invSt (m := 16777216) (M := 1073741824) (p := 262144) (q := 4) i3 (by decide) (by decide) (by decide)
  simp (disch := first | assumption | omega) only [rB_inverseOfLowest_0, rB_inverseOfLowest_1, rB_inverseOfLowest_4, rB_inverseOfLowest_5, rB_inverseOfLowest_6, rB_inverseOfLowest_7, rB_inverseOfLowest_8, rB_inverseOfLowest_9, rB_inverseOfLowest_10, Bool.false_eq_true, true_implies, false_implies, implies_true, true_and, and_true, not_true_eq_false, not_false_eq_true, zPush_I, zPush_L, zPush_R, zPush_U, Int.reduceLT, Int.reduceLE, Int.reduceEq, Int.reduceNe, Int.reduceAdd, Int.reduceSub, Int.reduceMul, Int.reduceNeg, Int.reduceToNat, Nat.reduceAdd, Nat.reduceMul, Nat.reduceEqDiff, zw32_id, zw64_id, zupd_eq, zupd_na, zupd_ni, zupp_eq, zupp_na, zupp_ni, p3, hx]
  rw [invIt (k' := 6) (by decide) (by decide), invIt (k' := 12) (by decide) (by decide), invIt (k' := 24) (by decide) (by decide), invIt (k' := 48) (by decide) (by decide), invEn (by decide)]
  exact hQ _ i4 (zw32_lo _) (zw32_hi _)
theorem cDivide (hL : bgL sh pp a) (hM : bgL sh pp b) (hab : a + 1 < b ∨ b + 1 < a) {u : Nat} (hW : bW a (u * w) mm) (hW2 : bW b w mm) (ho : w % 2 = 1) (hu : (u : Int) < 1766847064778384329583297500742918515827483896875618958121606201292619776) (hQ : ∀ m, bG a u m → frP (pB a) mm m → Q zU sh pp m) : zS 12 0 [zR a, zR b, zU, zU, zU, zU, zU, zU] [] sh pp mm Q := by
  have hL' := hL
  have hM' := hM
  obtain ⟨k0, k1, l1, p1⟩ := hL
  obtain ⟨k2, k3, l3, p3⟩ := hM
  simp (disch := first | assumption | omega) only [rB_divide_0, rB_divide_1, Bool.false_eq_true, true_implies, false_implies, implies_true, true_and, and_true, not_true_eq_false, not_false_eq_true, zPush_I, zPush_L, zPush_R, zPush_U, Int.reduceLT, Int.reduceLE, Int.reduceEq, Int.reduceNe, Int.reduceAdd, Int.reduceSub, Int.reduceMul, Int.reduceNeg, Int.reduceToNat, Nat.reduceAdd, Nat.reduceMul, Nat.reduceEqDiff, zw32_id, zw64_id, zupd_eq, zupd_na, zupd_ni, zupp_eq, zupp_na, zupp_ni]
  refine cInverse hM' hW2 ho (fun y hy y0 y1 => ?_)
  simp (disch := first | assumption | omega) only [rB_divide_4, rB_divide_5, rB_divide_6, Bool.false_eq_true, true_implies, false_implies, implies_true, true_and, and_true, not_true_eq_false, not_false_eq_true, zPush_I, zPush_L, zPush_R, zPush_U, Int.reduceLT, Int.reduceLE, Int.reduceEq, Int.reduceNe, Int.reduceAdd, Int.reduceSub, Int.reduceMul, Int.reduceNeg, Int.reduceToNat, Nat.reduceAdd, Nat.reduceMul, Nat.reduceEqDiff, zw32_id, zw64_id, zupd_eq, zupd_na, zupd_ni, zupp_eq, zupp_na, zupp_ni]
  have hlb := hW2.1
  have hwl := bV_low (mm (b + 1)) 8 (by decide)
  rw [hW2.2] at hwl
  have key : ∀ (d i : Nat) (m : zMm) (U : Int), i + d = 8 → lmb m (a + 1) → (u : Int) = bV (m (a + 1)) i + U * 2 ^ (30 * i) → (∃ z, bV (fun k => m (a + 1) ((i : Int) + k)) d = U * w + z * 2 ^ (30 * d)) → frP (pB a) mm m → zS 12 7 [zR a, zR b, zI y, zI i, zU, zU, zU, zU] [] sh pp m Q := by
    intro d
    induction d with
    | zero =>
      intro i m U hi h1 h2 h3 hf
      have hi : i = 8 := by omega
      subst hi
      have hn := bV_bd (g := m (a + 1)) 8 (fun k a b => h1 k a b)
      rw [p240] at h2 hn
      have hU : U = 0 := by omega
      subst hU
      rw [rB_divide_7]
      simp (disch := first | assumption | omega) only [rB_divide_8, rB_divide_10, rB_divide_13, rB_divide_14, rB_divide_17, rB_divide_18, rB_divide_19, rB_divide_20, rB_divide_21, rB_divide_23, rB_divide_24, rB_divide_26, rB_divide_27, rB_divide_29, rB_divide_30, rB_divide_34, rB_divide_36, rB_divide_39, rB_divide_41, rB_divide_42, rB_divide_45, rB_divide_47, rB_divide_48, rB_divide_49, rB_divide_51, rB_divide_52, rB_divide_53, rB_divide_56, rB_divide_58, rB_divide_59, rB_divide_60, rB_divide_61, rB_divide_62, rB_divide_63, rB_divide_64, rB_divide_65, rB_divide_67, rB_divide_68, rB_divide_71, rB_divide_73, rB_divide_75, rB_divide_78, rB_divide_79, rB_divide_80, rB_divide_81, rB_divide_83, rB_divide_85, rB_divide_86, rB_divide_88, rB_divide_91, rB_divide_94, rB_divide_95, rB_divide_98, rB_divide_99, rB_divide_101, rB_divide_102, rB_divide_105, rB_divide_108, rB_divide_109, Bool.false_eq_true, true_implies, false_implies, implies_true, true_and, and_true, not_true_eq_false, not_false_eq_true, zPush_I, zPush_L, zPush_R, zPush_U, Int.reduceLT, Int.reduceLE, Int.reduceEq, Int.reduceNe, Int.reduceAdd, Int.reduceSub, Int.reduceMul, Int.reduceNeg, Int.reduceToNat, Nat.reduceAdd, Nat.reduceMul, Nat.reduceEqDiff, zw32_id, zw64_id, zupd_eq, zupd_na, zupd_ni, zupp_eq, zupp_na, zupp_ni, show ¬ ((8 : Nat) : Int) < 8 by omega]
      refine cTrim (v := u) hL' ⟨h1, by omega⟩ (fun m2 g2 f2 => ?_)
      simp (disch := first | assumption | omega) only [rB_divide_112, Bool.false_eq_true, true_implies, false_implies, implies_true, true_and, and_true, not_true_eq_false, not_false_eq_true, zPush_I, zPush_L, zPush_R, zPush_U, Int.reduceLT, Int.reduceLE, Int.reduceEq, Int.reduceNe, Int.reduceAdd, Int.reduceSub, Int.reduceMul, Int.reduceNeg, Int.reduceToNat, Nat.reduceAdd, Nat.reduceMul, Nat.reduceEqDiff, zw32_id, zw64_id, zupd_eq, zupd_na, zupd_ni, zupp_eq, zupp_na, zupp_ni]
      exact hQ m2 g2 (frP_tr hf (frP_wd f2 (fun x j hj => Or.inr hj)))
    | succ d ih =>
      intro i m U hi h1 h2 h3 hf
      obtain ⟨z, hz⟩ := h3
      have hl := h1 (i : Int) (by omega) (by omega)
      obtain ⟨l, hl'⟩ : ∃ l, m (a + 1) (i : Int) = l := ⟨_, rfl⟩
      rw [hl'] at hl
      have hlow := bV_low (fun k => m (a + 1) ((i : Int) + k)) (d + 1) (by omega)
      rw [hz] at hlow
      try dsimp only at hlow
      rw [Int.add_zero, hl', two30] at hlow
      obtain ⟨K0, hK0⟩ : ∃ K0, bV (fun k => (fun k => m (a + 1) ((i : Int) + k)) (k + 1)) (d + 1 - 1) = K0 := ⟨_, rfl⟩
      rw [hK0] at hlow
      -- the limb of the answer
      have hq : (zw32 (l * y)) % 1073741824 = U % 1073741824 := by
        obtain ⟨k4, h4⟩ := zw32_k (l * y)
        rw [h4]
        have e5 := Int.emod_add_mul_ediv (mm (b + 1) 0 * y) 1073741824
        rw [hy] at e5
        generalize (mm (b + 1) 0 * y) / 1073741824 = e at e5
        generalize bV (fun k => mm (b + 1) (k + 1)) (8 - 1) = w1 at hwl
        generalize mm (b + 1) 0 = w0 at hwl e5
        have e6 : l * y + 4294967296 * k4 = U + 1073741824 * (U * e + U * w1 * y + z * 2 ^ (30 * d) * y - K0 * y + 4 * k4) := by
          have e7 : l = U * (w : Int) + z * (1073741824 * 2 ^ (30 * d)) - 1073741824 * K0 := by omega
          rw [e7, hwl]
          generalize (2 : Int) ^ (30 * d) = P at *
          grind
        rw [e6, Int.add_mul_emod_self_left]
      obtain ⟨q, hq'⟩ : ∃ q, U % 1073741824 = q := ⟨_, rfl⟩
      rw [hq'] at hq
      have hqb : 0 ≤ q ∧ q < 1073741824 := by omega
      have hU := em30 U
      rw [hq'] at hU
      obtain ⟨U', hU'⟩ : ∃ U', U / 1073741824 = U' := ⟨_, rfl⟩
      rw [hU'] at hU
      have inner : ∀ (e t : Nat) (m' : zMm) (c : Int), t + e = d + 1 → lmb m' (a + 1) → (∀ k, k < (i : Int) → m' (a + 1) k = m (a + 1) k) → (∀ k, (i : Int) + t ≤ k → m' (a + 1) k = m (a + 1) k) → bV (fun k => m' (a + 1) ((i : Int) + k)) t + c * 2 ^ (30 * t) = bV (fun k => m (a + 1) ((i : Int) + k)) t - q * bV (mm (b + 1)) t → -1073741824 ≤ c → c ≤ 0 → frP (pB a) mm m' → zS 12 32 [zR a, zR b, zI y, zI i, zI q, zL c, zU, zI ((i : Int) + t)] [] sh pp m' Q := by
        intro e
        induction e with
        | zero =>
          intro t m' c ht g1 g2 g3 g4 c0 c1 hf'
          have ht : t = d + 1 := by omega
          subst ht
          rw [rB_divide_32]
          simp (disch := first | assumption | omega) only [rB_divide_34, rB_divide_36, rB_divide_39, rB_divide_41, rB_divide_42, rB_divide_45, rB_divide_47, rB_divide_48, rB_divide_49, rB_divide_51, rB_divide_52, rB_divide_53, rB_divide_56, rB_divide_58, rB_divide_59, rB_divide_60, rB_divide_61, rB_divide_62, rB_divide_63, rB_divide_64, rB_divide_65, rB_divide_67, rB_divide_68, rB_divide_71, rB_divide_73, rB_divide_75, rB_divide_78, rB_divide_79, rB_divide_80, rB_divide_81, rB_divide_83, rB_divide_85, rB_divide_86, rB_divide_88, rB_divide_91, rB_divide_94, rB_divide_95, rB_divide_98, rB_divide_99, rB_divide_101, rB_divide_102, rB_divide_105, Bool.false_eq_true, true_implies, false_implies, implies_true, true_and, and_true, not_true_eq_false, not_false_eq_true, zPush_I, zPush_L, zPush_R, zPush_U, Int.reduceLT, Int.reduceLE, Int.reduceEq, Int.reduceNe, Int.reduceAdd, Int.reduceSub, Int.reduceMul, Int.reduceNeg, Int.reduceToNat, Nat.reduceAdd, Nat.reduceMul, Nat.reduceEqDiff, zw32_id, zw64_id, zupd_eq, zupd_na, zupd_ni, zupp_eq, zupp_na, zupp_ni, show ¬ (i : Int) + ((d + 1 : Nat) : Int) < 8 by push_cast; omega, p1]
          obtain ⟨r, hr⟩ := bV_cut (mm (b + 1)) 8 (d + 1) (by omega)
          rw [hW2.2] at hr
          have hlow' := bV_low (fun k => m' (a + 1) ((i : Int) + k)) (d + 1) (by omega)
          try dsimp only at hlow'
          rw [Int.add_zero] at hlow'
          rw [hlow', hz] at g4
          obtain ⟨T2, hT2⟩ : ∃ T2, bV (fun k => (fun k => m' (a + 1) ((i : Int) + k)) (k + 1)) (d + 1 - 1) = T2 := ⟨_, rfl⟩
          rw [hT2] at g4
          have hl0 := g1 (i : Int) (by omega) (by omega)
          obtain ⟨l0, hl0'⟩ : ∃ l0, m' (a + 1) (i : Int) = l0 := ⟨_, rfl⟩
          rw [hl0'] at hl0 g4
          have e9 : l0 + 1073741824 * T2 = 1073741824 * (U' * w + (z + q * r - c) * 2 ^ (30 * d)) := by
            rw [two30] at g4 hr
            generalize (2 : Int) ^ (30 * d) = P at *
            generalize bV (mm (b + 1)) (d + 1) = w2 at *
            have e10 : l0 + 1073741824 * T2 = U * (w : Int) + z * (1073741824 * P) - q * w2 - c * (1073741824 * P) := by omega
            have e11 : w2 = (w : Int) - 1073741824 * P * r := by omega
            rw [e10, e11, ← hU]
            grind
          generalize hY : U' * (w : Int) + (z + q * r - c) * 2 ^ (30 * d) = Y at e9
          have e12 : T2 = Y := by omega
          have := ih (i + 1) (zupd m' (a + 1) (i : Int) q) U' (by omega) (fun k k0 k1 => ?_) ?_ ⟨z + q * r - c, ?_⟩ (frP_up hf' (Or.inl rfl))
          · push_cast at this
            exact this
          · by_cases ek : k = (i : Int)
            · rw [ek, zupd_eq]; exact hqb
            · rw [zupd_ni ek]; exact g1 k k0 k1
          · rw [bV_s, zu_bV (Int.le_refl _), zupd_eq, bV_ext (g := m' (a + 1)) (g' := m (a + 1)) i (fun k a b => g2 k b), h2, ← hU, two30]
            generalize (2 : Int) ^ (30 * i) = P
            grind
          · rw [hY, ← e12, ← hT2]
            show bV _ d = bV _ d
            refine bV_ext d (fun k k0 k1 => ?_)
            try dsimp only
            rw [zupd_ni (by push_cast; omega)]
            congr 1
            push_cast
            omega
        | succ e ihe =>
          intro t m' c ht g1 g2 g3 g4 c0 c1 hf'
          have hlj := h1 ((i : Int) + t) (by omega) (by omega)
          have hj := g3 ((i : Int) + t) (Int.le_refl _)
          have hwt := hW2.1 (t : Int) (by omega) (by omega)
          have hwm : m' (b + 1) (t : Int) = mm (b + 1) (t : Int) := hf' _ _ (by unfold pB; omega)
          obtain ⟨lj, hlj'⟩ : ∃ lj, m (a + 1) ((i : Int) + t) = lj := ⟨_, rfl⟩
          obtain ⟨wt, hwt'⟩ : ∃ wt, mm (b + 1) (t : Int) = wt := ⟨_, rfl⟩
          rw [hlj'] at hlj hj
          rw [hwt'] at hwt hwm
          have hb := mul_bd (x := q) (y := wt) (a := 1073741823) (b := 1073741823) hqb.1 (by omega) hwt.1 (by omega)
          have hst := stDv (X := c + (lj - q * wt)) (w := wt) rfl g4
          obtain ⟨X, hX⟩ : ∃ X, c + (lj - q * wt) = X := ⟨_, rfl⟩
          rw [hX] at hst
          have hXb : -1152921504606846976 ≤ X ∧ X < 1073741824 := by omega
          rw [rB_divide_32]
          simp (disch := first | assumption | omega) only [rB_divide_34, rB_divide_36, rB_divide_39, rB_divide_41, rB_divide_42, rB_divide_45, rB_divide_47, rB_divide_48, rB_divide_49, rB_divide_51, rB_divide_52, rB_divide_53, rB_divide_56, rB_divide_58, rB_divide_59, rB_divide_60, rB_divide_61, rB_divide_62, rB_divide_63, rB_divide_64, rB_divide_65, rB_divide_67, rB_divide_68, rB_divide_71, rB_divide_73, rB_divide_75, rB_divide_78, rB_divide_79, rB_divide_80, rB_divide_81, rB_divide_83, rB_divide_85, rB_divide_86, rB_divide_88, rB_divide_91, Bool.false_eq_true, true_implies, false_implies, implies_true, true_and, and_true, not_true_eq_false, not_false_eq_true, zPush_I, zPush_L, zPush_R, zPush_U, Int.reduceLT, Int.reduceLE, Int.reduceEq, Int.reduceNe, Int.reduceAdd, Int.reduceSub, Int.reduceMul, Int.reduceNeg, Int.reduceToNat, Nat.reduceAdd, Nat.reduceMul, Nat.reduceEqDiff, zw32_id, zw64_id, zupd_eq, zupd_na, zupd_ni, zupp_eq, zupp_na, zupp_ni, show (i : Int) + (t : Int) < 8 by omega, p1, p3, hj, show (i : Int) + (t : Int) - (i : Int) = (t : Int) by omega, hwm, hX, zland30, zlshr30]
          have := ihe (t + 1) (zupd m' (a + 1) ((i : Int) + t) (X % 1073741824)) (X / 1073741824) (by omega) (fun k k0 k1 => ?_) (fun k k0 => ?_) (fun k k0 => ?_) ?_ (by omega) (by omega) (frP_up hf' (Or.inl rfl))
          · push_cast at this
            rw [← Int.add_assoc] at this
            exact this
          · by_cases ek : k = (i : Int) + t
            · rw [ek, zupd_eq]; omega
            · rw [zupd_ni ek]; exact g1 k k0 k1
          · rw [zupd_ni (by omega)]; exact g2 k k0
          · rw [zupd_ni (by push_cast at k0; omega)]; exact g3 k (by push_cast at k0; omega)
          · rw [bV_s, bV_s, bV_s, two30]
            try dsimp only
            rw [zupd_eq, hlj', hwt', bV_ext (g := fun k => zupd m' (a + 1) ((i : Int) + t) (X % 1073741824) (a + 1) ((i : Int) + k)) (g' := fun k => m' (a + 1) ((i : Int) + k)) t (fun k a b => zupd_ni (by omega))]
            exact hst
      rw [rB_divide_7]
      simp (disch := first | assumption | omega) only [rB_divide_8, rB_divide_10, rB_divide_13, rB_divide_14, rB_divide_17, rB_divide_18, rB_divide_19, rB_divide_20, rB_divide_21, rB_divide_23, rB_divide_24, rB_divide_26, rB_divide_27, rB_divide_29, rB_divide_30, Bool.false_eq_true, true_implies, false_implies, implies_true, true_and, and_true, not_true_eq_false, not_false_eq_true, zPush_I, zPush_L, zPush_R, zPush_U, Int.reduceLT, Int.reduceLE, Int.reduceEq, Int.reduceNe, Int.reduceAdd, Int.reduceSub, Int.reduceMul, Int.reduceNeg, Int.reduceToNat, Nat.reduceAdd, Nat.reduceMul, Nat.reduceEqDiff, zw32_id, zw64_id, zupd_eq, zupd_na, zupd_ni, zupp_eq, zupp_na, zupp_ni, show (i : Int) < 8 by omega, p1, hl', zand30, hq]
      have := inner (d + 1) 0 m 0 (by omega) h1 (fun k _ => rfl) (fun k _ => rfl) (by simp [bV]) (by decide) (by decide) hf
      simpa using this
  refine key 8 0 mm (u : Int) rfl hW.1 (by simp [bV]) ⟨0, ?_⟩ (frP_rf _ _)
  rw [Int.zero_mul, Int.add_zero]
  have e := hW.2
  rw [Int.natCast_mul] at e
  rw [← e]
  exact bV_ext 8 (fun k a b => by congr 1; omega)
end
