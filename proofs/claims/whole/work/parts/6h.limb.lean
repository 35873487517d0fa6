/-! ===== rows of limbs: what a loop over them does ===== -/
theorem em30 (x : Int) : x % 1073741824 + 1073741824 * (x / 1073741824) = x := Int.emod_add_mul_ediv x 1073741824
theorem stMul {S S' c l v P X : Int} (hX : X = l * v + c) (h : S' + c * P = v * S) : S' + (X % 1073741824) * P + (X / 1073741824) * (1073741824 * P) = v * (S + l * P) := by
  have e := em30 X
  generalize X % 1073741824 = r at *
  generalize X / 1073741824 = q at *
  subst e
  grind
theorem stAdd {S S' T c l w t P X : Int} (hX : X = c + (l + w * t)) (h : S' + c * P = S + t * T) : S' + (X % 1073741824) * P + (X / 1073741824) * (1073741824 * P) = (S + l * P) + t * (T + w * P) := by
  have e := em30 X
  generalize X % 1073741824 = r at *
  generalize X / 1073741824 = q at *
  subst e
  grind
/-- a borrow -/
theorem stSub {S S' T c l w P X : Int} (hX : X = l - w - c) (h : S' - c * P = S - T) : S' + (X % 1073741824) * P - (-(X / 1073741824)) * (1073741824 * P) = (S + l * P) - (T + w * P) := by
  have e := em30 X
  generalize X % 1073741824 = r at *
  generalize X / 1073741824 = q at *
  subst e
  grind
theorem bV_s (g : Int → Int) (n : Nat) : bV g (n + 1) = bV g n + g n * 2 ^ (30 * n) := rfl
theorem bV_up {g : Int → Int} {i v : Int} : ∀ (n : Nat), (n : Int) ≤ i → bV (fup g i v) n = bV g n
  | 0, _ => rfl
  | n + 1, h => by
    rw [bV_s, bV_s, bV_up n (by omega), fup_ne (by omega)]
/-- the lowest limb is what is left over -/
theorem bV_low (g : Int → Int) : ∀ n : Nat, 0 < n → bV g n = g 0 + 1073741824 * bV (fun k => g (k + 1)) (n - 1)
  | 0, h => by omega
  | 1, _ => by simp [bV]
  | n + 2, _ => by
    have ih := bV_low g (n + 1) (by omega)
    rw [bV_s, ih, show n + 2 - 1 = n + 1 by omega, show n + 1 - 1 = n by omega, bV_s]
    have e := two30 n
    rw [e]
    have e2 : g ((n + 1 : Nat) : Int) = g ((n : Int) + 1) := by push_cast; rfl
    rw [e2]
    grind
theorem bV_nn {g : Int → Int} {n : Nat} (h : ∀ k, 0 ≤ k → k < (n : Int) → 0 ≤ g k ∧ g k < 1073741824) : 0 ≤ bV g n := (bV_bd n h).1
/-- with a 0 above it is the same -/
theorem bV_z {g : Int → Int} : ∀ (m n : Nat), n ≤ m → (∀ k, (n : Int) ≤ k → k < (m : Int) → g k = 0) → bV g m = bV g n
  | 0, n, h, _ => by rw [show n = 0 by omega]
  | m + 1, n, h, hz => by
    by_cases e : n = m + 1
    · rw [e]
    · rw [bV_s, hz m (by omega) (by omega), Int.zero_mul, Int.add_zero]
      exact bV_z m n (by omega) (fun k a b => hz k a (by omega))
/-- two rows of one value are one row -/
theorem bV_inj {g h : Int → Int} {n : Nat} (hg : ∀ k, 0 ≤ k → k < (n : Int) → 0 ≤ g k ∧ g k < 1073741824) (hh : ∀ k, 0 ≤ k → k < (n : Int) → 0 ≤ h k ∧ h k < 1073741824) (e : bV g n = bV h n) : ∀ k, 0 ≤ k → k < (n : Int) → g k = h k := by
  intro k k0 k1
  have a := bV_limb n hg k.toNat (by omega)
  have b := bV_limb n hh k.toNat (by omega)
  rw [e, b, Int.toNat_of_nonneg k0] at a
  exact a.symm
/-- the first unlike limb from above tells which is less -/
theorem bV_cmp {g h : Int → Int} : ∀ (n : Nat), (∀ k, 0 ≤ k → k < (n : Int) → 0 ≤ g k ∧ g k < 1073741824) → (∀ k, 0 ≤ k → k < (n : Int) → 0 ≤ h k ∧ h k < 1073741824) → ∀ i : Int, 0 ≤ i → i < (n : Int) → (∀ k, i < k → k < (n : Int) → g k = h k) → g i < h i → bV g n < bV h n
  | 0, _, _, i, h0, h1, _, _ => by omega
  | n + 1, hg, hh, i, h0, h1, he, hl => by
    rw [bV_s, bV_s]
    have hp := two30p n
    have b1 := bV_bd n (fun k a b => hg k a (by omega))
    have b2 := bV_bd n (fun k a b => hh k a (by omega))
    by_cases e : i = (n : Int)
    · subst e
      generalize hP : (2 : Int) ^ (30 * n) = P at *
      have : (g n + 1) * P ≤ h n * P := Int.mul_le_mul_of_nonneg_right (by omega) (by omega)
      rw [Int.add_mul, Int.one_mul] at this
      omega
    · have ih := bV_cmp n (fun k a b => hg k a (by omega)) (fun k a b => hh k a (by omega)) i h0 (by omega) (fun k a b => he k a (by omega)) hl
      rw [he n (by omega) (by omega)]
      omega
theorem nlim_le {v k : Nat} (h : v < 2 ^ (30 * k)) : nlim v ≤ (k : Int) := by
  unfold nlim
  split
  · omega
  · rename_i hv
    have : v.log2 < 30 * k := (Nat.log2_lt hv).mpr h
    omega
theorem nlim_nn (v : Nat) : 0 ≤ nlim v := by unfold nlim; split <;> omega
theorem nlim_0 (v : Nat) : nlim v = 0 ↔ v = 0 := by
  unfold nlim
  split
  · rename_i h; simp [h]
  · rename_i h; simp [h]; omega
/-- how many limbs there are by the highest that isn't 0 -/
theorem nlim_of {g : Int → Int} {n : Nat} {v : Nat} (hg : ∀ k, 0 ≤ k → k < (n : Int) → 0 ≤ g k ∧ g k < 1073741824) (hv : bV g n = (v : Int)) (ht : 0 < n → g ((n : Int) - 1) ≠ 0) : nlim v = (n : Int) := by
  have := bR_size (g := g) (n := (n : Int)) (v := v) ⟨by omega, hg, fun h => ht (by omega), by rw [Int.toNat_natCast]; exact hv⟩
  exact this.symm
