/-! ===== rows of limbs ===== -/
def nlim (v : Nat) : Int := if v = 0 then 0 else ((v.log2 / 30 + 1 : Nat) : Int)
def limb (v : Nat) (k : Int) : Int := ((v / 2 ^ (30 * k.toNat) % 1073741824 : Nat) : Int)
theorem two30 (n : Nat) : (2 : Int) ^ (30 * (n + 1)) = 1073741824 * 2 ^ (30 * n) := by
  rw [show 30 * (n + 1) = 30 * n + 30 by omega, Int.pow_add, Int.mul_comm]
  rfl
theorem two30p (n : Nat) : (0 : Int) < 2 ^ (30 * n) := Int.pow_pos (by decide)
theorem bV_bd {g : Int → Int} : ∀ (n : Nat), (∀ k, 0 ≤ k → k < (n : Int) → 0 ≤ g k ∧ g k < 1073741824) → 0 ≤ bV g n ∧ bV g n < 2 ^ (30 * n)
  | 0, _ => ⟨Int.le_refl 0, by show (0 : Int) < 2 ^ 0; decide⟩
  | n + 1, h => by
    obtain ⟨h1, h2⟩ := bV_bd n (fun k a b => h k a (by omega))
    obtain ⟨h3, h4⟩ := h n (by omega) (by omega)
    have hp := two30p n
    show 0 ≤ bV g n + g n * 2 ^ (30 * n) ∧ bV g n + g n * 2 ^ (30 * n) < 2 ^ (30 * (n + 1))
    rw [two30]
    generalize hP : (2 : Int) ^ (30 * n) = P at *
    have h5 : 0 ≤ g n * P := Int.mul_nonneg h3 (by omega)
    have h6 : g n * P ≤ 1073741823 * P := Int.mul_le_mul_of_nonneg_right (by omega) (by omega)
    omega
theorem bV_ext {g g' : Int → Int} : ∀ (n : Nat), (∀ k : Int, 0 ≤ k → k < (n : Int) → g k = g' k) → bV g n = bV g' n
  | 0, _ => rfl
  | n + 1, h => by
    show bV g n + g n * 2 ^ (30 * n) = bV g' n + g' n * 2 ^ (30 * n)
    rw [bV_ext n (fun k a b => h k a (by omega)), h n (by omega) (by omega)]
/-- a limb is read off the value -/
theorem bV_limb {g : Int → Int} : ∀ (n : Nat), (∀ k, 0 ≤ k → k < (n : Int) → 0 ≤ g k ∧ g k < 1073741824) → ∀ k : Nat, k < n → bV g n / 2 ^ (30 * k) % 1073741824 = g k
  | 0, _, k, hk => by omega
  | n + 1, h, k, hk => by
    obtain ⟨h3, h4⟩ := h n (by omega) (by omega)
    have hb := bV_bd n (fun k a b => h k a (by omega))
    show (bV g n + g n * 2 ^ (30 * n)) / 2 ^ (30 * k) % 1073741824 = g k
    by_cases e : k = n
    · subst e
      rw [Int.add_mul_ediv_right _ _ (by have := two30p k; omega), Int.ediv_eq_zero_of_lt hb.1 hb.2, Int.zero_add, Int.emod_eq_of_lt h3 h4]
    · have e2 : (2 : Int) ^ (30 * n) = 2 ^ (30 * (n - k - 1)) * 1073741824 * 2 ^ (30 * k) := by
        rw [show (1073741824 : Int) = 2 ^ 30 from rfl, ← Int.pow_add, ← Int.pow_add]
        congr 1
        omega
      rw [e2, ← Int.mul_assoc, Int.add_mul_ediv_right _ _ (by have := two30p k; omega), ← Int.mul_assoc, Int.add_mul_emod_self_right]
      exact bV_limb n (fun k a b => h k a (by omega)) k (by omega)
theorem bR_lo {g : Int → Int} {n : Int} {v : Nat} (h : bR g n v) (hn : 0 < n) : (2 : Int) ^ (30 * (n.toNat - 1)) ≤ v := by
  obtain ⟨h0, h1, h2, h3⟩ := h
  obtain ⟨m, hm⟩ : ∃ m : Nat, n.toNat = m + 1 := ⟨n.toNat - 1, by omega⟩
  rw [hm] at h3 ⊢
  rw [show m + 1 - 1 = m by omega]
  have hb := bV_bd m (fun k a b => h1 k a (by omega))
  have h4 := h1 m (by omega) (by omega)
  have h5 : g m ≠ 0 := by
    have := h2 hn
    rwa [show n - 1 = (m : Int) by omega] at this
  have hp := two30p m
  have h6 : bV g m + g m * 2 ^ (30 * m) = v := h3
  generalize hP : (2 : Int) ^ (30 * m) = P at *
  have h7 : 1 * P ≤ g m * P := Int.mul_le_mul_of_nonneg_right (by omega) (by omega)
  omega
theorem bR_size {g : Int → Int} {n : Int} {v : Nat} (h : bR g n v) : n = nlim v := by
  have h0 := h.1
  unfold nlim
  by_cases hn : n = 0
  · subst hn
    have h3 := h.2.2.2
    have : (v : Int) = 0 := h3.symm
    rw [if_pos (by omega)]
  · have hlo := bR_lo h (by omega)
    have hhi := (bV_bd n.toNat (fun k a b => h.2.1 k a (by omega))).2
    rw [h.2.2.2] at hhi
    have hv : v ≠ 0 := by
      intro hv
      subst hv
      have := two30p (n.toNat - 1)
      omega
    rw [if_neg hv]
    have h1 : 2 ^ (30 * (n.toNat - 1)) ≤ v := by
      have e : ((2 ^ (30 * (n.toNat - 1)) : Nat) : Int) ≤ (v : Int) := by rw [Int.natCast_pow]; exact hlo
      omega
    have h2 : v < 2 ^ (30 * n.toNat) := by
      have e : (v : Int) < ((2 ^ (30 * n.toNat) : Nat) : Int) := by rw [Int.natCast_pow]; exact hhi
      omega
    have h3 : v.log2 < 30 * n.toNat := (Nat.log2_lt hv).mpr h2
    have h4 : 30 * (n.toNat - 1) ≤ v.log2 := (Nat.le_log2 hv).mpr h1
    omega
theorem bR_limb {g : Int → Int} {n : Int} {v : Nat} (h : bR g n v) {k : Int} (h0 : 0 ≤ k) (h1 : k < n) : g k = limb v k := by
  have e := bV_limb n.toNat (fun k a b => h.2.1 k a (by omega)) k.toNat (by omega)
  rw [h.2.2.2, Int.toNat_of_nonneg h0] at e
  unfold limb
  rw [Int.natCast_emod, Int.natCast_ediv, Int.natCast_pow]
  exact e.symm
