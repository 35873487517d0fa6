/-! ===== weights by levels ===== -/
def wS (c lv : Nat → Nat) : Nat → Nat → Nat
  | 0, _ => 0
  | k + 1, l => wS c lv k l + (if lv k = l then c k else 0)
def loS (gd : Nat → Bool) (lv : Nat → Nat) : Nat → Nat
  | 0 => 60
  | k + 1 => if gd k = true then min (loS gd lv k) (lv k) else loS gd lv k
def hiS (gd : Nat → Bool) (lv : Nat → Nat) : Nat → Nat
  | 0 => 0
  | k + 1 => if gd k = true then max (hiS gd lv k) (lv k) else hiS gd lv k
def hS (w : Nat → Nat) (R lo : Nat) : Nat → Nat
  | 0 => 0
  | k + 1 => hS w R lo k * (10 - R) + R ^ k * w (lo + k)
def tot (c lv : Nat → Nat) (R n : Nat) : Nat → Nat
  | 0 => 0
  | k + 1 => tot c lv R n k + c k * R ^ lv k * (10 - R) ^ (n - lv k)
theorem lo_le {gd : Nat → Bool} {lv : Nat → Nat} {i : Nat} (hg : gd i = true) : ∀ k, i < k → loS gd lv k ≤ lv i
  | 0, h => by omega
  | k + 1, h => by
    unfold loS
    by_cases he : i = k
    · subst he; rw [if_pos hg]; omega
    · have := lo_le (lv := lv) hg k (by omega)
      split <;> omega
theorem hi_ge {gd : Nat → Bool} {lv : Nat → Nat} {i : Nat} (hg : gd i = true) : ∀ k, i < k → lv i ≤ hiS gd lv k
  | 0, h => by omega
  | k + 1, h => by
    unfold hiS
    by_cases he : i = k
    · subst he; rw [if_pos hg]; omega
    · have := hi_ge (lv := lv) hg k (by omega)
      split <;> omega
theorem hi_60 {gd : Nat → Bool} {lv : Nat → Nat} {n : Nat} (h : ∀ i, lv i ≤ n) : ∀ k, hiS gd lv k ≤ n
  | 0 => Nat.zero_le n
  | k + 1 => by
    have z1 := hi_60 (gd := gd) h k
    have z2 := h k
    unfold hiS
    split <;> omega
theorem lo_60 {gd : Nat → Bool} {lv : Nat → Nat} : ∀ k, loS gd lv k ≤ 60
  | 0 => Nat.le_refl 60
  | k + 1 => by
    have z1 := lo_60 (gd := gd) (lv := lv) k
    unfold loS
    split <;> omega
theorem hS_ext {w w' : Nat → Nat} {R lo : Nat} : ∀ K, (∀ j, j < K → w' (lo + j) = w (lo + j)) → hS w' R lo K = hS w R lo K
  | 0, _ => rfl
  | K + 1, h => by
    unfold hS
    rw [hS_ext K (fun j hj => h j (by omega)), h K (by omega)]
theorem hS_0 {R lo : Nat} : ∀ K, hS (fun _ => 0) R lo K = 0
  | 0 => rfl
  | K + 1 => by
    unfold hS
    rw [hS_0 K, Nat.zero_mul, Nat.mul_zero]
theorem hS_add {w w' : Nat → Nat} {R lo l c : Nat} (hl : lo ≤ l) (hw : ∀ j, w' j = w j + (if l = j then c else 0)) : ∀ K, hS w' R lo K = hS w R lo K + (if l < lo + K then c * R ^ (l - lo) * (10 - R) ^ (lo + K - 1 - l) else 0)
  | 0 => by
    rw [if_neg (by omega)]
    rfl
  | K + 1 => by
    unfold hS
    rw [hS_add hl hw K, hw (lo + K)]
    by_cases h1 : l < lo + K
    · rw [if_pos h1, if_neg (by omega), if_pos (by omega), show lo + (K + 1) - 1 - l = (lo + K - 1 - l) + 1 by omega, Nat.pow_succ, Nat.add_zero, Nat.add_mul]
      rw [← Nat.mul_assoc]
      omega
    · by_cases h2 : l = lo + K
      · rw [if_neg h1, if_pos h2, if_pos (by omega), show lo + (K + 1) - 1 - l = 0 by omega, Nat.pow_zero, Nat.mul_one, Nat.add_zero, show l - lo = K by omega, Nat.mul_add, Nat.mul_comm c]
        omega
      · rw [if_neg h1, if_neg h2, if_neg (by omega), Nat.add_zero, Nat.add_zero, Nat.add_zero]
theorem tot_hS {c lv : Nat → Nat} {R n lo hi : Nat} (hh : hi ≤ n) (hlv : ∀ i, c i ≠ 0 → lo ≤ lv i ∧ lv i ≤ hi) : ∀ k, tot c lv R n k = R ^ lo * (10 - R) ^ (n - hi) * hS (wS c lv k) R lo (hi + 1 - lo)
  | 0 => by
    have : hS (wS c lv 0) R lo (hi + 1 - lo) = 0 := hS_0 _
    rw [this]
    rfl
  | k + 1 => by
    have zi := tot_hS (R := R) hh hlv k
    by_cases hc : c k = 0
    · have e1 : tot c lv R n (k + 1) = tot c lv R n k := by
        show tot c lv R n k + c k * R ^ lv k * (10 - R) ^ (n - lv k) = _
        rw [hc, Nat.zero_mul, Nat.zero_mul, Nat.add_zero]
      have e2 : hS (wS c lv (k + 1)) R lo (hi + 1 - lo) = hS (wS c lv k) R lo (hi + 1 - lo) := hS_ext _ (fun j _ => by
        show wS c lv k (lo + j) + (if lv k = lo + j then c k else 0) = _
        rw [hc]
        split <;> rfl)
      rw [e1, e2, zi]
    · obtain ⟨b1, b2⟩ := hlv k hc
      have e2 := hS_add (w := wS c lv k) (w' := wS c lv (k + 1)) (R := R) (lo := lo) (l := lv k) (c := c k) b1 (fun j => rfl) (hi + 1 - lo)
      rw [if_pos (by omega)] at e2
      show tot c lv R n k + c k * R ^ lv k * (10 - R) ^ (n - lv k) = _
      rw [e2, zi, Nat.mul_add]
      congr 1
      rw [show lo + (hi + 1 - lo) - 1 - lv k = hi - lv k by omega]
      have p1 : R ^ lv k = R ^ lo * R ^ (lv k - lo) := by rw [← Nat.pow_add, show lo + (lv k - lo) = lv k by omega]
      have p2 : (10 - R) ^ (n - lv k) = (10 - R) ^ (n - hi) * (10 - R) ^ (hi - lv k) := by rw [← Nat.pow_add, show n - hi + (hi - lv k) = n - lv k by omega]
      rw [p1, p2]
      generalize R ^ lo = x1
      generalize R ^ (lv k - lo) = x2
      generalize (10 - R) ^ (n - hi) = x3
      generalize (10 - R) ^ (hi - lv k) = x4
      grind
theorem hS_bd {w : Nat → Nat} {R lo : Nat} (hR : 1 ≤ R ∧ R ≤ 9) (hw : ∀ j, w j ≤ 24) : ∀ K, hS w R lo K ≤ 24 * K * 9 ^ K
  | 0 => Nat.zero_le _
  | K + 1 => by
    have zi := hS_bd (lo := lo) hR hw K
    have z1 := hw (lo + K)
    have z2 : R ^ K ≤ 9 ^ K := Nat.pow_le_pow_left hR.2 K
    have z3 : hS w R lo K * (10 - R) ≤ 24 * K * 9 ^ K * 9 := Nat.mul_le_mul zi (by omega)
    have z4 : R ^ K * w (lo + K) ≤ 9 ^ K * 24 := Nat.mul_le_mul z2 z1
    unfold hS
    rw [Nat.pow_succ]
    generalize 9 ^ K = y at *
    have z5 : 24 * (K + 1) * (y * 9) = 24 * K * y * 9 + 24 * 9 * y := by grind
    omega
theorem bd_61 {K : Nat} (h : K ≤ 61) : 24 * K * 9 ^ K * 9 + 30 * 9 ^ K * 30 < 1766847064778384329583297500742918515827483896875618958121606201292619776 := by
  have z1 : 9 ^ K ≤ 9 ^ 61 := Nat.pow_le_pow_right (by decide) h
  have z2 : 24 * K * 9 ^ K * 9 ≤ 24 * 61 * 9 ^ 61 * 9 := Nat.mul_le_mul (Nat.mul_le_mul (by omega) z1) (Nat.le_refl 9)
  have z3 : 30 * 9 ^ K * 30 ≤ 30 * 9 ^ 61 * 30 := Nat.mul_le_mul (Nat.mul_le_mul (Nat.le_refl 30) z1) (Nat.le_refl 30)
  have z4 : 24 * 61 * 9 ^ 61 * 9 + 30 * 9 ^ 61 * 30 < 1766847064778384329583297500742918515827483896875618958121606201292619776 := by decide
  omega
theorem wS_bd {c lv : Nat → Nat} {l : Nat} : ∀ k, wS c lv k l ≤ tot c (fun _ => 0) 1 0 k
  | 0 => Nat.le_refl 0
  | k + 1 => by
    have := wS_bd (c := c) (lv := lv) (l := l) k
    unfold wS tot
    simp
    split <;> omega
theorem gcd_sc {K A B : Nat} (hK : 0 < K) : K * A / Nat.gcd (K * A) (K * B) = A / Nat.gcd A B := by
  rw [Nat.gcd_mul_left, Nat.mul_div_mul_left _ _ hK]
theorem gcd_sc2 {K A B : Nat} (hK : 0 < K) : K * B / Nat.gcd (K * A) (K * B) = B / Nat.gcd A B := by
  rw [Nat.gcd_mul_left, Nat.mul_div_mul_left _ _ hK]
