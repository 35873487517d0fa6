/-! ===== the small machine's numbers are the machine's ===== -/
def zn32 (x : Int) : Prop := -2147483648 ≤ x ∧ x ≤ 2147483647
def zn64 (x : Int) : Prop := -9223372036854775808 ≤ x ∧ x ≤ 9223372036854775807
theorem zt32 {x : Int} (h : zn32 x) : (Int32.ofInt x).toInt = x := Int32.toInt_ofInt_of_le (by have := h.1; omega) (by have := h.2; omega)
theorem zt64 {x : Int} (h : zn64 x) : (Int64.ofInt x).toInt = x := Int64.toInt_ofInt_of_le (by have := h.1; omega) (by have := h.2; omega)
theorem zr32 (X : Int32) : zn32 X.toInt := ⟨by have := X.le_toInt; omega, by have := X.toInt_lt; omega⟩
theorem zr64 (X : Int64) : zn64 X.toInt := ⟨by have := X.le_toInt; omega, by have := X.toInt_lt; omega⟩
theorem zb32 (x : Int) : x.bmod 4294967296 = zw32 x := by unfold zw32; rw [Int.bmod_def]; split <;> omega
theorem zb64 (x : Int) : x.bmod 18446744073709551616 = zw64 x := by unfold zw64; rw [Int.bmod_def]; split <;> omega
theorem zo32 (x : Int) : Int32.ofInt (zw32 x) = Int32.ofInt x := by
  apply Int32.toInt_inj.mp
  rw [zt32 ⟨zw32_lo x, zw32_hi x⟩, Int32.toInt_ofInt]
  exact (zb32 x).symm
theorem zo64 (x : Int) : Int64.ofInt (zw64 x) = Int64.ofInt x := by
  apply Int64.toInt_inj.mp
  rw [zt64 ⟨zw64_lo x, zw64_hi x⟩, Int64.toInt_ofInt]
  exact (zb64 x).symm
theorem zn32_w (x : Int) : zn32 (zw32 x) := ⟨zw32_lo x, zw32_hi x⟩
theorem zn64_w (x : Int) : zn64 (zw64 x) := ⟨zw64_lo x, zw64_hi x⟩
theorem zn64_of {x : Int} (h : zn32 x) : zn64 x := ⟨by have := h.1; omega, by have := h.2; omega⟩
theorem zo_add (x y : Int) : Int32.ofInt (zw32 (x + y)) = Int32.ofInt x + Int32.ofInt y := by rw [zo32, Int32.ofInt_add]
theorem zo_sub (x y : Int) : Int32.ofInt (zw32 (x - y)) = Int32.ofInt x - Int32.ofInt y := by rw [zo32, Int32.ofInt_sub]
theorem zo_mul (x y : Int) : Int32.ofInt (zw32 (x * y)) = Int32.ofInt x * Int32.ofInt y := by rw [zo32, Int32.ofInt_mul]
theorem zo_neg (x : Int) : Int32.ofInt (zw32 (-x)) = -Int32.ofInt x := by rw [zo32, Int32.ofInt_neg]
theorem zo_ladd (x y : Int) : Int64.ofInt (zw64 (x + y)) = Int64.ofInt x + Int64.ofInt y := by rw [zo64, Int64.ofInt_add]
theorem zo_lsub (x y : Int) : Int64.ofInt (zw64 (x - y)) = Int64.ofInt x - Int64.ofInt y := by rw [zo64, Int64.ofInt_sub]
theorem zo_lmul (x y : Int) : Int64.ofInt (zw64 (x * y)) = Int64.ofInt x * Int64.ofInt y := by rw [zo64, Int64.ofInt_mul]
theorem zo_div {x y : Int} (hx : zn32 x) (hy : zn32 y) : Int32.ofInt (zw32 (x.tdiv y)) = Int32.ofInt x / Int32.ofInt y := by
  apply Int32.toInt_inj.mp
  rw [zt32 (zn32_w _), Int32.toInt_div, zt32 hx, zt32 hy]
  exact (zb32 _).symm
theorem zo_ldiv {x y : Int} (hx : zn64 x) (hy : zn64 y) : Int64.ofInt (zw64 (x.tdiv y)) = Int64.ofInt x / Int64.ofInt y := by
  apply Int64.toInt_inj.mp
  rw [zt64 (zn64_w _), Int64.toInt_div, zt64 hx, zt64 hy]
  exact (zb64 _).symm
theorem zo_rem {x y : Int} (hx : zn32 x) (hy : zn32 y) : Int32.ofInt (x.tmod y) = Int32.ofInt x - Int32.ofInt x / Int32.ofInt y * Int32.ofInt y := by
  rw [← zo_div hx hy, zo32, Int.tmod_def, Int32.ofInt_sub, Int32.ofInt_mul, Int32.mul_comm]
theorem zo_lrem {x y : Int} (hx : zn64 x) (hy : zn64 y) : Int64.ofInt (x.tmod y) = Int64.ofInt x - Int64.ofInt x / Int64.ofInt y * Int64.ofInt y := by
  rw [← zo_ldiv hx hy, zo64, Int.tmod_def, Int64.ofInt_sub, Int64.ofInt_mul, Int64.mul_comm]
theorem zn_tmod {x y : Int} {n : Int} (h : -n ≤ x) (h2 : x < n) : -n ≤ x.tmod y ∧ x.tmod y < n := by
  have e := Int.natAbs_tmod x y
  have l : x.natAbs % y.natAbs ≤ x.natAbs := Nat.mod_le _ _
  rcases Int.le_total 0 x with h0 | h0
  · have := Int.tmod_nonneg y h0
    omega
  · have h3 : 0 ≤ (-x).tmod y := Int.tmod_nonneg y (by omega)
    rw [Int.neg_tmod] at h3
    omega
theorem zn32_tmod {x y : Int} (h : zn32 x) : zn32 (x.tmod y) := by
  have := zn_tmod (y := y) (n := 2147483648) (x := x) (by have := h.1; omega) (by have := h.2; omega)
  exact ⟨by omega, by omega⟩
theorem zn64_tmod {x y : Int} (h : zn64 x) : zn64 (x.tmod y) := by
  have := zn_tmod (y := y) (n := 9223372036854775808) (x := x) (by have := h.1; omega) (by have := h.2; omega)
  exact ⟨by omega, by omega⟩
theorem zo_lt {x y : Int} (hx : zn32 x) (hy : zn32 y) : Int32.ofInt x < Int32.ofInt y ↔ x < y := by rw [Int32.lt_iff_toInt_lt, zt32 hx, zt32 hy]
theorem zo_le {x y : Int} (hx : zn32 x) (hy : zn32 y) : Int32.ofInt x ≤ Int32.ofInt y ↔ x ≤ y := by rw [Int32.le_iff_toInt_le, zt32 hx, zt32 hy]
theorem zo_eq {x y : Int} (hx : zn32 x) (hy : zn32 y) : Int32.ofInt x = Int32.ofInt y ↔ x = y := by rw [← Int32.toInt_inj, zt32 hx, zt32 hy]
theorem zo_leq {x y : Int} (hx : zn64 x) (hy : zn64 y) : Int64.ofInt x = Int64.ofInt y ↔ x = y := by rw [← Int64.toInt_inj, zt64 hx, zt64 hy]
theorem zo_llt {x y : Int} (hx : zn64 x) (hy : zn64 y) : Int64.ofInt x < Int64.ofInt y ↔ x < y := by rw [Int64.lt_iff_toInt_lt, zt64 hx, zt64 hy]
theorem zn0 : zn32 0 := ⟨by decide, by decide⟩
theorem zo_0 : Int32.ofInt 0 = 0 := rfl
theorem zo_cmp {x y : Int} (hx : zn64 x) (hy : zn64 y) : Int32.ofInt (zcmp x y) = lg_cmp (Int64.ofInt x) (Int64.ofInt y) := by
  unfold zcmp lg_cmp
  by_cases h : x < y
  · rw [if_pos h, if_neg (by rw [gt_iff_lt, zo_llt hy hx]; omega), if_neg (by rw [zo_leq hx hy]; omega)]; rfl
  · by_cases h2 : x = y
    · rw [if_neg h, if_pos h2, if_neg (by rw [gt_iff_lt, zo_llt hy hx]; omega), if_pos (by rw [zo_leq hx hy]; exact h2)]; rfl
    · rw [if_neg h, if_neg h2, if_pos (by rw [gt_iff_lt, zo_llt hy hx]; omega)]; rfl
theorem zn32_cmp (x y : Int) : zn32 (zcmp x y) := by unfold zcmp; (repeat' split) <;> exact ⟨by decide, by decide⟩
theorem zo_i2l {x : Int} (h : zn32 x) : (Int32.ofInt x).toInt64 = Int64.ofInt x := by
  apply Int64.toInt_inj.mp
  rw [Int32.toInt_toInt64, zt32 h, zt64 (zn64_of h)]
theorem zo_l2i (x : Int) : (Int64.ofInt x).toInt32 = Int32.ofInt (zw32 x) := by rw [zo32, Int64.toInt32_ofInt]
theorem zo_nat {i : Int} (h : zn32 i) : (Int32.ofInt i).toNatClampNeg = i.toNat := by show (Int32.ofInt i).toInt.toNat = _; rw [zt32 h]
theorem zo_ofNat (n : Nat) : Int32.ofInt (n : Int) = Int32.ofNat n := Int32.ofInt_eq_ofNat
theorem zo_in {i : Int} {n : Nat} (h : zn32 i) (h0 : 0 ≤ i) (h1 : i < (n : Int)) : vp_in (Int32.ofInt i) n := by
  unfold vp_in
  rw [zo_nat h, ← zo_0, zo_lt h zn0]
  omega
