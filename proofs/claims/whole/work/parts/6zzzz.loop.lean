/-! ===== the law: its loop ===== -/
section
variable {sh : zSh} {pp : zPp} {mm : zMm} {Q : zV → zSh → zPp → zMm → Prop} {L : Nat} {xs : Nat → Int32}
theorem zand63 (x : Int) : zand x 63 = x % 64 := by
  show (BitVec.ofInt 32 x &&& BitVec.ofInt 32 63).toInt = _
  have e0 : (BitVec.ofInt 32 63).toNat = 2 ^ 6 - 1 := by decide
  have e : (BitVec.ofInt 32 x &&& BitVec.ofInt 32 63).toNat = (x % 64).toNat := by
    rw [BitVec.toNat_and, e0, Nat.and_two_pow_sub_one_eq_mod, BitVec.toNat_ofInt]
    have h1 : 0 ≤ x % ((2 ^ 32 : Nat) : Int) := Int.emod_nonneg _ (by decide)
    have h2 : (x % ((2 ^ 32 : Nat) : Int)) % 64 = x % 64 := Int.emod_emod_of_dvd x (by decide)
    omega
  rw [BitVec.toInt_eq_toNat_of_lt (by rw [e]; omega), e]
  omega
theorem law_sw {i : Int} (i0 : 0 ≤ i) (i4 : i + 4 < (L : Int)) (iL : (L : Int) ≤ 2560) (hI : lwI L xs sh pp mm) {w : Int} (w0 : 0 ≤ w) (w1 : w < 64) (hz : ∀ sh pp mm, lwI L xs sh pp mm → zS 273 1160 [zR 1, zR 13, zR 122, zI i] [] sh pp mm Q) : zS 273 32 [zR 1, zR 13, zR 122, zI i] [zI w] sh pp mm Q := by
  have cs : w = 0 ∨ w = 1 ∨ w = 2 ∨ w = 3 ∨ w = 4 ∨ w = 5 ∨ w = 6 ∨ w = 7 ∨ w = 8 ∨ w = 9 ∨ w = 10 ∨ w = 11 ∨ w = 12 ∨ w = 13 ∨ w = 14 ∨ w = 15 ∨ w = 16 ∨ w = 17 ∨ w = 18 ∨ w = 19 ∨ w = 20 ∨ w = 21 ∨ w = 22 ∨ w = 23 ∨ w = 24 ∨ w = 25 ∨ w = 26 ∨ w = 27 ∨ w = 28 ∨ w = 29 ∨ w = 30 ∨ w = 31 ∨ w = 32 ∨ w = 33 ∨ w = 34 ∨ 34 < w := by
    clear hz hI
    omega
  rcases cs with rfl | rfl | rfl | rfl | rfl | rfl | rfl | rfl | rfl | rfl | rfl | rfl | rfl | rfl | rfl | rfl | rfl | rfl | rfl | rfl | rfl | rfl | rfl | rfl | rfl | rfl | rfl | rfl | rfl | rfl | rfl | rfl | rfl | rfl | rfl | hw
  · rw [rW_law_32_0]; exact law_put i0 i4 iL hI hz
  · rw [rW_law_32_1]; exact law_type i0 i4 iL hI hz
  · rw [rW_law_32_2]; exact law_clear i0 i4 iL hI hz
  · rw [rW_law_32_3]; exact law_fault i0 i4 iL hI hz
  · rw [rW_law_32_4]; exact law_draws i0 i4 iL hI hz
  · rw [rW_law_32_5]; exact law_cell i0 i4 iL hI hz
  · rw [rW_law_32_6]; exact law_point i0 i4 iL hI hz
  · rw [rW_law_32_7]; exact law_same i0 i4 iL hI hz
  · rw [rW_law_32_8]; exact law_quickest i0 i4 iL hI hz
  · rw [rW_law_32_9]; exact law_wish i0 i4 iL hI hz
  · rw [rW_law_32_10]; exact law_forget i0 i4 iL hI hz
  · rw [rW_law_32_11]; exact law_right i0 i4 iL hI hz
  · rw [rW_law_32_12]; exact law_corner i0 i4 iL hI hz
  · rw [rW_law_32_13]; exact law_edge i0 i4 iL hI hz
  · rw [rW_law_32_14]; exact law_unnet i0 i4 iL hI hz
  · rw [rW_law_32_15]; exact law_odd i0 i4 iL hI hz
  · rw [rW_law_32_16]; exact law_once i0 i4 iL hI hz
  · rw [rW_law_32_17]; exact law_trail i0 i4 iL hI hz
  · rw [rW_law_32_18]; exact law_starts i0 i4 iL hI hz
  · rw [rW_law_32_19]; exact law_bends i0 i4 iL hI hz
  · rw [rW_law_32_20]; exact law_again i0 i4 iL hI hz
  · rw [rW_law_32_21]; exact law_round i0 i4 iL hI hz
  · rw [rW_law_32_22]; exact law_see i0 i4 iL hI hz
  · rw [rW_law_32_23]; exact law_odds i0 i4 iL hI hz
  · rw [rW_law_32_24]; exact law_shaken i0 i4 iL hI hz
  · rw [rW_law_32_25]; exact law_before i0 i4 iL hI hz
  · rw [rW_law_32_26]; exact law_test i0 i4 iL hI hz
  · rw [rW_law_32_27]; exact law_span i0 i4 iL hI hz
  · rw [rW_law_32_28]; exact law_sign i0 i4 iL hI hz
  · rw [rW_law_32_29]; exact law_limb i0 i4 iL hI hz
  · rw [rW_law_32_30]; exact law_image i0 i4 iL hI hz
  · rw [rW_law_32_31]; exact law_from i0 i4 iL hI hz
  · rw [rW_law_32_32]; exact law_status i0 i4 iL hI hz
  · rw [rW_law_32_33]; exact law_count i0 i4 iL hI hz
  · rw [rW_law_32_34]; exact law_digest i0 i4 iL hI hz
  · rw [rW_law_32_d (Or.inr hw)]; exact hz _ _ _ hI
theorem law_loop (iL : (L : Int) ≤ 2560) (hQ : ∀ sh pp mm, lwI L xs sh pp mm → Q (zI 1) sh pp mm) : ∀ (d k : Nat) (sh : zSh) (pp : zPp) (mm : zMm), k + d = L / 5 → lwI L xs sh pp mm → zS 273 18 [zR 1, zR 13, zR 122, zI (5 * (k : Int))] [] sh pp mm Q := by
  intro d
  induction d with
  | zero =>
    intro k sh pp mm hk hI
    have q := hQ sh pp mm hI
    obtain ⟨f, G, cn, N, D, v, c, m, ⟨k1, l1⟩, hx⟩ := hI
    have kk : 20 ≤ zKd sh 1 ∧ zKd sh 1 < 50 ∧ zKd sh 1 ≠ 31 := by rw [k1]; decide
    rw [rW_law_18]
    simp (disch := first | assumption | omega) only [rW_law_19, rW_law_20, rW_law_21, rW_law_22, rW_law_23, rW_law_1166, rW_law_1167, Bool.false_eq_true, true_implies, false_implies, implies_true, true_and, and_true, not_true_eq_false, not_false_eq_true, zPush_I, zPush_L, zPush_R, zPush_U, Int.reduceLT, Int.reduceLE, Int.reduceEq, Int.reduceNe, Int.reduceAdd, Int.reduceSub, Int.reduceMul, Int.reduceNeg, Int.reduceToNat, Nat.reduceAdd, Nat.reduceMul, Nat.reduceEqDiff, zw32_id, zw64_id, zupd_eq, zupd_na, zupd_ni, zupp_eq, zupp_na, zupp_ni, l1, eq_true (show (L : Int) - 5 < 5 * (k : Int) by omega), true_or, or_true]
    exact q
  | succ d ih =>
    intro k sh pp mm hk hI
    have hI' := hI
    obtain ⟨f, G, cn, N, D, v, c, m, ⟨k1, l1⟩, hx⟩ := hI'
    have kk : 20 ≤ zKd sh 1 ∧ zKd sh 1 < 50 ∧ zKd sh 1 ≠ 31 := by rw [k1]; decide
    have kb : zKd sh 1 = 20 ∨ zKd sh 1 = 30 := Or.inr k1
    have hs := law_sw (Q := Q) (i := 5 * (k : Int)) (w := mm 1 (5 * (k : Int)) % 64) (by omega) (by omega) iL hI (by omega) (by omega) (fun sh' pp' mm' hI2 => by
      have n := ih (k + 1) sh' pp' mm' (by omega) hI2
      rw [show 5 * ((k + 1 : Nat) : Int) = 5 * (k : Int) + 5 by omega] at n
      simp (disch := first | assumption | omega) only [rW_law_1160, rW_law_1163, Bool.false_eq_true, true_implies, false_implies, implies_true, true_and, and_true, not_true_eq_false, not_false_eq_true, zPush_I, zPush_L, zPush_R, zPush_U, Int.reduceLT, Int.reduceLE, Int.reduceEq, Int.reduceNe, Int.reduceAdd, Int.reduceSub, Int.reduceMul, Int.reduceNeg, Int.reduceToNat, Nat.reduceAdd, Nat.reduceMul, Nat.reduceEqDiff, zw32_id, zw64_id, zupd_eq, zupd_na, zupd_ni, zupp_eq, zupp_na, zupp_ni]
      exact n)
    rw [rW_law_18]
    simp (disch := first | assumption | omega) only [rW_law_19, rW_law_20, rW_law_21, rW_law_22, rW_law_23, rW_law_26, rW_law_27, rW_law_28, rW_law_29, rW_law_31, Bool.false_eq_true, true_implies, false_implies, implies_true, true_and, and_true, not_true_eq_false, not_false_eq_true, zPush_I, zPush_L, zPush_R, zPush_U, Int.reduceLT, Int.reduceLE, Int.reduceEq, Int.reduceNe, Int.reduceAdd, Int.reduceSub, Int.reduceMul, Int.reduceNeg, Int.reduceToNat, Nat.reduceAdd, Nat.reduceMul, Nat.reduceEqDiff, zw32_id, zw64_id, zupd_eq, zupd_na, zupd_ni, zupp_eq, zupp_na, zupp_ni, l1, eq_false (show ¬ (L : Int) - 5 < 5 * (k : Int) by omega), zand63]
    exact hs
end
