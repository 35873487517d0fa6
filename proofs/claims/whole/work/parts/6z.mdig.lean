/-! ===== digest of the reference ===== -/
def h31 (h x : Int) : Int := zw64 (zw64 (31 * h) + x)
def dgS (g : Int → Int) (b : Int) : Nat → Int → Int
  | 0, h => h
  | n + 1, h => h31 (dgS g b n h) (g (b + (n : Int)))
def dgC (f : Int → Int) : Nat → Int
  | 0 => 599
  | n + 1 => h31 (dgC f n) (cntOf f (n : Int))
def dgT (f : Int → Int) (h : Int) : Nat → Int
  | 0 => h
  | p + 1 => dgS f (9 + 121 * (p : Int) + 1) (f (9 + 121 * (p : Int))).toNat (dgT f h p)
def oDigest (f : Int → Int) (N D : Nat) : Int :=
  dgS (limb D) 0 (nlim D).toNat (dgS (limb N) 0 (nlim N).toNat (h31 (h31 (h31 (dgS f 957 (3 * f 984).toNat (dgS f 573 384 (dgS f 537 (3 * f 983).toNat (dgS f 517 (2 * f 982).toNat (dgS f 493 (2 * f 981).toNat (dgT f (dgS f 0 9 (dgC f 9)) 4)))))) (if N = 0 then 0 else 1)) (nlim N)) (nlim D)))
section
variable {sh : zSh} {pp : zPp} {mm : zMm} {Q : zV → zSh → zPp → zMm → Prop} {f : Int → Int} {G : Int → Option (Int → Int)} {cn : Int → Int} {N D : Nat}
theorem mSums (h : zLy sh pp) (hm : ∀ k, 0 ≤ k → k < 986 → mm 123 k = f k) {b n h0 : Int} (b0 : 0 ≤ b) (n0 : 0 ≤ n) (bn : b + n ≤ 986) (hQ : Q (zL (dgS f b n.toNat h0)) sh pp mm) : zS 253 0 [zR 122, zL h0, zU, zI b, zI n, zU, zU, zU] [] sh pp mm Q := by
  have k122 := k_122 h
  have k123 := k_123 h
  have l123 := l_123 h
  have p123 := p_122_0 h
  obtain ⟨K, hK⟩ : ∃ K : Nat, n = (K : Int) := ⟨n.toNat, by omega⟩
  subst hK
  rw [Int.toNat_natCast] at hQ
  have key : ∀ (d i : Nat), i + d = K → zS 253 6 [zR 122, zU, zU, zI b, zI K, zL (dgS f b i h0), zU, zI i] [] sh pp mm Q := by
    intro d
    induction d with
    | zero =>
      intro i hi
      have hi : i = K := by omega
      subst hi
      rw [rM_sums_6]
      simp (disch := first | assumption | omega) only [rM_sums_8, rM_sums_10, rM_sums_13, rM_sums_16, rM_sums_18, rM_sums_19, rM_sums_20, rM_sums_23, rM_sums_24, rM_sums_26, rM_sums_27, rM_sums_28, rM_sums_29, rM_sums_30, rM_sums_32, rM_sums_35, rM_sums_38, rM_sums_40, Bool.false_eq_true, true_implies, false_implies, implies_true, true_and, and_true, not_true_eq_false, not_false_eq_true, zPush_I, zPush_L, zPush_R, zPush_U, Int.reduceLT, Int.reduceLE, Int.reduceEq, Int.reduceNe, Int.reduceAdd, Int.reduceSub, Int.reduceMul, Int.reduceNeg, Int.reduceToNat, Nat.reduceAdd, Nat.reduceMul, Nat.reduceEqDiff, zw32_id, zw64_id, zupd_eq, zupd_na, zupd_ni, zupp_eq, zupp_na, zupp_ni, Int.lt_irrefl]
      exact hQ
    | succ d ih =>
      intro i hi
      have e := hm (b + (i : Int)) (by omega) (by omega)
      have nx := ih (i + 1) (by omega)
      have es : dgS f b (i + 1) h0 = h31 (dgS f b i h0) (f (b + (i : Int))) := rfl
      rw [es] at nx
      unfold h31 at nx
      push_cast at nx
      rw [rM_sums_6]
      simp only [rM_sums_8, rM_sums_10, rM_sums_13, rM_sums_16, rM_sums_18, rM_sums_19, rM_sums_20, rM_sums_23, rM_sums_24, rM_sums_26, rM_sums_27, rM_sums_28, rM_sums_29, rM_sums_30, rM_sums_32, rM_sums_35, show (i : Int) < (K : Int) by omega, true_implies, not_true_eq_false, false_implies, and_true, k122, p123]
      rw [rM_sums_27 (by omega) (by rw [zw32_id (by omega) (by omega)]; omega) (by rw [zw32_id (by omega) (by omega)]; omega)]
      simp (disch := first | assumption | omega) only [rM_sums_28, rM_sums_29, rM_sums_30, rM_sums_32, rM_sums_35, Bool.false_eq_true, true_implies, false_implies, implies_true, true_and, and_true, not_true_eq_false, not_false_eq_true, zPush_I, zPush_L, zPush_R, zPush_U, Int.reduceLT, Int.reduceLE, Int.reduceEq, Int.reduceNe, Int.reduceAdd, Int.reduceSub, Int.reduceMul, Int.reduceNeg, Int.reduceToNat, Nat.reduceAdd, Nat.reduceMul, Nat.reduceEqDiff, zw32_id, zw64_id, zupd_eq, zupd_na, zupd_ni, zupp_eq, zupp_na, zupp_ni, e]
      exact nx
  simp (disch := first | assumption | omega) only [rM_sums_0, rM_sums_1, rM_sums_3, rM_sums_4, Bool.false_eq_true, true_implies, false_implies, implies_true, true_and, and_true, not_true_eq_false, not_false_eq_true, zPush_I, zPush_L, zPush_R, zPush_U, Int.reduceLT, Int.reduceLE, Int.reduceEq, Int.reduceNe, Int.reduceAdd, Int.reduceSub, Int.reduceMul, Int.reduceNeg, Int.reduceToNat, Nat.reduceAdd, Nat.reduceMul, Nat.reduceEqDiff, zw32_id, zw64_id, zupd_eq, zupd_na, zupd_ni, zupp_eq, zupp_na, zupp_ni]
  exact key K 0 (by omega)
end
