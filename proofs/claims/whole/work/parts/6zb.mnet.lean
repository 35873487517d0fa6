/-! ===== nets of the reference: odd corners, bits ===== -/
def nA (f : Int → Int) (e : Nat) : Nat := if e < 12 then (f (537 + 3 * (e : Int))).toNat else 0
def nC (f : Int → Int) (e : Nat) : Nat := if e < 12 then (f (537 + 3 * (e : Int) + 1)).toNat else 0
def nE (f : Int → Int) : Nat := (f 983).toNat
def pcN (S : Nat) : Nat → Nat
  | 0 => 0
  | n + 1 => pcN S n + (if S.testBit n = true then 1 else 0)
theorem pcN_le (S : Nat) : ∀ n, pcN S n ≤ n
  | 0 => Nat.le_refl 0
  | n + 1 => by
    have := pcN_le S n
    unfold pcN
    split <;> omega
theorem bit_i {R k : Nat} (hR : R < 2147483648) (hk : k < 31) : zand (zshr (R : Int) (k : Int)) 1 = (if R.testBit k = true then 1 else 0) := by
  rw [zshrD (by omega) (by omega) (by omega), zand1, Nat.testBit_eq_decide_div_mod_eq]
  have e : ((R : Int) / 2 ^ k % 2) = ((R / 2 ^ k % 2 : Nat) : Int) := by simp
  rw [e]
  have := Nat.mod_two_eq_zero_or_one (R / 2 ^ k)
  rcases this with h | h <;> rw [h] <;> simp
theorem two_lt10 {k : Nat} (h : k ≤ 9) : 2 ^ k < 1024 := by
  have := Nat.pow_lt_pow_right (a := 2) (by omega) (show k < 10 by omega)
  simpa using this
theorem oddS_lt {A C : Nat → Nat} {R : Nat} : ∀ n, (∀ e, e < n → A e ≤ 9 ∧ C e ≤ 9) → oddS A C R n < 1024
  | 0, _ => by unfold oddS; omega
  | n + 1, h => by
    have i := oddS_lt (R := R) n (fun e he => h e (by omega))
    have a := two_lt10 (h n (by omega)).1
    have c := two_lt10 (h n (by omega)).2
    unfold oddS
    split
    · exact Nat.xor_lt_two_pow (n := 10) i (Nat.xor_lt_two_pow (n := 10) a c)
    · rw [Nat.xor_zero]; exact i
theorem nE_eq {f : Int → Int} (ok : fOk f) : f 983 = (nE f : Int) := by
  have := ok.2.2.2.2.1.1
  unfold nE
  omega
theorem nE_le {f : Int → Int} (ok : fOk f) : nE f ≤ 12 := by
  have := ok.2.2.2.2.1.2.1
  unfold nE
  omega
theorem nAC {f : Int → Int} (ok : fOk f) {e : Nat} (he : e < nE f) : f (537 + 3 * (e : Int)) = (nA f e : Int) ∧ f (537 + 3 * (e : Int) + 1) = (nC f e : Int) ∧ nA f e < (f 982).toNat ∧ nC f e < (f 982).toNat ∧ nA f e ≠ nC f e ∧ nA f e ≤ 9 ∧ nC f e ≤ 9 := by
  have h := ok.2.2.2.2.1.2.2 (e : Int) (by omega) (by have := nE_eq ok; omega)
  have h2 := ok.2.2.2.1.1
  have h3 := ok.2.2.2.1.2.1
  have l := nE_le ok
  unfold nA nC
  rw [if_pos (by omega), if_pos (by omega)]
  omega
section
variable {sh : zSh} {pp : zPp} {mm : zMm} {Q : zV → zSh → zPp → zMm → Prop} {f : Int → Int} {G : Int → Option (Int → Int)} {cn : Int → Int} {N D : Nat}
theorem kM_bitsOf {S : Nat} (hS : S < 2147483648) : zS 216 0 [zI S, zU, zU] [] sh pp mm Q ↔ Q (zI (pcN S 12 : Nat)) sh pp mm := by
  have key : ∀ (d i : Nat), i + d = 12 → (zS 216 4 [zI S, zI (pcN S i : Nat), zI i] [] sh pp mm Q ↔ Q (zI (pcN S 12 : Nat)) sh pp mm) := by
    intro d
    induction d with
    | zero =>
      intro i hi
      have hi : i = 12 := by omega
      subst hi
      rw [rM_bitsOf_4]
      simp (disch := first | assumption | omega) only [rM_bitsOf_5, rM_bitsOf_7, rM_bitsOf_10, rM_bitsOf_11, rM_bitsOf_12, rM_bitsOf_13, rM_bitsOf_14, rM_bitsOf_15, rM_bitsOf_16, rM_bitsOf_17, rM_bitsOf_18, rM_bitsOf_21, rM_bitsOf_24, rM_bitsOf_25, Bool.false_eq_true, true_implies, false_implies, implies_true, true_and, and_true, not_true_eq_false, not_false_eq_true, zPush_I, zPush_L, zPush_R, zPush_U, Int.reduceLT, Int.reduceLE, Int.reduceEq, Int.reduceNe, Int.reduceAdd, Int.reduceSub, Int.reduceMul, Int.reduceNeg, Int.reduceToNat, Nat.reduceAdd, Nat.reduceMul, Nat.reduceEqDiff, zw32_id, zw64_id, zupd_eq, zupd_na, zupd_ni, zupp_eq, zupp_na, zupp_ni, Int.cast_ofNat_Int, Int.lt_irrefl]
    | succ d ih =>
      intro i hi
      have nx := ih (i + 1) (by omega)
      have b := bit_i hS (show i < 31 by omega)
      have l := pcN_le S i
      have es : ((pcN S (i + 1) : Nat) : Int) = (pcN S i : Nat) + (if S.testBit i = true then 1 else 0) := by
        show ((pcN S i + (if S.testBit i = true then 1 else 0) : Nat) : Int) = _
        split <;> omega
      rw [es, show ((i + 1 : Nat) : Int) = (i : Int) + 1 by omega] at nx
      rw [rM_bitsOf_4]
      simp (disch := first | assumption | omega) only [rM_bitsOf_5, rM_bitsOf_7, rM_bitsOf_10, rM_bitsOf_11, rM_bitsOf_12, rM_bitsOf_13, rM_bitsOf_14, rM_bitsOf_15, rM_bitsOf_16, rM_bitsOf_17, rM_bitsOf_18, rM_bitsOf_21, Bool.false_eq_true, true_implies, false_implies, implies_true, true_and, and_true, not_true_eq_false, not_false_eq_true, zPush_I, zPush_L, zPush_R, zPush_U, Int.reduceLT, Int.reduceLE, Int.reduceEq, Int.reduceNe, Int.reduceAdd, Int.reduceSub, Int.reduceMul, Int.reduceNeg, Int.reduceToNat, Nat.reduceAdd, Nat.reduceMul, Nat.reduceEqDiff, zw32_id, zw64_id, zupd_eq, zupd_na, zupd_ni, zupp_eq, zupp_na, zupp_ni, eq_true (show (i : Int) < 12 by omega), b]
      exact nx
  simp (disch := first | assumption | omega) only [rM_bitsOf_0, rM_bitsOf_1, rM_bitsOf_2, rM_bitsOf_3, Bool.false_eq_true, true_implies, false_implies, implies_true, true_and, and_true, not_true_eq_false, not_false_eq_true, zPush_I, zPush_L, zPush_R, zPush_U, Int.reduceLT, Int.reduceLE, Int.reduceEq, Int.reduceNe, Int.reduceAdd, Int.reduceSub, Int.reduceMul, Int.reduceNeg, Int.reduceToNat, Nat.reduceAdd, Nat.reduceMul, Nat.reduceEqDiff, zw32_id, zw64_id, zupd_eq, zupd_na, zupd_ni, zupp_eq, zupp_na, zupp_ni]
  exact key 12 0 (by omega)
theorem kM_allEdges (h : zLy sh pp) (hm : ∀ k, 0 ≤ k → k < 986 → mm 123 k = f k) (ok : fOk f) : zS 215 0 [zR 122] [] sh pp mm Q ↔ Q (zI ((2 ^ nE f : Nat) - 1)) sh pp mm := by
  have k122 := k_122 h
  have k123 := k_123 h
  have l123 := l_123 h
  have p123 := p_122_0 h
  have e := hm 983 (by decide) (by decide)
  rw [nE_eq ok] at e
  have l := nE_le ok
  have t : 2 ^ nE f ≤ 4096 := by simpa using Nat.pow_le_pow_right (n := 2) (by omega) l
  have t0 : 0 < 2 ^ nE f := Nat.pow_pos (by omega)
  have z := zshl1 (nE f) (by omega)
  simp (disch := first | assumption | omega) only [rM_allEdges_0, rM_allEdges_1, rM_allEdges_2, rM_allEdges_3, rM_allEdges_6, rM_allEdges_7, rM_allEdges_8, rM_allEdges_9, rM_many_0, rM_many_1, rM_many_4, rM_many_7, rM_many_8, rM_many_9, rM_many_10, Bool.false_eq_true, true_implies, false_implies, implies_true, true_and, and_true, not_true_eq_false, not_false_eq_true, zPush_I, zPush_L, zPush_R, zPush_U, Int.reduceLT, Int.reduceLE, Int.reduceEq, Int.reduceNe, Int.reduceAdd, Int.reduceSub, Int.reduceMul, Int.reduceNeg, Int.reduceToNat, Nat.reduceAdd, Nat.reduceMul, Nat.reduceEqDiff, zw32_id, zw64_id, zupd_eq, zupd_na, zupd_ni, zupp_eq, zupp_na, zupp_ni, p123, e, z]
theorem kM_oddOf (h : zLy sh pp) (hm : ∀ k, 0 ≤ k → k < 986 → mm 123 k = f k) (ok : fOk f) {S : Nat} (hS : S < 4096) : zS 214 0 [zR 122, zI S, zU, zU] [] sh pp mm Q ↔ Q (zI (oddS (nA f) (nC f) S (nE f) : Nat)) sh pp mm := by
  have k122 := k_122 h
  have k123 := k_123 h
  have l123 := l_123 h
  have p123 := p_122_0 h
  have e9 := hm 983 (by decide) (by decide)
  rw [nE_eq ok] at e9
  have l := nE_le ok
  have key : ∀ (d i : Nat), i + d = nE f → (zS 214 4 [zR 122, zI S, zI (oddS (nA f) (nC f) S i : Nat), zI i] [] sh pp mm Q ↔ Q (zI (oddS (nA f) (nC f) S (nE f) : Nat)) sh pp mm) := by
    intro d
    induction d with
    | zero =>
      intro i hi
      have hi : i = nE f := by omega
      rw [← hi] at e9 ⊢
      rw [rM_oddOf_4]
      simp (disch := first | assumption | omega) only [rM_oddOf_5, rM_oddOf_6, rM_oddOf_7, rM_oddOf_10, rM_oddOf_13, rM_oddOf_14, rM_oddOf_15, rM_oddOf_16, rM_oddOf_17, rM_oddOf_18, rM_oddOf_19, rM_oddOf_20, rM_oddOf_23, rM_oddOf_24, rM_oddOf_25, rM_oddOf_26, rM_oddOf_27, rM_oddOf_30, rM_oddOf_31, rM_oddOf_32, rM_oddOf_33, rM_oddOf_34, rM_oddOf_35, rM_oddOf_38, rM_oddOf_39, rM_oddOf_40, rM_oddOf_43, rM_oddOf_44, rM_oddOf_45, rM_oddOf_46, rM_oddOf_49, rM_oddOf_52, rM_oddOf_53, rM_many_0, rM_many_1, rM_many_4, rM_many_7, rM_many_8, rM_many_9, rM_many_10, Bool.false_eq_true, true_implies, false_implies, implies_true, true_and, and_true, not_true_eq_false, not_false_eq_true, zPush_I, zPush_L, zPush_R, zPush_U, Int.reduceLT, Int.reduceLE, Int.reduceEq, Int.reduceNe, Int.reduceAdd, Int.reduceSub, Int.reduceMul, Int.reduceNeg, Int.reduceToNat, Nat.reduceAdd, Nat.reduceMul, Nat.reduceEqDiff, zw32_id, zw64_id, zupd_eq, zupd_na, zupd_ni, zupp_eq, zupp_na, zupp_ni, p123, e9, Int.lt_irrefl]
    | succ d ih =>
      intro i hi
      have nx := ih (i + 1) (by omega)
      have b := bit_i (show S < 2147483648 by omega) (show i < 31 by omega)
      have ac := nAC ok (show i < nE f by omega)
      have ea := hm (537 + 3 * (i : Int)) (by omega) (by omega)
      rw [ac.1] at ea
      have ec := hm (537 + 3 * (i : Int) + 1) (by omega) (by omega)
      rw [ac.2.1] at ec
      have la := ac.2.2.2.2.2.1
      have lc := ac.2.2.2.2.2.2
      have o := oddS_lt (R := S) i (fun e he => (nAC ok (show e < nE f by omega)).2.2.2.2.2)
      rw [show ((i + 1 : Nat) : Int) = (i : Int) + 1 by omega] at nx
      have es : oddS (nA f) (nC f) S (i + 1) = oddS (nA f) (nC f) S i ^^^ (if S.testBit i = true then 2 ^ nA f i ^^^ 2 ^ nC f i else 0) := rfl
      rw [es] at nx
      rw [rM_oddOf_4]
      by_cases hb : S.testBit i = true
      · rw [if_pos hb] at nx b
        have a2 := two_lt10 la
        have c2 := two_lt10 lc
        have x1 := zshl1 (nA f i) (by omega)
        have x2 := zshl1 (nC f i) (by omega)
        have x3 : zxor ((2 ^ nA f i : Nat) : Int) ((2 ^ nC f i : Nat) : Int) = ((2 ^ nA f i ^^^ 2 ^ nC f i : Nat) : Int) := zxorN (by omega) (by omega)
        have x4 := Nat.xor_lt_two_pow (n := 10) a2 c2
        have x5 : zxor ((oddS (nA f) (nC f) S i : Nat) : Int) ((2 ^ nA f i ^^^ 2 ^ nC f i : Nat) : Int) = ((oddS (nA f) (nC f) S i ^^^ (2 ^ nA f i ^^^ 2 ^ nC f i) : Nat) : Int) := zxorN (by omega) (by omega)
        simp (disch := first | assumption | omega) only [rM_oddOf_5, rM_oddOf_6, rM_oddOf_7, rM_oddOf_10, rM_oddOf_13, rM_oddOf_14, rM_oddOf_15, rM_oddOf_16, rM_oddOf_17, rM_oddOf_18, rM_oddOf_19, rM_oddOf_20, rM_oddOf_23, rM_oddOf_24, rM_oddOf_25, rM_oddOf_26, rM_oddOf_27, rM_oddOf_30, rM_oddOf_31, rM_oddOf_32, rM_oddOf_33, rM_oddOf_34, rM_oddOf_35, rM_oddOf_38, rM_oddOf_39, rM_oddOf_40, rM_oddOf_43, rM_oddOf_44, rM_oddOf_45, rM_oddOf_46, rM_oddOf_49, rM_many_0, rM_many_1, rM_many_4, rM_many_7, rM_many_8, rM_many_9, rM_many_10, rM_endOf_0, rM_endOf_1, rM_endOf_4, rM_endOf_7, rM_endOf_8, rM_endOf_9, rM_endOf_10, rM_endOf_11, rM_endOf_12, rM_endOf_13, rM_endOf_14, Bool.false_eq_true, true_implies, false_implies, implies_true, true_and, and_true, not_true_eq_false, not_false_eq_true, zPush_I, zPush_L, zPush_R, zPush_U, Int.reduceLT, Int.reduceLE, Int.reduceEq, Int.reduceNe, Int.reduceAdd, Int.reduceSub, Int.reduceMul, Int.reduceNeg, Int.reduceToNat, Nat.reduceAdd, Nat.reduceMul, Nat.reduceEqDiff, zw32_id, zw64_id, zupd_eq, zupd_na, zupd_ni, zupp_eq, zupp_na, zupp_ni, p123, e9, eq_true (show (i : Int) < (nE f : Int) by omega), b, Int.add_zero, ea, ec, x1, x2, x3, x5]
        exact nx
      · rw [if_neg hb] at nx b
        have x5 : zxor ((oddS (nA f) (nC f) S i : Nat) : Int) 0 = ((oddS (nA f) (nC f) S i ^^^ 0 : Nat) : Int) := zxorN (b := 0) (by omega) (by omega)
        simp (disch := first | assumption | omega) only [rM_oddOf_5, rM_oddOf_6, rM_oddOf_7, rM_oddOf_10, rM_oddOf_13, rM_oddOf_14, rM_oddOf_15, rM_oddOf_16, rM_oddOf_17, rM_oddOf_18, rM_oddOf_19, rM_oddOf_20, rM_oddOf_23, rM_oddOf_24, rM_oddOf_25, rM_oddOf_26, rM_oddOf_27, rM_oddOf_30, rM_oddOf_31, rM_oddOf_32, rM_oddOf_33, rM_oddOf_34, rM_oddOf_35, rM_oddOf_38, rM_oddOf_39, rM_oddOf_40, rM_oddOf_43, rM_oddOf_44, rM_oddOf_45, rM_oddOf_46, rM_oddOf_49, rM_many_0, rM_many_1, rM_many_4, rM_many_7, rM_many_8, rM_many_9, rM_many_10, rM_endOf_0, rM_endOf_1, rM_endOf_4, rM_endOf_7, rM_endOf_8, rM_endOf_9, rM_endOf_10, rM_endOf_11, rM_endOf_12, rM_endOf_13, rM_endOf_14, Bool.false_eq_true, true_implies, false_implies, implies_true, true_and, and_true, not_true_eq_false, not_false_eq_true, zPush_I, zPush_L, zPush_R, zPush_U, Int.reduceLT, Int.reduceLE, Int.reduceEq, Int.reduceNe, Int.reduceAdd, Int.reduceSub, Int.reduceMul, Int.reduceNeg, Int.reduceToNat, Nat.reduceAdd, Nat.reduceMul, Nat.reduceEqDiff, zw32_id, zw64_id, zupd_eq, zupd_na, zupd_ni, zupp_eq, zupp_na, zupp_ni, p123, e9, eq_true (show (i : Int) < (nE f : Int) by omega), b, x5]
        exact nx
  simp (disch := first | assumption | omega) only [rM_oddOf_0, rM_oddOf_1, rM_oddOf_2, rM_oddOf_3, Bool.false_eq_true, true_implies, false_implies, implies_true, true_and, and_true, not_true_eq_false, not_false_eq_true, zPush_I, zPush_L, zPush_R, zPush_U, Int.reduceLT, Int.reduceLE, Int.reduceEq, Int.reduceNe, Int.reduceAdd, Int.reduceSub, Int.reduceMul, Int.reduceNeg, Int.reduceToNat, Nat.reduceAdd, Nat.reduceMul, Nat.reduceEqDiff, zw32_id, zw64_id, zupd_eq, zupd_na, zupd_ni, zupp_eq, zupp_na, zupp_ni]
  exact key (nE f) 0 (by omega)
theorem mOdd (h : zLy sh pp) (hm : mOk f G cn N D mm) (ok : fOk f) (hQ : Q (zI (oddS (nA f) (nC f) (2 ^ nE f - 1) (nE f) : Nat)) sh pp mm) : zS 219 0 [zR 122] [] sh pp mm Q := by
  have k122 := k_122 h
  have k123 := k_123 h
  have l123 := l_123 h
  have p123 := p_122_0 h
  have l := nE_le ok
  have t : 2 ^ nE f ≤ 4096 := by simpa using Nat.pow_le_pow_right (n := 2) (by omega) l
  have t0 : 0 < 2 ^ nE f := Nat.pow_pos (by omega)
  have e : (((2 ^ nE f : Nat) : Int) - 1) = ((2 ^ nE f - 1 : Nat) : Int) := by omega
  simp (disch := first | assumption | omega) only [rM_odd_0, rM_odd_1, rM_odd_2, rM_odd_5, rM_odd_8, Bool.false_eq_true, true_implies, false_implies, implies_true, true_and, and_true, not_true_eq_false, not_false_eq_true, zPush_I, zPush_L, zPush_R, zPush_U, Int.reduceLT, Int.reduceLE, Int.reduceEq, Int.reduceNe, Int.reduceAdd, Int.reduceSub, Int.reduceMul, Int.reduceNeg, Int.reduceToNat, Nat.reduceAdd, Nat.reduceMul, Nat.reduceEqDiff, zw32_id, zw64_id, zupd_eq, zupd_na, zupd_ni, zupp_eq, zupp_na, zupp_ni]
  rw [kM_allEdges h hm.1 ok, e]
  simp (disch := first | assumption | omega) only [rM_odd_0, rM_odd_1, rM_odd_2, rM_odd_5, rM_odd_8, Bool.false_eq_true, true_implies, false_implies, implies_true, true_and, and_true, not_true_eq_false, not_false_eq_true, zPush_I, zPush_L, zPush_R, zPush_U, Int.reduceLT, Int.reduceLE, Int.reduceEq, Int.reduceNe, Int.reduceAdd, Int.reduceSub, Int.reduceMul, Int.reduceNeg, Int.reduceToNat, Nat.reduceAdd, Nat.reduceMul, Nat.reduceEqDiff, zw32_id, zw64_id, zupd_eq, zupd_na, zupd_ni, zupp_eq, zupp_na, zupp_ni]
  rw [kM_oddOf h hm.1 ok (by omega)]
  simp (disch := first | assumption | omega) only [rM_odd_0, rM_odd_1, rM_odd_2, rM_odd_5, rM_odd_8, Bool.false_eq_true, true_implies, false_implies, implies_true, true_and, and_true, not_true_eq_false, not_false_eq_true, zPush_I, zPush_L, zPush_R, zPush_U, Int.reduceLT, Int.reduceLE, Int.reduceEq, Int.reduceNe, Int.reduceAdd, Int.reduceSub, Int.reduceMul, Int.reduceNeg, Int.reduceToNat, Nat.reduceAdd, Nat.reduceMul, Nat.reduceEqDiff, zw32_id, zw64_id, zupd_eq, zupd_na, zupd_ni, zupp_eq, zupp_na, zupp_ni]
  exact hQ
end
