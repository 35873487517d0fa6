/-! ===== nets of the reference: where a line would be ===== -/
def whB (f : Int → Int) (c S : Nat) : Int := if oddS (nA f) (nC f) S (nE f) = 0 then (c : Int) else if (oddS (nA f) (nC f) S (nE f)).testBit c = true ∧ pcN (oddS (nA f) (nC f) S (nE f)) 12 = 2 then ((oddS (nA f) (nC f) S (nE f) ^^^ 2 ^ c).log2 : Nat) else -1
theorem not_and : ∀ c : Nat, c < 10 → zxor ((2 ^ c : Nat) : Int) (-1) = -1 - ((2 ^ c : Nat) : Int) := by decide +kernel
theorem and_not_f : (List.range 10).all (fun c => (List.range 1024).all (fun O => zand (O : Int) (-1 - ((2 ^ c : Nat) : Int)) == ((if O.testBit c then O ^^^ 2 ^ c else O : Nat) : Int))) = true := by decide +kernel
theorem and_not {c O : Nat} (hc : c < 10) (hO : O < 1024) : zand (O : Int) (-1 - ((2 ^ c : Nat) : Int)) = ((if O.testBit c = true then O ^^^ 2 ^ c else O : Nat) : Int) := by
  have h := List.all_eq_true.mp (List.all_eq_true.mp and_not_f c (List.mem_range.mpr hc)) O (List.mem_range.mpr hO)
  simpa using h
theorem pc2_f : (List.range 10).all (fun c => (List.range 1024).all (fun O => !(O.testBit c && pcN O 12 == 2) || ((O ^^^ 2 ^ c) == 2 ^ (O ^^^ 2 ^ c).log2 && decide ((O ^^^ 2 ^ c).log2 < 10)))) = true := by decide +kernel
theorem pc2 {c O : Nat} (hc : c < 10) (hO : O < 1024) (h1 : O.testBit c = true) (h2 : pcN O 12 = 2) : (O ^^^ 2 ^ c) = 2 ^ (O ^^^ 2 ^ c).log2 ∧ (O ^^^ 2 ^ c).log2 < 10 := by
  have h := List.all_eq_true.mp (List.all_eq_true.mp pc2_f c (List.mem_range.mpr hc)) O (List.mem_range.mpr hO)
  rw [h1, h2] at h
  simpa using h
theorem zshrN {x k : Nat} (hx : x < 2147483648) (hk : k < 32) : zshr (x : Int) (k : Int) = ((x / 2 ^ k : Nat) : Int) := by
  rw [zshrD (by omega) (by omega) hk]
  simp
section
variable {sh : zSh} {pp : zPp} {mm : zMm} {Q : zV → zSh → zPp → zMm → Prop} {f : Int → Int} {G : Int → Option (Int → Int)} {cn : Int → Int} {N D : Nat}
theorem lowLoop {w : Nat} (hw : w < 10) : zS 221 42 [zU, zU, zU, zU, zI (2 ^ w : Nat), zI 0] [] sh pp mm Q ↔ Q (zI w) sh pp mm := by
  have t := two_lt10 (show w ≤ 9 by omega)
  have key : ∀ (d i : Nat), i + d = w → (zS 221 42 [zU, zU, zU, zU, zI (2 ^ w : Nat), zI i] [] sh pp mm Q ↔ Q (zI w) sh pp mm) := by
    intro d
    induction d with
    | zero =>
      intro i hi
      have hi : i = w := by omega
      subst hi
      have z : zshr ((2 ^ i : Nat) : Int) (i : Int) = 1 := by
        rw [zshrN (by omega) (by omega), Nat.div_self (Nat.pow_pos (by omega))]
        rfl
      rw [rM_whereBy_42]
      simp (disch := first | assumption | omega) only [rM_whereBy_44, rM_whereBy_46, rM_whereBy_47, rM_whereBy_48, rM_whereBy_51, rM_whereBy_54, rM_whereBy_57, rM_whereBy_59, Bool.false_eq_true, true_implies, false_implies, implies_true, true_and, and_true, not_true_eq_false, not_false_eq_true, zPush_I, zPush_L, zPush_R, zPush_U, Int.reduceLT, Int.reduceLE, Int.reduceEq, Int.reduceNe, Int.reduceAdd, Int.reduceSub, Int.reduceMul, Int.reduceNeg, Int.reduceToNat, Nat.reduceAdd, Nat.reduceMul, Nat.reduceEqDiff, zw32_id, zw64_id, zupd_eq, zupd_na, zupd_ni, zupp_eq, zupp_na, zupp_ni, z]
    | succ d ih =>
      intro i hi
      have nx := ih (i + 1) (by omega)
      rw [show ((i + 1 : Nat) : Int) = (i : Int) + 1 by omega] at nx
      have z : ¬ zshr ((2 ^ w : Nat) : Int) (i : Int) = 1 := by
        rw [zshrN (by omega) (by omega), Nat.pow_div (by omega) (by omega), show w - i = d + 1 by omega, Nat.pow_succ]
        have := Nat.pow_pos (n := d) (show 0 < 2 by omega)
        omega
      rw [rM_whereBy_42]
      simp (disch := first | assumption | omega) only [rM_whereBy_44, rM_whereBy_46, rM_whereBy_47, rM_whereBy_48, rM_whereBy_51, rM_whereBy_54, rM_whereBy_57, rM_whereBy_59, Bool.false_eq_true, true_implies, false_implies, implies_true, true_and, and_true, not_true_eq_false, not_false_eq_true, zPush_I, zPush_L, zPush_R, zPush_U, Int.reduceLT, Int.reduceLE, Int.reduceEq, Int.reduceNe, Int.reduceAdd, Int.reduceSub, Int.reduceMul, Int.reduceNeg, Int.reduceToNat, Nat.reduceAdd, Nat.reduceMul, Nat.reduceEqDiff, zw32_id, zw64_id, zupd_eq, zupd_na, zupd_ni, zupp_eq, zupp_na, zupp_ni, eq_false z]
      exact nx
  exact key w 0 (by omega)
theorem kM_whereBy (h : zLy sh pp) (hm : ∀ k, 0 ≤ k → k < 986 → mm 123 k = f k) (ok : fOk f) {S c : Nat} (hS : S < 4096) (hc : c < 10) : zS 221 0 [zR 122, zI S, zI c, zU, zU, zU] [] sh pp mm Q ↔ Q (zI (whB f c S)) sh pp mm := by
  have k122 := k_122 h
  have k123 := k_123 h
  have l123 := l_123 h
  have p123 := p_122_0 h
  have o := oddS_lt (R := S) (nE f) (fun e he => (nAC ok he).2.2.2.2.2)
  simp (disch := first | assumption | omega) only [rM_whereBy_0, rM_whereBy_1, rM_whereBy_2, Bool.false_eq_true, true_implies, false_implies, implies_true, true_and, and_true, not_true_eq_false, not_false_eq_true, zPush_I, zPush_L, zPush_R, zPush_U, Int.reduceLT, Int.reduceLE, Int.reduceEq, Int.reduceNe, Int.reduceAdd, Int.reduceSub, Int.reduceMul, Int.reduceNeg, Int.reduceToNat, Nat.reduceAdd, Nat.reduceMul, Nat.reduceEqDiff, zw32_id, zw64_id, zupd_eq, zupd_na, zupd_ni, zupp_eq, zupp_na, zupp_ni]
  rw [kM_oddOf h hm ok hS]
  unfold whB
  generalize oddS (nA f) (nC f) S (nE f) = O at o ⊢
  by_cases h0 : O = 0
  · subst h0
    rw [if_pos rfl]
    simp (disch := first | assumption | omega) only [rM_whereBy_5, rM_whereBy_6, rM_whereBy_7, rM_whereBy_10, rM_whereBy_11, Bool.false_eq_true, true_implies, false_implies, implies_true, true_and, and_true, not_true_eq_false, not_false_eq_true, zPush_I, zPush_L, zPush_R, zPush_U, Int.reduceLT, Int.reduceLE, Int.reduceEq, Int.reduceNe, Int.reduceAdd, Int.reduceSub, Int.reduceMul, Int.reduceNeg, Int.reduceToNat, Nat.reduceAdd, Nat.reduceMul, Nat.reduceEqDiff, zw32_id, zw64_id, zupd_eq, zupd_na, zupd_ni, zupp_eq, zupp_na, zupp_ni, Int.cast_ofNat_Int]
  · rw [if_neg h0]
    have b := bit_i (show O < 2147483648 by omega) (show c < 31 by omega)
    have x1 := zshl1 c (by omega)
    have x2 := not_and c hc
    have x3 := and_not hc o
    have n0 : ¬ (O : Int) = 0 := by omega
    by_cases h1 : O.testBit c = true
    · rw [if_pos h1] at b x3
      simp (disch := first | assumption | omega) only [rM_whereBy_5, rM_whereBy_6, rM_whereBy_7, rM_whereBy_10, rM_whereBy_11, rM_whereBy_12, rM_whereBy_13, rM_whereBy_14, rM_whereBy_15, rM_whereBy_16, rM_whereBy_17, rM_whereBy_18, rM_whereBy_19, rM_whereBy_21, rM_whereBy_22, rM_whereBy_23, rM_whereBy_24, rM_whereBy_25, rM_whereBy_26, rM_whereBy_29, rM_whereBy_30, Bool.false_eq_true, true_implies, false_implies, implies_true, true_and, and_true, not_true_eq_false, not_false_eq_true, zPush_I, zPush_L, zPush_R, zPush_U, Int.reduceLT, Int.reduceLE, Int.reduceEq, Int.reduceNe, Int.reduceAdd, Int.reduceSub, Int.reduceMul, Int.reduceNeg, Int.reduceToNat, Nat.reduceAdd, Nat.reduceMul, Nat.reduceEqDiff, zw32_id, zw64_id, zupd_eq, zupd_na, zupd_ni, zupp_eq, zupp_na, zupp_ni, eq_false n0, x1, x2, x3, b]
      rw [kM_bitsOf (by omega)]
      by_cases h2 : pcN O 12 = 2
      · rw [if_pos ⟨h1, h2⟩, h2]
        have p := pc2 hc o h1 h2
        simp (disch := first | assumption | omega) only [rM_whereBy_33, rM_whereBy_34, rM_whereBy_37, rM_whereBy_38, rM_whereBy_39, rM_whereBy_40, Bool.false_eq_true, true_implies, false_implies, implies_true, true_and, and_true, not_true_eq_false, not_false_eq_true, zPush_I, zPush_L, zPush_R, zPush_U, Int.reduceLT, Int.reduceLE, Int.reduceEq, Int.reduceNe, Int.reduceAdd, Int.reduceSub, Int.reduceMul, Int.reduceNeg, Int.reduceToNat, Nat.reduceAdd, Nat.reduceMul, Nat.reduceEqDiff, zw32_id, zw64_id, zupd_eq, zupd_na, zupd_ni, zupp_eq, zupp_na, zupp_ni, Int.cast_ofNat_Int]
        have e := lowLoop (sh := sh) (pp := pp) (mm := mm) (Q := Q) p.2
        rw [← p.1] at e
        exact e
      · rw [if_neg (fun x => h2 x.2)]
        have n2 : ¬ ((pcN O 12 : Nat) : Int) = 2 := by omega
        simp (disch := first | assumption | omega) only [rM_whereBy_33, rM_whereBy_34, rM_whereBy_37, rM_whereBy_38, rM_whereBy_39, rM_whereBy_40, Bool.false_eq_true, true_implies, false_implies, implies_true, true_and, and_true, not_true_eq_false, not_false_eq_true, zPush_I, zPush_L, zPush_R, zPush_U, Int.reduceLT, Int.reduceLE, Int.reduceEq, Int.reduceNe, Int.reduceAdd, Int.reduceSub, Int.reduceMul, Int.reduceNeg, Int.reduceToNat, Nat.reduceAdd, Nat.reduceMul, Nat.reduceEqDiff, zw32_id, zw64_id, zupd_eq, zupd_na, zupd_ni, zupp_eq, zupp_na, zupp_ni, eq_false n2]
    · rw [if_neg h1] at b x3
      rw [if_neg (fun x => h1 x.1)]
      simp (disch := first | assumption | omega) only [rM_whereBy_5, rM_whereBy_6, rM_whereBy_7, rM_whereBy_10, rM_whereBy_11, rM_whereBy_12, rM_whereBy_13, rM_whereBy_14, rM_whereBy_15, rM_whereBy_16, rM_whereBy_17, rM_whereBy_18, rM_whereBy_19, rM_whereBy_21, rM_whereBy_22, rM_whereBy_23, rM_whereBy_24, rM_whereBy_25, rM_whereBy_26, rM_whereBy_29, rM_whereBy_30, rM_whereBy_33, rM_whereBy_34, rM_whereBy_37, rM_whereBy_38, rM_whereBy_39, rM_whereBy_40, Bool.false_eq_true, true_implies, false_implies, implies_true, true_and, and_true, not_true_eq_false, not_false_eq_true, zPush_I, zPush_L, zPush_R, zPush_U, Int.reduceLT, Int.reduceLE, Int.reduceEq, Int.reduceNe, Int.reduceAdd, Int.reduceSub, Int.reduceMul, Int.reduceNeg, Int.reduceToNat, Nat.reduceAdd, Nat.reduceMul, Nat.reduceEqDiff, zw32_id, zw64_id, zupd_eq, zupd_na, zupd_ni, zupp_eq, zupp_na, zupp_ni, eq_false n0, x1, x2, x3, b]
end
