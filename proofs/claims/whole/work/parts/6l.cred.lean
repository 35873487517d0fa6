/-! ===== the class reduces a fraction ===== -/
theorem cop2 {b : Nat} (h : b % 2 = 1) : Nat.Coprime 2 b := by
  show Nat.gcd 2 b = 1
  rw [Nat.gcd_rec, h]
  rfl
theorem gcd_half {v b : Nat} (h : v % 2 = 0) (hb : b % 2 = 1) : Nat.gcd (v / 2) b = Nat.gcd v b := by
  have e : v = 2 * (v / 2) := by omega
  rw [← Nat.Coprime.gcd_mul_left_cancel (v / 2) (cop2 hb), ← e]
theorem hu_gcd {b : Nat} (hb : b % 2 = 1) : ∀ n v, Nat.gcd (hu n v) b = Nat.gcd v b
  | 0, v => rfl
  | n + 1, v => by
    show Nat.gcd (if v ≠ 0 ∧ v % 2 = 0 then hu n (v / 2) else v) b = _
    by_cases h : v ≠ 0 ∧ v % 2 = 0
    · rw [if_pos h, hu_gcd hb n (v / 2), gcd_half h.2 hb]
    · rw [if_neg h]
theorem hu_le : ∀ n v, hu n v ≤ v
  | 0, v => Nat.le_refl v
  | n + 1, v => by
    show (if v ≠ 0 ∧ v % 2 = 0 then hu n (v / 2) else v) ≤ v
    by_cases h : v ≠ 0 ∧ v % 2 = 0
    · rw [if_pos h]
      have := hu_le n (v / 2)
      omega
    · rw [if_neg h]; exact Nat.le_refl v
theorem hu_odd : ∀ n v, v ≠ 0 → v < 2 ^ n → hu n v % 2 = 1 ∧ hu n v ≠ 0
  | 0, v, h0, h => by simp at h; omega
  | n + 1, v, h0, h => by
    show (if v ≠ 0 ∧ v % 2 = 0 then hu n (v / 2) else v) % 2 = 1 ∧ (if v ≠ 0 ∧ v % 2 = 0 then hu n (v / 2) else v) ≠ 0
    by_cases h2 : v % 2 = 0
    · rw [if_pos ⟨h0, h2⟩]
      exact hu_odd n (v / 2) (by omega) (by rw [Nat.pow_succ] at h; omega)
    · rw [if_neg (fun h3 => h2 h3.2)]
      omega
theorem hu_hf {n v : Nat} (h0 : v ≠ 0) (h2 : v % 2 = 0) : hu (n + 1) v ≤ v / 2 := by
  show (if v ≠ 0 ∧ v % 2 = 0 then hu n (v / 2) else v) ≤ v / 2
  rw [if_pos ⟨h0, h2⟩]
  exact hu_le n (v / 2)
theorem hu_pw : ∀ n v, ∃ k, v = hu n v * 2 ^ k
  | 0, v => ⟨0, by simp [hu]⟩
  | n + 1, v => by
    by_cases h : v ≠ 0 ∧ v % 2 = 0
    · obtain ⟨k, hk⟩ := hu_pw n (v / 2)
      refine ⟨k + 1, ?_⟩
      show v = (if v ≠ 0 ∧ v % 2 = 0 then hu n (v / 2) else v) * 2 ^ (k + 1)
      rw [if_pos h, Nat.pow_succ, ← Nat.mul_assoc, ← hk]
      omega
    · refine ⟨0, ?_⟩
      show v = (if v ≠ 0 ∧ v % 2 = 0 then hu n (v / 2) else v) * 2 ^ 0
      rw [if_neg h]
      simp
/-- one is taken from the other until they are alike -/
def fco : Nat → Nat → Nat → Nat × Nat
  | 0, A, B => (A, B)
  | n + 1, A, B => if A = B then (A, B) else if B < A then fco n (hu 240 (A - B)) B else fco n A (hu 240 (B - A))
theorem log2_lt {a b : Nat} (ha : a ≠ 0) (h : 2 * a ≤ b) : a.log2 + 1 ≤ b.log2 := by
  have h1 : 2 ^ a.log2 ≤ a := Nat.log2_self_le ha
  have h2 : 2 ^ (a.log2 + 1) ≤ b := by rw [Nat.pow_succ]; omega
  exact (Nat.le_log2 (by omega)).mpr h2
theorem fco_ok : ∀ n A B, A % 2 = 1 → B % 2 = 1 → A < 2 ^ 240 → B < 2 ^ 240 → A.log2 + B.log2 < n → fco n A B = (Nat.gcd A B, Nat.gcd A B)
  | 0, A, B, _, _, _, _, h => by omega
  | n + 1, A, B, hA, hB, lA, lB, h => by
    show (if A = B then (A, B) else if B < A then fco n (hu 240 (A - B)) B else fco n A (hu 240 (B - A))) = _
    by_cases e : A = B
    · rw [if_pos e, e, Nat.gcd_self]
    · rw [if_neg e]
      by_cases c : B < A
      · rw [if_pos c]
        have o := hu_odd 240 (A - B) (by omega) (by omega)
        have hf : hu 240 (A - B) ≤ (A - B) / 2 := hu_hf (n := 239) (v := A - B) (by omega) (by omega)
        have hl := log2_lt (a := hu 240 (A - B)) (b := A) o.2 (by omega)
        have g := hu_gcd hB 240 (A - B)
        rw [fco_ok n _ B o.1 hB (by omega) lB (by omega), g, Nat.gcd_sub_self_left (by omega)]
      · rw [if_neg c]
        have o := hu_odd 240 (B - A) (by omega) (by omega)
        have hf : hu 240 (B - A) ≤ (B - A) / 2 := hu_hf (n := 239) (v := B - A) (by omega) (by omega)
        have hl := log2_lt (a := hu 240 (B - A)) (b := B) o.2 (by omega)
        have g := hu_gcd hA 240 (B - A)
        rw [Nat.gcd_comm] at g
        rw [fco_ok n A _ hA o.1 lA (by omega) (by omega), g, Nat.gcd_sub_self_left (by omega), Nat.gcd_comm]
/-- both halved while both are even -/
def hb : Nat → Nat → Nat → Nat × Nat
  | 0, A, B => (A, B)
  | n + 1, A, B => if A % 2 = 0 ∧ B % 2 = 0 then hb n (A / 2) (B / 2) else (A, B)
theorem hb_ok : ∀ n A B, A ≠ 0 → A < 2 ^ n → ∃ k, A = (hb n A B).1 * 2 ^ k ∧ B = (hb n A B).2 * 2 ^ k ∧ ¬ ((hb n A B).1 % 2 = 0 ∧ (hb n A B).2 % 2 = 0)
  | 0, A, B, h0, h => by simp at h; omega
  | n + 1, A, B, h0, h => by
    by_cases c : A % 2 = 0 ∧ B % 2 = 0
    · have e : hb (n + 1) A B = hb n (A / 2) (B / 2) := by show (if _ then _ else _) = _; rw [if_pos c]
      obtain ⟨k, h1, h2, h3⟩ := hb_ok n (A / 2) (B / 2) (by omega) (by rw [Nat.pow_succ] at h; omega)
      rw [e]
      refine ⟨k + 1, ?_, ?_, h3⟩
      · rw [Nat.pow_succ, ← Nat.mul_assoc, ← h1]; omega
      · rw [Nat.pow_succ, ← Nat.mul_assoc, ← h2]; omega
    · have e : hb (n + 1) A B = (A, B) := by show (if _ then _ else _) = _; rw [if_neg c]
      rw [e]
      exact ⟨0, by simp, by simp, c⟩
/-- the greatest odd number that goes into both -/
theorem gcd_od {A B : Nat} (hA : A ≠ 0) (hB : B ≠ 0) (lA : A < 2 ^ 240) (lB : B < 2 ^ 240) (h : ¬ (A % 2 = 0 ∧ B % 2 = 0)) : Nat.gcd (hu 240 A) (hu 240 B) = Nat.gcd A B := by
  have o1 := hu_odd 240 A hA lA
  have o2 := hu_odd 240 B hB lB
  by_cases c : A % 2 = 1
  · have e : hu 240 A = A := by show (if A ≠ 0 ∧ A % 2 = 0 then _ else A) = A; rw [if_neg (by omega)]
    rw [e, Nat.gcd_comm, hu_gcd c, Nat.gcd_comm]
  · have e : hu 240 B = B := by show (if B ≠ 0 ∧ B % 2 = 0 then _ else B) = B; rw [if_neg (by omega)]
    rw [e, hu_gcd (by omega)]
def bgs (sh : zSh) (pp : zPp) : Prop := bgL sh pp 58 ∧ bgL sh pp 60 ∧ bgL sh pp 62 ∧ bgL sh pp 64
theorem bgs_of {sh : zSh} {pp : zPp} (h : zLy sh pp) : bgs sh pp := by
  have k58 := k_58 h
  have p58 := p_57_0 h
  have k59 := k_59 h
  have l59 := l_59 h
  have p59 := p_58_0 h
  have k60 := k_60 h
  have p60 := p_57_1 h
  have k61 := k_61 h
  have l61 := l_61 h
  have p61 := p_60_0 h
  have k62 := k_62 h
  have p62 := p_57_2 h
  have k63 := k_63 h
  have l63 := l_63 h
  have p63 := p_62_0 h
  have k64 := k_64 h
  have p64 := p_57_3 h
  have k65 := k_65 h
  have l65 := l_65 h
  have p65 := p_64_0 h
  exact ⟨⟨k58, k59, l59, p59⟩, ⟨k60, k61, l61, p61⟩, ⟨k62, k63, l63, p63⟩, ⟨k64, k65, l65, p65⟩⟩
def pFr (x : Nat) (_ : Int) : Prop := 58 ≤ x ∧ x ≤ 65
section
variable {sh : zSh} {pp : zPp} {mm : zMm} {Q : zV → zSh → zPp → zMm → Prop}
theorem cFco (h : zLy sh pp) : ∀ (n A B : Nat) (m : zMm), n ≤ 480 → bG 62 A m → bG 64 B m → frP (fun x _ => 62 ≤ x ∧ x ≤ 65) mm m → (∀ m', bG 62 (fco n A B).1 m' → frP (fun x _ => 62 ≤ x ∧ x ≤ 65) mm m' → Q zU sh pp m') → zS 34 38 [zR 57, zI (480 - (n : Int)), zU, zU] [] sh pp m Q := by
  have k57 := k_57 h
  have p57 := p_13_8 h
  have k62 := k_62 h
  have p62 := p_57_2 h
  have k64 := k_64 h
  have p64 := p_57_3 h
  obtain ⟨-, -, b1, b2⟩ := bgs_of h
  intro n
  induction n with
  | zero =>
    intro A B m hn g1 g2 hf hQ
    rw [rF_findCommonOdd_38]
    simp (disch := first | assumption | omega) only [rF_findCommonOdd_39, rF_findCommonOdd_42, rF_findCommonOdd_45, rF_findCommonOdd_46, rF_findCommonOdd_49, rF_findCommonOdd_50, rF_findCommonOdd_53, rF_findCommonOdd_56, rF_findCommonOdd_57, rF_findCommonOdd_58, rF_findCommonOdd_61, rF_findCommonOdd_62, rF_findCommonOdd_63, rF_findCommonOdd_66, rF_findCommonOdd_67, rF_findCommonOdd_70, rF_findCommonOdd_73, rF_findCommonOdd_74, rF_findCommonOdd_77, rF_findCommonOdd_78, rF_findCommonOdd_79, rF_findCommonOdd_80, rF_findCommonOdd_83, rF_findCommonOdd_84, rF_findCommonOdd_87, rF_findCommonOdd_90, rF_findCommonOdd_91, rF_findCommonOdd_94, rF_findCommonOdd_97, rF_findCommonOdd_98, rF_findCommonOdd_101, rF_findCommonOdd_104, rF_findCommonOdd_107, Bool.false_eq_true, true_implies, false_implies, implies_true, true_and, and_true, not_true_eq_false, not_false_eq_true, zPush_I, zPush_L, zPush_R, zPush_U, Int.reduceLT, Int.reduceLE, Int.reduceEq, Int.reduceNe, Int.reduceAdd, Int.reduceSub, Int.reduceMul, Int.reduceNeg, Int.reduceToNat, Nat.reduceAdd, Nat.reduceMul, Nat.reduceEqDiff, zw32_id, zw64_id, zupd_eq, zupd_na, zupd_ni, zupp_eq, zupp_na, zupp_ni, show ¬ (480 - ((0 : Nat) : Int)) < 480 by omega]
    exact hQ m g1 hf
  | succ n ih =>
    intro A B m hn g1 g2 hf hQ
    have hlt : (480 - ((n + 1 : Nat) : Int)) < 480 := by omega
    have e0 : fco (n + 1) A B = if A = B then (A, B) else if B < A then fco n (hu 240 (A - B)) B else fco n A (hu 240 (B - A)) := rfl
    rw [e0] at hQ
    rw [rF_findCommonOdd_38]
    simp (disch := first | assumption | omega) only [rF_findCommonOdd_39, rF_findCommonOdd_42, rF_findCommonOdd_45, rF_findCommonOdd_46, rF_findCommonOdd_49, rF_findCommonOdd_50, rF_findCommonOdd_53, Bool.false_eq_true, true_implies, false_implies, implies_true, true_and, and_true, not_true_eq_false, not_false_eq_true, zPush_I, zPush_L, zPush_R, zPush_U, Int.reduceLT, Int.reduceLE, Int.reduceEq, Int.reduceNe, Int.reduceAdd, Int.reduceSub, Int.reduceMul, Int.reduceNeg, Int.reduceToNat, Nat.reduceAdd, Nat.reduceMul, Nat.reduceEqDiff, zw32_id, zw64_id, zupd_eq, zupd_na, zupd_ni, zupp_eq, zupp_na, zupp_ni, hlt, p62, p64]
    refine cAgainst b1 b2 g1.1 g2.1 (fun c => ?_) (fun c => ?_) (fun c => ?_)
    · rw [if_neg (by omega), if_neg (by omega)] at hQ
      simp (disch := first | assumption | omega) only [rF_findCommonOdd_56, rF_findCommonOdd_57, rF_findCommonOdd_58, rF_findCommonOdd_61, rF_findCommonOdd_62, rF_findCommonOdd_63, rF_findCommonOdd_66, rF_findCommonOdd_67, rF_findCommonOdd_70, rF_findCommonOdd_73, rF_findCommonOdd_74, rF_findCommonOdd_77, rF_findCommonOdd_78, rF_findCommonOdd_79, rF_findCommonOdd_80, rF_findCommonOdd_83, rF_findCommonOdd_84, rF_findCommonOdd_87, rF_findCommonOdd_90, rF_findCommonOdd_91, rF_findCommonOdd_94, Bool.false_eq_true, true_implies, false_implies, implies_true, true_and, and_true, not_true_eq_false, not_false_eq_true, zPush_I, zPush_L, zPush_R, zPush_U, Int.reduceLT, Int.reduceLE, Int.reduceEq, Int.reduceNe, Int.reduceAdd, Int.reduceSub, Int.reduceMul, Int.reduceNeg, Int.reduceToNat, Nat.reduceAdd, Nat.reduceMul, Nat.reduceEqDiff, zw32_id, zw64_id, zupd_eq, zupd_na, zupd_ni, zupp_eq, zupp_na, zupp_ni, p62, p64]
      refine cSubtract b2 b1 (by omega) g2.1 g1.1 (by omega) (fun m2 g3 f3 => ?_)
      simp (disch := first | assumption | omega) only [rF_findCommonOdd_97, rF_findCommonOdd_98, Bool.false_eq_true, true_implies, false_implies, implies_true, true_and, and_true, not_true_eq_false, not_false_eq_true, zPush_I, zPush_L, zPush_R, zPush_U, Int.reduceLT, Int.reduceLE, Int.reduceEq, Int.reduceNe, Int.reduceAdd, Int.reduceSub, Int.reduceMul, Int.reduceNeg, Int.reduceToNat, Nat.reduceAdd, Nat.reduceMul, Nat.reduceEqDiff, zw32_id, zw64_id, zupd_eq, zupd_na, zupd_ni, zupp_eq, zupp_na, zupp_ni]
      refine cHalveUntilOdd b2 g3 (fun m4 g4 f4 => ?_)
      simp (disch := first | assumption | omega) only [rF_findCommonOdd_101, rF_findCommonOdd_104, Bool.false_eq_true, true_implies, false_implies, implies_true, true_and, and_true, not_true_eq_false, not_false_eq_true, zPush_I, zPush_L, zPush_R, zPush_U, Int.reduceLT, Int.reduceLE, Int.reduceEq, Int.reduceNe, Int.reduceAdd, Int.reduceSub, Int.reduceMul, Int.reduceNeg, Int.reduceToNat, Nat.reduceAdd, Nat.reduceMul, Nat.reduceEqDiff, zw32_id, zw64_id, zupd_eq, zupd_na, zupd_ni, zupp_eq, zupp_na, zupp_ni]
      have := ih A (hu 240 (B - A)) m4 (by omega) (bG_fr (bG_fr g1 f3 (by unfold pB; omega) (by unfold pB; omega)) f4 (by unfold pB; omega) (by unfold pB; omega)) g4 (frP_tr (frP_tr hf (frP_wd f3 (fun x j hj => by unfold pB at hj; omega))) (frP_wd f4 (fun x j hj => by unfold pB at hj; omega))) hQ
      rw [show 480 - ((n + 1 : Nat) : Int) + 1 = 480 - (n : Int) by push_cast; omega]
      exact this
    · rw [if_pos c] at hQ
      simp (disch := first | assumption | omega) only [rF_findCommonOdd_56, rF_findCommonOdd_57, rF_findCommonOdd_58, rF_findCommonOdd_61, Bool.false_eq_true, true_implies, false_implies, implies_true, true_and, and_true, not_true_eq_false, not_false_eq_true, zPush_I, zPush_L, zPush_R, zPush_U, Int.reduceLT, Int.reduceLE, Int.reduceEq, Int.reduceNe, Int.reduceAdd, Int.reduceSub, Int.reduceMul, Int.reduceNeg, Int.reduceToNat, Nat.reduceAdd, Nat.reduceMul, Nat.reduceEqDiff, zw32_id, zw64_id, zupd_eq, zupd_na, zupd_ni, zupp_eq, zupp_na, zupp_ni]
      exact hQ m g1 hf
    · rw [if_neg (by omega), if_pos c] at hQ
      simp (disch := first | assumption | omega) only [rF_findCommonOdd_56, rF_findCommonOdd_57, rF_findCommonOdd_58, rF_findCommonOdd_61, rF_findCommonOdd_62, rF_findCommonOdd_63, rF_findCommonOdd_66, rF_findCommonOdd_67, rF_findCommonOdd_70, rF_findCommonOdd_73, rF_findCommonOdd_74, rF_findCommonOdd_77, rF_findCommonOdd_78, rF_findCommonOdd_79, rF_findCommonOdd_80, rF_findCommonOdd_83, rF_findCommonOdd_84, rF_findCommonOdd_87, rF_findCommonOdd_90, rF_findCommonOdd_91, rF_findCommonOdd_94, Bool.false_eq_true, true_implies, false_implies, implies_true, true_and, and_true, not_true_eq_false, not_false_eq_true, zPush_I, zPush_L, zPush_R, zPush_U, Int.reduceLT, Int.reduceLE, Int.reduceEq, Int.reduceNe, Int.reduceAdd, Int.reduceSub, Int.reduceMul, Int.reduceNeg, Int.reduceToNat, Nat.reduceAdd, Nat.reduceMul, Nat.reduceEqDiff, zw32_id, zw64_id, zupd_eq, zupd_na, zupd_ni, zupp_eq, zupp_na, zupp_ni, p62, p64]
      refine cSubtract b1 b2 (by omega) g1.1 g2.1 (by omega) (fun m2 g3 f3 => ?_)
      simp (disch := first | assumption | omega) only [rF_findCommonOdd_97, rF_findCommonOdd_98, Bool.false_eq_true, true_implies, false_implies, implies_true, true_and, and_true, not_true_eq_false, not_false_eq_true, zPush_I, zPush_L, zPush_R, zPush_U, Int.reduceLT, Int.reduceLE, Int.reduceEq, Int.reduceNe, Int.reduceAdd, Int.reduceSub, Int.reduceMul, Int.reduceNeg, Int.reduceToNat, Nat.reduceAdd, Nat.reduceMul, Nat.reduceEqDiff, zw32_id, zw64_id, zupd_eq, zupd_na, zupd_ni, zupp_eq, zupp_na, zupp_ni]
      refine cHalveUntilOdd b1 g3 (fun m4 g4 f4 => ?_)
      simp (disch := first | assumption | omega) only [rF_findCommonOdd_101, rF_findCommonOdd_104, Bool.false_eq_true, true_implies, false_implies, implies_true, true_and, and_true, not_true_eq_false, not_false_eq_true, zPush_I, zPush_L, zPush_R, zPush_U, Int.reduceLT, Int.reduceLE, Int.reduceEq, Int.reduceNe, Int.reduceAdd, Int.reduceSub, Int.reduceMul, Int.reduceNeg, Int.reduceToNat, Nat.reduceAdd, Nat.reduceMul, Nat.reduceEqDiff, zw32_id, zw64_id, zupd_eq, zupd_na, zupd_ni, zupp_eq, zupp_na, zupp_ni]
      have := ih (hu 240 (A - B)) B m4 (by omega) g4 (bG_fr (bG_fr g2 f3 (by unfold pB; omega) (by unfold pB; omega)) f4 (by unfold pB; omega) (by unfold pB; omega)) (frP_tr (frP_tr hf (frP_wd f3 (fun x j hj => by unfold pB at hj; omega))) (frP_wd f4 (fun x j hj => by unfold pB at hj; omega))) hQ
      rw [show 480 - ((n + 1 : Nat) : Int) + 1 = 480 - (n : Int) by push_cast; omega]
      exact this
theorem bW_lt2 {a v : Nat} {m : zMm} (h : bW a v m) : v < 2 ^ 240 := by
  have := bW_lt h
  have e : (2 : Nat) ^ 240 = 1766847064778384329583297500742918515827483896875618958121606201292619776 := by decide
  rw [e]
  omega
theorem log2_bd {v : Nat} (h : v < 2 ^ 240) : v.log2 < 240 := by
  by_cases h0 : v = 0
  · subst h0; decide
  · exact (Nat.log2_lt h0).mpr h
theorem cFindOdd (h : zLy sh pp) {A B : Nat} (g1 : bG 58 A mm) (g2 : bG 60 B mm) (hA : A ≠ 0) (hB : B ≠ 0) (hn : ¬ (A % 2 = 0 ∧ B % 2 = 0)) (hQ : ∀ m, bG 62 (Nat.gcd A B) m → frP (fun x _ => 62 ≤ x ∧ x ≤ 65) mm m → Q zU sh pp m) : zS 34 0 [zR 57, zU, zU, zU] [] sh pp mm Q := by
  have k57 := k_57 h
  have p57 := p_13_8 h
  have k58 := k_58 h
  have p58 := p_57_0 h
  have k60 := k_60 h
  have p60 := p_57_1 h
  have k62 := k_62 h
  have p62 := p_57_2 h
  have k64 := k_64 h
  have p64 := p_57_3 h
  obtain ⟨b3, b4, b1, b2⟩ := bgs_of h
  simp (disch := first | assumption | omega) only [rF_findCommonOdd_0, rF_findCommonOdd_1, rF_findCommonOdd_4, rF_findCommonOdd_5, rF_findCommonOdd_8, Bool.false_eq_true, true_implies, false_implies, implies_true, true_and, and_true, not_true_eq_false, not_false_eq_true, zPush_I, zPush_L, zPush_R, zPush_U, Int.reduceLT, Int.reduceLE, Int.reduceEq, Int.reduceNe, Int.reduceAdd, Int.reduceSub, Int.reduceMul, Int.reduceNeg, Int.reduceToNat, Nat.reduceAdd, Nat.reduceMul, Nat.reduceEqDiff, zw32_id, zw64_id, zupd_eq, zupd_na, zupd_ni, zupp_eq, zupp_na, zupp_ni, p58, p62]
  refine cTakeB b1 b3 (by omega) g1 (fun m1 c1 f1 => ?_)
  simp (disch := first | assumption | omega) only [rF_findCommonOdd_11, rF_findCommonOdd_12, rF_findCommonOdd_15, rF_findCommonOdd_16, rF_findCommonOdd_19, Bool.false_eq_true, true_implies, false_implies, implies_true, true_and, and_true, not_true_eq_false, not_false_eq_true, zPush_I, zPush_L, zPush_R, zPush_U, Int.reduceLT, Int.reduceLE, Int.reduceEq, Int.reduceNe, Int.reduceAdd, Int.reduceSub, Int.reduceMul, Int.reduceNeg, Int.reduceToNat, Nat.reduceAdd, Nat.reduceMul, Nat.reduceEqDiff, zw32_id, zw64_id, zupd_eq, zupd_na, zupd_ni, zupp_eq, zupp_na, zupp_ni, p60, p64]
  have g2' := bG_fr g2 f1 (by unfold pB; omega) (by unfold pB; omega)
  refine cTakeB b2 b4 (by omega) g2' (fun m2 c2 f2 => ?_)
  simp (disch := first | assumption | omega) only [rF_findCommonOdd_22, rF_findCommonOdd_23, rF_findCommonOdd_26, Bool.false_eq_true, true_implies, false_implies, implies_true, true_and, and_true, not_true_eq_false, not_false_eq_true, zPush_I, zPush_L, zPush_R, zPush_U, Int.reduceLT, Int.reduceLE, Int.reduceEq, Int.reduceNe, Int.reduceAdd, Int.reduceSub, Int.reduceMul, Int.reduceNeg, Int.reduceToNat, Nat.reduceAdd, Nat.reduceMul, Nat.reduceEqDiff, zw32_id, zw64_id, zupd_eq, zupd_na, zupd_ni, zupp_eq, zupp_na, zupp_ni, p62]
  refine cHalveUntilOdd b1 (bG_fr c1 f2 (by unfold pB; omega) (by unfold pB; omega)) (fun m3 c3 f3 => ?_)
  simp (disch := first | assumption | omega) only [rF_findCommonOdd_29, rF_findCommonOdd_30, rF_findCommonOdd_33, Bool.false_eq_true, true_implies, false_implies, implies_true, true_and, and_true, not_true_eq_false, not_false_eq_true, zPush_I, zPush_L, zPush_R, zPush_U, Int.reduceLT, Int.reduceLE, Int.reduceEq, Int.reduceNe, Int.reduceAdd, Int.reduceSub, Int.reduceMul, Int.reduceNeg, Int.reduceToNat, Nat.reduceAdd, Nat.reduceMul, Nat.reduceEqDiff, zw32_id, zw64_id, zupd_eq, zupd_na, zupd_ni, zupp_eq, zupp_na, zupp_ni, p64]
  refine cHalveUntilOdd b2 (bG_fr c2 f3 (by unfold pB; omega) (by unfold pB; omega)) (fun m4 c4 f4 => ?_)
  simp (disch := first | assumption | omega) only [rF_findCommonOdd_36, rF_findCommonOdd_37, Bool.false_eq_true, true_implies, false_implies, implies_true, true_and, and_true, not_true_eq_false, not_false_eq_true, zPush_I, zPush_L, zPush_R, zPush_U, Int.reduceLT, Int.reduceLE, Int.reduceEq, Int.reduceNe, Int.reduceAdd, Int.reduceSub, Int.reduceMul, Int.reduceNeg, Int.reduceToNat, Nat.reduceAdd, Nat.reduceMul, Nat.reduceEqDiff, zw32_id, zw64_id, zupd_eq, zupd_na, zupd_ni, zupp_eq, zupp_na, zupp_ni]
  have lA := bW_lt2 g1.1
  have lB := bW_lt2 g2.1
  have o1 := hu_odd 240 A hA lA
  have o2 := hu_odd 240 B hB lB
  have l1 := Nat.lt_of_le_of_lt (hu_le 240 A) lA
  have l2 := Nat.lt_of_le_of_lt (hu_le 240 B) lB
  have q1 := log2_bd l1
  have q2 := log2_bd l2
  have e := fco_ok 480 (hu 240 A) (hu 240 B) o1.1 o2.1 l1 l2 (by omega)
  rw [gcd_od hA hB lA lB hn] at e
  have fz : frP (fun x _ => 62 ≤ x ∧ x ≤ 65) mm m4 := frP_tr (frP_tr (frP_tr (frP_wd f1 (fun x j hj => by unfold pB at hj; omega)) (frP_wd f2 (fun x j hj => by unfold pB at hj; omega))) (frP_wd f3 (fun x j hj => by unfold pB at hj; omega))) (frP_wd f4 (fun x j hj => by unfold pB at hj; omega))
  have := cFco (Q := Q) (mm := mm) h 480 (hu 240 A) (hu 240 B) m4 (Nat.le_refl _) (bG_fr c3 f4 (by unfold pB; omega) (by unfold pB; omega)) c4 fz (fun m5 c5 f5 => hQ m5 (by rw [e] at c5; exact c5) f5)
  simpa using this
theorem cRed1 (h : zLy sh pp) {A0 B0 : Nat} (hz : ∀ m, bG 58 (hb 240 A0 B0).1 m → bG 60 (hb 240 A0 B0).2 m → frP pFr mm m → zS 33 68 [zR 57, zU] [] sh pp m Q) : ∀ (n A B : Nat) (m : zMm), n ≤ 240 → hb n A B = hb 240 A0 B0 → bG 58 A m → bG 60 B m → frP pFr mm m → zS 33 21 [zR 57, zI (240 - (n : Int))] [] sh pp m Q := by
  have k57 := k_57 h
  have p57 := p_13_8 h
  have k58 := k_58 h
  have p58 := p_57_0 h
  have k60 := k_60 h
  have p60 := p_57_1 h
  obtain ⟨b3, b4, b1, b2⟩ := bgs_of h
  intro n
  induction n with
  | zero =>
    intro A B m hn he g1 g2 hf
    have e : hb 0 A B = (A, B) := rfl
    rw [e] at he
    rw [← he] at hz
    rw [rF_reduce_21]
    simp (disch := first | assumption | omega) only [rF_reduce_22, rF_reduce_25, rF_reduce_28, rF_reduce_29, rF_reduce_32, rF_reduce_35, rF_reduce_38, rF_reduce_39, rF_reduce_42, rF_reduce_45, Bool.false_eq_true, true_implies, false_implies, implies_true, true_and, and_true, not_true_eq_false, not_false_eq_true, zPush_I, zPush_L, zPush_R, zPush_U, Int.reduceLT, Int.reduceLE, Int.reduceEq, Int.reduceNe, Int.reduceAdd, Int.reduceSub, Int.reduceMul, Int.reduceNeg, Int.reduceToNat, Nat.reduceAdd, Nat.reduceMul, Nat.reduceEqDiff, zw32_id, zw64_id, zupd_eq, zupd_na, zupd_ni, zupp_eq, zupp_na, zupp_ni, show ¬ (240 - ((0 : Nat) : Int)) < 240 by omega]
    exact hz m g1 g2 hf
  | succ n ih =>
    intro A B m hn he g1 g2 hf
    have hlt : (240 - ((n + 1 : Nat) : Int)) < 240 := by omega
    have e0 : hb (n + 1) A B = if A % 2 = 0 ∧ B % 2 = 0 then hb n (A / 2) (B / 2) else (A, B) := rfl
    rw [e0] at he
    rw [rF_reduce_21]
    by_cases c1 : A % 2 = 0
    · by_cases c2 : B % 2 = 0
      · rw [if_pos ⟨c1, c2⟩] at he
        simp (disch := first | assumption | omega) only [rF_reduce_22, rF_reduce_25, rF_reduce_28, rF_reduce_29, rF_reduce_32, rF_reduce_35, rF_reduce_38, rF_reduce_39, rF_reduce_42, rF_reduce_45, rF_reduce_48, rF_reduce_49, rF_reduce_52, kB_isEven b3 g1.1, kB_isEven b4 g2.1, Bool.false_eq_true, true_implies, false_implies, implies_true, true_and, and_true, not_true_eq_false, not_false_eq_true, zPush_I, zPush_L, zPush_R, zPush_U, Int.reduceLT, Int.reduceLE, Int.reduceEq, Int.reduceNe, Int.reduceAdd, Int.reduceSub, Int.reduceMul, Int.reduceNeg, Int.reduceToNat, Nat.reduceAdd, Nat.reduceMul, Nat.reduceEqDiff, zw32_id, zw64_id, zupd_eq, zupd_na, zupd_ni, zupp_eq, zupp_na, zupp_ni, hlt, p58, p60, c1, c2]
        refine cHalve b3 g1.1 (fun m2 g3 f3 => ?_)
        simp (disch := first | assumption | omega) only [rF_reduce_55, rF_reduce_56, rF_reduce_59, Bool.false_eq_true, true_implies, false_implies, implies_true, true_and, and_true, not_true_eq_false, not_false_eq_true, zPush_I, zPush_L, zPush_R, zPush_U, Int.reduceLT, Int.reduceLE, Int.reduceEq, Int.reduceNe, Int.reduceAdd, Int.reduceSub, Int.reduceMul, Int.reduceNeg, Int.reduceToNat, Nat.reduceAdd, Nat.reduceMul, Nat.reduceEqDiff, zw32_id, zw64_id, zupd_eq, zupd_na, zupd_ni, zupp_eq, zupp_na, zupp_ni, p60]
        refine cHalve b4 (bG_fr g2 f3 (by unfold pB; omega) (by unfold pB; omega)).1 (fun m4 g4 f4 => ?_)
        simp (disch := first | assumption | omega) only [rF_reduce_62, rF_reduce_65, Bool.false_eq_true, true_implies, false_implies, implies_true, true_and, and_true, not_true_eq_false, not_false_eq_true, zPush_I, zPush_L, zPush_R, zPush_U, Int.reduceLT, Int.reduceLE, Int.reduceEq, Int.reduceNe, Int.reduceAdd, Int.reduceSub, Int.reduceMul, Int.reduceNeg, Int.reduceToNat, Nat.reduceAdd, Nat.reduceMul, Nat.reduceEqDiff, zw32_id, zw64_id, zupd_eq, zupd_na, zupd_ni, zupp_eq, zupp_na, zupp_ni]
        have := ih (A / 2) (B / 2) m4 (by omega) he (bG_fr g3 f4 (by unfold pB; omega) (by unfold pB; omega)) g4 (frP_tr (frP_tr hf (frP_wd f3 (fun x j hj => by unfold pB at hj; unfold pFr; omega))) (frP_wd f4 (fun x j hj => by unfold pB at hj; unfold pFr; omega)))
        rw [show 240 - ((n + 1 : Nat) : Int) + 1 = 240 - (n : Int) by push_cast; omega]
        exact this
      · rw [if_neg (fun hc => c2 hc.2)] at he
        rw [← he] at hz
        simp (disch := first | assumption | omega) only [rF_reduce_22, rF_reduce_25, rF_reduce_28, rF_reduce_29, rF_reduce_32, rF_reduce_35, rF_reduce_38, rF_reduce_39, rF_reduce_42, rF_reduce_45, kB_isEven b3 g1.1, kB_isEven b4 g2.1, Bool.false_eq_true, true_implies, false_implies, implies_true, true_and, and_true, not_true_eq_false, not_false_eq_true, zPush_I, zPush_L, zPush_R, zPush_U, Int.reduceLT, Int.reduceLE, Int.reduceEq, Int.reduceNe, Int.reduceAdd, Int.reduceSub, Int.reduceMul, Int.reduceNeg, Int.reduceToNat, Nat.reduceAdd, Nat.reduceMul, Nat.reduceEqDiff, zw32_id, zw64_id, zupd_eq, zupd_na, zupd_ni, zupp_eq, zupp_na, zupp_ni, hlt, p58, p60, c1, c2]
        exact hz m g1 g2 hf
    · rw [if_neg (fun hc => c1 hc.1)] at he
      rw [← he] at hz
      simp (disch := first | assumption | omega) only [rF_reduce_22, rF_reduce_25, rF_reduce_28, rF_reduce_29, rF_reduce_32, rF_reduce_35, rF_reduce_38, rF_reduce_39, rF_reduce_42, rF_reduce_45, kB_isEven b3 g1.1, Bool.false_eq_true, true_implies, false_implies, implies_true, true_and, and_true, not_true_eq_false, not_false_eq_true, zPush_I, zPush_L, zPush_R, zPush_U, Int.reduceLT, Int.reduceLE, Int.reduceEq, Int.reduceNe, Int.reduceAdd, Int.reduceSub, Int.reduceMul, Int.reduceNeg, Int.reduceToNat, Nat.reduceAdd, Nat.reduceMul, Nat.reduceEqDiff, zw32_id, zw64_id, zupd_eq, zupd_na, zupd_ni, zupp_eq, zupp_na, zupp_ni, hlt, p58, p60, c1]
      exact hz m g1 g2 hf
theorem gcd_q {A B k A1 B1 : Nat} (hA : A ≠ 0) (e1 : A = A1 * 2 ^ k) (e2 : B = B1 * 2 ^ k) : A / Nat.gcd A B = A1 / Nat.gcd A1 B1 ∧ B / Nat.gcd A B = B1 / Nat.gcd A1 B1 := by
  have hp : 0 < 2 ^ k := Nat.pow_pos (by decide)
  rw [e1, e2, Nat.gcd_mul_right, Nat.mul_div_mul_right _ _ hp, Nat.mul_div_mul_right _ _ hp]
  exact ⟨rfl, rfl⟩
theorem cReduce (h : zLy sh pp) {A B : Nat} (g1 : bG 58 A mm) (g2 : bG 60 B mm) (hB : B ≠ 0) (hQ : ∀ m, bG 58 (A / Nat.gcd A B) m → bG 60 (B / Nat.gcd A B) m → frP pFr mm m → Q zU sh pp m) : zS 33 0 [zR 57, zU] [] sh pp mm Q := by
  have k57 := k_57 h
  have p57 := p_13_8 h
  have k58 := k_58 h
  have p58 := p_57_0 h
  have k60 := k_60 h
  have p60 := p_57_1 h
  have k62 := k_62 h
  have p62 := p_57_2 h
  obtain ⟨b3, b4, b1, b2⟩ := bgs_of h
  by_cases h0 : A = 0
  · subst h0
    have hs : mm 58 1 = 0 := g1.2
    simp (disch := first | assumption | omega) only [rF_reduce_0, rF_reduce_1, rF_reduce_4, rF_reduce_7, rF_reduce_10, rF_reduce_11, rF_reduce_14, rF_reduce_15, Bool.false_eq_true, true_implies, false_implies, implies_true, true_and, and_true, not_true_eq_false, not_false_eq_true, zPush_I, zPush_L, zPush_R, zPush_U, Int.reduceLT, Int.reduceLE, Int.reduceEq, Int.reduceNe, Int.reduceAdd, Int.reduceSub, Int.reduceMul, Int.reduceNeg, Int.reduceToNat, Nat.reduceAdd, Nat.reduceMul, Nat.reduceEqDiff, zw32_id, zw64_id, zupd_eq, zupd_na, zupd_ni, zupp_eq, zupp_na, zupp_ni, p58, p60, hs]
    refine cBecome b4 (t := 1) (by decide) (fun m g f => ?_)
    simp (disch := first | assumption | omega) only [rF_reduce_18, Bool.false_eq_true, true_implies, false_implies, implies_true, true_and, and_true, not_true_eq_false, not_false_eq_true, zPush_I, zPush_L, zPush_R, zPush_U, Int.reduceLT, Int.reduceLE, Int.reduceEq, Int.reduceNe, Int.reduceAdd, Int.reduceSub, Int.reduceMul, Int.reduceNeg, Int.reduceToNat, Nat.reduceAdd, Nat.reduceMul, Nat.reduceEqDiff, zw32_id, zw64_id, zupd_eq, zupd_na, zupd_ni, zupp_eq, zupp_na, zupp_ni]
    refine hQ m ?_ ?_ (frP_wd f (fun x j hj => by unfold pB at hj; unfold pFr; omega))
    · rw [Nat.zero_div]; exact bG_fr g1 f (by unfold pB; omega) (by unfold pB; omega)
    · rw [Nat.gcd_zero_left, Nat.div_self (by omega)]; exact g
  · have hs : ¬ mm 58 1 = 0 := by rw [g1.2]; exact fun hc => h0 ((nlim_0 A).mp hc)
    simp (disch := first | assumption | omega) only [rF_reduce_0, rF_reduce_1, rF_reduce_4, rF_reduce_7, rF_reduce_10, rF_reduce_11, rF_reduce_14, rF_reduce_15, rF_reduce_18, rF_reduce_19, rF_reduce_20, Bool.false_eq_true, true_implies, false_implies, implies_true, true_and, and_true, not_true_eq_false, not_false_eq_true, zPush_I, zPush_L, zPush_R, zPush_U, Int.reduceLT, Int.reduceLE, Int.reduceEq, Int.reduceNe, Int.reduceAdd, Int.reduceSub, Int.reduceMul, Int.reduceNeg, Int.reduceToNat, Nat.reduceAdd, Nat.reduceMul, Nat.reduceEqDiff, zw32_id, zw64_id, zupd_eq, zupd_na, zupd_ni, zupp_eq, zupp_na, zupp_ni, p58, hs]
    have lA := bW_lt2 g1.1
    obtain ⟨k, e1, e2, e3⟩ := hb_ok 240 A B h0 lA
    have := cRed1 (Q := Q) (mm := mm) h (A0 := A) (B0 := B) (fun m c1 c2 f => ?_) 240 A B mm (Nat.le_refl _) rfl g1 g2 (frP_rf _ _)
    · simpa using this
    · obtain ⟨A1, hA1⟩ : ∃ A1, (hb 240 A B).1 = A1 := ⟨_, rfl⟩
      obtain ⟨B1, hB1⟩ : ∃ B1, (hb 240 A B).2 = B1 := ⟨_, rfl⟩
      rw [hA1, hB1] at e3
      rw [hA1] at c1 e1
      rw [hB1] at c2 e2
      have q := gcd_q h0 e1 e2
      have nA1 : A1 ≠ 0 := by intro hc; rw [hc, Nat.zero_mul] at e1; exact h0 e1
      have nB1 : B1 ≠ 0 := by intro hc; rw [hc, Nat.zero_mul] at e2; exact hB e2
      simp (disch := first | assumption | omega) only [rF_reduce_68, rF_reduce_69, Bool.false_eq_true, true_implies, false_implies, implies_true, true_and, and_true, not_true_eq_false, not_false_eq_true, zPush_I, zPush_L, zPush_R, zPush_U, Int.reduceLT, Int.reduceLE, Int.reduceEq, Int.reduceNe, Int.reduceAdd, Int.reduceSub, Int.reduceMul, Int.reduceNeg, Int.reduceToNat, Nat.reduceAdd, Nat.reduceMul, Nat.reduceEqDiff, zw32_id, zw64_id, zupd_eq, zupd_na, zupd_ni, zupp_eq, zupp_na, zupp_ni]
      refine cFindOdd h c1 c2 nA1 nB1 e3 (fun m2 c3 f3 => ?_)
      have c1' := bG_fr c1 f3 (by omega) (by omega)
      have c2' := bG_fr c2 f3 (by omega) (by omega)
      have fz : frP pFr mm m2 := frP_tr f (frP_wd f3 (fun x j hj => by unfold pFr; omega))
      rw [q.1, q.2] at hQ
      by_cases hg : Nat.gcd A1 B1 = 1
      · rw [hg, Nat.div_one, Nat.div_one] at hQ
        simp (disch := first | assumption | omega) only [rF_reduce_72, rF_reduce_73, rF_reduce_76, rF_reduce_79, rF_reduce_82, rF_reduce_83, rF_reduce_86, rF_reduce_87, rF_reduce_90, rF_reduce_93, rF_reduce_94, rF_reduce_97, rF_reduce_98, rF_reduce_101, rF_reduce_104, kB_isOne b1 c3, Bool.false_eq_true, true_implies, false_implies, implies_true, true_and, and_true, not_true_eq_false, not_false_eq_true, zPush_I, zPush_L, zPush_R, zPush_U, Int.reduceLT, Int.reduceLE, Int.reduceEq, Int.reduceNe, Int.reduceAdd, Int.reduceSub, Int.reduceMul, Int.reduceNeg, Int.reduceToNat, Nat.reduceAdd, Nat.reduceMul, Nat.reduceEqDiff, zw32_id, zw64_id, zupd_eq, zupd_na, zupd_ni, zupp_eq, zupp_na, zupp_ni, p62, hg]
        exact hQ m2 c1' c2' fz
      · have go : Nat.gcd A1 B1 % 2 = 1 := by
          have d1 := Nat.gcd_dvd_left A1 B1
          have d2 := Nat.gcd_dvd_right A1 B1
          by_cases hc : Nat.gcd A1 B1 % 2 = 0
          · exfalso
            have d3 : 2 ∣ Nat.gcd A1 B1 := Nat.dvd_of_mod_eq_zero hc
            exact e3 ⟨Nat.mod_eq_zero_of_dvd (Nat.dvd_trans d3 d1), Nat.mod_eq_zero_of_dvd (Nat.dvd_trans d3 d2)⟩
          · omega
        have w1 := c1'.1
        rw [← Nat.div_mul_cancel (Nat.gcd_dvd_left A1 B1)] at w1
        have l1 := bW_lt c1'.1
        have l2 := bW_lt c2'.1
        have s1 := Nat.div_le_self A1 (Nat.gcd A1 B1)
        have s2 := Nat.div_le_self B1 (Nat.gcd A1 B1)
        simp (disch := first | assumption | omega) only [rF_reduce_72, rF_reduce_73, rF_reduce_76, rF_reduce_79, rF_reduce_82, rF_reduce_83, rF_reduce_86, rF_reduce_87, rF_reduce_90, kB_isOne b1 c3, Bool.false_eq_true, true_implies, false_implies, implies_true, true_and, and_true, not_true_eq_false, not_false_eq_true, zPush_I, zPush_L, zPush_R, zPush_U, Int.reduceLT, Int.reduceLE, Int.reduceEq, Int.reduceNe, Int.reduceAdd, Int.reduceSub, Int.reduceMul, Int.reduceNeg, Int.reduceToNat, Nat.reduceAdd, Nat.reduceMul, Nat.reduceEqDiff, zw32_id, zw64_id, zupd_eq, zupd_na, zupd_ni, zupp_eq, zupp_na, zupp_ni, p62, p58, hg]
        refine cDivide b3 b1 (by omega) w1 c3.1 go (by omega) (fun m5 c5 f5 => ?_)
        have c2'' := bG_fr c2' f5 (by unfold pB; omega) (by unfold pB; omega)
        have c3' := bG_fr c3 f5 (by unfold pB; omega) (by unfold pB; omega)
        have w2 := c2''.1
        rw [← Nat.div_mul_cancel (Nat.gcd_dvd_right A1 B1)] at w2
        simp (disch := first | assumption | omega) only [rF_reduce_93, rF_reduce_94, rF_reduce_97, rF_reduce_98, rF_reduce_101, Bool.false_eq_true, true_implies, false_implies, implies_true, true_and, and_true, not_true_eq_false, not_false_eq_true, zPush_I, zPush_L, zPush_R, zPush_U, Int.reduceLT, Int.reduceLE, Int.reduceEq, Int.reduceNe, Int.reduceAdd, Int.reduceSub, Int.reduceMul, Int.reduceNeg, Int.reduceToNat, Nat.reduceAdd, Nat.reduceMul, Nat.reduceEqDiff, zw32_id, zw64_id, zupd_eq, zupd_na, zupd_ni, zupp_eq, zupp_na, zupp_ni, p62, p60]
        refine cDivide b4 b1 (by omega) w2 c3'.1 go (by omega) (fun m6 c6 f6 => ?_)
        simp (disch := first | assumption | omega) only [rF_reduce_104, Bool.false_eq_true, true_implies, false_implies, implies_true, true_and, and_true, not_true_eq_false, not_false_eq_true, zPush_I, zPush_L, zPush_R, zPush_U, Int.reduceLT, Int.reduceLE, Int.reduceEq, Int.reduceNe, Int.reduceAdd, Int.reduceSub, Int.reduceMul, Int.reduceNeg, Int.reduceToNat, Nat.reduceAdd, Nat.reduceMul, Nat.reduceEqDiff, zw32_id, zw64_id, zupd_eq, zupd_na, zupd_ni, zupp_eq, zupp_na, zupp_ni]
        exact hQ m6 (bG_fr c5 f6 (by unfold pB; omega) (by unfold pB; omega)) c6 (frP_tr (frP_tr fz (frP_wd f5 (fun x j hj => by unfold pB at hj; unfold pFr; omega))) (frP_wd f6 (fun x j hj => by unfold pB at hj; unfold pFr; omega)))
end
