/-! ===== nets of the class: first corners; odd, once, starts ===== -/
theorem pcN_flip {M a : Nat} {n : Nat} (h : a < n) : (pcN (M ^^^ 2 ^ a) n + pcN M n) % 2 = 1 := by
  cases hb : M.testBit a with
  | true =>
    have := pcN_x hb n h
    omega
  | false =>
    have hb' : (M ^^^ 2 ^ a).testBit a = true := by rw [tb_xs, hb]; rfl
    have := pcN_x hb' n h
    rw [Nat.xor_assoc, Nat.xor_self, Nat.xor_zero] at this
    omega
theorem oddS_even {A C : Nat → Nat} {R : Nat} : ∀ n, (∀ e, e < n → A e ≤ 9 ∧ C e ≤ 9) → pcN (oddS A C R n) 12 % 2 = 0
  | 0, _ => by
    show pcN 0 12 % 2 = 0
    decide
  | n + 1, h => by
    have ih := oddS_even (R := R) n (fun e he => h e (by omega))
    have hn := h n (by omega)
    show pcN (oddS A C R n ^^^ (if R.testBit n = true then 2 ^ A n ^^^ 2 ^ C n else 0)) 12 % 2 = 0
    split
    · have z1 := pcN_flip (M := oddS A C R n) (a := A n) (n := 12) (by omega)
      have z2 := pcN_flip (M := oddS A C R n ^^^ 2 ^ A n) (a := C n) (n := 12) (by omega)
      rw [Nat.xor_assoc] at z2
      omega
    · rw [Nat.xor_zero]; exact ih
theorem pcN_two {k t : Nat} (hk : k < 12) (ht : t < 12) : pcN (2 ^ k ^^^ 2 ^ t) 12 ≤ 2 := by
  have z1 := pcN_or (S := 0) (e := k) (Nat.zero_testBit k) 12
  rw [if_pos hk, Nat.zero_or, show pcN 0 12 = 0 by decide] at z1
  by_cases e : k = t
  · subst e
    rw [Nat.xor_self, show pcN 0 12 = 0 by decide]
    omega
  · have z2 := pcN_or (S := 2 ^ k) (e := t) (by rw [Nat.testBit_two_pow]; simp [e]) 12
    rw [if_pos ht, or_xor e] at z2
    omega
section
variable {f : Int → Int}
theorem cP_0 (ok : fOk f) {k : Nat} (hk : k < 10) : cP f k 0 ↔ can (nA f) (nC f) k (2 ^ nE f - 1) := by
  have e : whB f k 0 = (k : Int) := whB_e hk hk (by rw [oddS_0, Nat.xor_self])
  unfold cP
  rw [Nat.xor_zero]
  constructor
  · rintro ⟨w, h1, h2⟩
    have : w = k := by omega
    subst this
    exact h2
  · intro h
    exact ⟨k, e, h⟩
theorem all_lt : 2 ^ nE f - 1 < 2 ^ nE f := by
  have : 0 < 2 ^ nE f := Nat.pow_pos (by decide)
  omega
theorem can_all (ok : fOk f) (h0 : 0 < nE f) {k : Nat} (hk : k < 10) : can (nA f) (nC f) k (2 ^ nE f - 1) ↔ (onB f = true ∧ ((oddS (nA f) (nC f) (2 ^ nE f - 1) (nE f) = 0 → ∃ e, e < nE f ∧ mts (nA f) (nC f) e k) ∧ (oddS (nA f) (nC f) (2 ^ nE f - 1) (nE f) ≠ 0 → (oddS (nA f) (nC f) (2 ^ nE f - 1) (nE f)).testBit k = true))) := by
  have oo := oddS_lt (R := 2 ^ nE f - 1) (nE f) (fun i hi => (nAC ok hi).2.2.2.2.2)
  have ev := oddS_even (R := 2 ^ nE f - 1) (nE f) (fun i hi => (nAC ok hi).2.2.2.2.2)
  constructor
  · intro h
    have hg := hgs_of h
    obtain ⟨t, ht⟩ := can_odd all_lt h
    have h1 : hgB f = true := (hgB_s ok h0).mpr (hgs_mv hg (tb_all.mpr h0) (Or.inl rfl))
    have t12 : t < 10 := by
      by_cases e : k = t
      · omega
      · exact lt_of_tb (E := 10) oo (by rw [ht]; exact two_ne e)
    refine ⟨(onB_i f).mpr ⟨h1, by rw [ht]; exact pcN_two (by omega) (by omega)⟩, fun _ => ?_, fun hne => ?_⟩
    · obtain ⟨e, e1, e2, -⟩ := can_mt h (by
        have : 2 ^ 1 ≤ 2 ^ nE f := Nat.pow_le_pow_right (by decide) h0
        omega)
      exact ⟨e, tb_all.mp e1, e2⟩
    · rw [ht, Nat.xor_comm]
      refine two_ne (fun e => hne ?_)
      rw [ht, e, Nat.xor_self]
  · rintro ⟨h1, h2, h3⟩
    obtain ⟨hb, hp⟩ := (onB_i f).mp h1
    have hg := (hgB_s ok h0).mp hb
    by_cases z : oddS (nA f) (nC f) (2 ^ nE f - 1) (nE f) = 0
    · obtain ⟨e, e1, e2⟩ := h2 z
      exact euler (t := k) all_lt (hgs_mv hg (tb_all.mpr e1) e2) (by rw [z, Nat.xor_self])
    · have hk1 := h3 z
      obtain ⟨e, e1, e2⟩ := oddS_ex (nE f) hk1
      have p2 : pcN (oddS (nA f) (nC f) (2 ^ nE f - 1) (nE f)) 12 = 2 := by
        have nz : pcN (oddS (nA f) (nC f) (2 ^ nE f - 1) (nE f)) 12 ≠ 0 := fun hz => by
          have := pcN_0 12 hz k (by omega)
          rw [hk1] at this
          cases this
        omega
      obtain ⟨e3, -⟩ := pc2 hk oo hk1 p2
      refine euler (t := (oddS (nA f) (nC f) (2 ^ nE f - 1) (nE f) ^^^ 2 ^ k).log2) all_lt (hgs_mv hg e1 e2) ?_
      rw [← e3, Nat.xor_comm (oddS (nA f) (nC f) (2 ^ nE f - 1) (nE f)), ← Nat.xor_assoc, Nat.xor_self, Nat.zero_xor]
def orE (f : Int → Int) : Nat → Nat
  | 0 => 0
  | n + 1 => orE f n ||| hgO (nA f) (nC f) n
theorem orE_tb {k : Nat} : ∀ n, (orE f n).testBit k = true ↔ ∃ e, e < n ∧ mts (nA f) (nC f) e k
  | 0 => by
    show (0 : Nat).testBit k = true ↔ _
    rw [Nat.zero_testBit]
    constructor
    · intro h; cases h
    · rintro ⟨e, he, -⟩; omega
  | n + 1 => by
    show (orE f n ||| hgO (nA f) (nC f) n).testBit k = true ↔ _
    rw [Nat.testBit_or, Bool.or_eq_true, orE_tb n, tb_hgO]
    constructor
    · rintro (⟨e, h1, h2⟩ | h)
      · exact ⟨e, by omega, h2⟩
      · exact ⟨n, by omega, h⟩
    · rintro ⟨e, h1, h2⟩
      by_cases en : e = n
      · subst en; exact Or.inr h2
      · exact Or.inl ⟨e, by omega, h2⟩
theorem orE_lt (ok : fOk f) : ∀ n, n ≤ nE f → orE f n < 1024
  | 0, _ => by show 0 < 1024; omega
  | n + 1, h => Nat.or_lt_two_pow (n := 10) (orE_lt ok n (by omega)) (hgO_lt (nAC ok (show n < nE f by omega)).2.2.2.2.2)
def fC (f : Int → Int) : Nat := if onB f = true ∧ 0 < nE f then (if oddS (nA f) (nC f) (2 ^ nE f - 1) (nE f) = 0 then orE f (nE f) else oddS (nA f) (nC f) (2 ^ nE f - 1) (nE f)) else 0
theorem fC_lt (ok : fOk f) : fC f < 1024 := by
  unfold fC
  split
  · split
    · exact orE_lt ok _ (Nat.le_refl _)
    · exact oddS_lt (nE f) (fun i hi => (nAC ok hi).2.2.2.2.2)
  · omega
theorem mts_lt (ok : fOk f) {e k : Nat} (he : e < nE f) (h : mts (nA f) (nC f) e k) : k < (f 982).toNat := by
  obtain ⟨-, -, h1, h2, -, -, -⟩ := nAC ok he
  rcases h with h | h <;> omega
theorem cP_lt (ok : fOk f) (h0 : 0 < nE f) {k : Nat} (hk : k < 10) (h : cP f k 0) : k < (f 982).toNat := by
  obtain ⟨e, e1, e2, -⟩ := can_mt ((cP_0 ok hk).mp h) (by
    have : 2 ^ 1 ≤ 2 ^ nE f := Nat.pow_le_pow_right (by decide) h0
    omega)
  exact mts_lt ok (tb_all.mp e1) e2
theorem fC_tb (ok : fOk f) {k : Nat} : (fC f).testBit k = true ↔ (k < (f 982).toNat ∧ 0 < nE f ∧ cP f k 0) := by
  have c1 := ok.2.2.2.1.2.1
  by_cases hk : k < 10
  · unfold fC
    by_cases h : onB f = true ∧ 0 < nE f
    · rw [if_pos h, cP_0 ok hk, can_all ok h.2 hk]
      by_cases z : oddS (nA f) (nC f) (2 ^ nE f - 1) (nE f) = 0
      · rw [if_pos z, orE_tb]
        constructor
        · rintro ⟨e, e1, e2⟩
          exact ⟨mts_lt ok e1 e2, h.2, h.1, fun _ => ⟨e, e1, e2⟩, fun x => absurd z x⟩
        · rintro ⟨-, -, -, x, -⟩
          exact x z
      · rw [if_neg z]
        constructor
        · intro x
          obtain ⟨e, e1, e2⟩ := oddS_ex (nE f) x
          exact ⟨mts_lt ok (tb_all.mp e1) e2, h.2, h.1, fun y => absurd y z, fun _ => x⟩
        · rintro ⟨-, -, -, -, x⟩
          exact x z
    · rw [if_neg h, Nat.zero_testBit]
      constructor
      · intro x; cases x
      · rintro ⟨-, x, y⟩
        exact absurd ⟨((can_all ok x hk).mp ((cP_0 ok hk).mp y)).1, x⟩ h
  · constructor
    · intro x
      exact absurd (lt_of_tb (E := 10) (fC_lt ok) x) hk
    · rintro ⟨x, -⟩
      omega
theorem stA_fC (ok : fOk f) : stA f ((fC f : Nat) : Int) := ⟨fC f, rfl, fun k => fC_tb ok⟩
end
section
variable {sh : zSh} {pp : zPp} {mm : zMm} {Q : zV → zSh → zPp → zMm → Prop} {f : Int → Int} {G : Int → Option (Int → Int)} {cn : Int → Int} {N D : Nat}
theorem kN_hasLine (h : zLy sh pp) (hK : cNtK f mm) : zS 61 0 [zR 38] [] sh pp mm Q ↔ Q (zI (if onB f = true ∧ 0 < nE f then 1 else 0)) sh pp mm := by
  have k38 := k_38 h
  have p38 := p_13_5 h
  obtain ⟨⟨-, -, h2, h3⟩, -⟩ := hK
  by_cases o : onB f = true
  · rw [if_pos o] at h2
    by_cases z : 0 < nE f
    · rw [if_pos ⟨o, z⟩]
      simp (disch := first | assumption | omega) only [rN_hasLine_0, rN_hasLine_1, rN_hasLine_4, rN_hasLine_7, rN_hasLine_8, rN_hasLine_11, rN_hasLine_14, rN_hasLine_15, rN_hasLine_18, rN_hasLine_19, Bool.false_eq_true, true_implies, false_implies, implies_true, true_and, and_true, not_true_eq_false, not_false_eq_true, zPush_I, zPush_L, zPush_R, zPush_U, Int.reduceLT, Int.reduceLE, Int.reduceEq, Int.reduceNe, Int.reduceAdd, Int.reduceSub, Int.reduceMul, Int.reduceNeg, Int.reduceToNat, Nat.reduceAdd, Nat.reduceMul, Nat.reduceEqDiff, zw32_id, zw64_id, zupd_eq, zupd_na, zupd_ni, zupp_eq, zupp_na, zupp_ni, h2, h3, eq_true (show 0 < (nE f : Int) by omega), true_or, or_true]
    · rw [if_neg (fun x => z x.2)]
      simp (disch := first | assumption | omega) only [rN_hasLine_0, rN_hasLine_1, rN_hasLine_4, rN_hasLine_7, rN_hasLine_8, rN_hasLine_11, rN_hasLine_14, rN_hasLine_15, rN_hasLine_18, rN_hasLine_19, Bool.false_eq_true, true_implies, false_implies, implies_true, true_and, and_true, not_true_eq_false, not_false_eq_true, zPush_I, zPush_L, zPush_R, zPush_U, Int.reduceLT, Int.reduceLE, Int.reduceEq, Int.reduceNe, Int.reduceAdd, Int.reduceSub, Int.reduceMul, Int.reduceNeg, Int.reduceToNat, Nat.reduceAdd, Nat.reduceMul, Nat.reduceEqDiff, zw32_id, zw64_id, zupd_eq, zupd_na, zupd_ni, zupp_eq, zupp_na, zupp_ni, h2, h3, eq_false (show ¬ 0 < (nE f : Int) by omega), true_or, or_true]
  · rw [if_neg o] at h2
    rw [if_neg (fun x => o x.1)]
    simp (disch := first | assumption | omega) only [rN_hasLine_0, rN_hasLine_1, rN_hasLine_4, rN_hasLine_7, rN_hasLine_8, rN_hasLine_11, rN_hasLine_14, rN_hasLine_15, rN_hasLine_18, rN_hasLine_19, Bool.false_eq_true, true_implies, false_implies, implies_true, true_and, and_true, not_true_eq_false, not_false_eq_true, zPush_I, zPush_L, zPush_R, zPush_U, Int.reduceLT, Int.reduceLE, Int.reduceEq, Int.reduceNe, Int.reduceAdd, Int.reduceSub, Int.reduceMul, Int.reduceNeg, Int.reduceToNat, Nat.reduceAdd, Nat.reduceMul, Nat.reduceEqDiff, zw32_id, zw64_id, zupd_eq, zupd_na, zupd_ni, zupp_eq, zupp_na, zupp_ni, h2, true_or, or_true]
theorem kN_first (h : zLy sh pp) (ok : fOk f) (hK : cNtK f mm) : zS 62 0 [zR 38, zU, zU] [] sh pp mm Q ↔ Q (zI ((fC f : Nat) : Int)) sh pp mm := by
  have k38 := k_38 h
  have p38 := p_13_5 h
  have k41 := k_41 h
  have l41 := l_41 h
  have p41 := p_38_6 h
  have l := nE_le ok
  have hl := fun (Q : zV → zSh → zPp → zMm → Prop) => kN_hasLine (Q := Q) h hK
  obtain ⟨⟨h0, -, -, h3⟩, hr, -⟩ := hK
  unfold fC
  by_cases o : onB f = true ∧ 0 < nE f
  · rw [if_pos o] at hl ⊢
    by_cases z : oddS (nA f) (nC f) (2 ^ nE f - 1) (nE f) = 0
    · rw [if_pos z]
      have h0' : mm 38 0 = 0 := by rw [h0, z]; rfl
      have key : ∀ (d i : Nat), i + d = nE f → (zS 62 25 [zR 38, zI (orE f i : Nat), zI (i : Int)] [] sh pp mm Q ↔ Q (zI (orE f (nE f) : Nat)) sh pp mm) := by
        intro d
        induction d with
        | zero =>
          intro i hi
          have hi' : i = nE f := by omega
          rw [rN_firstCorners_25, hi']
          simp (disch := first | assumption | omega) only [rN_firstCorners_26, rN_firstCorners_27, rN_firstCorners_30, rN_firstCorners_48, rN_firstCorners_49, Bool.false_eq_true, true_implies, false_implies, implies_true, true_and, and_true, not_true_eq_false, not_false_eq_true, zPush_I, zPush_L, zPush_R, zPush_U, Int.reduceLT, Int.reduceLE, Int.reduceEq, Int.reduceNe, Int.reduceAdd, Int.reduceSub, Int.reduceMul, Int.reduceNeg, Int.reduceToNat, Nat.reduceAdd, Nat.reduceMul, Nat.reduceEqDiff, zw32_id, zw64_id, zupd_eq, zupd_na, zupd_ni, zupp_eq, zupp_na, zupp_ni, h3, Int.lt_irrefl]
        | succ d ih =>
          intro i hi
          have zi := ih (i + 1) (by omega)
          rw [show ((i + 1 : Nat) : Int) = (i : Int) + 1 by omega] at zi
          have ei := (hr i (by omega)).2.2.1
          have o1 := orE_lt ok i (by omega)
          have o2 := hgO_lt (A := nA f) (C := nC f) (e := i) (nAC ok (show i < nE f by omega)).2.2.2.2.2
          have x1 : zor ((orE f i : Nat) : Int) ((hgO (nA f) (nC f) i : Nat) : Int) = ((orE f (i + 1) : Nat) : Int) := zorN (by omega) (by omega)
          rw [← zi, rN_firstCorners_25]
          simp (disch := first | assumption | omega) only [rN_firstCorners_26, rN_firstCorners_27, rN_firstCorners_30, rN_firstCorners_33, rN_firstCorners_34, rN_firstCorners_35, rN_firstCorners_38, rN_firstCorners_39, rN_firstCorners_40, rN_firstCorners_41, rN_firstCorners_42, rN_firstCorners_45, Bool.false_eq_true, true_implies, false_implies, implies_true, true_and, and_true, not_true_eq_false, not_false_eq_true, zPush_I, zPush_L, zPush_R, zPush_U, Int.reduceLT, Int.reduceLE, Int.reduceEq, Int.reduceNe, Int.reduceAdd, Int.reduceSub, Int.reduceMul, Int.reduceNeg, Int.reduceToNat, Nat.reduceAdd, Nat.reduceMul, Nat.reduceEqDiff, zw32_id, zw64_id, zupd_eq, zupd_na, zupd_ni, zupp_eq, zupp_na, zupp_ni, p41, h3, ei, eq_true (show (i : Int) < (nE f : Int) by omega), x1]
      have k := key (nE f) 0 (by omega)
      simp (disch := first | assumption | omega) only [rN_firstCorners_0, rN_firstCorners_1, rN_firstCorners_4, rN_firstCorners_7, rN_firstCorners_8, rN_firstCorners_9, rN_firstCorners_10, rN_firstCorners_13, rN_firstCorners_16, rN_firstCorners_17, rN_firstCorners_20, rN_firstCorners_21, rN_firstCorners_22, rN_firstCorners_23, rN_firstCorners_24, Bool.false_eq_true, true_implies, false_implies, implies_true, true_and, and_true, not_true_eq_false, not_false_eq_true, zPush_I, zPush_L, zPush_R, zPush_U, Int.reduceLT, Int.reduceLE, Int.reduceEq, Int.reduceNe, Int.reduceAdd, Int.reduceSub, Int.reduceMul, Int.reduceNeg, Int.reduceToNat, Nat.reduceAdd, Nat.reduceMul, Nat.reduceEqDiff, zw32_id, zw64_id, zupd_eq, zupd_na, zupd_ni, zupp_eq, zupp_na, zupp_ni, hl, h0']
      exact k
    · rw [if_neg z]
      simp (disch := first | assumption | omega) only [rN_firstCorners_0, rN_firstCorners_1, rN_firstCorners_4, rN_firstCorners_7, rN_firstCorners_8, rN_firstCorners_9, rN_firstCorners_10, rN_firstCorners_13, rN_firstCorners_16, rN_firstCorners_17, rN_firstCorners_20, Bool.false_eq_true, true_implies, false_implies, implies_true, true_and, and_true, not_true_eq_false, not_false_eq_true, zPush_I, zPush_L, zPush_R, zPush_U, Int.reduceLT, Int.reduceLE, Int.reduceEq, Int.reduceNe, Int.reduceAdd, Int.reduceSub, Int.reduceMul, Int.reduceNeg, Int.reduceToNat, Nat.reduceAdd, Nat.reduceMul, Nat.reduceEqDiff, zw32_id, zw64_id, zupd_eq, zupd_na, zupd_ni, zupp_eq, zupp_na, zupp_ni, hl, h0, eq_false (show ¬ ((oddS (nA f) (nC f) (2 ^ nE f - 1) (nE f) : Nat) : Int) = 0 by omega)]
  · rw [if_neg o] at hl ⊢
    simp (disch := first | assumption | omega) only [rN_firstCorners_0, rN_firstCorners_1, rN_firstCorners_4, rN_firstCorners_7, rN_firstCorners_8, Bool.false_eq_true, true_implies, false_implies, implies_true, true_and, and_true, not_true_eq_false, not_false_eq_true, zPush_I, zPush_L, zPush_R, zPush_U, Int.reduceLT, Int.reduceLE, Int.reduceEq, Int.reduceNe, Int.reduceAdd, Int.reduceSub, Int.reduceMul, Int.reduceNeg, Int.reduceToNat, Nat.reduceAdd, Nat.reduceMul, Nat.reduceEqDiff, zw32_id, zw64_id, zupd_eq, zupd_na, zupd_ni, zupp_eq, zupp_na, zupp_ni, hl, Int.cast_ofNat_Int]
theorem frX_nt {m' : zMm} (h : frP ntF mm m') : frX sh mm sh m' := frX_P h (fun x j hj => by unfold ntF at hj; omega)
theorem cOdd (hc : cOk f G cn N D sh pp mm) (ok : fOk f) (hQ : ∀ m, cOk f G cn N D sh pp m → frX sh mm sh m → Q (zI (oddS (nA f) (nC f) (2 ^ nE f - 1) (nE f) : Nat)) sh pp m) : zS 118 0 [zR 13] [] sh pp mm Q := by
  have h := hc.1
  have k13 := k_13 h
  have k14 := k_14 h
  have p14 := p_13_0 h
  have k38 := k_38 h
  have p38 := p_13_5 h
  simp (disch := first | assumption | omega) only [rX_odd_0, rX_odd_1, rX_odd_4, rX_odd_5, rX_odd_8, Bool.false_eq_true, true_implies, false_implies, implies_true, true_and, and_true, not_true_eq_false, not_false_eq_true, zPush_I, zPush_L, zPush_R, zPush_U, Int.reduceLT, Int.reduceLE, Int.reduceEq, Int.reduceNe, Int.reduceAdd, Int.reduceSub, Int.reduceMul, Int.reduceNeg, Int.reduceToNat, Nat.reduceAdd, Nat.reduceMul, Nat.reduceEqDiff, zw32_id, zw64_id, zupd_eq, zupd_na, zupd_ni, zupp_eq, zupp_na, zupp_ni, p14, p38]
  refine cLearn hc ok (fun m1 c1 k1 _ f1 => ?_)
  have q := hQ m1 c1 (frX_nt f1)
  simp (disch := first | assumption | omega) only [rX_odd_11, rX_odd_12, rX_odd_15, rX_odd_18, Bool.false_eq_true, true_implies, false_implies, implies_true, true_and, and_true, not_true_eq_false, not_false_eq_true, zPush_I, zPush_L, zPush_R, zPush_U, Int.reduceLT, Int.reduceLE, Int.reduceEq, Int.reduceNe, Int.reduceAdd, Int.reduceSub, Int.reduceMul, Int.reduceNeg, Int.reduceToNat, Nat.reduceAdd, Nat.reduceMul, Nat.reduceEqDiff, zw32_id, zw64_id, zupd_eq, zupd_na, zupd_ni, zupp_eq, zupp_na, zupp_ni, p38, k1.1.1]
  exact q
theorem cOnce (hc : cOk f G cn N D sh pp mm) (ok : fOk f) (hQ : ∀ m, cOk f G cn N D sh pp m → frX sh mm sh m → Q (zI (if onB f = true then 1 else 0)) sh pp m) : zS 119 0 [zR 13] [] sh pp mm Q := by
  have h := hc.1
  have k13 := k_13 h
  have k14 := k_14 h
  have p14 := p_13_0 h
  have k38 := k_38 h
  have p38 := p_13_5 h
  simp (disch := first | assumption | omega) only [rX_once_0, rX_once_1, rX_once_4, rX_once_5, rX_once_8, Bool.false_eq_true, true_implies, false_implies, implies_true, true_and, and_true, not_true_eq_false, not_false_eq_true, zPush_I, zPush_L, zPush_R, zPush_U, Int.reduceLT, Int.reduceLE, Int.reduceEq, Int.reduceNe, Int.reduceAdd, Int.reduceSub, Int.reduceMul, Int.reduceNeg, Int.reduceToNat, Nat.reduceAdd, Nat.reduceMul, Nat.reduceEqDiff, zw32_id, zw64_id, zupd_eq, zupd_na, zupd_ni, zupp_eq, zupp_na, zupp_ni, p14, p38]
  refine cLearn hc ok (fun m1 c1 k1 _ f1 => ?_)
  have q := hQ m1 c1 (frX_nt f1)
  have e := k1.1.2.2.1
  by_cases o : onB f = true
  · rw [if_pos o] at e q
    simp (disch := first | assumption | omega) only [rX_once_11, rX_once_12, rX_once_15, rX_once_18, rX_once_21, rX_once_22, rX_once_25, rX_once_26, Bool.false_eq_true, true_implies, false_implies, implies_true, true_and, and_true, not_true_eq_false, not_false_eq_true, zPush_I, zPush_L, zPush_R, zPush_U, Int.reduceLT, Int.reduceLE, Int.reduceEq, Int.reduceNe, Int.reduceAdd, Int.reduceSub, Int.reduceMul, Int.reduceNeg, Int.reduceToNat, Nat.reduceAdd, Nat.reduceMul, Nat.reduceEqDiff, zw32_id, zw64_id, zupd_eq, zupd_na, zupd_ni, zupp_eq, zupp_na, zupp_ni, p38, e]
    exact q
  · rw [if_neg o] at e q
    simp (disch := first | assumption | omega) only [rX_once_11, rX_once_12, rX_once_15, rX_once_18, rX_once_21, rX_once_22, rX_once_25, rX_once_26, Bool.false_eq_true, true_implies, false_implies, implies_true, true_and, and_true, not_true_eq_false, not_false_eq_true, zPush_I, zPush_L, zPush_R, zPush_U, Int.reduceLT, Int.reduceLE, Int.reduceEq, Int.reduceNe, Int.reduceAdd, Int.reduceSub, Int.reduceMul, Int.reduceNeg, Int.reduceToNat, Nat.reduceAdd, Nat.reduceMul, Nat.reduceEqDiff, zw32_id, zw64_id, zupd_eq, zupd_na, zupd_ni, zupp_eq, zupp_na, zupp_ni, p38, e]
    exact q
theorem cStarts (hc : cOk f G cn N D sh pp mm) (ok : fOk f) (hQ : ∀ m v, cOk f G cn N D sh pp m → frX sh mm sh m → stA f v → Q (zI v) sh pp m) : zS 121 0 [zR 13] [] sh pp mm Q := by
  have h := hc.1
  have k13 := k_13 h
  have k14 := k_14 h
  have p14 := p_13_0 h
  have k38 := k_38 h
  have p38 := p_13_5 h
  simp (disch := first | assumption | omega) only [rX_starts_0, rX_starts_1, rX_starts_4, rX_starts_5, rX_starts_8, Bool.false_eq_true, true_implies, false_implies, implies_true, true_and, and_true, not_true_eq_false, not_false_eq_true, zPush_I, zPush_L, zPush_R, zPush_U, Int.reduceLT, Int.reduceLE, Int.reduceEq, Int.reduceNe, Int.reduceAdd, Int.reduceSub, Int.reduceMul, Int.reduceNeg, Int.reduceToNat, Nat.reduceAdd, Nat.reduceMul, Nat.reduceEqDiff, zw32_id, zw64_id, zupd_eq, zupd_na, zupd_ni, zupp_eq, zupp_na, zupp_ni, p14, p38]
  refine cLearn hc ok (fun m1 c1 k1 _ f1 => ?_)
  have q := hQ m1 _ c1 (frX_nt f1) (stA_fC ok)
  have kf := fun (Q : zV → zSh → zPp → zMm → Prop) => kN_first (Q := Q) h ok k1
  simp (disch := first | assumption | omega) only [rX_starts_11, rX_starts_12, rX_starts_15, rX_starts_18, Bool.false_eq_true, true_implies, false_implies, implies_true, true_and, and_true, not_true_eq_false, not_false_eq_true, zPush_I, zPush_L, zPush_R, zPush_U, Int.reduceLT, Int.reduceLE, Int.reduceEq, Int.reduceNe, Int.reduceAdd, Int.reduceSub, Int.reduceMul, Int.reduceNeg, Int.reduceToNat, Nat.reduceAdd, Nat.reduceMul, Nat.reduceEqDiff, zw32_id, zw64_id, zupd_eq, zupd_na, zupd_ni, zupp_eq, zupp_na, zupp_ni, p38, kf]
  exact q
end
