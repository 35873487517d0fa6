/-! ===== nets of the reference: the first line ===== -/
theorem least_of {P : Nat → Prop} : ∀ n, P n → ∃ m, P m ∧ m ≤ n ∧ ∀ k, k < m → ¬ P k := by
  intro n
  induction n using Nat.strongRecOn with
  | ind n ih =>
    intro hn
    by_cases h : ∃ k, k < n ∧ P k
    · obtain ⟨k, hk, hp⟩ := h
      obtain ⟨m, h1, h2, h3⟩ := ih k hk hp
      exact ⟨m, h1, by omega, h3⟩
    · exact ⟨n, hn, Nat.le_refl n, fun k hk hp => h ⟨k, hk, hp⟩⟩
def okE (f : Int → Int) (c S e : Nat) : Prop := e < nE f ∧ S.testBit e = false ∧ (∃ w : Nat, whB f c S = (w : Int) ∧ mts (nA f) (nC f) e w) ∧ cP f c (S ||| 2 ^ e)
def lsE (f : Int → Int) (c S e : Nat) : Prop := okE f c S e ∧ ∀ k, k < e → ¬ okE f c S k
/-- after n steps g holds the first line, S is laid -/
def lnR (f : Int → Int) (c : Nat) (g : Int → Int) : Nat → Nat → Prop
  | 0, S => S = 0
  | n + 1, S => ∃ T e : Nat, lnR f c g n T ∧ g (n : Int) = (e : Int) ∧ lsE f c T e ∧ S = T ||| 2 ^ e
theorem pcN_or {S e : Nat} (h : S.testBit e = false) : ∀ n, pcN (S ||| 2 ^ e) n = pcN S n + (if e < n then 1 else 0)
  | 0 => by simp [pcN]
  | n + 1 => by
    have i := pcN_or h n
    unfold pcN
    rw [i, Nat.testBit_or, Nat.testBit_two_pow]
    by_cases e1 : e = n
    · subst e1
      simp [h]
    · by_cases e2 : e < n
      · simp [e1, e2, show e < n + 1 by omega]; omega
      · simp [e1, e2, show ¬ e < n + 1 by omega]
theorem pcN_all (E : Nat) : ∀ n, n ≤ E → pcN (2 ^ E - 1) n = n
  | 0, _ => rfl
  | n + 1, h => by
    unfold pcN
    rw [pcN_all E n (by omega), Nat.testBit_two_pow_sub_one]
    simp [show n < E by omega]
theorem okE_ex {f : Int → Int} (ok : fOk f) {c S : Nat} (hc : c < 10) (hS : S < 2 ^ nE f) (hn : pcN S (nE f) < nE f) (h : cP f c S) : ∃ e, lsE f c S e := by
  have ne : S ≠ 2 ^ nE f - 1 := by
    intro e
    rw [e, pcN_all (nE f) (nE f) (Nat.le_refl _)] at hn
    omega
  obtain ⟨w, h1, e, h2, h3, h4, h5⟩ := (cP_st ok hc (by omega)).mp h
  obtain ⟨m, a, _, b⟩ := least_of (P := okE f c S) e ⟨h2, h3, ⟨w, h1, h4⟩, h5⟩
  exact ⟨m, a, b⟩
def lnF (x : Nat) (_ : Int) : Prop := x = 139
section
variable {sh : zSh} {pp : zPp} {mm : zMm} {Q : zV → zSh → zPp → zMm → Prop} {f : Int → Int} {G : Int → Option (Int → Int)} {cn : Int → Int} {N D : Nat}
theorem lnIn (h : zLy sh pp) (hm : ∀ k, 0 ≤ k → k < 986 → mm 123 k = f k) (ok : fOk f) {c S e : Nat} {k : Int} (hc : c < 10) (hS : S < 2 ^ nE f) (he : enOk f c 0 mm) (hl : lsE f c S e) (hQ : zS 224 58 [zR 122, zI S, zI k, zI e] [] sh pp mm Q) : ∀ (d i : Nat), i + d = e → zS 224 15 [zR 122, zI S, zI k, zI i] [] sh pp mm Q := by
  have k122 := k_122 h
  have k123 := k_123 h
  have l123 := l_123 h
  have p123 := p_122_0 h
  have k137 := k_137 h
  have l137 := l_137 h
  have p137 := p_122_30 h
  have k138 := k_138 h
  have l138 := l_138 h
  have p138 := p_122_31 h
  have l := nE_le ok
  have t : 2 ^ nE f ≤ 4096 := by simpa using Nat.pow_le_pow_right (n := 2) (by omega) l
  have s4 : (S : Int) < 4096 := by omega
  obtain ⟨⟨o1, o2, ⟨w, o3, o4⟩, o5⟩, o6⟩ := hl
  have hw := (he S (Nat.zero_le _) hS).1
  rw [o3] at hw
  have orr : ∀ i, i < nE f → S ||| 2 ^ i < 2 ^ nE f := fun i hi => Nat.or_lt_two_pow hS (Nat.pow_lt_pow_right (by omega) hi)
  have two : ∀ i, i < nE f → 2 ^ i < 4096 := fun i hi => by
    have := Nat.pow_lt_pow_right (a := 2) (by omega) hi
    omega
  intro d
  induction d with
  | zero =>
    intro i hi
    have hi : i = e := by omega
    subst hi
    have b := bit_i (show S < 2147483648 by omega) (show i < 31 by omega)
    rw [if_neg (by simp [o2])] at b
    have p2 := two i o1
    have p3 := orr i o1
    have x1 := zshl1 i (by omega)
    have x2 : zor (S : Int) ((2 ^ i : Nat) : Int) = ((S ||| 2 ^ i : Nat) : Int) := zorN (by omega) (by omega)
    have u := (he (S ||| 2 ^ i) (Nat.zero_le _) p3).2.2.mpr o5
    generalize S ||| 2 ^ i = T at p3 x2 u
    have t4 : (T : Int) < 4096 := by omega
    rw [rM_layLine_15]
    simp (disch := first | assumption | omega) only [rM_layLine_16, rM_layLine_17, rM_layLine_18, rM_layLine_19, rM_layLine_20, rM_layLine_21, rM_layLine_24, rM_layLine_25, rM_layLine_26, rM_layLine_27, rM_layLine_30, rM_layLine_31, rM_layLine_32, Bool.false_eq_true, true_implies, false_implies, implies_true, true_and, and_true, not_true_eq_false, not_false_eq_true, zPush_I, zPush_L, zPush_R, zPush_U, Int.reduceLT, Int.reduceLE, Int.reduceEq, Int.reduceNe, Int.reduceAdd, Int.reduceSub, Int.reduceMul, Int.reduceNeg, Int.reduceToNat, Nat.reduceAdd, Nat.reduceMul, Nat.reduceEqDiff, zw32_id, zw64_id, zupd_eq, zupd_na, zupd_ni, zupp_eq, zupp_na, zupp_ni, p137, p138, b, hw]
    rw [kM_across h hm ok o1]
    refine ⟨fun a => ?_, fun a => absurd o4 a⟩
    have nz : ¬ ((oth (nA f) (nC f) i w : Nat) : Int) = -1 := by omega
    simp (disch := first | assumption | omega) only [rM_layLine_35, rM_layLine_36, rM_layLine_39, rM_layLine_40, rM_layLine_43, rM_layLine_44, rM_layLine_45, rM_layLine_46, rM_layLine_47, rM_layLine_48, rM_layLine_49, Bool.false_eq_true, true_implies, false_implies, implies_true, true_and, and_true, not_true_eq_false, not_false_eq_true, zPush_I, zPush_L, zPush_R, zPush_U, Int.reduceLT, Int.reduceLE, Int.reduceEq, Int.reduceNe, Int.reduceAdd, Int.reduceSub, Int.reduceMul, Int.reduceNeg, Int.reduceToNat, Nat.reduceAdd, Nat.reduceMul, Nat.reduceEqDiff, zw32_id, zw64_id, zupd_eq, zupd_na, zupd_ni, zupp_eq, zupp_na, zupp_ni, p137, p138, eq_false nz, x1, x2, u]
    exact hQ
  | succ d ih =>
    intro i hi
    have n := ih (i + 1) (by omega)
    rw [show ((i + 1 : Nat) : Int) = (i : Int) + 1 by omega] at n
    have b := bit_i (show S < 2147483648 by omega) (show i < 31 by omega)
    have no := o6 i (by omega)
    rw [rM_layLine_15]
    by_cases hb : S.testBit i = true
    · rw [if_pos hb] at b
      simp (disch := first | assumption | omega) only [rM_layLine_16, rM_layLine_17, rM_layLine_18, rM_layLine_19, rM_layLine_20, rM_layLine_21, rM_layLine_52, rM_layLine_55, Bool.false_eq_true, true_implies, false_implies, implies_true, true_and, and_true, not_true_eq_false, not_false_eq_true, zPush_I, zPush_L, zPush_R, zPush_U, Int.reduceLT, Int.reduceLE, Int.reduceEq, Int.reduceNe, Int.reduceAdd, Int.reduceSub, Int.reduceMul, Int.reduceNeg, Int.reduceToNat, Nat.reduceAdd, Nat.reduceMul, Nat.reduceEqDiff, zw32_id, zw64_id, zupd_eq, zupd_na, zupd_ni, zupp_eq, zupp_na, zupp_ni, p137, p138, b, hw]
      exact n
    · rw [if_neg hb] at b
      have hb2 : S.testBit i = false := by simpa using hb
      simp (disch := first | assumption | omega) only [rM_layLine_16, rM_layLine_17, rM_layLine_18, rM_layLine_19, rM_layLine_20, rM_layLine_21, rM_layLine_24, rM_layLine_25, rM_layLine_26, rM_layLine_27, rM_layLine_30, rM_layLine_31, rM_layLine_32, Bool.false_eq_true, true_implies, false_implies, implies_true, true_and, and_true, not_true_eq_false, not_false_eq_true, zPush_I, zPush_L, zPush_R, zPush_U, Int.reduceLT, Int.reduceLE, Int.reduceEq, Int.reduceNe, Int.reduceAdd, Int.reduceSub, Int.reduceMul, Int.reduceNeg, Int.reduceToNat, Nat.reduceAdd, Nat.reduceMul, Nat.reduceEqDiff, zw32_id, zw64_id, zupd_eq, zupd_na, zupd_ni, zupp_eq, zupp_na, zupp_ni, p137, p138, b, hw]
      rw [kM_across h hm ok (by omega)]
      refine ⟨fun a => ?_, fun a => ?_⟩
      · have p2 := two i (by omega)
        have p3 := orr i (by omega)
        have x1 := zshl1 i (by omega)
        have x2 : zor (S : Int) ((2 ^ i : Nat) : Int) = ((S ||| 2 ^ i : Nat) : Int) := zorN (by omega) (by omega)
        have u := (he (S ||| 2 ^ i) (Nat.zero_le _) p3).2
        have nc : ¬ cP f c (S ||| 2 ^ i) := fun x => no ⟨by omega, hb2, ⟨w, o3, a⟩, x⟩
        have u0 : mm 138 ((S ||| 2 ^ i : Nat) : Int) = 0 := by
          rcases u.1 with y | y
          · exact y
          · exact absurd (u.2.mp y) nc
        clear u nc no
        generalize S ||| 2 ^ i = T at p3 x2 u0
        have t4 : (T : Int) < 4096 := by omega
        have nz : ¬ ((oth (nA f) (nC f) i w : Nat) : Int) = -1 := by omega
        simp (disch := first | assumption | omega) only [rM_layLine_35, rM_layLine_36, rM_layLine_39, rM_layLine_40, rM_layLine_43, rM_layLine_44, rM_layLine_45, rM_layLine_46, rM_layLine_47, rM_layLine_48, rM_layLine_49, rM_layLine_52, rM_layLine_55, Bool.false_eq_true, true_implies, false_implies, implies_true, true_and, and_true, not_true_eq_false, not_false_eq_true, zPush_I, zPush_L, zPush_R, zPush_U, Int.reduceLT, Int.reduceLE, Int.reduceEq, Int.reduceNe, Int.reduceAdd, Int.reduceSub, Int.reduceMul, Int.reduceNeg, Int.reduceToNat, Nat.reduceAdd, Nat.reduceMul, Nat.reduceEqDiff, zw32_id, zw64_id, zupd_eq, zupd_na, zupd_ni, zupp_eq, zupp_na, zupp_ni, p137, p138, eq_false nz, x1, x2, u0]
        exact n
      · simp (disch := first | assumption | omega) only [rM_layLine_35, rM_layLine_36, rM_layLine_52, rM_layLine_55, Bool.false_eq_true, true_implies, false_implies, implies_true, true_and, and_true, not_true_eq_false, not_false_eq_true, zPush_I, zPush_L, zPush_R, zPush_U, Int.reduceLT, Int.reduceLE, Int.reduceEq, Int.reduceNe, Int.reduceAdd, Int.reduceSub, Int.reduceMul, Int.reduceNeg, Int.reduceToNat, Nat.reduceAdd, Nat.reduceMul, Nat.reduceEqDiff, zw32_id, zw64_id, zupd_eq, zupd_na, zupd_ni, zupp_eq, zupp_na, zupp_ni]
        exact n
end
