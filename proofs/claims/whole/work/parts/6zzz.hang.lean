/-! ===== nets: hanging together, told by bits ===== -/
theorem zanN {a b : Nat} (ha : a < 2147483648) (hb : b < 2147483648) : zand (a : Int) (zxor (b : Int) (-1)) = ((a ^^^ (a &&& b) : Nat) : Int) := by
  have e1 : zand (a : Int) (zxor (b : Int) (-1)) = zxor (a : Int) (zand (a : Int) (b : Int)) := by
    show (BitVec.ofInt 32 (a : Int) &&& BitVec.ofInt 32 ((BitVec.ofInt 32 (b : Int) ^^^ BitVec.ofInt 32 (-1)).toInt)).toInt = (BitVec.ofInt 32 (a : Int) ^^^ BitVec.ofInt 32 ((BitVec.ofInt 32 (a : Int) &&& BitVec.ofInt 32 (b : Int)).toInt)).toInt
    rw [BitVec.ofInt_toInt, BitVec.ofInt_toInt, show BitVec.ofInt 32 (-1) = BitVec.allOnes 32 by decide]
    generalize BitVec.ofInt 32 (a : Int) = x
    generalize BitVec.ofInt 32 (b : Int) = y
    have e2 : x &&& (y ^^^ BitVec.allOnes 32) = x ^^^ (x &&& y) := by
      apply BitVec.eq_of_getLsbD_eq
      intro i hi
      rw [BitVec.getLsbD_and, BitVec.getLsbD_xor, BitVec.getLsbD_xor, BitVec.getLsbD_and, BitVec.getLsbD_allOnes]
      cases x.getLsbD i <;> cases y.getLsbD i <;> simp [hi]
    rw [e2]
  have hlt : a &&& b < 2147483648 := Nat.lt_of_le_of_lt Nat.and_le_left ha
  rw [e1, zandN ha hb, zxorN ha hlt]
theorem tb_an (a b i : Nat) : (a ^^^ (a &&& b)).testBit i = (a.testBit i && !b.testBit i) := by
  rw [Nat.testBit_xor, Nat.testBit_and]
  cases a.testBit i <;> cases b.testBit i <;> rfl
theorem an_2 {L e : Nat} (h : L.testBit e = true) : L ^^^ (L &&& 2 ^ e) = L ^^^ 2 ^ e := by
  apply Nat.eq_of_testBit_eq
  intro i
  rw [tb_an, tb_xor2, Nat.testBit_two_pow]
  by_cases hi : e = i
  · subst hi; rw [h]; simp
  · simp [hi]
theorem zan2 {L e : Nat} (hL : L < 2147483648) (he : e < 31) (h : L.testBit e = true) : zand (L : Int) (zxor ((2 ^ e : Nat) : Int) (-1)) = ((L ^^^ 2 ^ e : Nat) : Int) := by
  have : 2 ^ e < 2 ^ 31 := Nat.pow_lt_pow_right (by decide) he
  rw [zanN hL (by omega), an_2 h]
theorem pcN_x {L i : Nat} (h : L.testBit i = true) : ∀ n, i < n → pcN (L ^^^ 2 ^ i) n + 1 = pcN L n := fun n hn => by
  have hb : (L ^^^ 2 ^ i).testBit i = false := by rw [tb_xs, h]; rfl
  have z := pcN_or hb n
  rw [if_pos hn, or_x hb, Nat.xor_assoc, Nat.xor_self, Nat.xor_zero] at z
  exact z.symm
theorem pcN_0 {L : Nat} : ∀ n, pcN L n = 0 → ∀ i, i < n → L.testBit i = false
  | 0, _, i, hi => by omega
  | n + 1, h, i, hi => by
    unfold pcN at h
    by_cases e : i = n
    · subst e
      cases hb : L.testBit i with
      | false => rfl
      | true => rw [hb] at h; simp at h
    · exact pcN_0 n (by omega) i (by omega)
theorem tb_hgO {A C : Nat → Nat} {e k : Nat} : (hgO A C e).testBit k = true ↔ mts A C e k := by
  unfold hgO mts
  rw [Nat.testBit_or, Nat.testBit_two_pow, Nat.testBit_two_pow, Bool.or_eq_true, decide_eq_true_eq, decide_eq_true_eq]
theorem and_ne {a b : Nat} (h : ¬ a &&& b = 0) : ∃ k, a.testBit k = true ∧ b.testBit k = true := by
  obtain ⟨k, hk⟩ := tb_ex h
  rw [Nat.testBit_and, Bool.and_eq_true] at hk
  exact ⟨k, hk⟩
theorem and_no {a b k : Nat} (h : a &&& b = 0) (hb : b.testBit k = true) : a.testBit k = false := by
  have := Nat.testBit_and a b k
  rw [h, hb] at this
  simpa using this.symm
/-- corners that are reached for sure -/
def hgJ (A C : Nat → Nat) (c R M : Nat) : Prop := M.testBit c = true ∧ ∀ k, M.testBit k = true → ∀ X : Nat → Prop, X c → clsd A C R X → X k
section
variable {A C : Nat → Nat} {c R M L E : Nat}
theorem hgJ_0 : hgJ A C c R (2 ^ c) := by
  refine ⟨by rw [Nat.testBit_two_pow]; simp, fun k hk X h1 _ => ?_⟩
  rw [Nat.testBit_two_pow, decide_eq_true_eq] at hk
  rw [← hk]
  exact h1
theorem hgJ_st (h : hgJ A C c R M) {e : Nat} (he : R.testBit e = true) (hm : ¬ M &&& hgO A C e = 0) : hgJ A C c R (M ||| hgO A C e) := by
  obtain ⟨k, k1, k2⟩ := and_ne hm
  refine ⟨by rw [Nat.testBit_or, h.1]; rfl, fun j hj X h1 h2 => ?_⟩
  rw [Nat.testBit_or, Bool.or_eq_true] at hj
  rcases hj with hj | hj
  · exact h.2 j hj X h1 h2
  · have xk := h.2 k k1 X h1 h2
    have cl := h2 e he
    have both : X (A e) ∧ X (C e) := by
      rcases tb_hgO.mp k2 with q | q
      · rw [← q] at xk; exact ⟨xk, cl.mp xk⟩
      · rw [← q] at xk; exact ⟨cl.mpr xk, xk⟩
    rcases tb_hgO.mp hj with q | q
    · rw [← q]; exact both.1
    · rw [← q]; exact both.2
/-- a set that no edge leaves, and that leaves an edge out, shows that they don't hang on -/
theorem hgs_no (h : M.testBit c = true) (hcl : ∀ e, R.testBit e = true → (M.testBit (A e) = true ↔ M.testBit (C e) = true)) {e : Nat} (he : R.testBit e = true) (hn : M.testBit (A e) = false) : ¬ hgs A C c R := fun hh => by
  have := hh (fun k => M.testBit k = true) h hcl e he
  rw [hn] at this
  cases this
/-- the class's sweep: what is reached, what is left -/
def hgI (A C : Nat → Nat) (c R M L : Nat) : Prop := hgJ A C c R M ∧ (∀ e, L.testBit e = true → R.testBit e = true) ∧ ∀ e, R.testBit e = true → L.testBit e = false → M.testBit (A e) = true ∧ M.testBit (C e) = true
theorem hgI_st (h : hgI A C c R M L) {e : Nat} (he : L.testBit e = true) (hm : ¬ hgO A C e &&& M = 0) : hgI A C c R (M ||| hgO A C e) (L ^^^ 2 ^ e) := by
  obtain ⟨h1, h2, h3⟩ := h
  rw [Nat.and_comm] at hm
  refine ⟨hgJ_st h1 (h2 e he) hm, fun i hi => ?_, fun i hi hl => ?_⟩
  · by_cases ei : e = i
    · rw [← ei]; exact h2 e he
    · rw [tb_xn ei] at hi; exact h2 i hi
  · rw [Nat.testBit_or, Nat.testBit_or, Bool.or_eq_true, Bool.or_eq_true]
    by_cases ei : e = i
    · subst ei
      exact ⟨Or.inr (tb_hgO.mpr (Or.inl rfl)), Or.inr (tb_hgO.mpr (Or.inr rfl))⟩
    · rw [tb_xn ei] at hl
      exact ⟨Or.inl (h3 i hi hl).1, Or.inl (h3 i hi hl).2⟩
theorem hgI_yes (h : hgI A C c R M 0) : hgs A C c R := fun X h1 h2 e he => h.1.2 (A e) (h.2.2 e he (Nat.zero_testBit e)).1 X h1 h2
theorem hgI_nos (h : hgI A C c R M L) (h0 : L ≠ 0) (hs : ∀ e, L.testBit e = true → hgO A C e &&& M = 0) : ¬ hgs A C c R := by
  obtain ⟨e, he⟩ := tb_ex h0
  have hz : ∀ e, L.testBit e = true → M.testBit (A e) = false ∧ M.testBit (C e) = false := fun e he => by
    have z := hs e he
    rw [Nat.and_comm] at z
    exact ⟨and_no z (tb_hgO.mpr (Or.inl rfl)), and_no z (tb_hgO.mpr (Or.inr rfl))⟩
  refine hgs_no h.1.1 (fun i hi => ?_) (h.2.1 e he) (hz e he).1
  cases hl : L.testBit i with
  | true => rw [(hz i hl).1, (hz i hl).2]
  | false => rw [(h.2.2 i hi hl).1, (h.2.2 i hi hl).2]
/-- the reference's sweep -/
theorem hgR_J (h : hgJ A C c R M) : ∀ n, (∀ e, e < n → R.testBit e = true) → hgJ A C c R (hgR A C M n)
  | 0, _ => h
  | n + 1, hn => by
    have ih := hgR_J h n (fun e he => hn e (by omega))
    unfold hgR
    split
    · exact ih
    · rename_i hz
      exact hgJ_st ih (hn n (by omega)) hz
theorem hgN_J (h : hgJ A C c R M) (hE : ∀ e, e < E → R.testBit e = true) : ∀ r, hgJ A C c R (hgN A C E M r)
  | 0 => h
  | r + 1 => hgR_J (hgN_J h hE r) E hE
theorem hgR_sub : ∀ n k, M.testBit k = true → (hgR A C M n).testBit k = true
  | 0, _, h => h
  | n + 1, k, h => by
    have ih := hgR_sub n k h
    unfold hgR
    split
    · exact ih
    · rw [Nat.testBit_or, ih]; rfl
theorem hgR_fix : ∀ n, (hgR A C M n = M ∧ ∀ e, e < n → M &&& hgO A C e = 0 ∨ ∀ k, (hgO A C e).testBit k = true → M.testBit k = true) ∨ ∃ k, M.testBit k = false ∧ (hgR A C M n).testBit k = true
  | 0 => Or.inl ⟨rfl, fun e he => by omega⟩
  | n + 1 => by
    rcases hgR_fix n with ⟨i1, i2⟩ | ⟨k, k1, k2⟩
    · by_cases hz : M &&& hgO A C n = 0
      · refine Or.inl ⟨?_, fun e he => ?_⟩
        · unfold hgR
          rw [i1, if_pos hz]
        · by_cases en : e = n
          · subst en; exact Or.inl hz
          · exact i2 e (by omega)
      · by_cases hk : ∃ k, (hgO A C n).testBit k = true ∧ M.testBit k = false
        · obtain ⟨k, k1, k2⟩ := hk
          refine Or.inr ⟨k, k2, ?_⟩
          unfold hgR
          rw [i1, if_neg hz, Nat.testBit_or, k1, Bool.or_true]
        · have hall : ∀ k, (hgO A C n).testBit k = true → M.testBit k = true := fun k hk1 => by
            cases hm : M.testBit k with
            | true => rfl
            | false => exact absurd ⟨k, hk1, hm⟩ hk
          refine Or.inl ⟨?_, fun e he => ?_⟩
          · unfold hgR
            rw [i1, if_neg hz]
            apply Nat.eq_of_testBit_eq
            intro j
            rw [Nat.testBit_or]
            cases hj : (hgO A C n).testBit j with
            | true => rw [hall j hj]; rfl
            | false => simp
          · by_cases en : e = n
            · subst en; exact Or.inr hall
            · exact i2 e (by omega)
    · refine Or.inr ⟨k, k1, ?_⟩
      unfold hgR
      split
      · exact k2
      · rw [Nat.testBit_or, k2]; rfl
theorem pcN_mono {a b : Nat} (h : ∀ k, a.testBit k = true → b.testBit k = true) : ∀ n, pcN a n ≤ pcN b n
  | 0 => Nat.le_refl 0
  | n + 1 => by
    have ih := pcN_mono h n
    unfold pcN
    cases ha : a.testBit n with
    | false => simp; omega
    | true => rw [h n ha]; omega
theorem pcN_lt {a b k : Nat} (h : ∀ k, a.testBit k = true → b.testBit k = true) (h1 : a.testBit k = false) (h2 : b.testBit k = true) : ∀ n, k < n → pcN a n < pcN b n
  | 0, hk => by omega
  | n + 1, hk => by
    unfold pcN
    by_cases e : k = n
    · subst e
      have := pcN_mono h k
      rw [h1, h2]
      simp
      omega
    · have ih := pcN_lt h h1 h2 n (by omega)
      cases ha : a.testBit n with
      | false => simp; omega
      | true => rw [h n ha]; omega
end
