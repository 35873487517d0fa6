/-! ===== nets of the class: again ===== -/
def lbU (i : Nat) : Nat → Nat → Nat
  | 0, e => e
  | d + 1, e => if i.testBit e = true then e else lbU i d (e + 1)
theorem lbU_s {i : Nat} : ∀ d e, (∀ k, k < e → i.testBit k = false) → (∀ k, k < lbU i d e → i.testBit k = false) ∧ (i.testBit (lbU i d e) = true ∨ lbU i d e = e + d) ∧ lbU i d e ≤ e + d
  | 0, e, h => ⟨h, Or.inr rfl, Nat.le_refl _⟩
  | d + 1, e, h => by
    unfold lbU
    by_cases hb : i.testBit e = true
    · rw [if_pos hb]
      exact ⟨h, Or.inl hb, by omega⟩
    · rw [if_neg hb]
      have hb' : i.testBit e = false := by simpa using hb
      have ih := lbU_s (i := i) d (e + 1) (fun k hk => by
        by_cases ek : k = e
        · subst ek; exact hb'
        · exact h k (by omega))
      exact ⟨ih.1, by rcases ih.2.1 with x | x; (· exact Or.inl x); (· exact Or.inr (by omega)), by omega⟩
def lb (i : Nat) : Nat := lbU i 12 0
theorem lb_s (i : Nat) : (∀ k, k < lb i → i.testBit k = false) ∧ (i.testBit (lb i) = true ∨ lb i = 12) ∧ lb i ≤ 12 := by
  have z := lbU_s (i := i) 12 0 (fun k hk => by omega)
  exact ⟨z.1, by rcases z.2.1 with x | x; (· exact Or.inl x); (· exact Or.inr (by unfold lb; omega)), by unfold lb; omega⟩
theorem lb_u {i e : Nat} (h1 : i.testBit e = true) (h2 : ∀ k, k < e → i.testBit k = false) (he : e < 12) : lb i = e := by
  obtain ⟨z1, z2, z3⟩ := lb_s i
  by_cases a : lb i < e
  · rcases z2 with x | x
    · rw [h2 _ a] at x; cases x
    · omega
  · by_cases b : e < lb i
    · rw [z1 e b] at h1; cases h1
    · omega
theorem lb_lt {i E : Nat} (h0 : 0 < i) (h1 : i < 2 ^ E) (hE : E ≤ 12) : lb i < E ∧ i.testBit (lb i) = true := by
  obtain ⟨z1, z2, z3⟩ := lb_s i
  obtain ⟨k, hk⟩ := tb_ex (R := i) (by omega)
  have k1 := lt_of_tb h1 hk
  have : ¬ k < lb i := fun x => by rw [z1 k x] at hk; cases hk
  refine ⟨by omega, ?_⟩
  rcases z2 with x | x
  · exact x
  · omega
theorem lb_2 {E : Nat} (hE : E ≤ 12) : lb (2 ^ E) = E := by
  obtain ⟨z1, z2, z3⟩ := lb_s (2 ^ E)
  have a : ¬ E < lb (2 ^ E) := fun x => by
    have := z1 E x
    rw [Nat.testBit_two_pow] at this
    simp at this
  rcases z2 with x | x
  · rw [Nat.testBit_two_pow, decide_eq_true_eq] at x
    exact x.symm
  · omega
theorem lb_add {i E : Nat} (h0 : 0 < i) (h1 : i < 2 ^ E) (hE : E < 12) : lb (2 ^ E + i) = lb i := by
  obtain ⟨a, b⟩ := lb_lt h0 h1 (by omega)
  obtain ⟨z1, -, -⟩ := lb_s i
  exact lb_u (by rw [Nat.testBit_two_pow_add_gt a]; exact b) (fun k hk => by rw [Nat.testBit_two_pow_add_gt (by omega)]; exact z1 k hk) (by omega)
/-- the choices in the order in which they are gone through -/
def gy : Nat → Nat
  | 0 => 0
  | i + 1 => gy i ^^^ 2 ^ lb (i + 1)
theorem gy_add {E : Nat} (hE : E < 12) : ∀ i, i < 2 ^ E → gy (2 ^ E + i) = gy (2 ^ E) ^^^ gy i
  | 0, _ => by
    show gy (2 ^ E) = gy (2 ^ E) ^^^ 0
    rw [Nat.xor_zero]
  | i + 1, h => by
    have ih := gy_add hE i (by omega)
    show gy (2 ^ E + i) ^^^ 2 ^ lb (2 ^ E + (i + 1)) = gy (2 ^ E) ^^^ (gy i ^^^ 2 ^ lb (i + 1))
    rw [ih, lb_add (by omega) h hE, Nat.xor_assoc]
theorem gy_lt {E : Nat} (hE : E ≤ 12) : ∀ i, i < 2 ^ E → gy i < 2 ^ E
  | 0, h => h
  | i + 1, h => Nat.xor_lt_two_pow (gy_lt hE i (by omega)) (Nat.pow_lt_pow_right (by decide) (lb_lt (by omega) h hE).1)
theorem gy_2 {E : Nat} (hE : E ≤ 12) : ∃ u, u < 2 ^ E ∧ gy (2 ^ E) = u ^^^ 2 ^ E := by
  have p : 0 < 2 ^ E := Nat.pow_pos (by decide)
  refine ⟨gy (2 ^ E - 1), gy_lt hE _ (by omega), ?_⟩
  obtain ⟨n, hn⟩ : ∃ n, 2 ^ E = n + 1 := ⟨2 ^ E - 1, by omega⟩
  have e := lb_2 hE
  rw [hn] at e ⊢
  show gy n ^^^ 2 ^ lb (n + 1) = gy (n + 1 - 1) ^^^ (n + 1)
  rw [e, hn, Nat.add_sub_cancel]
theorem gy_on : ∀ E, E ≤ 12 → ∀ S, S < 2 ^ E → ∃ j, j < 2 ^ E ∧ gy j = S
  | 0, _, S, hS => ⟨0, by decide, by
    have : S = 0 := by simpa using hS
    rw [this]; rfl⟩
  | E + 1, hE, S, hS => by
    have p : 2 ^ (E + 1) = 2 ^ E + 2 ^ E := by rw [Nat.pow_succ]; omega
    by_cases hlt : S < 2 ^ E
    · obtain ⟨j, j1, j2⟩ := gy_on E (by omega) S hlt
      exact ⟨j, by omega, j2⟩
    · obtain ⟨u, u1, u2⟩ := gy_2 (E := E) (by omega)
      have hx : S ^^^ gy (2 ^ E) < 2 ^ E := by
        have hb : S.testBit E = true := by
          have e : S = 2 ^ E + (S - 2 ^ E) := by omega
          rw [e, Nat.testBit_two_pow_add_eq, Nat.testBit_lt_two_pow (by omega)]
          rfl
        have e2 : (S ^^^ 2 ^ E) < 2 ^ E := by
          have h1 : (S ^^^ 2 ^ E) < 2 ^ (E + 1) := Nat.xor_lt_two_pow hS (Nat.pow_lt_pow_right (by decide) (by omega))
          have h2 : (S ^^^ 2 ^ E).testBit E = false := by rw [tb_xs, hb]; rfl
          refine Nat.lt_pow_two_of_testBit _ (fun i hi => ?_)
          by_cases ei : i = E
          · subst ei; exact h2
          · exact Nat.testBit_lt_two_pow (Nat.lt_of_lt_of_le h1 (Nat.pow_le_pow_right (by decide) (by omega)))
        rw [u2, Nat.xor_comm u, ← Nat.xor_assoc]
        exact Nat.xor_lt_two_pow e2 u1
      obtain ⟨j, j1, j2⟩ := gy_on E (by omega) _ hx
      refine ⟨2 ^ E + j, by omega, ?_⟩
      rw [gy_add (by omega) j j1, j2, Nat.xor_comm S, ← Nat.xor_assoc, Nat.xor_self, Nat.zero_xor]
theorem mnF_on {g : Nat → Int} {h : Nat → Nat} {n : Nat} (h1 : ∀ q, q < n → h q < n) (h2 : ∀ s, s < n → ∃ q, q < n ∧ h q = s) : mnF (fun q => g (h q)) n = mnF g n := by
  have a : mnF g n ≤ mnF (fun q => g (h q)) n := mnF_ge (mnF_M _ _) n (fun q hq => mnF_le n (h1 q hq))
  have b : mnF (fun q => g (h q)) n ≤ mnF g n := mnF_ge (mnF_M _ _) n (fun s hs => by
    obtain ⟨q, q1, q2⟩ := h2 s hs
    have := mnF_le (g := fun q => g (h q)) n q1
    rw [← q2]
    exact this)
  omega
theorem prS_out {f : Int → Int} {S e : Nat} : ∀ n, n ≤ e → prS f (S ^^^ 2 ^ e) n = prS f S n
  | 0, _ => rfl
  | n + 1, h => by
    show prS f (S ^^^ 2 ^ e) n + _ = prS f S n + _
    rw [prS_out n (by omega), tb_xn (by omega)]
theorem prS_x {f : Int → Int} {S e : Nat} : ∀ n, e < n → prS f (S ^^^ 2 ^ e) n = prS f S n + (if S.testBit e = true then -nPr f e else nPr f e)
  | 0, h => by omega
  | n + 1, h => by
    show prS f (S ^^^ 2 ^ e) n + (if (S ^^^ 2 ^ e).testBit n = true then nPr f n else 0) = prS f S n + (if S.testBit n = true then nPr f n else 0) + _
    by_cases he : e = n
    · subst he
      rw [prS_out e (Nat.le_refl e), tb_xs]
      cases hb : S.testBit e with
      | false => simp
      | true => simp; omega
    · rw [prS_x n (by omega), tb_xn he]
      omega
theorem agF_gy {f : Int → Int} (ok : fOk f) : mnF (fun q => agG f (gy q)) (2 ^ nE f) = agF f := mnF_on (fun q hq => gy_lt (nE_le ok) q hq) (fun s hs => gy_on (nE f) (nE_le ok) s hs)
