/-! ===== bends: edges between the same corners in order ===== -/
def tP (f : Int → Int) (S e : Nat) : Prop := ∀ i, i < e → hgO (nA f) (nC f) i = hgO (nA f) (nC f) e → S.testBit i = true
/-- how many edges of S are like e -/
def cnS (f : Int → Int) (S e : Nat) : Nat → Nat
  | 0 => 0
  | n + 1 => cnS f S e n + (if S.testBit n = true ∧ hgO (nA f) (nC f) n = hgO (nA f) (nC f) e then 1 else 0)
section
variable {f : Int → Int}
theorem cnS_or {S i e : Nat} (h : S.testBit i = false) : ∀ n, cnS f (S ||| 2 ^ i) e n = cnS f S e n + (if i < n ∧ hgO (nA f) (nC f) i = hgO (nA f) (nC f) e then 1 else 0)
  | 0 => by
    rw [if_neg (fun x => by omega)]
    rfl
  | n + 1 => by
    have ih := cnS_or (e := e) h n
    show cnS f (S ||| 2 ^ i) e n + (if (S ||| 2 ^ i).testBit n = true ∧ hgO (nA f) (nC f) n = hgO (nA f) (nC f) e then 1 else 0) = cnS f S e n + (if S.testBit n = true ∧ hgO (nA f) (nC f) n = hgO (nA f) (nC f) e then 1 else 0) + _
    rw [ih, Nat.testBit_or, Nat.testBit_two_pow]
    by_cases e1 : i = n
    · subst e1
      by_cases e2 : hgO (nA f) (nC f) i = hgO (nA f) (nC f) e
      · simp [h, e2]
      · simp [h, e2]
    · by_cases e2 : i < n
      · simp [e1, e2, show i < n + 1 by omega]
        split <;> split <;> omega
      · simp [e1, e2, show ¬ i < n + 1 by omega]
theorem cnS_cl {S e e' : Nat} (h : hgO (nA f) (nC f) e = hgO (nA f) (nC f) e') : ∀ n, cnS f S e n = cnS f S e' n
  | 0 => rfl
  | n + 1 => by
    unfold cnS
    rw [cnS_cl h n, h]
theorem cnS_le {S T e : Nat} : ∀ n, (∀ i, i < n → hgO (nA f) (nC f) i = hgO (nA f) (nC f) e → S.testBit i = true → T.testBit i = true) → cnS f S e n ≤ cnS f T e n
  | 0, _ => Nat.le_refl 0
  | n + 1, h => by
    have ih := cnS_le (S := S) (T := T) (e := e) n (fun i hi => h i (by omega))
    unfold cnS
    by_cases a : S.testBit n = true ∧ hgO (nA f) (nC f) n = hgO (nA f) (nC f) e
    · rw [if_pos a, if_pos ⟨h n (by omega) a.2 a.1, a.2⟩]; omega
    · rw [if_neg a]; split <;> omega
theorem cnS_lt {S T e j : Nat} : ∀ n, (∀ i, i < n → hgO (nA f) (nC f) i = hgO (nA f) (nC f) e → S.testBit i = true → T.testBit i = true) → j < n → hgO (nA f) (nC f) j = hgO (nA f) (nC f) e → S.testBit j = false → T.testBit j = true → cnS f S e n < cnS f T e n
  | 0, _, hj, _, _, _ => by omega
  | n + 1, h, hj, h1, h2, h3 => by
    unfold cnS
    by_cases e1 : j = n
    · subst e1
      have z := cnS_le (S := S) (T := T) (e := e) j (fun i hi => h i (by omega))
      rw [if_neg (fun x => by rw [h2] at x; cases x.1), if_pos ⟨h3, h1⟩]
      omega
    · have ih := cnS_lt (S := S) (T := T) (e := e) n (fun i hi => h i (by omega)) (by omega) h1 h2 h3
      by_cases a : S.testBit n = true ∧ hgO (nA f) (nC f) n = hgO (nA f) (nC f) e
      · rw [if_pos a, if_pos ⟨h n (by omega) a.2 a.1, a.2⟩]; omega
      · rw [if_neg a]; split <;> omega
/-- like edges lead to like places -/
theorem tw_m {e e' w : Nat} (h : hgO (nA f) (nC f) e = hgO (nA f) (nC f) e') (hm : mts (nA f) (nC f) e w) : mts (nA f) (nC f) e' w := tb_hgO.mp (by rw [← h]; exact tb_hgO.mpr hm)
theorem tw_o (ok : fOk f) {e e' w : Nat} (he : e < nE f) (he' : e' < nE f) (h : hgO (nA f) (nC f) e = hgO (nA f) (nC f) e') (hm : mts (nA f) (nC f) e w) : oth (nA f) (nC f) e w = oth (nA f) (nC f) e' w := by
  have n1 := (nAC ok he).2.2.2.2.1
  have n2 := (nAC ok he').2.2.2.2.1
  have hm' := tw_m h hm
  have o1 := tw_m h (oth_mts hm)
  rcases oth_m hm with ⟨q1, q2⟩ | ⟨q1, q2⟩
  · rcases oth_m hm' with ⟨r1, r2⟩ | ⟨r1, r2⟩
    · rcases o1 with x | x <;> omega
    · rcases o1 with x | x <;> omega
  · rcases oth_m hm' with ⟨r1, r2⟩ | ⟨r1, r2⟩
    · rcases o1 with x | x <;> omega
    · rcases o1 with x | x <;> omega
theorem bk_tw (ok : fOk f) {c : Nat} : ∀ {l : List Nat} {S w : Nat} {hx hy v : Int}, bk f c l S w hx hy v → ∃ (l' : List Nat) (S' : Nat), bkP (tP f) f c l' S' w hx hy v ∧ ∀ e, cnS f S' e (nE f) = cnS f S e (nE f)
  | [], S, w, hx, hy, v, h => ⟨[], S, h, fun e => rfl⟩
  | e :: l, S, w, hx, hy, v, ⟨S0, w0, hx0, hy0, v0, h1, h2, h3, h4, h5, h6, h7, h8, h9⟩ => by
    obtain ⟨l', S', k1, k2⟩ := bk_tw ok h1
    have hex : ∃ j, j < nE f ∧ hgO (nA f) (nC f) j = hgO (nA f) (nC f) e ∧ S'.testBit j = false := by
      by_cases hn : ∃ j, j < nE f ∧ hgO (nA f) (nC f) j = hgO (nA f) (nC f) e ∧ S'.testBit j = false
      · exact hn
      · exfalso
        have z1 : ∀ i, i < nE f → hgO (nA f) (nC f) i = hgO (nA f) (nC f) e → S0.testBit i = true → S'.testBit i = true := fun i a b _ => by
          cases hb : S'.testBit i with
          | true => rfl
          | false => exact absurd ⟨i, a, b, hb⟩ hn
        have z2 : S'.testBit e = true := by
          cases hb : S'.testBit e with
          | true => rfl
          | false => exact absurd ⟨e, h2, rfl, hb⟩ hn
        have := cnS_lt (nE f) z1 h2 rfl h3 z2
        have := k2 e
        omega
    obtain ⟨j0, j1⟩ := hex
    obtain ⟨j, ⟨a1, a2, a3⟩, -, a4⟩ := least_of (P := fun j => j < nE f ∧ hgO (nA f) (nC f) j = hgO (nA f) (nC f) e ∧ S'.testBit j = false) j0 j1
    have hm := tw_m a2.symm h4
    have ho := tw_o ok h2 a1 a2.symm h4
    refine ⟨j :: l', S' ||| 2 ^ j, ⟨S', w0, hx0, hy0, v0, k1, ⟨a1, a3, hm, fun i hi he => ?_⟩, rfl, by rw [h6, ho], h7, h8, h9⟩, fun i => ?_⟩
    · cases hb : S'.testBit i with
      | true => rfl
      | false => exact absurd ⟨by omega, by rw [he]; exact a2, hb⟩ (a4 i hi)
    · rw [h5, cnS_or a3, cnS_or h3, k2 i]
      by_cases q : hgO (nA f) (nC f) e = hgO (nA f) (nC f) i
      · rw [if_pos ⟨a1, by rw [a2]; exact q⟩, if_pos ⟨h2, q⟩]
      · rw [if_neg (fun x => q (by rw [← a2]; exact x.2)), if_neg (fun x => q x.2)]
theorem bk_twA (ok : fOk f) {c w : Nat} {l : List Nat} {hx hy v : Int} (hc : c < 10) (h : bk f c l (2 ^ nE f - 1) w hx hy v) : ∃ l', bkP (tP f) f c l' (2 ^ nE f - 1) w hx hy v := by
  obtain ⟨l', S', k1, k2⟩ := bk_tw ok h
  have hS := (bk_wh ok hc (bkP_bk k1)).2.2
  have e : S' = 2 ^ nE f - 1 := by
    apply Nat.eq_of_testBit_eq
    intro i
    by_cases hi : i < nE f
    · rw [tb_all.mpr hi]
      cases hb : S'.testBit i with
      | true => rfl
      | false =>
        have := cnS_lt (f := f) (S := S') (T := 2 ^ nE f - 1) (e := i) (j := i) (nE f) (fun k a _ _ => tb_all.mpr a) hi rfl hb (tb_all.mpr hi)
        have := k2 i
        omega
    · rw [Nat.testBit_lt_two_pow (Nat.lt_of_lt_of_le hS (Nat.pow_le_pow_right (by decide) (by omega)))]
      cases hb : (2 ^ nE f - 1).testBit i with
      | false => rfl
      | true => exact absurd (tb_all.mp hb) hi
  subst e
  exact ⟨l', k1⟩
theorem bInv_end2 (ok : fOk f) {c : Nat} {tb : Nat → Int → Int → Int} {D : Nat → Nat → Int → Int → Prop} (h : bInv (tP f) f c tb D) (hc : c < 10) (hD : ∀ S e hx hy, S < 2 ^ nE f - 1 → D S e hx hy) {v : Int} (h1 : v ≤ 1000000) (h2 : ∀ hx hy, hV hx → hV hy → v ≤ tb (2 ^ nE f - 1) hx hy) (h3 : v < 1000000 → ∃ hx hy, hV hx ∧ hV hy ∧ v = tb (2 ^ nE f - 1) hx hy) : mnB (bnP f c) v := by
  have p0 : 0 < 2 ^ nE f := Nat.pow_pos (by decide)
  refine ⟨h1, fun hl => ?_, fun x hx => ?_⟩
  · obtain ⟨hx, hy, a, b, e⟩ := h3 hl
    obtain ⟨l, w, hk⟩ := h.2.1 (2 ^ nE f - 1) hx hy (by omega) a b (by omega)
    rw [← e] at hk
    exact ⟨l, w, hx, hy, hk⟩
  · obtain ⟨l, w, gx, gy, hk⟩ := hx
    obtain ⟨l', hk'⟩ := bk_twA ok hc hk
    have z := bk_low ok hc h.2.2.1 (fun S hx hy a1 a2 a3 => (h.1 S hx hy a1 a2 a3).2) (fun S e w hx hy a1 a2 a3 a4 a5 a6 a7 a8 a9 => h.2.2.2 S e w hx hy a1 a2 a3 a4 a5 a6 a7 a8 a9 (hD S e hx hy (by
      by_cases hq : S = 2 ^ nE f - 1
      · rw [hq, Nat.testBit_two_pow_sub_one] at a3
        simp [a2] at a3
      · omega))) hk'
    have hh := bk_h hk
    have := h2 gx gy hh.1 hh.2
    omega
/-- where lines are, the net can be gone over -/
theorem bk_wk {c : Nat} : ∀ {l : List Nat} {S w : Nat} {hx hy v : Int}, bk f c l S w hx hy v → wk (nA f) (nC f) c (2 ^ nE f - 1) l.reverse w ((2 ^ nE f - 1) ^^^ S)
  | [], S, w, hx, hy, v, h => by
    obtain ⟨rfl, rfl, -⟩ := h
    exact ⟨rfl, by rw [Nat.xor_zero]⟩
  | e :: l, S, w, hx, hy, v, ⟨S0, w0, hx0, hy0, v0, h1, h2, h3, h4, h5, h6, h7, h8, h9⟩ => by
    have ih := bk_wk h1
    rw [h5, rest_x h3, List.reverse_cons, h6]
    exact wk_ext ih (by rw [tb_rest, h3]; simp [h2]) h4
theorem bnP_cP (ok : fOk f) {c : Nat} (hc : c < 10) {x : Int} (h : bnP f c x) : cP f c 0 := by
  obtain ⟨l, w, hx, hy, hk⟩ := h
  have z := bk_wk hk
  rw [Nat.xor_self] at z
  exact (cP_0 ok hc).mpr ⟨_, _, z⟩
theorem twN_tb {e : Nat} : ∀ i k, (twN f e i).testBit k = true ↔ (k < i ∧ hgO (nA f) (nC f) k = hgO (nA f) (nC f) e)
  | 0, k => by
    show (0 : Nat).testBit k = true ↔ _
    rw [Nat.zero_testBit]
    constructor
    · intro h; cases h
    · rintro ⟨h, -⟩; omega
  | i + 1, k => by
    have ih := twN_tb (e := e) i k
    unfold twN
    by_cases hc : hgO (nA f) (nC f) i = hgO (nA f) (nC f) e
    · rw [if_pos hc, Nat.testBit_or, Bool.or_eq_true, ih, Nat.testBit_two_pow, decide_eq_true_eq]
      constructor
      · rintro (h | h)
        · exact ⟨by omega, h.2⟩
        · subst h; exact ⟨by omega, hc⟩
      · rintro ⟨h1, h2⟩
        by_cases e1 : k = i
        · exact Or.inr e1.symm
        · exact Or.inl ⟨by omega, h2⟩
    · rw [if_neg hc, ih]
      constructor
      · rintro ⟨h1, h2⟩; exact ⟨by omega, h2⟩
      · rintro ⟨h1, h2⟩
        by_cases e1 : k = i
        · subst e1; exact absurd h2 hc
        · exact ⟨by omega, h2⟩
theorem tP_an {S e : Nat} : twN f e e ^^^ (twN f e e &&& S) = 0 ↔ tP f S e := by
  constructor
  · intro h i hi he
    have z := tb_an (twN f e e) S i
    rw [h, Nat.zero_testBit, (twN_tb e i).mpr ⟨hi, he⟩] at z
    simpa using z
  · intro h
    apply Nat.eq_of_testBit_eq
    intro i
    rw [tb_an, Nat.zero_testBit]
    cases hb : (twN f e e).testBit i with
    | false => rfl
    | true =>
      obtain ⟨h1, h2⟩ := (twN_tb e i).mp hb
      rw [h i h1 h2]
      rfl
end
