/-! ===== nets: lines over edges; Euler ===== -/
def oth (A C : Nat → Nat) (e c : Nat) : Nat := if A e = c then C e else A e
def mts (A C : Nat → Nat) (e c : Nat) : Prop := A e = c ∨ C e = c
/-- from c over l, out of R: it ends at v, R' is left -/
def wk (A C : Nat → Nat) : Nat → Nat → List Nat → Nat → Nat → Prop
  | c, R, [], v, R' => c = v ∧ R = R'
  | c, R, e :: l, v, R' => R.testBit e = true ∧ mts A C e c ∧ wk A C (oth A C e c) (R ^^^ 2 ^ e) l v R'
def oddS (A C : Nat → Nat) (R : Nat) : Nat → Nat
  | 0 => 0
  | n + 1 => oddS A C R n ^^^ (if R.testBit n = true then 2 ^ A n ^^^ 2 ^ C n else 0)
/-- some corners of which no edge leads away -/
def clsd (A C : Nat → Nat) (R : Nat) (X : Nat → Prop) : Prop := ∀ e, R.testBit e = true → (X (A e) ↔ X (C e))
def hgs (A C : Nat → Nat) (c R : Nat) : Prop := ∀ X : Nat → Prop, X c → clsd A C R X → ∀ e, R.testBit e = true → X (A e)
def can (A C : Nat → Nat) (c R : Nat) : Prop := ∃ l v, wk A C c R l v 0
section
variable {A C : Nat → Nat}
theorem tb_xor2 (R e i : Nat) : (R ^^^ 2 ^ e).testBit i = (R.testBit i ^^ decide (e = i)) := by rw [Nat.testBit_xor, Nat.testBit_two_pow]
theorem tb_xs {R e : Nat} : (R ^^^ 2 ^ e).testBit e = !R.testBit e := by rw [tb_xor2]; simp
theorem tb_xn {R e i : Nat} (h : e ≠ i) : (R ^^^ 2 ^ e).testBit i = R.testBit i := by rw [tb_xor2]; simp [h]
theorem tb_ex {R : Nat} (h : R ≠ 0) : ∃ e, R.testBit e = true := Nat.exists_testBit_of_ne_zero h
theorem xor_lt {R e : Nat} (h : R.testBit e = true) : R ^^^ 2 ^ e < R := by
  refine Nat.lt_of_le_of_ne (Nat.le_of_testBit (fun i hi => ?_)) (fun he => ?_)
  · by_cases hei : e = i
    · rw [← hei]; exact h
    · rw [tb_xn hei] at hi; exact hi
  · have := congrArg (fun x => x.testBit e) he
    simp only [tb_xs, h] at this
    cases this
theorem oth_m {e c : Nat} (h : mts A C e c) : (A e = c ∧ C e = oth A C e c) ∨ (C e = c ∧ A e = oth A C e c) := by
  unfold oth
  by_cases h1 : A e = c
  · rw [if_pos h1]; exact Or.inl ⟨h1, rfl⟩
  · rw [if_neg h1]; exact Or.inr ⟨by rcases h with h | h; (· exact absurd h h1); (· exact h), rfl⟩
theorem oth_mts {e c : Nat} (h : mts A C e c) : mts A C e (oth A C e c) := by
  rcases oth_m h with h | h
  · exact Or.inr h.2
  · exact Or.inl h.2
theorem oth_x {e c : Nat} (h : mts A C e c) : 2 ^ A e ^^^ 2 ^ C e = 2 ^ c ^^^ 2 ^ oth A C e c := by
  rcases oth_m h with h | h
  · rw [h.1, h.2]
  · rw [h.1, h.2, Nat.xor_comm]
theorem wk_sub : ∀ {l : List Nat} {c R v R' : Nat}, wk A C c R l v R' → ∀ i, R'.testBit i = true → R.testBit i = true
  | [], c, R, v, R', h, i, hi => by rw [h.2]; exact hi
  | e :: l, c, R, v, R', h, i, hi => by
    have := wk_sub h.2.2 i hi
    by_cases ei : e = i
    · rw [← ei]; exact h.1
    · rw [tb_xn ei] at this; exact this
theorem wk_used {l : List Nat} {e c R v R' : Nat} (h : wk A C c R (e :: l) v R') : R'.testBit e = false := by
  cases he : R'.testBit e with
  | false => rfl
  | true =>
    have := wk_sub h.2.2 e he
    rw [tb_xs, h.1] at this
    cases this
theorem wk_app : ∀ {l m : List Nat} {c R u R1 v R2 : Nat}, wk A C c R l u R1 → wk A C u R1 m v R2 → wk A C c R (l ++ m) v R2
  | [], m, c, R, u, R1, v, R2, h, h2 => by
    obtain ⟨rfl, rfl⟩ := h
    exact h2
  | e :: l, m, c, R, u, R1, v, R2, h, h2 => ⟨h.1, h.2.1, wk_app h.2.2 h2⟩
theorem wk_cut : ∀ {l m : List Nat} {c R v R2 : Nat}, wk A C c R (l ++ m) v R2 → ∃ u R1, wk A C c R l u R1 ∧ wk A C u R1 m v R2
  | [], m, c, R, v, R2, h => ⟨c, R, ⟨rfl, rfl⟩, h⟩
  | e :: l, m, c, R, v, R2, h => by
    obtain ⟨u, R1, h1, h2⟩ := wk_cut (l := l) h.2.2
    exact ⟨u, R1, ⟨h.1, h.2.1, h1⟩, h2⟩
theorem wk_xor : ∀ {l : List Nat} {c R v R' X : Nat}, (∀ i, X.testBit i = true → R.testBit i = R'.testBit i) → wk A C c R l v R' → wk A C c (R ^^^ X) l v (R' ^^^ X)
  | [], c, R, v, R', X, _, h => ⟨h.1, by rw [h.2]⟩
  | e :: l, c, R, v, R', X, hX, h => by
    have hu := wk_used h
    have hx : X.testBit e = false := by
      cases he : X.testBit e with
      | false => rfl
      | true => have := hX e he; rw [h.1, hu] at this; cases this
    refine ⟨by rw [Nat.testBit_xor, h.1, hx]; rfl, h.2.1, ?_⟩
    have e1 : R ^^^ X ^^^ 2 ^ e = R ^^^ 2 ^ e ^^^ X := by rw [Nat.xor_assoc, Nat.xor_comm X, ← Nat.xor_assoc]
    rw [e1]
    refine wk_xor (fun i hi => ?_) h.2.2
    have hei : e ≠ i := by intro hh; subst hh; rw [hx] at hi; cases hi
    rw [tb_xn hei]
    exact hX i hi
theorem oddS_0 (n : Nat) : oddS A C 0 n = 0 := by
  induction n with
  | zero => rfl
  | succ n ih => simp [oddS, ih]
theorem oddS_out {R e : Nat} : ∀ n, n ≤ e → oddS A C (R ^^^ 2 ^ e) n = oddS A C R n
  | 0, _ => rfl
  | n + 1, h => by
    show oddS A C (R ^^^ 2 ^ e) n ^^^ _ = oddS A C R n ^^^ _
    rw [oddS_out n (by omega), tb_xn (by omega)]
theorem oddS_x {R e : Nat} : ∀ n, e < n → oddS A C (R ^^^ 2 ^ e) n = oddS A C R n ^^^ (2 ^ A e ^^^ 2 ^ C e)
  | 0, h => by omega
  | n + 1, h => by
    show oddS A C (R ^^^ 2 ^ e) n ^^^ _ = oddS A C R n ^^^ _ ^^^ _
    by_cases he : e = n
    · subst he
      rw [oddS_out e (Nat.le_refl e), tb_xs]
      cases h2 : R.testBit e with
      | false => simp
      | true => simp [Nat.xor_assoc]
    · rw [oddS_x n (by omega), tb_xn he]
      generalize 2 ^ A e ^^^ 2 ^ C e = z
      rw [Nat.xor_assoc, Nat.xor_assoc, Nat.xor_comm z]
theorem xor_mid (a b c : Nat) : (a ^^^ b) ^^^ (b ^^^ c) = a ^^^ c := by
  rw [Nat.xor_assoc, ← Nat.xor_assoc b b c, Nat.xor_self, Nat.zero_xor]
theorem lt_of_tb {R E e : Nat} (hR : R < 2 ^ E) (h : R.testBit e = true) : e < E := by
  by_cases he : e < E
  · exact he
  · have : R < 2 ^ e := Nat.lt_of_lt_of_le hR (Nat.pow_le_pow_right (by decide) (by omega))
    rw [Nat.testBit_lt_two_pow this] at h
    cases h
theorem wk_odd {E : Nat} : ∀ {l : List Nat} {c R v R' : Nat}, R < 2 ^ E → wk A C c R l v R' → oddS A C R E ^^^ oddS A C R' E = 2 ^ c ^^^ 2 ^ v
  | [], c, R, v, R', _, h => by rw [h.1, h.2, Nat.xor_self, Nat.xor_self]
  | e :: l, c, R, v, R', hR, h => by
    have hlt := xor_lt h.1
    have ih := wk_odd (E := E) (by omega) h.2.2
    rw [oddS_x E (lt_of_tb hR h.1), oth_x h.2.1] at ih
    have e1 : oddS A C R E ^^^ oddS A C R' E = (oddS A C R E ^^^ (2 ^ c ^^^ 2 ^ oth A C e c) ^^^ oddS A C R' E) ^^^ (2 ^ c ^^^ 2 ^ oth A C e c) := by
      generalize oddS A C R E = x
      generalize oddS A C R' E = y
      generalize 2 ^ c ^^^ 2 ^ oth A C e c = z
      rw [Nat.xor_assoc x z y, Nat.xor_comm z y, ← Nat.xor_assoc, Nat.xor_assoc, Nat.xor_self, Nat.xor_zero]
    rw [e1, ih, Nat.xor_comm, xor_mid]
theorem oddS_ex {R : Nat} {k : Nat} : ∀ n, (oddS A C R n).testBit k = true → ∃ e, R.testBit e = true ∧ mts A C e k
  | 0, h => by simp [oddS] at h
  | n + 1, h => by
    have h1 : (oddS A C R n ^^^ (if R.testBit n = true then 2 ^ A n ^^^ 2 ^ C n else 0)).testBit k = true := h
    rw [Nat.testBit_xor] at h1
    cases h2 : (oddS A C R n).testBit k with
    | true => exact oddS_ex n h2
    | false =>
      rw [h2] at h1
      cases h3 : R.testBit n with
      | false => rw [h3] at h1; simp at h1
      | true =>
        rw [h3] at h1
        simp only [if_true, Nat.testBit_xor, Nat.testBit_two_pow] at h1
        refine ⟨n, h3, ?_⟩
        by_cases ha : A n = k
        · exact Or.inl ha
        · by_cases hc : C n = k
          · exact Or.inr hc
          · simp [ha, hc] at h1
theorem wk_ext {l : List Nat} {c R v R' e : Nat} (h : wk A C c R l v R') (he : R'.testBit e = true) (hm : mts A C e v) : wk A C c R (l ++ [e]) (oth A C e v) (R' ^^^ 2 ^ e) := wk_app h ⟨he, hm, rfl, rfl⟩
theorem two_ne {a b : Nat} (h : a ≠ b) : (2 ^ a ^^^ 2 ^ b).testBit b = true := by
  rw [Nat.testBit_xor, Nat.testBit_two_pow, Nat.testBit_two_pow]; simp [h]
theorem wk_tour {E L u : Nat} (hL : L < 2 ^ E) (h0 : oddS A C L E = 0) : ∀ (n R : Nat) (m : List Nat) (w : Nat), R < n → wk A C u L m w R → ∃ m' R', wk A C u L m' u R' ∧ R' ≤ R := by
  intro n
  induction n with
  | zero => intro R m w h; omega
  | succ n ih =>
    intro R m w hR h
    by_cases hw : w = u
    · subst hw; exact ⟨m, R, h, Nat.le_refl R⟩
    · have h1 := wk_odd hL h
      rw [h0, Nat.zero_xor] at h1
      have h2 : (oddS A C R E).testBit w = true := by rw [h1]; exact two_ne (fun hh => hw hh.symm)
      obtain ⟨e, he, hm⟩ := oddS_ex E h2
      have hlt := xor_lt he
      obtain ⟨m', R', h3, h4⟩ := ih _ _ _ (by omega) (wk_ext h he hm)
      exact ⟨m', R', h3, by omega⟩
theorem wk_vis : ∀ {l : List Nat} {c R v R' e : Nat}, wk A C c R l v R' → R.testBit e = true → R'.testBit e = false → ∃ l1 l2 u R1 R2, wk A C c R l1 u R1 ∧ wk A C u R1 [e] (oth A C e u) R2 ∧ wk A C (oth A C e u) R2 l2 v R' ∧ mts A C e u
  | [], c, R, v, R', e, h, h1, h2 => by rw [h.2, h2] at h1; cases h1
  | a :: l, c, R, v, R', e, h, h1, h2 => by
    by_cases hae : a = e
    · subst hae
      exact ⟨[], l, c, R, _, ⟨rfl, rfl⟩, ⟨h.1, h.2.1, rfl, rfl⟩, h.2.2, h.2.1⟩
    · obtain ⟨l1, l2, u, R1, R2, h3, h4, h5, h6⟩ := wk_vis (e := e) h.2.2 (by rw [tb_xn hae]; exact h1) h2
      exact ⟨a :: l1, l2, u, R1, R2, ⟨h.1, h.2.1, h3⟩, h4, h5, h6⟩
theorem wk_splice {l1 l2 m : List Nat} {c R0 u R1 v R R' : Nat} (h1 : wk A C c R0 l1 u R1) (h2 : wk A C u R1 l2 v R) (h3 : wk A C u R m u R') : wk A C c R0 (l1 ++ (m ++ l2)) v R' := by
  have s1 := wk_sub h2
  have s2 := wk_sub h3
  have a1 := wk_xor (X := R1 ^^^ R) (fun i hi => by
    rw [Nat.testBit_xor] at hi
    cases hr : R.testBit i with
    | true => rw [hr, s1 i hr] at hi; cases hi
    | false =>
      cases hr' : R'.testBit i with
      | false => rfl
      | true => have := s2 i hr'; rw [hr] at this; cases this) h3
  have a2 := wk_xor (X := R ^^^ R') (fun i hi => by
    rw [Nat.testBit_xor] at hi
    cases hr : R.testBit i with
    | true => exact s1 i hr
    | false =>
      cases hr' : R'.testBit i with
      | true => have := s2 i hr'; rw [hr] at this; cases this
      | false => rw [hr, hr'] at hi; cases hi) h2
  have e1 : R ^^^ (R1 ^^^ R) = R1 := by rw [Nat.xor_comm R1, ← Nat.xor_assoc, Nat.xor_self, Nat.zero_xor]
  have e2 : R' ^^^ (R1 ^^^ R) = R1 ^^^ (R ^^^ R') := by rw [Nat.xor_comm, Nat.xor_assoc]
  have e3 : R ^^^ (R ^^^ R') = R' := by rw [← Nat.xor_assoc, Nat.xor_self, Nat.zero_xor]
  rw [e1, e2] at a1
  rw [e3] at a2
  exact wk_app h1 (wk_app a1 a2)
theorem euler {E c t R0 : Nat} (hR : R0 < 2 ^ E) (hh : hgs A C c R0) (hp : oddS A C R0 E = 2 ^ c ^^^ 2 ^ t) : can A C c R0 := by
  have key : ∀ (n R : Nat), R < n → ∀ (l : List Nat) (v : Nat), wk A C c R0 l v R → can A C c R0 := by
    intro n
    induction n with
    | zero => intro R h; omega
    | succ n ih =>
      intro R hRn l v h
      by_cases hz : R = 0
      · subst hz; exact ⟨l, v, h⟩
      by_cases hx : ∃ l1 l2 u R1 e, wk A C c R0 l1 u R1 ∧ wk A C u R1 l2 v R ∧ R.testBit e = true ∧ mts A C e u
      · obtain ⟨l1, l2, u, R1, e, h1, h2, h3, h4⟩ := hx
        have hlt := xor_lt h3
        by_cases hv : ∃ e, R.testBit e = true ∧ mts A C e v
        · obtain ⟨e', h5, h6⟩ := hv
          have hlt' := xor_lt h5
          exact ih _ (by omega) _ _ (wk_ext h h5 h6)
        · have h5 := wk_odd hR h
          have h6 : oddS A C R E = 2 ^ t ^^^ 2 ^ v := by
            have : oddS A C R E = oddS A C R0 E ^^^ (oddS A C R0 E ^^^ oddS A C R E) := by rw [← Nat.xor_assoc, Nat.xor_self, Nat.zero_xor]
            rw [this, h5, hp, Nat.xor_comm (2 ^ c) (2 ^ t), xor_mid]
          have h7 : oddS A C R E = 0 := by
            by_cases htv : t = v
            · rw [h6, htv, Nat.xor_self]
            · exact absurd (oddS_ex E (by rw [h6]; exact two_ne htv)) hv
          have hRE : R < 2 ^ E := Nat.lt_of_le_of_lt (Nat.le_of_testBit (wk_sub h)) hR
          obtain ⟨m', R', h8, h9⟩ := wk_tour hRE h7 (R + 1) (R ^^^ 2 ^ e) [e] (oth A C e u) (by omega) ⟨h3, h4, rfl, rfl⟩
          exact ih R' (by omega) _ _ (wk_splice h1 h2 h8)
      · exfalso
        obtain ⟨e, he⟩ := tb_ex hz
        have hno : ∀ e u l1 l2 R1, wk A C c R0 l1 u R1 → wk A C u R1 l2 v R → R.testBit e = true → ¬ mts A C e u := fun e u l1 l2 R1 a1 a2 a3 a4 => hx ⟨l1, l2, u, R1, e, a1, a2, a3, a4⟩
        have hX := hh (fun u => ∃ l1 l2 R1, wk A C c R0 l1 u R1 ∧ wk A C u R1 l2 v R) ⟨[], l, R0, ⟨rfl, rfl⟩, h⟩ (fun e he => by
          cases hr : R.testBit e with
          | true =>
            constructor
            · rintro ⟨l1, l2, R1, a1, a2⟩
              exact absurd (Or.inl rfl) (hno e _ l1 l2 R1 a1 a2 hr)
            · rintro ⟨l1, l2, R1, a1, a2⟩
              exact absurd (Or.inr rfl) (hno e _ l1 l2 R1 a1 a2 hr)
          | false =>
            obtain ⟨l1, l2, u, R1, R2, a1, a2, a3, a4⟩ := wk_vis h he hr
            have b1 : ∃ l1 l2 R1, wk A C c R0 l1 u R1 ∧ wk A C u R1 l2 v R := ⟨l1, [e] ++ l2, R1, a1, wk_app a2 a3⟩
            have b2 : ∃ l1 l2 R1, wk A C c R0 l1 (oth A C e u) R1 ∧ wk A C (oth A C e u) R1 l2 v R := ⟨l1 ++ [e], l2, R2, wk_app a1 a2, a3⟩
            rcases oth_m a4 with ⟨q1, q2⟩ | ⟨q1, q2⟩
            · rw [q1, q2]; exact ⟨fun _ => b2, fun _ => b1⟩
            · rw [q1, q2]; exact ⟨fun _ => b1, fun _ => b2⟩) e (wk_sub h e he)
        obtain ⟨l1, l2, R1, a1, a2⟩ := hX
        exact hno e _ l1 l2 R1 a1 a2 he (Or.inl rfl)
  exact key (R0 + 1) R0 (by omega) [] c ⟨rfl, rfl⟩
theorem hgs_of {c R : Nat} (h : can A C c R) : hgs A C c R := by
  obtain ⟨l, v, h⟩ := h
  have key : ∀ (l : List Nat) (c R : Nat), wk A C c R l v 0 → hgs A C c R := by
    intro l
    induction l with
    | nil => intro c R h X _ _ e he; rw [h.2] at he; simp at he
    | cons a l ih =>
      intro c R h X hc hX e he
      have h1 := hX a h.1
      have hb : X (A a) ∧ X (oth A C a c) := by
        rcases oth_m h.2.1 with ⟨q1, q2⟩ | ⟨q1, q2⟩
        · rw [← q2, q1]; rw [q1] at h1; exact ⟨hc, h1.mp hc⟩
        · rw [← q2]; rw [q1] at h1; exact ⟨h1.mpr hc, h1.mpr hc⟩
      by_cases hae : a = e
      · rw [← hae]; exact hb.1
      · refine ih _ _ h.2.2 X hb.2 (fun e' he' => hX e' ?_) e (by rw [tb_xn hae]; exact he)
        by_cases hq : a = e'
        · rw [← hq]; exact h.1
        · rw [tb_xn hq] at he'; exact he'
  exact key l c R h
theorem can_odd {E c R : Nat} (hR : R < 2 ^ E) (h : can A C c R) : ∃ t, oddS A C R E = 2 ^ c ^^^ 2 ^ t := by
  obtain ⟨l, v, h⟩ := h
  have h1 := wk_odd hR h
  rw [oddS_0, Nat.xor_zero] at h1
  exact ⟨v, h1⟩
theorem can_mt {c R : Nat} (h : can A C c R) (h0 : R ≠ 0) : ∃ e, R.testBit e = true ∧ mts A C e c ∧ can A C (oth A C e c) (R ^^^ 2 ^ e) := by
  obtain ⟨l, v, h⟩ := h
  cases l with
  | nil => exact absurd h.2 h0
  | cons e l => exact ⟨e, h.1, h.2.1, l, v, h.2.2⟩
theorem can_st {c R e : Nat} (h : R.testBit e = true) (hm : mts A C e c) (hc : can A C (oth A C e c) (R ^^^ 2 ^ e)) : can A C c R := by
  obtain ⟨l, v, hc⟩ := hc
  exact ⟨e :: l, v, h, hm, hc⟩
/-- hanging on one corner of them is hanging on each -/
theorem hgs_mv {c a R e : Nat} (h : hgs A C c R) (he : R.testBit e = true) (ha : mts A C e a) : hgs A C a R := by
  intro X hX hc e' he'
  by_cases hn : X (A e')
  · exact hn
  · exfalso
    by_cases hcX : X c
    · exact hn (h X hcX hc e' he')
    · have h1 := h (fun x => ¬ X x) hcX (fun e1 h1 => by have := hc e1 h1; constructor <;> (intro q1 q2; first | exact q1 (this.mpr q2) | exact q1 (this.mp q2))) e he
      have h2 := hc e he
      rcases ha with ha | ha
      · rw [ha] at h1; exact h1 hX
      · rw [ha] at h2; exact h1 (h2.mpr hX)
end
