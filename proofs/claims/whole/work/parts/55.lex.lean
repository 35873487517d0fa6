/-! ===== texts: runs of like bytes, tokens ===== -/
def rnN (b : Int → Int) (c : Int → Bool) : Nat → Int → Int
  | 0, p => p
  | n + 1, p => if c (b p) = true then rnN b c n (p + 1) else p
def rn (b : Int → Int) (len : Int) (c : Int → Bool) (p : Int) : Int := rnN b c (len - p).toNat p
section
variable {b b' : Int → Int} {len : Int} {c : Int → Bool}
theorem rn_eq (b : Int → Int) (len : Int) (c : Int → Bool) (p : Int) : rn b len c p = if p < len ∧ c (b p) = true then rn b len c (p + 1) else p := by
  unfold rn
  by_cases h : p < len
  · rw [show (len - p).toNat = (len - (p + 1)).toNat + 1 by omega]
    by_cases h2 : c (b p) = true
    · rw [if_pos ⟨h, h2⟩]
      simp only [rnN, h2, if_true]
    · rw [if_neg (fun h3 => h2 h3.2)]
      simp only [rnN, h2, if_false, Bool.false_eq_true]
  · rw [if_neg (fun h3 => h h3.1), show (len - p).toNat = 0 by omega]
    rfl
theorem rn_go {p : Int} (h : p < len) (h2 : c (b p) = true) : rn b len c p = rn b len c (p + 1) := by rw [rn_eq, if_pos ⟨h, h2⟩]
theorem rn_no {p : Int} (h : ¬ (p < len ∧ c (b p) = true)) : rn b len c p = p := by rw [rn_eq, if_neg h]
theorem rn_ind {P : Int → Int → Prop} (h0 : ∀ p, ¬ (p < len ∧ c (b p) = true) → P p p) (h1 : ∀ p q, p < len → c (b p) = true → P (p + 1) q → P p q) : ∀ p, P p (rn b len c p) := by
  have key : ∀ (n : Nat) (p : Int), (len - p).toNat = n → P p (rn b len c p) := by
    intro n
    induction n with
    | zero => intro p hp; rw [rn_no (by omega)]; exact h0 p (by omega)
    | succ n ih =>
      intro p hp
      by_cases h : p < len ∧ c (b p) = true
      · rw [rn_go h.1 h.2]
        exact h1 p _ h.1 h.2 (ih (p + 1) (by omega))
      · rw [rn_no h]
        exact h0 p h
  intro p
  exact key _ p rfl
theorem rn_lo (p : Int) : p ≤ rn b len c p := rn_ind (P := fun p q => p ≤ q) (fun p _ => Int.le_refl p) (fun p q _ _ h => by omega) p
theorem rn_hi {p : Int} (h : p ≤ len) : rn b len c p ≤ len := rn_ind (P := fun p q => p ≤ len → q ≤ len) (fun p _ h => h) (fun p q h1 _ h _ => h (by omega)) p h
theorem rn_in (p : Int) : ∀ k, p ≤ k → k < rn b len c p → c (b k) = true := rn_ind (P := fun p q => ∀ k, p ≤ k → k < q → c (b k) = true) (fun p _ k h1 h2 => by omega) (fun p q _ h2 h k h3 h4 => by
  by_cases e : k = p
  · rw [e]; exact h2
  · exact h k (by omega) h4) p
theorem rn_out (p : Int) : ¬ (rn b len c p < len ∧ c (b (rn b len c p)) = true) := rn_ind (P := fun _ q => ¬ (q < len ∧ c (b q) = true)) (fun p h => h) (fun p q _ _ h => h) p
theorem rn_ext (hb : ∀ k, 0 ≤ k → k < len → b k = b' k) {p : Int} (h0 : 0 ≤ p) : rn b' len c p = rn b len c p := rn_ind (P := fun p q => 0 ≤ p → rn b' len c p = q) (fun p h h0 => rn_no (fun h2 => h ⟨h2.1, by rw [hb p h0 h2.1]; exact h2.2⟩)) (fun p q h1 h2 h h0 => by
  rw [rn_go h1 (by rw [← hb p h0 h1]; exact h2)]
  exact h (by omega)) p h0
end
def cBl (c : Int) : Bool := decide (c = 32)
def cLt (c : Int) : Bool := decide (97 ≤ c ∧ c ≤ 122)
def cFg (c : Int) : Bool := decide (48 ≤ c ∧ c ≤ 57)
theorem cBl_t {c : Int} : cBl c = true ↔ c = 32 := by simp [cBl]
theorem cLt_t {c : Int} : cLt c = true ↔ 97 ≤ c ∧ c ≤ 122 := by simp [cLt]
theorem cFg_t {c : Int} : cFg c = true ↔ 48 ≤ c ∧ c ≤ 57 := by simp [cFg]
/-- where the token from p begins -/
def tAt (b : Int → Int) (len p : Int) : Int := rn b len cBl p
/-- its first figure, if it has one -/
def tFs (b : Int → Int) (len p : Int) : Int := if b (tAt b len p) = 45 then tAt b len p + 1 else tAt b len p
def tEn (b : Int → Int) (len p : Int) : Int := if len ≤ tAt b len p then tAt b len p else if cLt (b (tAt b len p)) = true then rn b len cLt (tAt b len p) else if b (tAt b len p) = 45 ∨ cFg (b (tAt b len p)) = true then rn b len cFg (tFs b len p) else tAt b len p + 1
def wdIs (b : Int → Int) : Int → List Int → Bool
  | _, [] => true
  | a, c :: w => decide (b a = c) && wdIs b (a + 1) w
def wKd (b : Int → Int) (a e : Int) : Int := if e - a = 4 ∧ wdIs b a [116, 117, 114, 110] = true then 4 else if e - a = 5 ∧ wdIs b a [115, 104, 97, 107, 101] = true then 5 else if e - a = 4 ∧ wdIs b a [108, 111, 111, 112] = true then 6 else if e - a = 3 ∧ wdIs b a [101, 110, 100] = true then 7 else 1
/-- 0 nothing, 1 wrong, 2 the semicolon, 3 a number, 4 turn, 5 shake, 6 loop, 7 end -/
def tKd (b : Int → Int) (len p : Int) : Int := if len ≤ tAt b len p then 0 else if cLt (b (tAt b len p)) = true then wKd b (tAt b len p) (tEn b len p) else if b (tAt b len p) = 45 ∨ cFg (b (tAt b len p)) = true then (if tEn b len p - tFs b len p = 1 ∨ tEn b len p - tFs b len p = 2 then 3 else 1) else if b (tAt b len p) = 59 then 2 else 1
def nv (b : Int → Int) (f k : Int) : Int := if k = 0 then 0 else if k = 1 then b f - 48 else 10 * (b f - 48) + (b (f + 1) - 48)
def tVl (b : Int → Int) (len p : Int) : Int := if b (tAt b len p) = 45 then - nv b (tFs b len p) (tEn b len p - tFs b len p) else nv b (tFs b len p) (tEn b len p - tFs b len p)
/-- the reference's word for the kind -/
def tMk (b : Int → Int) (len p : Int) : Int := if len ≤ tAt b len p then 0 else if cLt (b (tAt b len p)) = true then 1 else if b (tAt b len p) = 45 ∨ cFg (b (tAt b len p)) = true then (if tEn b len p - tFs b len p = 1 ∨ tEn b len p - tFs b len p = 2 then 2 else 4) else if b (tAt b len p) = 59 then 3 else 4
section
variable {b b' : Int → Int} {len : Int}
theorem tAt_lo (p : Int) : p ≤ tAt b len p := rn_lo p
theorem tAt_hi {p : Int} (h : p ≤ len) : tAt b len p ≤ len := rn_hi h
theorem tAt_nb (p : Int) : ¬ (tAt b len p < len ∧ b (tAt b len p) = 32) := fun h => rn_out (b := b) (len := len) (c := cBl) p ⟨h.1, cBl_t.mpr h.2⟩
theorem tAt_at (p : Int) : tAt b len (tAt b len p) = tAt b len p := rn_no (rn_out p)
theorem tFs_at (p : Int) : tFs b len (tAt b len p) = tFs b len p := by unfold tFs; rw [tAt_at]
theorem tEn_at (p : Int) : tEn b len (tAt b len p) = tEn b len p := by unfold tEn; rw [tAt_at, tFs_at]
theorem tKd_at (p : Int) : tKd b len (tAt b len p) = tKd b len p := by unfold tKd; rw [tAt_at, tFs_at, tEn_at]
theorem tVl_at (p : Int) : tVl b len (tAt b len p) = tVl b len p := by unfold tVl; rw [tAt_at, tFs_at, tEn_at]
theorem tFs_lo (p : Int) : tAt b len p ≤ tFs b len p := by unfold tFs; split <;> omega
theorem tFs_hi {p : Int} (h : tAt b len p < len) : tFs b len p ≤ len := by unfold tFs; split <;> omega
theorem tEn_gt {p : Int} (h : tAt b len p < len) : tAt b len p < tEn b len p := by
  unfold tEn
  rw [if_neg (by omega)]
  split
  · rename_i h2
    rw [rn_go h h2]
    have := rn_lo (b := b) (len := len) (c := cLt) (tAt b len p + 1)
    omega
  · split
    · rename_i h2
      have h3 := rn_lo (b := b) (len := len) (c := cFg) (tFs b len p)
      by_cases e : b (tAt b len p) = 45
      · unfold tFs at *
        rw [if_pos e] at *
        omega
      · have e2 : tFs b len p = tAt b len p := by unfold tFs; rw [if_neg e]
        rw [e2] at h3 ⊢
        rw [rn_go h (by rcases h2 with h2 | h2; (· exact absurd h2 e); (· exact h2))]
        have := rn_lo (b := b) (len := len) (c := cFg) (tAt b len p + 1)
        omega
    · omega
theorem tEn_lo (p : Int) : tAt b len p ≤ tEn b len p := by
  by_cases h : tAt b len p < len
  · have := tEn_gt h
    omega
  · unfold tEn
    rw [if_pos (by omega)]
    omega
theorem tEn_hi {p : Int} (h : p ≤ len) : tEn b len p ≤ len := by
  have h1 := tAt_hi (b := b) h
  unfold tEn
  split
  · exact h1
  · split
    · exact rn_hi h1
    · split
      · exact rn_hi (tFs_hi (by omega))
      · omega
theorem tKd_0 (p : Int) : tKd b len p = 0 ↔ len ≤ tAt b len p := by
  unfold tKd wKd
  constructor
  · intro h
    by_cases h1 : len ≤ tAt b len p
    · exact h1
    · rw [if_neg h1] at h
      repeat' (first | omega | split at h)
  · intro h
    rw [if_pos h]
theorem tEn_kd {p : Int} (h : tKd b len p ≠ 0) : tAt b len p < tEn b len p := tEn_gt (by have := tKd_0 (b := b) (len := len) p; omega)
/-- how long a word is -/
theorem tKd_lg (p : Int) : (tKd b len p = 4 → tEn b len p - tAt b len p = 4) ∧ (tKd b len p = 5 → tEn b len p - tAt b len p = 5) ∧ (tKd b len p = 6 → tEn b len p - tAt b len p = 4) ∧ (tKd b len p = 7 → tEn b len p - tAt b len p = 3) := by
  unfold tKd wKd
  refine ⟨fun h => ?_, fun h => ?_, fun h => ?_, fun h => ?_⟩ <;> repeat' (first | omega | split at h)
theorem tKd_rg (p : Int) : 0 ≤ tKd b len p ∧ tKd b len p ≤ 7 := by
  unfold tKd wKd
  constructor <;> repeat' (first | omega | split)
theorem nv_bd {f k e : Int} (hb : ∀ i, f ≤ i → i < e → 48 ≤ b i ∧ b i ≤ 57) (hk : 0 ≤ k) (he : k ≤ e - f) : 0 ≤ nv b f k ∧ nv b f k ≤ 99 := by
  unfold nv
  split
  · omega
  · split
    · have := hb f (by omega) (by omega)
      omega
    · have := hb f (by omega) (by omega)
      have := hb (f + 1) (by omega) (by omega)
      omega
theorem tEn_fg {p : Int} (h : tKd b len p = 3) : tEn b len p = rn b len cFg (tFs b len p) ∧ (tEn b len p - tFs b len p = 1 ∨ tEn b len p - tFs b len p = 2) := by
  unfold tKd wKd at h
  by_cases h1 : len ≤ tAt b len p
  · rw [if_pos h1] at h; omega
  rw [if_neg h1] at h
  by_cases h2 : cLt (b (tAt b len p)) = true
  · rw [if_pos h2] at h
    repeat' (first | omega | split at h)
  rw [if_neg h2] at h
  by_cases h3 : b (tAt b len p) = 45 ∨ cFg (b (tAt b len p)) = true
  · rw [if_pos h3] at h
    refine ⟨?_, ?_⟩
    · conv => lhs; unfold tEn
      rw [if_neg h1, if_neg h2, if_pos h3]
    · repeat' (first | assumption | omega | split at h)
  · rw [if_neg h3] at h
    repeat' (first | omega | split at h)
theorem tVl_bd {p : Int} (h : tKd b len p = 3) : -99 ≤ tVl b len p ∧ tVl b len p ≤ 99 := by
  obtain ⟨h1, h2⟩ := tEn_fg h
  have h3 := rn_in (b := b) (len := len) (c := cFg) (tFs b len p)
  rw [← h1] at h3
  have h4 := nv_bd (b := b) (f := tFs b len p) (k := tEn b len p - tFs b len p) (e := tEn b len p) (fun i a c => cFg_t.mp (h3 i a c)) (by omega) (by omega)
  unfold tVl
  split <;> omega
/-- what is read depends on the bytes alone that the text has -/
theorem tAt_ext (hb : ∀ k, 0 ≤ k → k < len → b k = b' k) {p : Int} (h0 : 0 ≤ p) : tAt b' len p = tAt b len p := rn_ext hb h0
end
