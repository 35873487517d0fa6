/-! ===== items of a text ===== -/
def dK (k : Int) : Int := if k = 6 then 1 else if k = 7 then -1 else 0
/-- behind the item that begins at p -/
def iNx (b : Int → Int) (len p : Int) : Int := if tKd b len p = 4 then tEn b len (tEn b len (tEn b len (tEn b len p))) else if tKd b len p = 7 then tEn b len (tEn b len p) else tEn b len (tEn b len (tEn b len p))
def iRg (k v : Int) : Prop := (k = 5 → 0 ≤ v ∧ v ≤ 2) ∧ (k = 6 → 1 ≤ v ∧ v ≤ 20)
/-- may an item begin so, o loops being there -/
def iBg (k o : Int) : Prop := k = 4 ∨ k = 5 ∨ (k = 6 ∧ o < 3) ∨ (k = 7 ∧ 0 < o)
/-- the place of the first token that can't stand there; -1: the item stands -/
noncomputable def iFt (b : Int → Int) (len p o : Int) : Int :=
  @ite _ (¬ iBg (tKd b len p) o) (Classical.propDecidable _) (tAt b len p)
  (if tKd b len p = 7 then (if tKd b len (tEn b len p) = 2 then -1 else tAt b len (tEn b len p))
  else @ite _ (¬ (tKd b len (tEn b len p) = 3 ∧ iRg (tKd b len p) (tVl b len (tEn b len p)))) (Classical.propDecidable _) (tAt b len (tEn b len p))
  (if tKd b len p = 4 then (if tKd b len (tEn b len (tEn b len p)) = 3 then (if tKd b len (tEn b len (tEn b len (tEn b len p))) = 2 then -1 else tAt b len (tEn b len (tEn b len (tEn b len p)))) else tAt b len (tEn b len (tEn b len p)))
  else (if tKd b len (tEn b len (tEn b len p)) = 2 then -1 else tAt b len (tEn b len (tEn b len p)))))
noncomputable def rdN (b : Int → Int) (len : Int) : Nat → Int → Int → Int
  | 0, _, _ => -1
  | n + 1, p, o => if tKd b len p = 0 then (if o = 0 then -1 else tAt b len p) else if iFt b len p o ≠ -1 then iFt b len p o else rdN b len n (iNx b len p) (o + dK (tKd b len p))
noncomputable def rd (b : Int → Int) (len : Int) : Int := rdN b len 31 0 0
def ip (b : Int → Int) (len : Int) : Nat → Int
  | 0 => 0
  | k + 1 => iNx b len (ip b len k)
def dp (b : Int → Int) (len : Int) : Nat → Int
  | 0 => 0
  | k + 1 => dp b len k + dK (tKd b len (ip b len k))
section
variable {b : Int → Int} {len : Int}
theorem tEn_le {p : Int} : p ≤ tEn b len p := Int.le_trans (tAt_lo p) (tEn_lo p)
theorem iNx_hi {p : Int} (h : p ≤ len) : iNx b len p ≤ len := by
  unfold iNx
  have h1 := tEn_hi (b := b) h
  have h2 := tEn_hi (b := b) h1
  have h3 := tEn_hi (b := b) h2
  have h4 := tEn_hi (b := b) h3
  split
  · exact h4
  · split
    · exact h2
    · exact h3
/-- an item that stands has four bytes at least -/
theorem iNx_4 {p o : Int} (h : iFt b len p o = -1) (hp : 0 ≤ p) : p + 4 ≤ iNx b len p := by
  have a1 := tAt_lo (b := b) (len := len) p
  have a2 := tAt_lo (b := b) (len := len) (tEn b len p)
  have a3 := tAt_lo (b := b) (len := len) (tEn b len (tEn b len p))
  have a4 := tAt_lo (b := b) (len := len) (tEn b len (tEn b len (tEn b len p)))
  have e1 := tEn_lo (b := b) (len := len) p
  have e2 := tEn_lo (b := b) (len := len) (tEn b len p)
  have e3 := tEn_lo (b := b) (len := len) (tEn b len (tEn b len p))
  have e4 := tEn_lo (b := b) (len := len) (tEn b len (tEn b len (tEn b len p)))
  have hl := tKd_lg (b := b) (len := len) p
  unfold iFt at h
  by_cases hb : iBg (tKd b len p) o
  · rw [if_neg (fun hn => hn hb)] at h
    unfold iBg at hb
    unfold iNx
    by_cases h7 : tKd b len p = 7
    · rw [if_pos h7] at h
      rw [if_neg (by omega), if_pos h7]
      by_cases h2 : tKd b len (tEn b len p) = 2
      · have := tEn_kd (b := b) (len := len) (p := tEn b len p) (by omega)
        have := hl.2.2.2 h7
        omega
      · rw [if_neg h2] at h
        omega
    · rw [if_neg h7]
      by_cases h4 : tKd b len p = 4
      · rw [if_pos h4]
        have := hl.1 h4
        omega
      · rw [if_neg h4]
        by_cases h5 : tKd b len p = 5
        · have := hl.2.1 h5
          omega
        · have := hl.2.2.1 (by omega)
          omega
  · rw [if_pos hb] at h
    omega
theorem rdN_s (n : Nat) (p o : Int) : rdN b len (n + 1) p o = if tKd b len p = 0 then (if o = 0 then -1 else tAt b len p) else if iFt b len p o ≠ -1 then iFt b len p o else rdN b len n (iNx b len p) (o + dK (tKd b len p)) := rfl
/-- a text without a fault: its items -/
theorem rd_ok (hl : len ≤ 120) : rd b len = -1 → ∃ n : Nat, n ≤ 30 ∧ tKd b len (ip b len n) = 0 ∧ dp b len n = 0 ∧ ∀ k, k < n → tKd b len (ip b len k) ≠ 0 ∧ iFt b len (ip b len k) (dp b len k) = -1 := by
  have key : ∀ (m k : Nat), 4 * (k : Int) ≤ ip b len k → k + m = 31 → (∀ j, j < k → tKd b len (ip b len j) ≠ 0 ∧ iFt b len (ip b len j) (dp b len j) = -1) → ip b len k ≤ len ∨ k = 0 → rdN b len m (ip b len k) (dp b len k) = -1 → ∃ n : Nat, n ≤ 30 ∧ tKd b len (ip b len n) = 0 ∧ dp b len n = 0 ∧ ∀ k, k < n → tKd b len (ip b len k) ≠ 0 ∧ iFt b len (ip b len k) (dp b len k) = -1 := by
    intro m
    induction m with
    | zero => intro k h1 h2 _ h3; omega
    | succ m ih =>
      intro k h1 h2 h3 h4 h5
      rw [rdN_s] at h5
      by_cases h0 : tKd b len (ip b len k) = 0
      · rw [if_pos h0] at h5
        refine ⟨k, by omega, h0, ?_, h3⟩
        by_cases h6 : dp b len k = 0
        · exact h6
        · rw [if_neg h6] at h5
          have := tAt_lo (b := b) (len := len) (ip b len k)
          omega
      · rw [if_neg h0] at h5
        by_cases h6 : iFt b len (ip b len k) (dp b len k) = -1
        · rw [if_neg (fun hn => hn h6)] at h5
          have h7 := iNx_4 h6 (by omega)
          have hk : ip b len k ≤ len := by
            have h8 := tKd_0 (b := b) (len := len) (ip b len k)
            have := tAt_lo (b := b) (len := len) (ip b len k)
            omega
          refine ih (k + 1) ?_ (by omega) (fun j hj => ?_) (Or.inl (iNx_hi hk)) h5
          · show 4 * ((k + 1 : Nat) : Int) ≤ iNx b len (ip b len k)
            omega
          · by_cases e : j = k
            · subst e; exact ⟨h0, h6⟩
            · exact h3 j (by omega)
        · rw [if_pos h6] at h5
          exact absurd h5 h6
  intro h
  exact key 31 0 (by simp [ip]) rfl (fun j hj => by omega) (Or.inr rfl) h
theorem iFt_no {p o : Int} (h : ¬ iBg (tKd b len p) o) : iFt b len p o = tAt b len p := by unfold iFt; rw [if_pos h]
theorem iFt_7 {p o : Int} (h : tKd b len p = 7) (ho : 0 < o) : iFt b len p o = if tKd b len (tEn b len p) = 2 then -1 else tAt b len (tEn b len p) := by
  unfold iFt
  rw [if_neg (fun hn => hn (by unfold iBg; omega)), if_pos h]
theorem iFt_4 {p o : Int} (h : tKd b len p = 4) : iFt b len p o = if tKd b len (tEn b len p) = 3 then (if tKd b len (tEn b len (tEn b len p)) = 3 then (if tKd b len (tEn b len (tEn b len (tEn b len p))) = 2 then -1 else tAt b len (tEn b len (tEn b len (tEn b len p)))) else tAt b len (tEn b len (tEn b len p))) else tAt b len (tEn b len p) := by
  unfold iFt
  rw [if_neg (fun hn => hn (by unfold iBg; omega)), if_neg (by omega)]
  by_cases h3 : tKd b len (tEn b len p) = 3
  · rw [if_neg (fun hn => hn ⟨h3, by unfold iRg; omega⟩), if_pos h, if_pos h3]
  · rw [if_pos (fun hn => h3 hn.1), if_neg h3]
theorem iFt_5 {p o : Int} (h : tKd b len p = 5) : iFt b len p o = if tKd b len (tEn b len p) = 3 ∧ 0 ≤ tVl b len (tEn b len p) ∧ tVl b len (tEn b len p) ≤ 2 then (if tKd b len (tEn b len (tEn b len p)) = 2 then -1 else tAt b len (tEn b len (tEn b len p))) else tAt b len (tEn b len p) := by
  unfold iFt
  rw [if_neg (fun hn => hn (by unfold iBg; omega)), if_neg (by omega)]
  by_cases h3 : tKd b len (tEn b len p) = 3 ∧ 0 ≤ tVl b len (tEn b len p) ∧ tVl b len (tEn b len p) ≤ 2
  · rw [if_neg (fun hn => hn ⟨h3.1, by unfold iRg; omega⟩), if_neg (by omega), if_pos h3]
  · rw [if_pos (fun hn => h3 ⟨hn.1, hn.2.1 h⟩), if_neg h3]
theorem iFt_6 {p o : Int} (h : tKd b len p = 6) (ho : o < 3) : iFt b len p o = if tKd b len (tEn b len p) = 3 ∧ 1 ≤ tVl b len (tEn b len p) ∧ tVl b len (tEn b len p) ≤ 20 then (if tKd b len (tEn b len (tEn b len p)) = 2 then -1 else tAt b len (tEn b len (tEn b len p))) else tAt b len (tEn b len p) := by
  unfold iFt
  rw [if_neg (fun hn => hn (by unfold iBg; omega)), if_neg (by omega)]
  by_cases h3 : tKd b len (tEn b len p) = 3 ∧ 1 ≤ tVl b len (tEn b len p) ∧ tVl b len (tEn b len p) ≤ 20
  · rw [if_neg (fun hn => hn ⟨h3.1, by unfold iRg; omega⟩), if_neg (by omega), if_pos h3]
  · rw [if_pos (fun hn => h3 ⟨hn.1, hn.2.2 h⟩), if_neg h3]
end
