/-! ===== nets: where a line would be, and whether it can end ===== -/
def whF (c O : Nat) : Int := if O = 0 then (c : Int) else if O.testBit c = true ∧ pcN O 12 = 2 then ((O ^^^ 2 ^ c).log2 : Nat) else -1
theorem whB_F (f : Int → Int) (c S : Nat) : whB f c S = whF c (oddS (nA f) (nC f) S (nE f)) := rfl
theorem whF_1 : (List.range 10).all (fun c => (List.range 1024).all (fun O => decide (whF c O = -1) || (decide (0 ≤ whF c O) && decide (whF c O < 10) && decide (O = 2 ^ c ^^^ 2 ^ (whF c O).toNat)))) = true := by decide +kernel
theorem whF_2 : (List.range 10).all (fun c => (List.range 10).all (fun w => decide (whF c (2 ^ c ^^^ 2 ^ w) = (w : Int)))) = true := by decide +kernel
theorem whF_n {c O : Nat} (hc : c < 10) (hO : O < 1024) : whF c O = -1 ∨ ∃ w : Nat, w < 10 ∧ whF c O = (w : Int) ∧ O = 2 ^ c ^^^ 2 ^ w := by
  have h := List.all_eq_true.mp (List.all_eq_true.mp whF_1 c (List.mem_range.mpr hc)) O (List.mem_range.mpr hO)
  simp only [Bool.or_eq_true, Bool.and_eq_true, decide_eq_true_eq] at h
  rcases h with h | ⟨⟨h1, h2⟩, h3⟩
  · exact Or.inl h
  · exact Or.inr ⟨(whF c O).toNat, by omega, by omega, h3⟩
theorem whF_e {c w : Nat} (hc : c < 10) (hw : w < 10) : whF c (2 ^ c ^^^ 2 ^ w) = (w : Int) := by
  have h := List.all_eq_true.mp (List.all_eq_true.mp whF_2 c (List.mem_range.mpr hc)) w (List.mem_range.mpr hw)
  simpa only [decide_eq_true_eq] using h
theorem or_x {S e : Nat} (h : S.testBit e = false) : S ||| 2 ^ e = S ^^^ 2 ^ e := by
  apply Nat.eq_of_testBit_eq
  intro i
  rw [Nat.testBit_or, Nat.testBit_xor, Nat.testBit_two_pow]
  by_cases e' : e = i
  · subst e'
    rw [h]
    simp
  · simp [e']
theorem whB_n {f : Int → Int} (ok : fOk f) {c : Nat} (hc : c < 10) (S : Nat) : whB f c S = -1 ∨ ∃ w : Nat, w < 10 ∧ whB f c S = (w : Int) ∧ oddS (nA f) (nC f) S (nE f) = 2 ^ c ^^^ 2 ^ w := by
  rw [whB_F]
  exact whF_n hc (oddS_lt (nE f) (fun e he => (nAC ok he).2.2.2.2.2))
theorem whB_e {f : Int → Int} {c w S : Nat} (hc : c < 10) (hw : w < 10) (h : oddS (nA f) (nC f) S (nE f) = 2 ^ c ^^^ 2 ^ w) : whB f c S = (w : Int) := by
  rw [whB_F, h]
  exact whF_e hc hw
theorem oth_lt {f : Int → Int} (ok : fOk f) {e w : Nat} (he : e < nE f) : oth (nA f) (nC f) e w < 10 := by
  have := (nAC ok he).2.2.2.2.2
  unfold oth
  split <;> omega
theorem whB_st {f : Int → Int} (ok : fOk f) {c S w e : Nat} (hc : c < 10) (hw : w < 10) (h : whB f c S = (w : Int)) (he : e < nE f) (hmt : mts (nA f) (nC f) e w) : whB f c (S ^^^ 2 ^ e) = (oth (nA f) (nC f) e w : Nat) := by
  rcases whB_n ok hc S with h1 | ⟨w', hw', h1, h2⟩
  · omega
  have e' : w' = w := by omega
  subst e'
  apply whB_e hc (oth_lt ok he)
  rw [oddS_x (nE f) he, h2, oth_x hmt]
  exact xor_mid _ _ _
def cP (f : Int → Int) (c S : Nat) : Prop := ∃ w : Nat, whB f c S = (w : Int) ∧ can (nA f) (nC f) w ((2 ^ nE f - 1) ^^^ S)
theorem cP_all {f : Int → Int} {c : Nat} (ok : fOk f) (hc : c < 10) : cP f c (2 ^ nE f - 1) ↔ whB f c (2 ^ nE f - 1) ≠ -1 := by
  unfold cP
  rw [Nat.xor_self]
  constructor
  · intro ⟨w, h, _⟩ h2
    omega
  · intro h
    rcases whB_n ok hc (2 ^ nE f - 1) with h1 | ⟨w, hw, h1, h2⟩
    · exact absurd h1 h
    · exact ⟨w, h1, [], w, rfl, rfl⟩
theorem tb_rest {E S e : Nat} : ((2 ^ E - 1) ^^^ S).testBit e = (decide (e < E) ^^ S.testBit e) := by
  rw [Nat.testBit_xor, Nat.testBit_two_pow_sub_one]
theorem cP_st {f : Int → Int} (ok : fOk f) {c S : Nat} (hc : c < 10) (hS : S < 2 ^ nE f - 1) : cP f c S ↔ ∃ w : Nat, whB f c S = (w : Int) ∧ ∃ e, e < nE f ∧ S.testBit e = false ∧ mts (nA f) (nC f) e w ∧ cP f c (S ||| 2 ^ e) := by
  constructor
  · intro ⟨w, h, h2⟩
    refine ⟨w, h, ?_⟩
    have n0 : (2 ^ nE f - 1) ^^^ S ≠ 0 := by
      intro h0
      have h1 : ((2 ^ nE f - 1) ^^^ S) ^^^ S = 0 ^^^ S := by rw [h0]
      rw [Nat.xor_assoc, Nat.xor_self, Nat.xor_zero, Nat.zero_xor] at h1
      omega
    obtain ⟨e, h3, h4, h5⟩ := can_mt h2 n0
    rw [tb_rest] at h3
    have hb : e < nE f ∧ S.testBit e = false := by
      by_cases he : e < nE f
      · refine ⟨he, ?_⟩
        simpa [he] using h3
      · have : S.testBit e = false := by
          apply Nat.testBit_lt_two_pow
          have := Nat.pow_le_pow_right (n := 2) (by omega) (show nE f ≤ e by omega)
          omega
        simp [he, this] at h3
    have hw : w < 10 := by
      rcases whB_n ok hc S with h1 | ⟨w', hw', h1, _⟩ <;> omega
    refine ⟨e, hb.1, hb.2, h4, ?_⟩
    rw [or_x hb.2]
    refine ⟨_, whB_st ok hc hw h hb.1 h4, ?_⟩
    rw [← Nat.xor_assoc]
    exact h5
  · intro ⟨w, h, e, he, hs, hmt, w2, h3, h4⟩
    refine ⟨w, h, ?_⟩
    have hw : w < 10 := by
      rcases whB_n ok hc S with h1 | ⟨w', hw', h1, _⟩ <;> omega
    rw [or_x hs] at h3 h4
    have e2 := whB_st ok hc hw h he hmt
    have e3 : w2 = oth (nA f) (nC f) e w := by omega
    subst e3
    rw [← Nat.xor_assoc] at h4
    exact can_st (by rw [tb_rest, hs]; simp [he]) hmt h4
