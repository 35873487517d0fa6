/-! ===== bends: tables that are as low as lines can be ===== -/
def mnB (P : Int → Prop) (v : Int) : Prop := v ≤ 1000000 ∧ (v < 1000000 → P v) ∧ ∀ x, P x → v ≤ x
theorem mnB_or {P R : Int → Prop} {a b : Int} (h : mnB P a) (h' : mnB R b) : mnB (fun x => P x ∨ R x) (min a b) := by
  obtain ⟨h1, h2, h3⟩ := h
  obtain ⟨i1, i2, i3⟩ := h'
  refine ⟨by omega, fun hl => ?_, fun x hx => ?_⟩
  · by_cases hab : a ≤ b
    · rw [Int.min_eq_left hab] at hl ⊢; exact Or.inl (h2 hl)
    · rw [Int.min_eq_right (by omega)] at hl ⊢; exact Or.inr (i2 hl)
  · rcases hx with hx | hx
    · have := h3 x hx; omega
    · have := i3 x hx; omega
theorem mnB_cg {P R : Int → Prop} {a : Int} (h : mnB P a) (he : ∀ x, R x ↔ P x) : mnB R a := ⟨h.1, fun hl => (he a).mpr (h.2.1 hl), fun x hx => h.2.2 x ((he x).mp hx)⟩
theorem mnB_no {P : Int → Prop} (h : ∀ x, ¬ P x) : mnB P 1000000 := ⟨Int.le_refl _, fun hl => by omega, fun x hx => absurd hx (h x)⟩
theorem mnB_A {P : Int → Prop} {v : Int} (h : mnB P v) (hb : ∀ x, P x → x < 1000000) : mnA P v := by
  obtain ⟨h1, h2, h3⟩ := h
  by_cases hv : v < 1000000
  · exact Or.inl ⟨h2 hv, h3⟩
  · exact Or.inr ⟨by omega, fun x hx => by have := h3 x hx; have := hb x hx; omega⟩
/-- lines whose every step is one of P -/
def bkP (P : Nat → Nat → Prop) (f : Int → Int) (c : Nat) : List Nat → Nat → Nat → Int → Int → Int → Prop
  | [], S, w, hx, hy, v => S = 0 ∧ w = c ∧ hx = 0 ∧ hy = 0 ∧ v = 0
  | e :: l, S, w, hx, hy, v => ∃ (S' w' : Nat) (hx' hy' v' : Int), bkP P f c l S' w' hx' hy' v' ∧ (e < nE f ∧ S'.testBit e = false ∧ mts (nA f) (nC f) e w' ∧ P S' e) ∧ S = S' ||| 2 ^ e ∧ w = oth (nA f) (nC f) e w' ∧ hx = hA hx' (sg (nX f w - nX f w')) ∧ hy = hA hy' (sg (nY f w - nY f w')) ∧ v = v' + tB hx' (sg (nX f w - nX f w')) + tB hy' (sg (nY f w - nY f w'))
theorem bkP_bk {P : Nat → Nat → Prop} {f : Int → Int} {c : Nat} : ∀ {l : List Nat} {S w : Nat} {hx hy v : Int}, bkP P f c l S w hx hy v → bk f c l S w hx hy v
  | [], _, _, _, _, _, h => h
  | _ :: _, _, _, _, _, _, ⟨S', w', hx', hy', v', h1, ⟨h2, h3, h4, _⟩, h5⟩ => ⟨S', w', hx', hy', v', bkP_bk h1, h2, h3, h4, h5⟩
theorem bk_bkP {f : Int → Int} {c : Nat} : ∀ {l : List Nat} {S w : Nat} {hx hy v : Int}, bk f c l S w hx hy v → bkP (fun _ _ => True) f c l S w hx hy v
  | [], _, _, _, _, _, h => h
  | _ :: _, _, _, _, _, _, ⟨S', w', hx', hy', v', h1, h2, h3, h4, h5⟩ => ⟨S', w', hx', hy', v', bk_bkP h1, ⟨h2, h3, h4, trivial⟩, h5⟩
theorem or_gt {S e : Nat} (h : S.testBit e = false) : S < S ||| 2 ^ e := by
  refine Nat.lt_of_le_of_ne Nat.left_le_or (fun he => ?_)
  have e2 : (S ||| 2 ^ e).testBit e = S.testBit e := by rw [← he]
  rw [Nat.testBit_or, h, Nat.testBit_two_pow] at e2
  simp at e2
theorem sg_r (v : Int) : sg v = -1 ∨ sg v = 0 ∨ sg v = 1 := by
  unfold sg
  split
  · exact Or.inl rfl
  · split
    · exact Or.inr (Or.inr rfl)
    · exact Or.inr (Or.inl rfl)
theorem tB_r (h g : Int) : tB h g = 0 ∨ tB h g = 1 := by
  unfold tB
  split
  · exact Or.inr rfl
  · exact Or.inl rfl
theorem hA_r {h : Int} (hh : h = -1 ∨ h = 0 ∨ h = 1) (v : Int) : hA h (sg v) = -1 ∨ hA h (sg v) = 0 ∨ hA h (sg v) = 1 := by
  unfold hA
  split
  · exact hh
  · exact sg_r v
theorem bk_bd {f : Int → Int} {c : Nat} : ∀ {l : List Nat} {S w : Nat} {hx hy v : Int}, bk f c l S w hx hy v → 0 ≤ v ∧ v ≤ 2 * (S : Int)
  | [], _, _, _, _, _, h => by obtain ⟨rfl, rfl, rfl, rfl, rfl⟩ := h; exact ⟨by decide, by decide⟩
  | e :: l, S, w, hx, hy, v, ⟨S', w', hx', hy', v', h1, h2, h3, h4, h5, h6, h7, h8, h9⟩ => by
    have ih := bk_bd h1
    have hg := or_gt h3
    rw [← h5] at hg
    have t1 := tB_r hx' (sg (nX f w - nX f w'))
    have t2 := tB_r hy' (sg (nY f w - nY f w'))
    omega
theorem bk_h {f : Int → Int} {c : Nat} : ∀ {l : List Nat} {S w : Nat} {hx hy v : Int}, bk f c l S w hx hy v → (hx = -1 ∨ hx = 0 ∨ hx = 1) ∧ (hy = -1 ∨ hy = 0 ∨ hy = 1)
  | [], _, _, _, _, _, h => by obtain ⟨rfl, rfl, rfl, rfl, rfl⟩ := h; exact ⟨Or.inr (Or.inl rfl), Or.inr (Or.inl rfl)⟩
  | e :: l, S, w, hx, hy, v, ⟨S', w', hx', hy', v', h1, h2, h3, h4, h5, h6, h7, h8, h9⟩ => by
    have ih := bk_h h1
    rw [h7, h8]
    exact ⟨hA_r ih.1 _, hA_r ih.2 _⟩
theorem bk_wh {f : Int → Int} (ok : fOk f) {c : Nat} (hc : c < 10) : ∀ {l : List Nat} {S w : Nat} {hx hy v : Int}, bk f c l S w hx hy v → w < 10 ∧ whB f c S = (w : Int) ∧ S < 2 ^ nE f
  | [], _, _, _, _, _, h => by
    obtain ⟨rfl, rfl, rfl, rfl, rfl⟩ := h
    exact ⟨hc, whB_e hc hc (by rw [oddS_0, Nat.xor_self]), Nat.pow_pos (by decide)⟩
  | e :: l, S, w, hx, hy, v, ⟨S', w', hx', hy', v', h1, h2, h3, h4, h5, h6, h7, h8, h9⟩ => by
    have ih := bk_wh ok hc h1
    rw [h5, h6]
    refine ⟨oth_lt ok h2, ?_, Nat.or_lt_two_pow ih.2.2 (Nat.pow_lt_pow_right (by decide) h2)⟩
    rw [or_x h3]
    exact whB_st ok hc ih.1 ih.2.1 h2 h4
/-- what one step asks of a table -/
def bStp (f : Int → Int) (tb : Nat → Int → Int → Int) (S e : Nat) (w : Nat) (hx hy : Int) : Prop := tb (S ||| 2 ^ e) (hA hx (sg (nX f (oth (nA f) (nC f) e w) - nX f w))) (hA hy (sg (nY f (oth (nA f) (nC f) e w) - nY f w))) ≤ tb S hx hy + tB hx (sg (nX f (oth (nA f) (nC f) e w) - nX f w)) + tB hy (sg (nY f (oth (nA f) (nC f) e w) - nY f w))
def hV (h : Int) : Prop := h = -1 ∨ h = 0 ∨ h = 1
theorem bk_low {P : Nat → Nat → Prop} {f : Int → Int} (ok : fOk f) {c : Nat} (hc : c < 10) {tb : Nat → Int → Int → Int} (h0 : tb 0 0 0 ≤ 0) (hM : ∀ S hx hy, S < 2 ^ nE f → hV hx → hV hy → tb S hx hy ≤ 1000000) (hst : ∀ (S e w : Nat) (hx hy : Int), S < 2 ^ nE f → e < nE f → S.testBit e = false → mts (nA f) (nC f) e w → whB f c S = (w : Int) → P S e → hV hx → hV hy → tb S hx hy < 1000000 → bStp f tb S e w hx hy) : ∀ {l : List Nat} {S w : Nat} {hx hy v : Int}, bkP P f c l S w hx hy v → tb S hx hy ≤ v
  | [], _, _, _, _, _, h => by obtain ⟨rfl, rfl, rfl, rfl, rfl⟩ := h; exact h0
  | e :: l, S, w, hx, hy, v, h => by
    have hB := bkP_bk h
    obtain ⟨S', w', hx', hy', v', h1, ⟨h2, h3, h4, hP⟩, h5, h6, h7, h8, h9⟩ := h
    have ih := bk_low ok hc h0 hM hst h1
    have hb := bkP_bk h1
    have hw := bk_wh ok hc hb
    have hh := bk_h hb
    have t1 := tB_r hx' (sg (nX f w - nX f w'))
    have t2 := tB_r hy' (sg (nY f w - nY f w'))
    by_cases hl : tb S' hx' hy' < 1000000
    · have z := hst S' e w' hx' hy' hw.2.2 h2 h3 h4 hw.2.1 hP hh.1 hh.2 hl
      unfold bStp at z
      rw [← h5, ← h6, ← h7, ← h8] at z
      omega
    · have hB1 := (bk_wh ok hc hB).2.2
      have hB2 := bk_h hB
      have := hM S hx hy hB1 hB2.1 hB2.2
      omega
def bSnd (f : Int → Int) (c : Nat) (tb : Nat → Int → Int → Int) : Prop := ∀ (S : Nat) (hx hy : Int), S < 2 ^ nE f → hV hx → hV hy → tb S hx hy < 1000000 → ∃ (l : List Nat) (w : Nat), bk f c l S w hx hy (tb S hx hy)
/-- a table in the making: the steps of D are done -/
def bInv (P : Nat → Nat → Prop) (f : Int → Int) (c : Nat) (tb : Nat → Int → Int → Int) (D : Nat → Nat → Int → Int → Prop) : Prop := (∀ S hx hy, S < 2 ^ nE f → hV hx → hV hy → 0 ≤ tb S hx hy ∧ tb S hx hy ≤ 1000000) ∧ bSnd f c tb ∧ tb 0 0 0 ≤ 0 ∧ ∀ (S e w : Nat) (hx hy : Int), S < 2 ^ nE f → e < nE f → S.testBit e = false → mts (nA f) (nC f) e w → whB f c S = (w : Int) → P S e → hV hx → hV hy → tb S hx hy < 1000000 → D S e hx hy → bStp f tb S e w hx hy
section
variable {P : Nat → Nat → Prop} {f : Int → Int} {c : Nat} {tb tb' : Nat → Int → Int → Int} {D D' : Nat → Nat → Int → Int → Prop}
theorem bInv_wk (h : bInv P f c tb D) (hD : ∀ (S e w : Nat) (hx hy : Int), S < 2 ^ nE f → e < nE f → S.testBit e = false → mts (nA f) (nC f) e w → whB f c S = (w : Int) → P S e → hV hx → hV hy → tb S hx hy < 1000000 → D' S e hx hy → D S e hx hy) : bInv P f c tb D' := ⟨h.1, h.2.1, h.2.2.1, fun S e w hx hy h1 h2 h3 h4 h5 h6 h7 h8 h9 h10 => h.2.2.2 S e w hx hy h1 h2 h3 h4 h5 h6 h7 h8 h9 (hD S e w hx hy h1 h2 h3 h4 h5 h6 h7 h8 h9 h10)⟩
theorem bInv_st (h : bInv P f c tb D) (ok : fOk f) (hc : c < 10) {S e w : Nat} {hx hy : Int} (hS : S < 2 ^ nE f) (he : e < nE f) (hb : S.testBit e = false) (hm : mts (nA f) (nC f) e w) (hw : whB f c S = (w : Int)) (vx : hV hx) (vy : hV hy) (hl : tb S hx hy < 1000000) (hD : ∀ S' e' gx gy, D S' e' gx gy → S' ≤ S) (ht : ∀ T gx gy, T < 2 ^ nE f → hV gx → hV gy → tb' T gx gy = if T = S ||| 2 ^ e ∧ gx = hA hx (sg (nX f (oth (nA f) (nC f) e w) - nX f w)) ∧ gy = hA hy (sg (nY f (oth (nA f) (nC f) e w) - nY f w)) then min (tb S hx hy + tB hx (sg (nX f (oth (nA f) (nC f) e w) - nX f w)) + tB hy (sg (nY f (oth (nA f) (nC f) e w) - nY f w))) (tb T gx gy) else tb T gx gy) : bInv P f c tb' (fun S' e' gx gy => D S' e' gx gy ∨ (S' = S ∧ e' = e ∧ gx = hx ∧ gy = hy)) := by
  obtain ⟨h1, h2, h3, h4⟩ := h
  have hg := or_gt hb
  have hT : S ||| 2 ^ e < 2 ^ nE f := Nat.or_lt_two_pow hS (Nat.pow_lt_pow_right (by decide) he)
  have t1 := tB_r hx (sg (nX f (oth (nA f) (nC f) e w) - nX f w))
  have t2 := tB_r hy (sg (nY f (oth (nA f) (nC f) e w) - nY f w))
  have v1 := hA_r vx (nX f (oth (nA f) (nC f) e w) - nX f w)
  have v2 := hA_r vy (nY f (oth (nA f) (nC f) e w) - nY f w)
  have lo : ∀ T gx gy, T < 2 ^ nE f → hV gx → hV gy → T ≤ S → tb' T gx gy = tb T gx gy := fun T gx gy a1 a2 a3 a4 => by
    rw [ht T gx gy a1 a2 a3, if_neg (fun hx => by omega)]
  have le : ∀ T gx gy, T < 2 ^ nE f → hV gx → hV gy → tb' T gx gy ≤ tb T gx gy := fun T gx gy a1 a2 a3 => by
    rw [ht T gx gy a1 a2 a3]
    split <;> omega
  refine ⟨fun T gx gy a1 a2 a3 => ?_, fun T gx gy a1 a2 a3 a4 => ?_, ?_, fun S' e' w' gx gy a1 a2 a3 a4 a5 a6 a7 a8 a9 a10 => ?_⟩
  · have z := h1 T gx gy a1 a2 a3
    have z0 := h1 S hx hy hS vx vy
    rw [ht T gx gy a1 a2 a3]
    split <;> omega
  · rw [ht T gx gy a1 a2 a3] at a4 ⊢
    by_cases hc1 : T = S ||| 2 ^ e ∧ gx = hA hx (sg (nX f (oth (nA f) (nC f) e w) - nX f w)) ∧ gy = hA hy (sg (nY f (oth (nA f) (nC f) e w) - nY f w))
    · rw [if_pos hc1] at a4 ⊢
      by_cases hc2 : tb S hx hy + tB hx (sg (nX f (oth (nA f) (nC f) e w) - nX f w)) + tB hy (sg (nY f (oth (nA f) (nC f) e w) - nY f w)) ≤ tb T gx gy
      · rw [Int.min_eq_left hc2] at a4 ⊢
        obtain ⟨l, w0, hk⟩ := h2 S hx hy hS vx vy hl
        have ew : w0 = w := by
          have := (bk_wh ok hc hk).2.1
          omega
        subst ew
        exact ⟨e :: l, _, S, w0, hx, hy, _, hk, he, hb, hm, hc1.1, rfl, hc1.2.1, hc1.2.2, rfl⟩
      · rw [Int.min_eq_right (by omega)] at a4 ⊢
        exact h2 T gx gy a1 a2 a3 a4
    · rw [if_neg hc1] at a4 ⊢
      exact h2 T gx gy a1 a2 a3 a4
  · have := le 0 0 0 (Nat.pow_pos (by decide)) (Or.inr (Or.inl rfl)) (Or.inr (Or.inl rfl))
    omega
  · have s1 : S' ||| 2 ^ e' < 2 ^ nE f := Nat.or_lt_two_pow a1 (Nat.pow_lt_pow_right (by decide) a2)
    have u1 := hA_r a7 (nX f (oth (nA f) (nC f) e' w') - nX f w')
    have u2 := hA_r a8 (nY f (oth (nA f) (nC f) e' w') - nY f w')
    have l1 := le (S' ||| 2 ^ e') _ _ s1 u1 u2
    rcases a10 with hd | ⟨d1, d2, d3, d4⟩
    · have hle := hD S' e' gx gy hd
      have es := lo S' gx gy a1 a7 a8 hle
      have z := h4 S' e' w' gx gy a1 a2 a3 a4 a5 a6 a7 a8 (by omega) hd
      unfold bStp at z ⊢
      rw [es]
      omega
    · subst d1 d2 d3 d4
      have ew : w' = w := by omega
      subst ew
      have es := lo S' gx gy a1 a7 a8 (Nat.le_refl _)
      have en := ht (S' ||| 2 ^ e') (hA gx (sg (nX f (oth (nA f) (nC f) e' w') - nX f w'))) (hA gy (sg (nY f (oth (nA f) (nC f) e' w') - nY f w'))) s1 u1 u2
      rw [if_pos ⟨rfl, rfl, rfl⟩] at en
      unfold bStp
      rw [es, en]
      omega
/-- at the end: no line is lower -/
theorem bInv_end (h : bInv (fun _ _ => True) f c tb D) (ok : fOk f) (hc : c < 10) (hD : ∀ S e hx hy, S < 2 ^ nE f - 1 → D S e hx hy) {v : Int} (h1 : v ≤ 1000000) (h2 : ∀ hx hy, hV hx → hV hy → v ≤ tb (2 ^ nE f - 1) hx hy) (h3 : v < 1000000 → ∃ hx hy, hV hx ∧ hV hy ∧ v = tb (2 ^ nE f - 1) hx hy) : mnB (bnP f c) v := by
  have p0 : 0 < 2 ^ nE f := Nat.pow_pos (by decide)
  refine ⟨h1, fun hl => ?_, fun x hx => ?_⟩
  · obtain ⟨hx, hy, a, b, e⟩ := h3 hl
    obtain ⟨l, w, hk⟩ := h.2.1 (2 ^ nE f - 1) hx hy (by omega) a b (by omega)
    rw [← e] at hk
    exact ⟨l, w, hx, hy, hk⟩
  · obtain ⟨l, w, gx, gy, hk⟩ := hx
    have z := bk_low ok hc h.2.2.1 (fun S hx hy a1 a2 a3 => (h.1 S hx hy a1 a2 a3).2) (fun S e w hx hy a1 a2 a3 a4 a5 a6 a7 a8 a9 => h.2.2.2 S e w hx hy a1 a2 a3 a4 a5 a6 a7 a8 a9 (hD S e hx hy (by
      by_cases hq : S = 2 ^ nE f - 1
      · rw [hq, Nat.testBit_two_pow_sub_one] at a3
        simp [a2] at a3
      · omega))) (bk_bkP hk)
    have hh := bk_h hk
    have := h2 gx gy hh.1 hh.2
    omega
end
theorem bnA_of {f : Int → Int} (ok : fOk f) {v : Int} (h : mnB (fun x => ∃ c, c < (f 982).toNat ∧ bnP f c x) v) : bnA f v := by
  refine mnB_A h (fun x hx => ?_)
  obtain ⟨c, -, l, w, hx, hy, hk⟩ := hx
  have z := bk_bd hk
  have l := nE_le ok
  have t : 2 ^ nE f ≤ 4096 := by simpa using Nat.pow_le_pow_right (n := 2) (by omega) l
  omega
