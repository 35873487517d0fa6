/-! ===== what holds of every state is kept by each call ===== -/
def iv (f : Int → Int) : Prop := fOk f ∧ fSn f
section
variable {f : Int → Int} {cn : Int → Int}
theorem iv_put (h : iv f) {w v : Int} : iv (oPut f cn w v).1 := by
  unfold oPut
  by_cases hg : (0 ≤ w ∧ w ≤ 8) ∧ loN w ≤ v ∧ v ≤ hiN w
  · rw [if_pos hg]
    refine ⟨fOkNum h.1 (fun k hk => fup_ne (by omega)) (fun i i0 i8 => ?_), fSn_ext h.2 (fup_ne (by omega)) (fun k k0 k1 => fup_ne (by omega))⟩
    by_cases e : i = w
    · subst e
      show loN i ≤ fup f i v i ∧ fup f i v i ≤ hiN i
      rw [fup_eq]
      exact hg.2
    · show loN i ≤ fup f w v i ∧ fup f w v i ≤ hiN i
      rw [fup_ne e]
      exact h.1.1 i i0 i8
  · rw [if_neg hg]; exact h
theorem iv_clear (h : iv f) {p : Int} : iv (oClear f cn p).1 := by
  unfold oClear
  by_cases hg : 0 ≤ p ∧ p ≤ 3
  · rw [if_pos hg]
    obtain ⟨q, rfl⟩ : ∃ q : Nat, p = (q : Int) := ⟨p.toNat, by omega⟩
    refine ⟨fOkTxt h.1 (q := q) (by omega) (fun k hk => fup_ne (by omega)) ?_, fSn_ext h.2 (fup_ne (by omega)) (fun k k0 k1 => fup_ne (by omega))⟩
    show 0 ≤ fup f (9 + 121 * (q : Int)) 0 (9 + 121 * (q : Int)) ∧ fup f (9 + 121 * (q : Int)) 0 (9 + 121 * (q : Int)) ≤ 120 ∧ ∀ k, 0 ≤ k → k < fup f (9 + 121 * (q : Int)) 0 (9 + 121 * (q : Int)) → _
    rw [fup_eq]
    exact ⟨by decide, by decide, fun k k0 k1 => by omega⟩
  · rw [if_neg hg]; exact h
theorem iv_type (h : iv f) {p v n : Int} : iv (oType f cn p v n).1 := by
  unfold oType
  by_cases hg : (0 ≤ p ∧ p ≤ 3) ∧ (1 ≤ n ∧ n ≤ 8)
  · rw [if_pos hg]
    by_cases hf : 120 < f (9 + 121 * p) + n
    · rw [if_pos hf]; exact h
    · rw [if_neg hf]
      obtain ⟨q, rfl⟩ : ∃ q : Nat, p = (q : Int) := ⟨p.toNat, by omega⟩
      have t0 := (h.1.2.1 (q : Int) (by omega) (by omega)).1
      have o := ty_out (p := (q : Int)) (v := v) n.toNat f t0 (by omega)
      exact ⟨ty_ok (by omega) n.toNat f h.1 (by omega), fSn_ext h.2 (o 985 (by omega)) (fun k k0 k1 => o k (by omega))⟩
  · rw [if_neg hg]; exact h
theorem iv_forget (h : iv f) : iv (oForget f cn).1 := by
  show iv (fup f 981 0)
  refine ⟨fOkWsh h.1 (fun k hk => fup_ne (by omega)) ?_, fSn_ext h.2 (fup_ne (by decide)) (fun k k0 k1 => fup_ne (by omega))⟩
  rw [fup_eq]
  exact ⟨by decide, by decide, fun k k0 k1 => by omega⟩
theorem iv_wish (h : iv f) {x y : Int} : iv (oWish f cn x y).1 := by
  unfold oWish
  by_cases hg : (-23 ≤ x ∧ x ≤ 23) ∧ (-15 ≤ y ∧ y ≤ 15) ∧ ¬ (x = 0 ∧ y = 0)
  · rw [if_pos hg]
    by_cases hf : f 981 = 12
    · rw [if_pos hf]; exact h
    · rw [if_neg hf]
      obtain ⟨w0, w1, w2⟩ := h.1.2.2.1
      obtain ⟨f', hf'⟩ : ∃ f', f' = fup (fup (fup f (493 + 2 * f 981) x) (493 + 2 * f 981 + 1) y) 981 (f 981 + 1) := ⟨_, rfl⟩
      have v1 : f' (493 + 2 * f 981) = x := by rw [hf', fup_ne (by omega), fup_ne (by omega), fup_eq]
      have v2 : f' (493 + (2 * f 981 + 1)) = y := by rw [hf', fup_ne (by omega), show 493 + (2 * f 981 + 1) = 493 + 2 * f 981 + 1 by omega, fup_eq]
      have v3 : f' 981 = f 981 + 1 := by rw [hf', fup_eq]
      have vo : ∀ k, k ≠ 493 + 2 * f 981 → k ≠ 493 + 2 * f 981 + 1 → k ≠ 981 → f' k = f k := fun k a b c => by rw [hf', fup_ne c, fup_ne b, fup_ne a]
      show iv (fup (fup (fup f (493 + 2 * f 981) x) (493 + 2 * f 981 + 1) y) 981 (f 981 + 1))
      rw [← hf']
      refine ⟨fOkWsh h.1 (fun k hk => vo k (by omega) (by omega) (by omega)) ⟨by omega, by omega, fun k k0 k1 => ?_⟩, fSn_ext h.2 (vo 985 (by omega) (by omega) (by omega)) (fun k k0 k1 => vo k (by omega) (by omega) (by omega))⟩
      by_cases e : k = 2 * f 981
      · rw [e, v1]; omega
      · by_cases e1 : k = 2 * f 981 + 1
        · rw [e1, v2]; omega
        · rw [vo _ (by omega) (by omega) (by omega)]
          exact w2 k k0 (by omega)
  · rw [if_neg hg]; exact h
theorem iv_corner (h : iv f) {x y : Int} : iv (oCorner f cn x y).1 := by
  unfold oCorner
  by_cases hg : (0 ≤ x ∧ x ≤ 23) ∧ (0 ≤ y ∧ y ≤ 15)
  · rw [if_pos hg]
    by_cases hf : f 982 = 10
    · rw [if_pos hf]; exact h
    · rw [if_neg hf]
      obtain ⟨w0, w1, w2⟩ := h.1.2.2.2.1
      obtain ⟨f', hf'⟩ : ∃ f', f' = fup (fup (fup f (517 + 2 * f 982) x) (517 + 2 * f 982 + 1) y) 982 (f 982 + 1) := ⟨_, rfl⟩
      have v1 : f' (517 + 2 * f 982) = x := by rw [hf', fup_ne (by omega), fup_ne (by omega), fup_eq]
      have v2 : f' (517 + 2 * f 982 + 1) = y := by rw [hf', fup_ne (by omega), fup_eq]
      have v3 : f' 982 = f 982 + 1 := by rw [hf', fup_eq]
      have vo : ∀ k, k ≠ 517 + 2 * f 982 → k ≠ 517 + 2 * f 982 + 1 → k ≠ 982 → f' k = f k := fun k a b c => by rw [hf', fup_ne c, fup_ne b, fup_ne a]
      show iv (fup (fup (fup f (517 + 2 * f 982) x) (517 + 2 * f 982 + 1) y) 982 (f 982 + 1))
      rw [← hf']
      refine ⟨fOkCor h.1 (fun k hk => vo k (by omega) (by omega) (by omega)) ⟨⟨by omega, by omega, fun k k0 k1 => ?_⟩, Or.inl (by omega)⟩, fSn_ext h.2 (vo 985 (by omega) (by omega) (by omega)) (fun k k0 k1 => vo k (by omega) (by omega) (by omega))⟩
      by_cases e : k = f 982
      · rw [e, v1, v2]; omega
      · rw [vo _ (by omega) (by omega) (by omega), vo _ (by omega) (by omega) (by omega)]
        exact w2 k k0 (by omega)
  · rw [if_neg hg]; exact h
theorem iv_edge (h : iv f) {a b w : Int} (hw : w = 0 ∨ w = 1) : iv (oEdge f cn a b w).1 := by
  unfold oEdge
  by_cases hg : (0 ≤ a ∧ a ≤ f 982 - 1) ∧ (0 ≤ b ∧ b ≤ f 982 - 1) ∧ ¬ a = b
  · rw [if_pos hg]
    by_cases hf : f 983 = 12
    · rw [if_pos hf]; exact h
    · rw [if_neg hf]
      obtain ⟨w0, w1, w2⟩ := h.1.2.2.2.2.1
      obtain ⟨f', hf'⟩ : ∃ f', f' = fup (fup (fup (fup f (537 + 3 * f 983) a) (537 + 3 * f 983 + 1) b) (537 + 3 * f 983 + 2) w) 983 (f 983 + 1) := ⟨_, rfl⟩
      have v1 : f' (537 + 3 * f 983) = a := by rw [hf', fup_ne (by omega), fup_ne (by omega), fup_ne (by omega), fup_eq]
      have v2 : f' (537 + 3 * f 983 + 1) = b := by rw [hf', fup_ne (by omega), fup_ne (by omega), fup_eq]
      have v3 : f' (537 + 3 * f 983 + 2) = w := by rw [hf', fup_ne (by omega), fup_eq]
      have v4 : f' 983 = f 983 + 1 := by rw [hf', fup_eq]
      have vo : ∀ k, k ≠ 537 + 3 * f 983 → k ≠ 537 + 3 * f 983 + 1 → k ≠ 537 + 3 * f 983 + 2 → k ≠ 983 → f' k = f k := fun k a b c d => by rw [hf', fup_ne d, fup_ne c, fup_ne b, fup_ne a]
      have v5 : f' 982 = f 982 := vo 982 (by omega) (by omega) (by omega) (by omega)
      show iv (fup (fup (fup (fup f (537 + 3 * f 983) a) (537 + 3 * f 983 + 1) b) (537 + 3 * f 983 + 2) w) 983 (f 983 + 1))
      rw [← hf']
      refine ⟨fOkEdg h.1 (fun k hk => vo k (by omega) (by omega) (by omega) (by omega)) ⟨by omega, by omega, fun k k0 k1 => ?_⟩, fSn_ext h.2 (vo 985 (by omega) (by omega) (by omega) (by omega)) (fun k k0 k1 => vo k (by omega) (by omega) (by omega) (by omega))⟩
      by_cases e : k = f 983
      · rw [e, v1, v2, v3, v5]
        exact ⟨by omega, by omega, hg.2.2, hw⟩
      · rw [vo (537 + 3 * k) (by omega) (by omega) (by omega) (by omega), vo (537 + 3 * k + 1) (by omega) (by omega) (by omega) (by omega), vo (537 + 3 * k + 2) (by omega) (by omega) (by omega) (by omega), v5]
        exact w2 k k0 (by omega)
  · rw [if_neg hg]; exact h
theorem iv_unnet (h : iv f) : iv (oUnnet f cn).1 := by
  show iv (fup (fup f 983 0) 982 0)
  have h1 : iv (fup f 983 0) := by
    refine ⟨fOkEdg h.1 (fun k hk => fup_ne (by omega)) ?_, fSn_ext h.2 (fup_ne (by decide)) (fun k k0 k1 => fup_ne (by omega))⟩
    rw [fup_eq]
    exact ⟨by decide, by decide, fun k k0 k1 => by omega⟩
  refine ⟨fOkCor h1.1 (fun k hk => fup_ne (by omega)) ?_, fSn_ext h1.2 (fup_ne (by decide)) (fun k k0 k1 => fup_ne (by omega))⟩
  rw [fup_eq, fup_eq]
  exact ⟨⟨by decide, by decide, fun k k0 k1 => by omega⟩, Or.inr rfl⟩
theorem iv_test (h : iv f) {k m w : Int} : iv (oTest f cn k m w).1 := by
  unfold oTest
  by_cases hg : (0 ≤ k ∧ k ≤ 1) ∧ (1 ≤ m ∧ m ≤ 40) ∧ (0 ≤ w ∧ w ≤ m)
  · rw [if_pos hg]
    by_cases hf : f 984 = 8
    · rw [if_pos hf]; exact h
    · rw [if_neg hf]
      obtain ⟨w0, w1, w2⟩ := h.1.2.2.2.2.2.1
      obtain ⟨f', hf'⟩ : ∃ f', f' = fup (fup (fup (fup f (957 + 3 * f 984) k) (957 + 3 * f 984 + 1) m) (957 + 3 * f 984 + 2) w) 984 (f 984 + 1) := ⟨_, rfl⟩
      have v1 : f' (957 + 3 * f 984) = k := by rw [hf', fup_ne (by omega), fup_ne (by omega), fup_ne (by omega), fup_eq]
      have v2 : f' (957 + 3 * f 984 + 1) = m := by rw [hf', fup_ne (by omega), fup_ne (by omega), fup_eq]
      have v3 : f' (957 + 3 * f 984 + 2) = w := by rw [hf', fup_ne (by omega), fup_eq]
      have v4 : f' 984 = f 984 + 1 := by rw [hf', fup_eq]
      have vo : ∀ k, k ≠ 957 + 3 * f 984 → k ≠ 957 + 3 * f 984 + 1 → k ≠ 957 + 3 * f 984 + 2 → k ≠ 984 → f' k = f k := fun k a b c d => by rw [hf', fup_ne d, fup_ne c, fup_ne b, fup_ne a]
      show iv (fup (fup (fup (fup f (957 + 3 * f 984) k) (957 + 3 * f 984 + 1) m) (957 + 3 * f 984 + 2) w) 984 (f 984 + 1))
      rw [← hf']
      refine ⟨fOkTst h.1 (fun k hk => vo k (by omega) (by omega) (by omega) (by omega)) ⟨by omega, by omega, fun j j0 j1 => ?_⟩, fSn_ext h.2 (vo 985 (by omega) (by omega) (by omega) (by omega)) (fun k k0 k1 => vo k (by omega) (by omega) (by omega) (by omega))⟩
      by_cases e : j = f 984
      · rw [e, v1, v2, v3]
        exact ⟨by omega, by omega, by omega, by omega⟩
      · rw [vo (957 + 3 * j) (by omega) (by omega) (by omega) (by omega), vo (957 + 3 * j + 1) (by omega) (by omega) (by omega) (by omega), vo (957 + 3 * j + 2) (by omega) (by omega) (by omega) (by omega)]
        exact w2 j j0 (by omega)
  · rw [if_neg hg]; exact h
theorem cnt_up {R R' : Int → Bool} {i0 : Nat} (he : ∀ i : Int, i < 384 → i ≠ (i0 : Int) → R' i = R i) : ∀ n, n ≤ 384 → (cnt R' n : Int) = (cnt R n : Int) + (if i0 < n then (if R' i0 = true then 1 else 0) - (if R i0 = true then 1 else 0) else 0)
  | 0, _ => by
    rw [if_neg (show ¬ i0 < 0 by omega)]
    rfl
  | n + 1, hn => by
    have ih := cnt_up he n (by omega)
    have e1 : (cnt R' (n + 1) : Int) = (cnt R' n : Int) + (if R' n = true then 1 else 0) := by
      show ((cnt R' n + (if R' n = true then 1 else 0) : Nat) : Int) = _
      split <;> omega
    have e2 : (cnt R (n + 1) : Int) = (cnt R n : Int) + (if R n = true then 1 else 0) := by
      show ((cnt R n + (if R n = true then 1 else 0) : Nat) : Int) = _
      split <;> omega
    rw [e1, e2, ih]
    by_cases e : i0 = n
    · subst e
      rw [if_neg (show ¬ i0 < i0 by omega), if_pos (show i0 < i0 + 1 by omega)]
      omega
    · rw [he (n : Int) (by omega) (by omega)]
      by_cases l : i0 < n
      · rw [if_pos l, if_pos (show i0 < n + 1 by omega)]
        omega
      · rw [if_neg l, if_neg (show ¬ i0 < n + 1 by omega)]
        omega
theorem iv_see (h : iv f) {x y w : Int} : iv (oSee f cn x y w).1 := by
  unfold oSee
  by_cases hg : ((0 ≤ x ∧ x ≤ 23) ∧ (0 ≤ y ∧ y ≤ 15)) ∧ (-1 ≤ w ∧ w ≤ 1)
  · rw [if_pos hg]
    by_cases hf : f (573 + 24 * y + x) = -1 ∧ w ≠ -1 ∧ f 985 = 60
    · rw [if_pos hf]; exact h
    · rw [if_neg hf]
      obtain ⟨⟨s0, s1⟩, s2⟩ := h.1.2.2.2.2.2.2
      obtain ⟨i0, hi0⟩ : ∃ i0 : Nat, 24 * y + x = (i0 : Int) := ⟨(24 * y + x).toNat, by omega⟩
      have ei : 573 + 24 * y + x = 573 + (i0 : Int) := by omega
      rw [ei] at hf ⊢
      obtain ⟨dl, hdl⟩ : ∃ dl : Int, dl = (if w = -1 then 0 else 1) - (if f (573 + (i0 : Int)) = -1 then 0 else 1) := ⟨_, rfl⟩
      obtain ⟨f', hf'⟩ : ∃ f', f' = fup (fup f 985 (f 985 + dl)) (573 + (i0 : Int)) w := ⟨_, rfl⟩
      have v1 : f' (573 + (i0 : Int)) = w := by rw [hf', fup_eq]
      have v2 : f' 985 = f 985 + dl := by rw [hf', fup_ne (by omega), fup_eq]
      have vo : ∀ k, k ≠ 573 + (i0 : Int) → k ≠ 985 → f' k = f k := fun k a b => by rw [hf', fup_ne a, fup_ne b]
      show iv (fup (fup f 985 (f 985 + ((if w = -1 then 0 else 1) - (if f (573 + (i0 : Int)) = -1 then 0 else 1)))) (573 + (i0 : Int)) w)
      rw [← hdl, ← hf']
      have sn' : fSn f' := by
        have z := cnt_up (R := fun i => decide (f (573 + i) ≠ -1)) (R' := fun i => decide (f' (573 + i) ≠ -1)) (i0 := i0) (fun i hl hi => by
          try dsimp only
          rw [vo _ (by omega) (by omega)]) 384 (Nat.le_refl _)
        have hs := h.2
        unfold fSn at hs ⊢
        unfold seenN at hs ⊢
        rw [z, v2, hs, if_pos (by omega), v1, hdl]
        simp only [decide_eq_true_eq]
        by_cases a1 : w = -1
        · by_cases a2 : f (573 + (i0 : Int)) = -1
          · rw [if_pos a1, if_pos a2, if_neg (fun q => q a1), if_neg (fun q => q a2)]
          · rw [if_pos a1, if_neg a2, if_neg (fun q => q a1), if_pos a2]
        · by_cases a2 : f (573 + (i0 : Int)) = -1
          · rw [if_neg a1, if_pos a2, if_pos a1, if_neg (fun q => q a2)]
          · rw [if_neg a1, if_neg a2, if_pos a1, if_pos a2]
      have p0 : 0 ≤ f' 985 := by
        unfold fSn at sn'
        omega
      refine ⟨fOkSee h.1 (fun k hk => vo k (by omega) (by omega)) ⟨⟨p0, ?_⟩, fun k k0 k1 => ?_⟩, sn'⟩
      · rw [v2, hdl]
        split <;> split <;> omega
      · by_cases e : k = (i0 : Int)
        · rw [e, v1]; omega
        · rw [vo _ (by omega) (by omega)]; exact s2 k k0 k1
  · rw [if_neg hg]; exact h
end
