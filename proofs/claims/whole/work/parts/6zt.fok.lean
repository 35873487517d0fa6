/-! ===== ranges are kept where one section changes ===== -/
section
variable {f f' : Int → Int}
theorem cnt_ext {R R' : Int → Bool} : ∀ n : Nat, (∀ i : Int, 0 ≤ i → i < (n : Int) → R' i = R i) → cnt R' n = cnt R n
  | 0, _ => rfl
  | n + 1, h => by
    unfold cnt
    rw [cnt_ext n (fun i i0 i1 => h i i0 (by omega)), h n (by omega) (by omega)]
theorem fSn_ext (h : fSn f) (h5 : f' 985 = f 985) (hs : ∀ k, 573 ≤ k → k < 957 → f' k = f k) : fSn f' := by
  unfold fSn seenN at h ⊢
  have zc := cnt_ext (R := fun i => decide (f (573 + i) ≠ -1)) (R' := fun i => decide (f' (573 + i) ≠ -1)) 384 (fun i i0 i1 => by rw [hs (573 + i) (by omega) (by omega)])
  rw [h5, h, zc]
theorem fOkWsh (ok : fOk f) (hd : ∀ k, ¬ (k = 981 ∨ (493 ≤ k ∧ k < 517)) → f' k = f k) (hx : 0 ≤ f' 981 ∧ f' 981 ≤ 12 ∧ ∀ k, 0 ≤ k → k < 2 * f' 981 → -23 ≤ f' (493 + k) ∧ f' (493 + k) ≤ 23) : fOk f' := by
  obtain ⟨zA, zB, zC, zD, zE, zF, zG, zH⟩ := ok
  exact ⟨fun i i0 i1 => by rw [hd i (by omega)]; exact zA i i0 i1, fun p p0 p3 => by
    obtain ⟨b1, b2, b3⟩ := zB p p0 p3
    rw [hd (9 + 121 * p) (by omega)]
    exact ⟨b1, b2, fun k k0 k1 => by rw [hd _ (by omega)]; exact b3 k k0 k1⟩, hx, by
    rw [hd 982 (by omega)]
    exact ⟨zD.1, zD.2.1, fun k k0 k1 => by have := zD.2.1; rw [hd (517 + 2 * k) (by omega), hd (517 + 2 * k + 1) (by omega)]; exact zD.2.2 k k0 k1⟩, by
    rw [hd 983 (by omega)]
    exact ⟨zE.1, zE.2.1, fun k k0 k1 => by
      have := zE.2.1
      have ze := zE.2.2 k k0 k1
      rw [hd (537 + 3 * k) (by omega), hd (537 + 3 * k + 1) (by omega), hd (537 + 3 * k + 2) (by omega), hd 982 (by omega)]
      exact ze⟩, by
    rw [hd 984 (by omega)]
    exact ⟨zF.1, zF.2.1, fun k k0 k1 => by
      have := zF.2.1
      rw [hd (957 + 3 * k) (by omega), hd (957 + 3 * k + 1) (by omega), hd (957 + 3 * k + 2) (by omega)]
      exact zF.2.2 k k0 k1⟩, by rw [hd 985 (by omega)]; exact zG, fun k k0 k1 => by rw [hd _ (by omega)]; exact zH k k0 k1⟩
theorem fOkCor (ok : fOk f) (hd : ∀ k, ¬ (k = 982 ∨ (517 ≤ k ∧ k < 537)) → f' k = f k) (hx : (0 ≤ f' 982 ∧ f' 982 ≤ 10 ∧ ∀ k, 0 ≤ k → k < f' 982 → (0 ≤ f' (517 + 2 * k) ∧ f' (517 + 2 * k) ≤ 23) ∧ 0 ≤ f' (517 + 2 * k + 1) ∧ f' (517 + 2 * k + 1) ≤ 15) ∧ (f 982 ≤ f' 982 ∨ f 983 = 0)) : fOk f' := by
  obtain ⟨zA, zB, zC, zD, zE, zF, zG, zH⟩ := ok
  exact ⟨fun i i0 i1 => by rw [hd i (by omega)]; exact zA i i0 i1, fun p p0 p3 => by
    obtain ⟨b1, b2, b3⟩ := zB p p0 p3
    rw [hd (9 + 121 * p) (by omega)]
    exact ⟨b1, b2, fun k k0 k1 => by rw [hd _ (by omega)]; exact b3 k k0 k1⟩, by
    rw [hd 981 (by omega)]
    exact ⟨zC.1, zC.2.1, fun k k0 k1 => by have := zC.2.1; rw [hd _ (by omega)]; exact zC.2.2 k k0 k1⟩, hx.1, by
    rw [hd 983 (by omega)]
    exact ⟨zE.1, zE.2.1, fun k k0 k1 => by
      have := zE.2.1
      have ze := zE.2.2 k k0 k1
      rw [hd (537 + 3 * k) (by omega), hd (537 + 3 * k + 1) (by omega), hd (537 + 3 * k + 2) (by omega)]
      omega⟩, by
    rw [hd 984 (by omega)]
    exact ⟨zF.1, zF.2.1, fun k k0 k1 => by
      have := zF.2.1
      rw [hd (957 + 3 * k) (by omega), hd (957 + 3 * k + 1) (by omega), hd (957 + 3 * k + 2) (by omega)]
      exact zF.2.2 k k0 k1⟩, by rw [hd 985 (by omega)]; exact zG, fun k k0 k1 => by rw [hd _ (by omega)]; exact zH k k0 k1⟩
theorem fOkEdg (ok : fOk f) (hd : ∀ k, ¬ (k = 983 ∨ (537 ≤ k ∧ k < 573)) → f' k = f k) (hx : 0 ≤ f' 983 ∧ f' 983 ≤ 12 ∧ ∀ k, 0 ≤ k → k < f' 983 → (0 ≤ f' (537 + 3 * k) ∧ f' (537 + 3 * k) < f' 982) ∧ (0 ≤ f' (537 + 3 * k + 1) ∧ f' (537 + 3 * k + 1) < f' 982) ∧ f' (537 + 3 * k) ≠ f' (537 + 3 * k + 1) ∧ (f' (537 + 3 * k + 2) = 0 ∨ f' (537 + 3 * k + 2) = 1)) : fOk f' := by
  obtain ⟨zA, zB, zC, zD, zE, zF, zG, zH⟩ := ok
  exact ⟨fun i i0 i1 => by rw [hd i (by omega)]; exact zA i i0 i1, fun p p0 p3 => by
    obtain ⟨b1, b2, b3⟩ := zB p p0 p3
    rw [hd (9 + 121 * p) (by omega)]
    exact ⟨b1, b2, fun k k0 k1 => by rw [hd _ (by omega)]; exact b3 k k0 k1⟩, by
    rw [hd 981 (by omega)]
    exact ⟨zC.1, zC.2.1, fun k k0 k1 => by have := zC.2.1; rw [hd _ (by omega)]; exact zC.2.2 k k0 k1⟩, by
    rw [hd 982 (by omega)]
    exact ⟨zD.1, zD.2.1, fun k k0 k1 => by have := zD.2.1; rw [hd (517 + 2 * k) (by omega), hd (517 + 2 * k + 1) (by omega)]; exact zD.2.2 k k0 k1⟩, hx, by
    rw [hd 984 (by omega)]
    exact ⟨zF.1, zF.2.1, fun k k0 k1 => by
      have := zF.2.1
      rw [hd (957 + 3 * k) (by omega), hd (957 + 3 * k + 1) (by omega), hd (957 + 3 * k + 2) (by omega)]
      exact zF.2.2 k k0 k1⟩, by rw [hd 985 (by omega)]; exact zG, fun k k0 k1 => by rw [hd _ (by omega)]; exact zH k k0 k1⟩
theorem fOkTst (ok : fOk f) (hd : ∀ k, ¬ (k = 984 ∨ (957 ≤ k ∧ k < 981)) → f' k = f k) (hx : 0 ≤ f' 984 ∧ f' 984 ≤ 8 ∧ ∀ k, 0 ≤ k → k < f' 984 → (0 ≤ f' (957 + 3 * k) ∧ f' (957 + 3 * k) ≤ 1) ∧ (1 ≤ f' (957 + 3 * k + 1) ∧ f' (957 + 3 * k + 1) ≤ 40) ∧ 0 ≤ f' (957 + 3 * k + 2) ∧ f' (957 + 3 * k + 2) ≤ f' (957 + 3 * k + 1)) : fOk f' := by
  obtain ⟨zA, zB, zC, zD, zE, zF, zG, zH⟩ := ok
  exact ⟨fun i i0 i1 => by rw [hd i (by omega)]; exact zA i i0 i1, fun p p0 p3 => by
    obtain ⟨b1, b2, b3⟩ := zB p p0 p3
    rw [hd (9 + 121 * p) (by omega)]
    exact ⟨b1, b2, fun k k0 k1 => by rw [hd _ (by omega)]; exact b3 k k0 k1⟩, by
    rw [hd 981 (by omega)]
    exact ⟨zC.1, zC.2.1, fun k k0 k1 => by have := zC.2.1; rw [hd _ (by omega)]; exact zC.2.2 k k0 k1⟩, by
    rw [hd 982 (by omega)]
    exact ⟨zD.1, zD.2.1, fun k k0 k1 => by have := zD.2.1; rw [hd (517 + 2 * k) (by omega), hd (517 + 2 * k + 1) (by omega)]; exact zD.2.2 k k0 k1⟩, by
    rw [hd 983 (by omega)]
    exact ⟨zE.1, zE.2.1, fun k k0 k1 => by
      have := zE.2.1
      have ze := zE.2.2 k k0 k1
      rw [hd (537 + 3 * k) (by omega), hd (537 + 3 * k + 1) (by omega), hd (537 + 3 * k + 2) (by omega), hd 982 (by omega)]
      exact ze⟩, hx, by rw [hd 985 (by omega)]; exact zG, fun k k0 k1 => by rw [hd _ (by omega)]; exact zH k k0 k1⟩
theorem fOkSee (ok : fOk f) (hd : ∀ k, ¬ (k = 985 ∨ (573 ≤ k ∧ k < 957)) → f' k = f k) (hx : (0 ≤ f' 985 ∧ f' 985 ≤ 60) ∧ ∀ k, 0 ≤ k → k < 384 → -1 ≤ f' (573 + k) ∧ f' (573 + k) ≤ 1) : fOk f' := by
  obtain ⟨zA, zB, zC, zD, zE, zF, zG, zH⟩ := ok
  exact ⟨fun i i0 i1 => by rw [hd i (by omega)]; exact zA i i0 i1, fun p p0 p3 => by
    obtain ⟨b1, b2, b3⟩ := zB p p0 p3
    rw [hd (9 + 121 * p) (by omega)]
    exact ⟨b1, b2, fun k k0 k1 => by rw [hd _ (by omega)]; exact b3 k k0 k1⟩, by
    rw [hd 981 (by omega)]
    exact ⟨zC.1, zC.2.1, fun k k0 k1 => by have := zC.2.1; rw [hd _ (by omega)]; exact zC.2.2 k k0 k1⟩, by
    rw [hd 982 (by omega)]
    exact ⟨zD.1, zD.2.1, fun k k0 k1 => by have := zD.2.1; rw [hd (517 + 2 * k) (by omega), hd (517 + 2 * k + 1) (by omega)]; exact zD.2.2 k k0 k1⟩, by
    rw [hd 983 (by omega)]
    exact ⟨zE.1, zE.2.1, fun k k0 k1 => by
      have := zE.2.1
      have ze := zE.2.2 k k0 k1
      rw [hd (537 + 3 * k) (by omega), hd (537 + 3 * k + 1) (by omega), hd (537 + 3 * k + 2) (by omega), hd 982 (by omega)]
      exact ze⟩, by
    rw [hd 984 (by omega)]
    exact ⟨zF.1, zF.2.1, fun k k0 k1 => by
      have := zF.2.1
      rw [hd (957 + 3 * k) (by omega), hd (957 + 3 * k + 1) (by omega), hd (957 + 3 * k + 2) (by omega)]
      exact zF.2.2 k k0 k1⟩, hx.1, hx.2⟩
theorem fOkNum (ok : fOk f) (hd : ∀ k, ¬ (0 ≤ k ∧ k ≤ 8) → f' k = f k) (hx : ∀ i, 0 ≤ i → i ≤ 8 → loN i ≤ f' i ∧ f' i ≤ hiN i) : fOk f' := by
  obtain ⟨zA, zB, zC, zD, zE, zF, zG, zH⟩ := ok
  exact ⟨hx, fun p p0 p3 => by
    obtain ⟨b1, b2, b3⟩ := zB p p0 p3
    rw [hd (9 + 121 * p) (by omega)]
    exact ⟨b1, b2, fun k k0 k1 => by rw [hd _ (by omega)]; exact b3 k k0 k1⟩, by
    rw [hd 981 (by omega)]
    exact ⟨zC.1, zC.2.1, fun k k0 k1 => by have := zC.2.1; rw [hd _ (by omega)]; exact zC.2.2 k k0 k1⟩, by
    rw [hd 982 (by omega)]
    exact ⟨zD.1, zD.2.1, fun k k0 k1 => by have := zD.2.1; rw [hd (517 + 2 * k) (by omega), hd (517 + 2 * k + 1) (by omega)]; exact zD.2.2 k k0 k1⟩, by
    rw [hd 983 (by omega)]
    exact ⟨zE.1, zE.2.1, fun k k0 k1 => by
      have := zE.2.1
      have ze := zE.2.2 k k0 k1
      rw [hd (537 + 3 * k) (by omega), hd (537 + 3 * k + 1) (by omega), hd (537 + 3 * k + 2) (by omega), hd 982 (by omega)]
      exact ze⟩, by
    rw [hd 984 (by omega)]
    exact ⟨zF.1, zF.2.1, fun k k0 k1 => by
      have := zF.2.1
      rw [hd (957 + 3 * k) (by omega), hd (957 + 3 * k + 1) (by omega), hd (957 + 3 * k + 2) (by omega)]
      exact zF.2.2 k k0 k1⟩, by rw [hd 985 (by omega)]; exact zG, fun k k0 k1 => by rw [hd _ (by omega)]; exact zH k k0 k1⟩
theorem fOkTxt (ok : fOk f) {q : Nat} (hq : q < 4) (hd : ∀ k, ¬ (9 + 121 * (q : Int) ≤ k ∧ k < 130 + 121 * (q : Int)) → f' k = f k) (hx : 0 ≤ f' (9 + 121 * (q : Int)) ∧ f' (9 + 121 * (q : Int)) ≤ 120 ∧ ∀ k, 0 ≤ k → k < f' (9 + 121 * (q : Int)) → 0 ≤ f' (9 + 121 * (q : Int) + 1 + k) ∧ f' (9 + 121 * (q : Int) + 1 + k) ≤ 255) : fOk f' := by
  obtain ⟨zA, zB, zC, zD, zE, zF, zG, zH⟩ := ok
  exact ⟨fun i i0 i1 => by rw [hd i (by omega)]; exact zA i i0 i1, fun p p0 p3 => by
    by_cases hpq : p = (q : Int)
    · subst hpq; exact hx
    · obtain ⟨b1, b2, b3⟩ := zB p p0 p3
      rw [hd (9 + 121 * p) (by omega)]
      exact ⟨b1, b2, fun k k0 k1 => by rw [hd _ (by omega)]; exact b3 k k0 k1⟩, by
    rw [hd 981 (by omega)]
    exact ⟨zC.1, zC.2.1, fun k k0 k1 => by have := zC.2.1; rw [hd _ (by omega)]; exact zC.2.2 k k0 k1⟩, by
    rw [hd 982 (by omega)]
    exact ⟨zD.1, zD.2.1, fun k k0 k1 => by have := zD.2.1; rw [hd (517 + 2 * k) (by omega), hd (517 + 2 * k + 1) (by omega)]; exact zD.2.2 k k0 k1⟩, by
    rw [hd 983 (by omega)]
    exact ⟨zE.1, zE.2.1, fun k k0 k1 => by
      have := zE.2.1
      have ze := zE.2.2 k k0 k1
      rw [hd (537 + 3 * k) (by omega), hd (537 + 3 * k + 1) (by omega), hd (537 + 3 * k + 2) (by omega), hd 982 (by omega)]
      exact ze⟩, by
    rw [hd 984 (by omega)]
    exact ⟨zF.1, zF.2.1, fun k k0 k1 => by
      have := zF.2.1
      rw [hd (957 + 3 * k) (by omega), hd (957 + 3 * k + 1) (by omega), hd (957 + 3 * k + 2) (by omega)]
      exact zF.2.2 k k0 k1⟩, by rw [hd 985 (by omega)]; exact zG, fun k k0 k1 => by rw [hd _ (by omega)]; exact zH k k0 k1⟩
end
