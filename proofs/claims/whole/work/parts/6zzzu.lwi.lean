/-! ===== the law: what holds between calls ===== -/
section
variable {sh : zSh} {pp : zPp} {mm m1 m2 m' : zMm} {f : Int → Int} {G : Int → Option (Int → Int)} {cn : Int → Int} {N D L : Nat} {xs : Nat → Int32}
theorem mOk_fx (hm : mOk f G cn N D mm) (h : ∀ a, 122 ≤ a → a < 143 → m' a = mm a) : mOk f G cn N D m' := by
  unfold mOk at hm ⊢
  rw [h 122 (by decide) (by decide), h 123 (by decide) (by decide), h 124 (by decide) (by decide), h 125 (by decide) (by decide), h 126 (by decide) (by decide), h 127 (by decide) (by decide), h 128 (by decide) (by decide)]
  exact hm
theorem cOk_fc (hc : cOk f G cn N D sh pp m1) (h : frC m1 m2) : cOk f G cn N D sh pp m2 := by
  obtain ⟨c1, c2, c3, c4, c5, c6, c7, c8, c9, c10, c11⟩ := id hc
  have s : ∀ lo hi, hi < 122 → sm lo hi m1 m2 := fun lo hi hh x _ b => h x (by omega)
  exact cOk_mk hc (s _ _ (by omega)) (stI_sm c3 (s _ _ (by omega))) (fun i i0 i1 => by rw [h 35 (by decide)]; exact c5 i i0 i1) (fun p hp => cPr_sm (c6 p hp) (s _ _ (by omega))) (cNt_sm c7 (s _ _ (by omega))) (cQu_sm c8 (s _ _ (by omega))) ⟨bG_sm c9.1 (s _ _ (by omega)), bG_sm c9.2 (s _ _ (by omega))⟩ (fun x hx => h x (by omega))
def lwI (L : Nat) (xs : Nat → Int32) (sh : zSh) (pp : zPp) (mm : zMm) : Prop := ∃ (f : Int → Int) (G : Int → Option (Int → Int)) (cn : Int → Int) (N D : Nat), iv f ∧ cOk f G cn N D sh pp mm ∧ mOk f G cn N D mm ∧ (zKd sh 1 = 30 ∧ zLn sh 1 = (L : Int)) ∧ ∀ j, mm 1 j = zM0 xs 1 j
theorem iv_from (v : iv f) (c : cOk f G cn N D sh pp mm) {i : Int} : iv (oFrom f cn G i).1 := by
  unfold oFrom
  by_cases hg : 0 ≤ i ∧ i ≤ 1
  · rw [if_pos hg]
    rcases c.2.2.2.1.1 i hg.1 (by omega) with ⟨-, h⟩ | ⟨-, -, -, g, h, h1, h2, -⟩
    · rw [h]; exact v
    · rw [h]; exact ⟨h1, h2⟩
  · rw [if_neg hg]; exact v
theorem xs_bd (hx : ∀ j, mm 1 j = zM0 xs 1 j) (j : Int) : -2147483648 ≤ mm 1 j ∧ mm 1 j ≤ 2147483647 := by
  rw [hx j]
  show -2147483648 ≤ (xs j.toNat).toInt ∧ (xs j.toNat).toInt ≤ 2147483647
  have a := Int32.le_toInt (xs j.toNat)
  have b := Int32.toInt_lt (xs j.toNat)
  omega
theorem zlor_bd (a b : Int) : -9223372036854775808 ≤ zlor a b ∧ zlor a b ≤ 9223372036854775807 := by
  unfold zlor
  have x := Int64.le_toInt (Int64.ofInt a ||| Int64.ofInt b)
  have y := Int64.toInt_lt (Int64.ofInt a ||| Int64.ofInt b)
  omega
theorem zcmp_s (a : Int) : zcmp a a = 0 := by
  unfold zcmp
  rw [if_neg (by omega), if_pos rfl]
end
