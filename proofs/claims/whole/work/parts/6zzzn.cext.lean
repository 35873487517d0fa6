/-! ===== the class's heap grows ===== -/
def exH (sh sh' : zSh) : Prop := sh.length ≤ sh'.length ∧ ∀ a, a < sh.length → zKd sh' a = zKd sh a ∧ zLn sh' a = zLn sh a
def ppE (n : Nat) (pp pp' : zPp) : Prop := ∀ a i, a < n → ¬ a = 34 → ¬ (a = 38 ∧ i = 17) → pp' a i = pp a i
section
variable {sh sh' sh2 : zSh} {pp pp' : zPp} {mm mm' : zMm} {Q : zV → zSh → zPp → zMm → Prop} {f : Int → Int} {G G' : Int → Option (Int → Int)} {cn : Int → Int} {N D : Nat}
theorem zKd_app {q : List (Nat × Nat)} {a : Nat} (h : a < sh.length) : zKd (sh ++ q) a = zKd sh a := by
  unfold zKd
  rw [List.getElem?_append_left h]
theorem zLn_app {q : List (Nat × Nat)} {a : Nat} (h : a < sh.length) : zLn (sh ++ q) a = zLn sh a := by
  unfold zLn
  rw [List.getElem?_append_left h]
theorem zKd_at {q : List (Nat × Nat)} {a k : Nat} {x : Nat × Nat} (h : a = sh.length + k) (hq : q[k]? = some x) : zKd (sh ++ q) a = x.1 := by
  unfold zKd
  rw [List.getElem?_append_right (by omega), h, Nat.add_sub_cancel_left, hq]
theorem zLn_at {q : List (Nat × Nat)} {a k : Nat} {x : Nat × Nat} (h : a = sh.length + k) (hq : q[k]? = some x) : zLn (sh ++ q) a = (x.2 : Int) := by
  unfold zLn
  rw [List.getElem?_append_right (by omega), h, Nat.add_sub_cancel_left, hq]
theorem exH_app (q : List (Nat × Nat)) : exH sh (sh ++ q) := ⟨by rw [List.length_append]; omega, fun a h => ⟨zKd_app h, zLn_app h⟩⟩
theorem zLyK_lt : ∀ e ∈ zLyK, e.1 < 143 := by decide +kernel
theorem zLyP_lt : ∀ e ∈ zLyP, e.1 < 143 ∧ ¬ e.1 = 34 ∧ ¬ (e.1 = 38 ∧ e.2.1 = 17) := by decide +kernel
theorem zCsK_lt : ∀ e ∈ zCsK, e.1 < 143 := by decide +kernel
theorem zLy_ex (h : zLy sh pp) (he : exH sh sh') (hp : ppE sh.length pp pp') : zLy sh' pp' := by
  have l := h.2.2
  refine ⟨fun e hm => ?_, fun e hm => ?_, by have := he.1; omega⟩
  · have z := zLyK_lt e hm
    rw [(he.2 e.1 (by omega)).1, (he.2 e.1 (by omega)).2]
    exact h.1 e hm
  · have z := zLyP_lt e hm
    rw [hp e.1 e.2.1 (by omega) z.2.1 z.2.2]
    exact h.2.1 e hm
theorem zCs_ex (l : 143 ≤ sh.length) (h : zCs sh pp mm) (he : exH sh sh') (hp : ppE sh.length pp pp') (hm : ∀ a, a < sh.length → mm' a = mm a) : zCs sh' pp' mm' := by
  obtain ⟨h1, ⟨p1, p2, p3, p4⟩, h3⟩ := h
  refine ⟨fun e hm => ?_, ⟨?_, ?_, ?_, ?_⟩, fun a a1 a2 i i0 => ?_⟩
  · have z := zCsK_lt e hm
    rw [(he.2 e.1 (by omega)).1, (he.2 e.1 (by omega)).2]
    exact h1 e hm
  · rw [hp 5 0 (by omega) (by decide) (by decide)]; exact p1
  · rw [hp 6 0 (by omega) (by decide) (by decide)]; exact p2
  · rw [hp 7 0 (by omega) (by decide) (by decide)]; exact p3
  · rw [hp 8 0 (by omega) (by decide) (by decide)]; exact p4
  · rw [hm a (by omega)]; exact h3 a a1 a2 i i0
theorem stL_ex {s : Nat} (h : stL sh pp s) (he : exH sh sh') (hs : s + 20 ≤ sh.length) (hp : ∀ a i, s ≤ a → a < s + 20 → pp' a i = pp a i) : stL sh' pp' s := by
  have K : ∀ a, s ≤ a → a < s + 20 → zKd sh' a = zKd sh a ∧ zLn sh' a = zLn sh a := fun a h1 h2 => he.2 a (by omega)
  have T : ∀ (t : Nat) (n : Int), s ≤ t → t + 1 < s + 20 → tbL sh pp t n → tbL sh' pp' t n := fun t n h1 h2 ⟨a, b, c, d⟩ => ⟨(K t h1 (by omega)).1.trans a, (K (t + 1) (by omega) h2).1.trans b, (K (t + 1) (by omega) h2).2.trans c, (hp t 2 h1 (by omega)).trans d⟩
  obtain ⟨h0, ⟨h1, h2, h3⟩, ⟨h4, h5, h6⟩, ⟨w1, w2⟩, ⟨c1, c2⟩, ⟨e1, e2⟩, ⟨t1, t2⟩, ⟨s1, s2, s3⟩, hx⟩ := h
  exact ⟨(K s (by omega) (by omega)).1.trans h0, ⟨(K (s + 1) (by omega) (by omega)).1.trans h1, (K (s + 1) (by omega) (by omega)).2.trans h2, (hp s 0 (by omega) (by omega)).trans h3⟩, ⟨(K (s + 2) (by omega) (by omega)).1.trans h4, (K (s + 2) (by omega) (by omega)).2.trans h5, (hp s 1 (by omega) (by omega)).trans h6⟩, ⟨T _ _ (by omega) (by omega) w1, (hp s 2 (by omega) (by omega)).trans w2⟩, ⟨T _ _ (by omega) (by omega) c1, (hp s 3 (by omega) (by omega)).trans c2⟩, ⟨T _ _ (by omega) (by omega) e1, (hp s 4 (by omega) (by omega)).trans e2⟩, ⟨T _ _ (by omega) (by omega) t1, (hp s 5 (by omega) (by omega)).trans t2⟩, ⟨(K (s + 11) (by omega) (by omega)).1.trans s1, (K (s + 11) (by omega) (by omega)).2.trans s2, (hp s 6 (by omega) (by omega)).trans s3⟩, fun p hp4 => ⟨T _ _ (by omega) (by omega) (hx p hp4).1, (hp (s + 2) _ (by omega) (by omega)).trans (hx p hp4).2⟩⟩
theorem lnL_ex {P : Nat} (h : lnL sh pp P) (he : exH sh sh') (hs : P + 3 ≤ sh.length) (hp : ∀ i, pp' P i = pp P i) : lnL sh' pp' P := by
  obtain ⟨h0, ⟨h1, h2, h3⟩, h4, h5, h6⟩ := h
  exact ⟨(he.2 P (by omega)).1.trans h0, ⟨(he.2 (P + 1) (by omega)).1.trans h1, (he.2 (P + 1) (by omega)).2.trans h2, (hp 0).trans h3⟩, (he.2 (P + 2) (by omega)).1.trans h4, (he.2 (P + 2) (by omega)).2.trans h5, (hp 1).trans h6⟩
/-- one image, as it was -/
def cIm1 (G : Int → Option (Int → Int)) (sh : zSh) (pp : zPp) (mm : zMm) (i : Int) : Prop := (pp 34 i = 0 ∧ G i = none) ∨ (143 ≤ pp 34 i ∧ pp 34 i + 20 ≤ sh.length ∧ stL sh pp (pp 34 i) ∧ ∃ g, G i = some g ∧ fOk g ∧ fSn g ∧ stI (pp 34 i) g mm)
theorem cIm1_ex {i : Int} (h : cIm1 G sh pp mm i) (he : exH sh sh') (hG : G' i = G i) (h34 : pp' 34 i = pp 34 i) (hp : ppE sh.length pp pp') (hm : ∀ a, a < sh.length → mm' a = mm a) : cIm1 G' sh' pp' mm' i := by
  unfold cIm1
  rw [h34, hG]
  rcases h with h | ⟨h1, h2, h3, g, h4, h5, h6, h7⟩
  · exact Or.inl h
  · exact Or.inr ⟨h1, by have := he.1; omega, stL_ex h3 he h2 (fun a j a1 a2 => hp a j (by omega) (by omega) (by omega)), g, h4, h5, h6, stI_sm h7 (fun x a b => hm x (by omega))⟩
theorem cOk_ex (hc : cOk f G cn N D sh pp mm) (he : exH sh sh') (hp : ppE sh.length pp pp') (hm : ∀ a, a < sh.length → mm' a = mm a) (hI : cIm G' sh' pp' mm') (hl : cLi sh' pp') (hr : cRm sh' pp') : cOk f G' cn N D sh' pp' mm' := by
  obtain ⟨c1, c2, c3, c4, c5, c6, c7, c8, c9, c10, c11⟩ := hc
  have l := c1.2.2
  have s : ∀ lo hi, hi < 143 → sm lo hi mm mm' := fun lo hi hh x _ b => hm x (by omega)
  exact ⟨zLy_ex c1 he hp, zCs_ex l c2 he hp hm, stI_sm c3 (s _ _ (by omega)), hI, fun i i0 i1 => by rw [hm 35 (by omega)]; exact c5 i i0 i1, fun p hp4 => cPr_sm (c6 p hp4) (s _ _ (by omega)), cNt_sm c7 (s _ _ (by omega)), cQu_sm c8 (s _ _ (by omega)), ⟨bG_sm c9.1 (s _ _ (by omega)), bG_sm c9.2 (s _ _ (by omega))⟩, hl, hr⟩
end
