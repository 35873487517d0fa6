/-! ===== plates: a knob, a moment, a turn, a shake, a program ===== -/
def kClick (κ : Int → Int) (w : Int) : Int → Int :=
  if (0 < w ∧ κ 6 < κ 5) ∨ (¬ 0 < w ∧ 0 < κ 6) then fup (fup (fup (if κ 8 = -w then fup (fup κ 1 (κ 1 + 1)) 4 (κ 4 + 1) else fup κ 1 (κ 1 + 1)) 8 w) 6 (κ 6 + w)) 2 (κ 2 + 1)
  else if κ 0 + w < 0 ∨ κ 7 < κ 0 + w then fup (fup (if κ 8 = -w then fup (fup κ 1 (κ 1 + 1)) 4 (κ 4 + 1) else fup κ 1 (κ 1 + 1)) 8 w) 3 (κ 3 + 1)
  else fup (fup (if κ 8 = -w then fup (fup κ 1 (κ 1 + 1)) 4 (κ 4 + 1) else fup κ 1 (κ 1 + 1)) 8 w) 0 (κ 0 + w)
def kOk (κ : Int → Int) (rim m : Int) : Prop := (0 ≤ κ 0 ∧ κ 0 ≤ rim) ∧ κ 7 = rim ∧ (0 ≤ κ 5 ∧ κ 5 ≤ 9) ∧ (0 ≤ κ 6 ∧ κ 6 ≤ κ 5) ∧ (κ 8 = -1 ∨ κ 8 = 0 ∨ κ 8 = 1) ∧ (0 ≤ κ 1 ∧ κ 1 ≤ m) ∧ (0 ≤ κ 2 ∧ κ 2 ≤ m) ∧ (0 ≤ κ 3 ∧ κ 3 ≤ m) ∧ (0 ≤ κ 4 ∧ κ 4 ≤ m)
theorem kClick_ok {κ : Int → Int} {rim m w : Int} (h : kOk κ rim m) (hw : w = 1 ∨ w = -1) : kOk (kClick κ w) rim (m + 1) := by
  obtain ⟨h0, h7, h5, h6, h8, h1, h2, h3, h4⟩ := h
  unfold kClick
  by_cases c1 : (0 < w ∧ κ 6 < κ 5) ∨ (¬ 0 < w ∧ 0 < κ 6)
  · rw [if_pos c1]
    by_cases c2 : κ 8 = -w
    · rw [if_pos c2]; unfold kOk; simp [fup]; omega
    · rw [if_neg c2]; unfold kOk; simp [fup]; omega
  · rw [if_neg c1]
    by_cases c3 : κ 0 + w < 0 ∨ κ 7 < κ 0 + w
    · rw [if_pos c3]
      by_cases c2 : κ 8 = -w
      · rw [if_pos c2]; unfold kOk; simp [fup]; omega
      · rw [if_neg c2]; unfold kOk; simp [fup]; omega
    · rw [if_neg c3]
      by_cases c2 : κ 8 = -w
      · rw [if_pos c2]; unfold kOk; simp [fup]; omega
      · rw [if_neg c2]; unfold kOk; simp [fup]; omega
theorem kOk_mono {κ : Int → Int} {rim m m' : Int} (h : kOk κ rim m) (hm : m ≤ m') : kOk κ rim m' := by unfold kOk at *; omega
theorem kClick_57 (κ : Int → Int) (w : Int) : kClick κ w 5 = κ 5 ∧ kClick κ w 7 = κ 7 := by
  unfold kClick
  constructor <;> (repeat' split) <;> simp [fup]
/-- knob 0, knob 1, drawn, points, moments -/
abbrev zPl : Type := (Int → Int) × (Int → Int) × (Int → Int) × (Int → Int) × Int
def pHere (P : zPl) : Int := 24 * P.2.1 0 + P.1 0
def pMark (P : zPl) : zPl := (P.1, P.2.1, fup P.2.2.1 (pHere P) 1, fup P.2.2.2.1 P.2.2.2.2 (pHere P), P.2.2.2.2)
def sz (v : Int) : Int := max v (-v)
def wy (v : Int) : Int := if 0 < v then 1 else -1
def kMv (a n k : Int) (κ : Int → Int) : Int → Int := if (k - 1) * sz a / n < k * sz a / n then kClick κ (wy a) else κ
def pMom (a b n k : Int) (P : zPl) : zPl := pMark (kMv a n k P.1, kMv b n k P.2.1, P.2.2.1, P.2.2.2.1, P.2.2.2.2 + 1)
def pTurnN (a b n : Int) : Nat → zPl → zPl
  | 0, P => P
  | k + 1, P => pMom a b n ((k : Int) + 1) (pTurnN a b n k P)
def pTurn (a b : Int) (P : zPl) : zPl := pTurnN a b (max (sz a) (sz b)) (max (sz a) (sz b)).toNat P
def isSh (i f : Int) : Prop := (i % 24 + 2 * (i / 24) + f) % 3 = 0
def pShk (f : Int) (dr : Int → Int) (here : Int) : Int → Int := fun i => if (i % 24 + 2 * (i / 24) + f) % 3 = 0 ∧ i ≠ here then 0 else dr i
def pShake (f : Int) (P : zPl) : zPl := (P.1, P.2.1, pShk f P.2.2.1 (pHere P), P.2.2.2.1, P.2.2.2.2)
def pOk (P : zPl) : Prop := kOk P.1 23 P.2.2.2.2 ∧ kOk P.2.1 15 P.2.2.2.2 ∧ 0 ≤ P.2.2.2.2 ∧ (∀ i, P.2.2.1 i = 0 ∨ P.2.2.1 i = 1) ∧ P.2.2.1 (pHere P) = 1
theorem wy_1 (a : Int) : wy a = 1 ∨ wy a = -1 := by unfold wy; split <;> simp
theorem kMv_ok {a n k rim m : Int} {κ : Int → Int} (h : kOk κ rim m) : kOk (kMv a n k κ) rim (m + 1) := by
  unfold kMv
  split
  · exact kClick_ok h (wy_1 a)
  · exact kOk_mono h (by omega)
theorem pMom_ok {a b n k : Int} {P : zPl} (h : pOk P) : pOk (pMom a b n k P) := by
  obtain ⟨h1, h2, h3, h4, h5⟩ := h
  refine ⟨kMv_ok h1, kMv_ok h2, ?_, fun i => ?_, ?_⟩
  · show 0 ≤ P.2.2.2.2 + 1; omega
  · show fup P.2.2.1 _ 1 i = 0 ∨ fup P.2.2.1 _ 1 i = 1
    unfold fup
    split
    · exact Or.inr rfl
    · exact h4 i
  · exact fup_eq _ _ _
theorem pTurnN_ok {a b n : Int} {P : zPl} (h : pOk P) : ∀ k, pOk (pTurnN a b n k P)
  | 0 => h
  | k + 1 => pMom_ok (pTurnN_ok h k)
theorem pTurnN_mo (a b n : Int) (P : zPl) : ∀ k : Nat, (pTurnN a b n k P).2.2.2.2 = P.2.2.2.2 + (k : Int)
  | 0 => by show P.2.2.2.2 = _; simp
  | k + 1 => by
    show (pTurnN a b n k P).2.2.2.2 + 1 = _
    rw [pTurnN_mo a b n P k]
    push_cast
    omega
theorem pTurnN_57 (a b n : Int) (P : zPl) : ∀ k : Nat, (pTurnN a b n k P).1 5 = P.1 5 ∧ (pTurnN a b n k P).2.1 5 = P.2.1 5
  | 0 => ⟨rfl, rfl⟩
  | k + 1 => by
    have h := pTurnN_57 a b n P k
    have e : ∀ (a n k : Int) (κ : Int → Int), kMv a n k κ 5 = κ 5 := fun a n k κ => by
      unfold kMv
      split
      · exact (kClick_57 κ _).1
      · rfl
    exact ⟨(e _ _ _ _).trans h.1, (e _ _ _ _).trans h.2⟩
theorem pTurn_ok {a b : Int} {P : zPl} (h : pOk P) : pOk (pTurn a b P) := pTurnN_ok h _
theorem pTurn_57 (a b : Int) (P : zPl) : (pTurn a b P).1 5 = P.1 5 ∧ (pTurn a b P).2.1 5 = P.2.1 5 := pTurnN_57 _ _ _ P _
theorem pTurn_mo (a b : Int) (P : zPl) : (pTurn a b P).2.2.2.2 = P.2.2.2.2 + max (sz a) (sz b) := by
  unfold pTurn
  rw [pTurnN_mo]
  unfold sz
  omega
theorem pHere_bd {P : zPl} (h : pOk P) : 0 ≤ pHere P ∧ pHere P < 384 := by
  obtain ⟨h1, h2, -⟩ := h
  unfold kOk at h1 h2
  unfold pHere
  omega
theorem pShake_ok {f : Int} {P : zPl} (h : pOk P) : pOk (pShake f P) := by
  obtain ⟨h1, h2, h3, h4, h5⟩ := h
  refine ⟨h1, h2, h3, fun i => ?_, ?_⟩
  · show pShk f P.2.2.1 (pHere P) i = 0 ∨ pShk f P.2.2.1 (pHere P) i = 1
    unfold pShk
    split
    · exact Or.inl rfl
    · exact h4 i
  · show pShk f P.2.2.1 (pHere P) (pHere P) = 1
    unfold pShk
    rw [if_neg (by omega)]
    exact h5
/-- which item, how many loops, where they begin, how often each is still done, items done, whether it is spent, seconds without abouts, the plate -/
abbrev zDs : Type := Nat × Nat × (Nat → Nat) × (Nat → Int) × Int × Bool × Int × zPl
def nup {α : Type} (g : Nat → α) (i : Nat) (v : α) : Nat → α := fun k => if k = i then v else g k
def cei (a p : Int) : Int := (sz a + p - 1) / p
def dStep (kd a1 a2 : Nat → Int) (px py : Int) : zDs → zDs
  | (k, o, bd, lf, it, sp, se, P) =>
    if kd k = 7 then (if 0 < lf (o - 1) - 1 then (bd (o - 1), o, bd, nup lf (o - 1) (lf (o - 1) - 1), it, sp, se, P) else (k + 1, o - 1, bd, nup lf (o - 1) (lf (o - 1) - 1), it, sp, se, P))
    else if 300 ≤ it ∨ (kd k = 4 ∧ 2000 < P.2.2.2.2 + max (sz (a1 k)) (sz (a2 k))) then (k, o, bd, lf, it, true, se, P)
    else if kd k = 4 then (k + 1, o, bd, lf, it + 1, sp, se + max (cei (a1 k) px) (cei (a2 k) py), pTurn (a1 k) (a2 k) P)
    else if kd k = 5 then (k + 1, o, bd, lf, it + 1, sp, se, pShake (a1 k) P)
    else (k + 1, o + 1, nup bd o (k + 1), nup lf o (a1 k), it + 1, sp, se, P)
def dOn (n : Nat) (σ : zDs) : Bool := !σ.2.2.2.2.2.1 && decide (σ.1 < n)
def dRun (kd a1 a2 : Nat → Int) (px py : Int) (n : Nat) : Nat → zDs → zDs
  | 0, σ => σ
  | m + 1, σ => if dOn n σ = true then dRun kd a1 a2 px py n m (dStep kd a1 a2 px py σ) else σ
/-- what a sound state is: the depth of each item is the number of loops -/
def dOk (kd a1 : Nat → Int) (dpt : Nat → Int) (n : Nat) (σ : zDs) : Prop :=
  (σ.1 ≤ n ∧ dpt σ.1 = (σ.2.1 : Int) ∧ σ.2.1 ≤ 3) ∧ (∀ j, j < σ.2.1 → σ.2.2.1 j ≤ n ∧ dpt (σ.2.2.1 j) = (j : Int) + 1) ∧ (∀ j, j < σ.2.1 → 1 ≤ σ.2.2.2.1 j ∧ σ.2.2.2.1 j ≤ 20) ∧ (0 ≤ σ.2.2.2.2.1 ∧ σ.2.2.2.2.1 ≤ 300) ∧ (0 ≤ σ.2.2.2.2.2.2.1 ∧ σ.2.2.2.2.2.2.1 ≤ 99 * σ.2.2.2.2.1) ∧ pOk σ.2.2.2.2.2.2.2 ∧ σ.2.2.2.2.2.2.2.2.2.2.2 ≤ 2000
/-- items that stand -/
def iOk (kd a1 a2 : Nat → Int) (dpt : Nat → Int) (n : Nat) : Prop := ∀ k, k < n → iBg (kd k) (dpt k) ∧ dpt (k + 1) = dpt k + dK (kd k) ∧ iRg (kd k) (a1 k) ∧ (kd k = 4 → (-99 ≤ a1 k ∧ a1 k ≤ 99) ∧ (-99 ≤ a2 k ∧ a2 k ≤ 99))
section
variable {kd a1 a2 : Nat → Int} {px py : Int} {dpt : Nat → Int} {n : Nat}
theorem cei_bd {a p : Int} (ha : -99 ≤ a ∧ a ≤ 99) (hp : 1 ≤ p) : 0 ≤ cei a p ∧ cei a p ≤ 99 := by
  unfold cei sz
  constructor
  · exact Int.ediv_nonneg (by omega) (by omega)
  · have h : max a (-a) + p - 1 ≤ 99 * p := by
      have : 99 ≤ 99 * p - p + 1 := by omega
      omega
    exact Int.ediv_le_of_le_mul (by omega) h
theorem dStep_ok (hi : iOk kd a1 a2 dpt n) (hpx : 1 ≤ px) (hpy : 1 ≤ py) {σ : zDs} (h : dOk kd a1 dpt n σ) (hk : σ.1 < n) : dOk kd a1 dpt n (dStep kd a1 a2 px py σ) := by
  obtain ⟨k, o, bd, lf, it, sp, se, P⟩ := σ
  obtain ⟨⟨h1, h2, h3⟩, h4, h5, h6, h7, h8, h9⟩ := h
  dsimp only at *
  obtain ⟨b1, b2, b3, b4⟩ := hi k hk
  unfold iBg at b1
  unfold dK at b2
  unfold iRg at b3
  unfold dStep
  dsimp only
  by_cases c7 : kd k = 7
  · rw [if_pos c7]
    rw [if_neg (by omega), if_pos c7] at b2
    have hl := h5 (o - 1) (by omega)
    have hb := h4 (o - 1) (by omega)
    by_cases c1 : 0 < lf (o - 1) - 1
    · rw [if_pos c1]
      refine ⟨⟨hb.1, ?_, h3⟩, h4, fun j hj => ?_, h6, h7, h8, h9⟩
      · show dpt (bd (o - 1)) = (o : Int)
        omega
      · show 1 ≤ nup lf (o - 1) _ j ∧ nup lf (o - 1) _ j ≤ 20
        unfold nup
        split
        · omega
        · exact h5 j hj
    · rw [if_neg c1]
      refine ⟨⟨by show k + 1 ≤ n; omega, ?_, by show o - 1 ≤ 3; omega⟩, fun j hj => h4 j (by have : j < o - 1 := hj; omega), fun j hj => ?_, h6, h7, h8, h9⟩
      · show dpt (k + 1) = ((o - 1 : Nat) : Int)
        omega
      · have hj' : j < o - 1 := hj
        show 1 ≤ nup lf (o - 1) _ j ∧ nup lf (o - 1) _ j ≤ 20
        unfold nup
        rw [if_neg (by omega)]
        exact h5 j (by omega)
  rw [if_neg c7]
  by_cases c1 : 300 ≤ it ∨ (kd k = 4 ∧ 2000 < P.2.2.2.2 + max (sz (a1 k)) (sz (a2 k)))
  · rw [if_pos c1]
    exact ⟨⟨h1, h2, h3⟩, h4, h5, h6, h7, h8, h9⟩
  rw [if_neg c1]
  by_cases c4 : kd k = 4
  · rw [if_pos c4]
    rw [if_neg (by omega), if_neg c7] at b2
    have q := b4 c4
    have e1 := cei_bd q.1 hpx
    have e2 := cei_bd q.2 hpy
    refine ⟨⟨by show k + 1 ≤ n; omega, by show dpt (k + 1) = (o : Int); omega, h3⟩, h4, h5, by show 0 ≤ it + 1 ∧ it + 1 ≤ 300; omega, ?_, pTurn_ok h8, ?_⟩
    · show 0 ≤ se + max (cei (a1 k) px) (cei (a2 k) py) ∧ se + max (cei (a1 k) px) (cei (a2 k) py) ≤ 99 * (it + 1)
      omega
    · show (pTurn (a1 k) (a2 k) P).2.2.2.2 ≤ 2000
      rw [pTurn_mo]
      omega
  rw [if_neg c4]
  by_cases c5 : kd k = 5
  · rw [if_pos c5]
    rw [if_neg (by omega), if_neg c7] at b2
    exact ⟨⟨by show k + 1 ≤ n; omega, by show dpt (k + 1) = (o : Int); omega, h3⟩, h4, h5, by show 0 ≤ it + 1 ∧ it + 1 ≤ 300; omega, by show 0 ≤ se ∧ se ≤ 99 * (it + 1); omega, pShake_ok h8, h9⟩
  · rw [if_neg c5]
    have c6 : kd k = 6 := by omega
    rw [if_pos c6] at b2
    have q := b3.2 c6
    refine ⟨⟨by show k + 1 ≤ n; omega, by show dpt (k + 1) = ((o + 1 : Nat) : Int); push_cast; omega, by show o + 1 ≤ 3; omega⟩, fun j hj => ?_, fun j hj => ?_, by show 0 ≤ it + 1 ∧ it + 1 ≤ 300; omega, by show 0 ≤ se ∧ se ≤ 99 * (it + 1); omega, h8, h9⟩
    · have hj' : j < o + 1 := hj
      show nup bd o (k + 1) j ≤ n ∧ dpt (nup bd o (k + 1) j) = (j : Int) + 1
      unfold nup
      by_cases e : j = o
      · rw [if_pos e, e]; omega
      · rw [if_neg e]; exact h4 j (by omega)
    · have hj' : j < o + 1 := hj
      show 1 ≤ nup lf o (a1 k) j ∧ nup lf o (a1 k) j ≤ 20
      unfold nup
      by_cases e : j = o
      · rw [if_pos e]; exact q
      · rw [if_neg e]; exact h5 j (by omega)
/-- how much is still to be done at most -/
def lfS (lf : Nat → Int) : Nat → Int
  | 0 => 0
  | j + 1 => lfS lf j + lf j
def dMs (σ : zDs) : Int := (301 - σ.2.2.2.2.1) * 21 + lfS σ.2.2.2.1 σ.2.1
theorem lfS_nup (lf : Nat → Int) (i : Nat) (v : Int) : ∀ o, o ≤ i → lfS (nup lf i v) o = lfS lf o
  | 0, _ => rfl
  | o + 1, h => by
    show lfS (nup lf i v) o + nup lf i v o = lfS lf o + lf o
    rw [lfS_nup lf i v o (by omega)]
    unfold nup
    rw [if_neg (by omega)]
theorem lfS_nn {lf : Nat → Int} : ∀ o, (∀ j, j < o → 1 ≤ lf j) → 0 ≤ lfS lf o
  | 0, _ => Int.le_refl 0
  | o + 1, h => by
    have h1 := lfS_nn o (fun j hj => h j (by omega))
    have h2 := h o (by omega)
    show 0 ≤ lfS lf o + lf o
    omega
theorem dStep_ms (hi : iOk kd a1 a2 dpt n) {σ : zDs} (h : dOk kd a1 dpt n σ) (hk : σ.1 < n) : (dStep kd a1 a2 px py σ).2.2.2.2.2.1 = true ∨ dMs (dStep kd a1 a2 px py σ) + 1 ≤ dMs σ := by
  obtain ⟨k, o, bd, lf, it, sp, se, P⟩ := σ
  obtain ⟨⟨h1, h2, h3⟩, h4, h5, h6, h7, h8, h9⟩ := h
  dsimp only at *
  obtain ⟨b1, b2, b3, b4⟩ := hi k hk
  unfold iBg at b1
  unfold iRg at b3
  unfold dStep
  dsimp only
  by_cases c7 : kd k = 7
  · rw [if_pos c7]
    have ho : 0 < o := by omega
    obtain ⟨o', rfl⟩ : ∃ o', o = o' + 1 := ⟨o - 1, by omega⟩
    have e := lfS_nup lf o' (lf o' - 1) o' (Nat.le_refl _)
    have e2 : nup lf o' (lf o' - 1) o' = lf o' - 1 := by unfold nup; rw [if_pos rfl]
    have hl := h5 o' (by omega)
    rw [show o' + 1 - 1 = o' by omega]
    right
    by_cases c1 : 0 < lf o' - 1
    · rw [if_pos c1]
      show (301 - it) * 21 + (lfS (nup lf o' (lf o' - 1)) o' + nup lf o' (lf o' - 1) o') + 1 ≤ (301 - it) * 21 + (lfS lf o' + lf o')
      rw [e, e2]
      omega
    · rw [if_neg c1]
      show (301 - it) * 21 + lfS (nup lf o' (lf o' - 1)) o' + 1 ≤ (301 - it) * 21 + (lfS lf o' + lf o')
      rw [e]
      omega
  rw [if_neg c7]
  by_cases c1 : 300 ≤ it ∨ (kd k = 4 ∧ 2000 < P.2.2.2.2 + max (sz (a1 k)) (sz (a2 k)))
  · rw [if_pos c1]
    exact Or.inl rfl
  rw [if_neg c1]
  right
  by_cases c4 : kd k = 4
  · rw [if_pos c4]
    show (301 - (it + 1)) * 21 + lfS lf o + 1 ≤ (301 - it) * 21 + lfS lf o
    omega
  rw [if_neg c4]
  by_cases c5 : kd k = 5
  · rw [if_pos c5]
    show (301 - (it + 1)) * 21 + lfS lf o + 1 ≤ (301 - it) * 21 + lfS lf o
    omega
  · rw [if_neg c5]
    have c6 : kd k = 6 := by omega
    have q := b3.2 c6
    show (301 - (it + 1)) * 21 + (lfS (nup lf o (a1 k)) o + nup lf o (a1 k) o) + 1 ≤ (301 - it) * 21 + lfS lf o
    rw [lfS_nup lf o (a1 k) o (Nat.le_refl _)]
    have e2 : nup lf o (a1 k) o = a1 k := by unfold nup; rw [if_pos rfl]
    rw [e2]
    omega
/-- it comes to its end within so many steps -/
theorem dRun_end (hi : iOk kd a1 a2 dpt n) (hpx : 1 ≤ px) (hpy : 1 ≤ py) : ∀ (m : Nat) (σ : zDs), dOk kd a1 dpt n σ → dMs σ < (m : Int) → dOn n (dRun kd a1 a2 px py n m σ) = false ∧ dOk kd a1 dpt n (dRun kd a1 a2 px py n m σ) := by
  intro m
  induction m with
  | zero =>
    intro σ h hm
    have h5 := h.2.2.1
    have h6 := h.2.2.2.1
    have := lfS_nn σ.2.1 (fun j hj => (h5 j hj).1)
    unfold dMs at hm
    omega
  | succ m ih =>
    intro σ h hm
    show dOn n (if dOn n σ = true then _ else σ) = false ∧ dOk kd a1 dpt n (if dOn n σ = true then _ else σ)
    by_cases c : dOn n σ = true
    · rw [if_pos c]
      have hk : σ.1 < n := by unfold dOn at c; simp at c; exact c.2
      have hs := dStep_ok (px := px) (py := py) hi hpx hpy h hk
      rcases dStep_ms (px := px) (py := py) hi h hk with hm2 | hm2
      · have e : dOn n (dStep kd a1 a2 px py σ) = false := by unfold dOn; rw [hm2]; rfl
        have e2 : dRun kd a1 a2 px py n m (dStep kd a1 a2 px py σ) = dStep kd a1 a2 px py σ := by
          cases m with
          | zero => rfl
          | succ m => show (if dOn n _ = true then _ else _) = _; rw [e]; rfl
        rw [e2]
        exact ⟨e, hs⟩
      · exact ih _ hs (by push_cast at hm; omega)
    · rw [if_neg c]
      exact ⟨by simpa using c, h⟩
end
