/-! ===== least values; what bends, again and round ask for ===== -/
def mnF (g : Nat → Int) : Nat → Int
  | 0 => 1000000
  | k + 1 => min (mnF g k) (g k)
theorem mnF_M (g : Nat → Int) : ∀ n, mnF g n ≤ 1000000
  | 0 => Int.le_refl _
  | n + 1 => by
    have := mnF_M g n
    unfold mnF
    omega
theorem mnF_le {g : Nat → Int} {q : Nat} : ∀ n, q < n → mnF g n ≤ g q
  | 0, h => by omega
  | n + 1, h => by
    unfold mnF
    by_cases hq : q = n
    · subst hq; omega
    · have := mnF_le (g := g) (q := q) n (by omega)
      omega
theorem mnF_ge {g : Nat → Int} {x : Int} (hx : x ≤ 1000000) : ∀ n, (∀ q, q < n → x ≤ g q) → x ≤ mnF g n
  | 0, _ => hx
  | n + 1, h => by
    have z1 := mnF_ge hx n (fun q hq => h q (by omega))
    have z2 := h n (by omega)
    unfold mnF
    omega
theorem mnF_ext {g g' : Nat → Int} : ∀ n, (∀ q, q < n → g' q = g q) → mnF g' n = mnF g n
  | 0, _ => rfl
  | n + 1, h => by
    show min (mnF g' n) (g' n) = min (mnF g n) (g n)
    rw [mnF_ext n (fun q hq => h q (by omega)), h n (by omega)]
/-- one more place comes in -/
theorem mnF_add {g g' : Nat → Int} {n q0 : Nat} (h0 : q0 < n) (he : ∀ q, q < n → q ≠ q0 → g' q = g q) (hM : g q0 = 1000000) : mnF g' n = min (mnF g n) (g' q0) := by
  have z1 : mnF g' n ≤ g' q0 := mnF_le n h0
  have z2 : mnF g' n ≤ mnF g n := mnF_ge (mnF_M g' n) n (fun q hq => by
    by_cases hc : q = q0
    · subst hc; rw [hM]; exact mnF_M g' n
    · rw [← he q hq hc]; exact mnF_le n hq)
  have z3 : min (mnF g n) (g' q0) ≤ mnF g' n := mnF_ge (by have := mnF_M g n; omega) n (fun q hq => by
    by_cases hc : q = q0
    · subst hc; omega
    · rw [he q hq hc]
      have := mnF_le (g := g) n hq
      omega)
  omega
/-- v is the least of P, 1000000 if there is none -/
def mnA (P : Int → Prop) (v : Int) : Prop := (P v ∧ ∀ x, P x → v ≤ x) ∨ (v = 1000000 ∧ ∀ x, ¬ P x)
theorem mnA_uq {P : Int → Prop} {v v' : Int} (h : mnA P v) (h' : mnA P v') : v = v' := by
  rcases h with ⟨h1, h2⟩ | ⟨h1, h2⟩
  · rcases h' with ⟨i1, i2⟩ | ⟨i1, i2⟩
    · have z1 := h2 v' i1
      have z2 := i2 v h1
      omega
    · exact absurd h1 (i2 v)
  · rcases h' with ⟨i1, i2⟩ | ⟨i1, i2⟩
    · exact absurd i1 (h2 v')
    · omega
/-- where the corners lie, what an edge is worth -/
def nX (f : Int → Int) (c : Nat) : Int := if c < 10 then f (517 + 2 * (c : Int)) else 0
def nY (f : Int → Int) (c : Nat) : Int := if c < 10 then f (517 + 2 * (c : Int) + 1) else 0
def nH (f : Int → Int) (e : Nat) : Int := if e < 12 then f (537 + 3 * (e : Int) + 2) else 0
def nPr (f : Int → Int) (e : Nat) : Int := max (sz (nX f (nC f e) - nX f (nA f e))) (sz (nY f (nC f e) - nY f (nA f e))) * (if nH f e = 1 then f 7 else 10)
def prS (f : Int → Int) (S : Nat) : Nat → Int
  | 0 => 0
  | n + 1 => prS f S n + (if S.testBit n = true then nPr f n else 0)
def agG (f : Int → Int) (S : Nat) : Int := if pcN (oddS (nA f) (nC f) (2 ^ nE f - 1) (nE f) ^^^ oddS (nA f) (nC f) S (nE f)) 12 ≤ 2 then prS f S (nE f) else 1000000
def agF (f : Int → Int) : Int := mnF (agG f) (2 ^ nE f)
/-- a line, its last edge first: what it went over, where it is, how the knobs were turned last, turns about -/
def hA (h g : Int) : Int := if g = 0 then h else g
def tB (h g : Int) : Int := if g ≠ 0 ∧ h ≠ 0 ∧ g ≠ h then 1 else 0
def bk (f : Int → Int) (c : Nat) : List Nat → Nat → Nat → Int → Int → Int → Prop
  | [], S, w, hx, hy, v => S = 0 ∧ w = c ∧ hx = 0 ∧ hy = 0 ∧ v = 0
  | e :: l, S, w, hx, hy, v => ∃ (S' w' : Nat) (hx' hy' v' : Int), bk f c l S' w' hx' hy' v' ∧ e < nE f ∧ S'.testBit e = false ∧ mts (nA f) (nC f) e w' ∧ S = S' ||| 2 ^ e ∧ w = oth (nA f) (nC f) e w' ∧ hx = hA hx' (sg (nX f w - nX f w')) ∧ hy = hA hy' (sg (nY f w - nY f w')) ∧ v = v' + tB hx' (sg (nX f w - nX f w')) + tB hy' (sg (nY f w - nY f w'))
def bnP (f : Int → Int) (c : Nat) (v : Int) : Prop := ∃ (l : List Nat) (w : Nat) (hx hy : Int), bk f c l (2 ^ nE f - 1) w hx hy v
def bnA (f : Int → Int) (v : Int) : Prop := mnA (fun x => ∃ c, c < (f 982).toNat ∧ bnP f c x) v
/-- round: the greatest off on a stroke, and the least of that over so many strokes -/
def ofA (x y a b r : Int) : Nat → Int
  | 0 => 0
  | k + 1 => max (ofA x y a b r k) (sz ((x - ((k : Int) + 1) * a / max a b) * (x - ((k : Int) + 1) * a / max a b) + (y + ((k : Int) + 1) * b / max a b) * (y + ((k : Int) + 1) * b / max a b) - r * r))
def ofS (x y x' y' r : Int) : Int := ofA x y (x - x') (y' - y) r (max (x - x') (y' - y)).toNat
def rT (r : Int) : Nat → Nat → Int
  | 0, t => if (t : Int) = r then 0 else 1000000
  | n + 1, t => mnF (fun q => if (t % 8 ≤ q % 8 ∧ q / 8 ≤ t / 8 ∧ t ≠ q) ∧ ((t / 8 : Nat) : Int) ≤ r then max (rT r n q) (ofS ((q % 8 : Nat) : Int) ((q / 8 : Nat) : Int) ((t % 8 : Nat) : Int) ((t / 8 : Nat) : Int) r) else 1000000) 64
/-- of edges ahead of i, those with the two corners of e -/
def twN (f : Int → Int) (e : Nat) : Nat → Nat
  | 0 => 0
  | i + 1 => if hgO (nA f) (nC f) i = hgO (nA f) (nC f) e then twN f e i ||| 2 ^ i else twN f e i
/-- the net is the same -/
def netE (f f' : Int → Int) : Prop := (∀ k, 517 ≤ k → k < 573 → f' k = f k) ∧ f' 7 = f 7 ∧ f' 982 = f 982 ∧ f' 983 = f 983
theorem netE_rf (f : Int → Int) : netE f f := ⟨fun _ _ _ => rfl, rfl, rfl, rfl⟩
section
variable {f f' : Int → Int}
theorem nA_net (h : netE f f') : nA f' = nA f := by
  funext e
  unfold nA
  by_cases he : e < 12
  · rw [if_pos he, if_pos he, h.1 _ (by omega) (by omega)]
  · rw [if_neg he, if_neg he]
theorem nC_net (h : netE f f') : nC f' = nC f := by
  funext e
  unfold nC
  by_cases he : e < 12
  · rw [if_pos he, if_pos he, h.1 _ (by omega) (by omega)]
  · rw [if_neg he, if_neg he]
theorem nH_net (h : netE f f') : nH f' = nH f := by
  funext e
  unfold nH
  by_cases he : e < 12
  · rw [if_pos he, if_pos he, h.1 _ (by omega) (by omega)]
  · rw [if_neg he, if_neg he]
theorem nX_net (h : netE f f') : nX f' = nX f := by
  funext e
  unfold nX
  by_cases he : e < 10
  · rw [if_pos he, if_pos he, h.1 _ (by omega) (by omega)]
  · rw [if_neg he, if_neg he]
theorem nY_net (h : netE f f') : nY f' = nY f := by
  funext e
  unfold nY
  by_cases he : e < 10
  · rw [if_pos he, if_pos he, h.1 _ (by omega) (by omega)]
  · rw [if_neg he, if_neg he]
theorem nE_net (h : netE f f') : nE f' = nE f := by unfold nE; rw [h.2.2.2]
theorem nPr_net (h : netE f f') : nPr f' = nPr f := by
  funext e
  unfold nPr
  rw [nX_net h, nY_net h, nH_net h, nA_net h, nC_net h, h.2.1]
theorem hgB_net (h : netE f f') : hgB f' = hgB f := by
  unfold hgB hgM
  rw [nA_net h, nC_net h, nE_net h]
theorem onB_net (h : netE f f') : onB f' = onB f := by
  unfold onB
  rw [hgB_net h, nA_net h, nC_net h, nE_net h]
theorem whB_net (h : netE f f') : whB f' = whB f := by
  funext c S
  unfold whB
  rw [nA_net h, nC_net h, nE_net h]
theorem cP_net (h : netE f f') : cP f' = cP f := by
  funext c S
  unfold cP
  rw [whB_net h, nA_net h, nC_net h, nE_net h]
theorem okE_net (h : netE f f') : okE f' = okE f := by
  funext c S e
  unfold okE
  rw [whB_net h, cP_net h, nA_net h, nC_net h, nE_net h]
theorem lsE_net (h : netE f f') : lsE f' = lsE f := by
  funext c S e
  unfold lsE
  rw [okE_net h]
theorem lnR_net (h : netE f f') {c : Nat} {g : Int → Int} : ∀ n, lnR f' c g n = lnR f c g n
  | 0 => rfl
  | n + 1 => by
    funext S
    unfold lnR
    rw [lnR_net h n, lsE_net h]
theorem trR_net (h : netE f f') : trR f' = trR f := by
  funext K z g
  unfold trR
  simp only [cP_net h, nE_net h, lnR_net h]
theorem prS_net (h : netE f f') {S : Nat} : ∀ n, prS f' S n = prS f S n
  | 0 => rfl
  | n + 1 => by
    unfold prS
    rw [prS_net h n, nPr_net h]
theorem agF_net (h : netE f f') : agF f' = agF f := by
  unfold agF
  rw [nE_net h]
  refine mnF_ext _ (fun q _ => ?_)
  unfold agG
  rw [nA_net h, nC_net h, nE_net h, prS_net h]
theorem bk_net (h : netE f f') {c : Nat} : ∀ l, bk f' c l = bk f c l
  | [] => rfl
  | e :: l => by
    funext S w hx hy v
    unfold bk
    rw [bk_net h l, nA_net h, nC_net h, nE_net h, nX_net h, nY_net h]
theorem bnA_net (h : netE f f') : bnA f' = bnA f := by
  funext v
  unfold bnA bnP
  simp only [bk_net h, nE_net h, h.2.2.1]
theorem twN_net (h : netE f f') {e : Nat} : ∀ i, twN f' e i = twN f e i
  | 0 => rfl
  | i + 1 => by
    unfold twN
    rw [twN_net h i, nA_net h, nC_net h]
end
