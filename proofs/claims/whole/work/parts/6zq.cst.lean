/-! ===== the class's heap ===== -/
def tbL (sh : zSh) (pp : zPp) (t : Nat) (n : Int) : Prop := zKd sh t = 10 ∧ zKd sh (t + 1) = 20 ∧ zLn sh (t + 1) = n ∧ pp t 2 = t + 1
/-- a table of n rows, each w wide; what lies in it is f from the place b -/
def tbI (t : Nat) (w lim n b : Int) (f : Int → Int) (mm : zMm) : Prop := mm t 0 = w ∧ mm t 1 = lim ∧ mm t 3 = n ∧ ∀ k, 0 ≤ k → k < w * n → mm (t + 1) k = f (b + k)
def stL (sh : zSh) (pp : zPp) (s : Nat) : Prop := zKd sh s = 9 ∧ (zKd sh (s + 1) = 20 ∧ zLn sh (s + 1) = 9 ∧ pp s 0 = s + 1) ∧ (zKd sh (s + 2) = 24 ∧ zLn sh (s + 2) = 4 ∧ pp s 1 = s + 2) ∧ (tbL sh pp (s + 3) 24 ∧ pp s 2 = s + 3) ∧ (tbL sh pp (s + 5) 20 ∧ pp s 3 = s + 5) ∧ (tbL sh pp (s + 7) 36 ∧ pp s 4 = s + 7) ∧ (tbL sh pp (s + 9) 24 ∧ pp s 5 = s + 9) ∧ (zKd sh (s + 11) = 20 ∧ zLn sh (s + 11) = 384 ∧ pp s 6 = s + 11) ∧ ∀ p : Nat, p < 4 → tbL sh pp (s + 12 + 2 * p) 120 ∧ pp (s + 2) (p : Int) = s + 12 + 2 * p
def stI (s : Nat) (f : Int → Int) (mm : zMm) : Prop := (∀ i, 0 ≤ i → i ≤ 8 → mm (s + 1) i = f i) ∧ tbI (s + 3) 2 12 (f 981) 493 f mm ∧ tbI (s + 5) 2 10 (f 982) 517 f mm ∧ tbI (s + 7) 3 12 (f 983) 537 f mm ∧ tbI (s + 9) 3 8 (f 984) 957 f mm ∧ (∀ i, 0 ≤ i → i < 384 → mm (s + 11) i = f (573 + i)) ∧ mm s 7 = f 985 ∧ ∀ p : Nat, p < 4 → tbI (s + 12 + 2 * p) 1 120 (f (9 + 121 * (p : Int))) (10 + 121 * (p : Int)) f mm
/-- rows that are the same -/
def sm (lo hi : Nat) (m m' : zMm) : Prop := ∀ x, lo ≤ x → x ≤ hi → m' x = m x
theorem sm_rf (lo hi : Nat) (m : zMm) : sm lo hi m m := fun _ _ _ => rfl
theorem sm_tr {lo hi : Nat} {a b c : zMm} (h : sm lo hi a b) (h' : sm lo hi b c) : sm lo hi a c := fun x h1 h2 => (h' x h1 h2).trans (h x h1 h2)
theorem sm_wd {lo hi lo' hi' : Nat} {a b : zMm} (h : sm lo hi a b) (h1 : lo ≤ lo') (h2 : hi' ≤ hi) : sm lo' hi' a b := fun x g1 g2 => h x (by omega) (by omega)
theorem sm_fr {P : Nat → Int → Prop} {lo hi : Nat} {a b : zMm} (h : frP P a b) (hP : ∀ x j, P x j → ¬ (lo ≤ x ∧ x ≤ hi)) : sm lo hi a b := fun x h1 h2 => by
  funext j
  exact h x j (fun hx => hP x j hx ⟨h1, h2⟩)
theorem sm_up {lo hi : Nat} {a b : zMm} (h : sm lo hi a b) {x : Nat} {i v : Int} (hx : ¬ (lo ≤ x ∧ x ≤ hi)) : sm lo hi a (zupd b x i v) := fun y h1 h2 => by
  rw [← h y h1 h2]
  funext j
  exact zupd_na (by omega)
theorem zu_r {m m' : zMm} {x a : Nat} {i v : Int} (h : m' x = m x) : zupd m' a i v x = zupd m a i v x := by
  funext j
  unfold zupd
  rw [h]
theorem tbI_sm {t : Nat} {w lim n b : Int} {f : Int → Int} {m m' : zMm} (h : tbI t w lim n b f m) (h1 : m' t = m t) (h2 : m' (t + 1) = m (t + 1)) : tbI t w lim n b f m' := by
  unfold tbI
  rw [h1, h2]
  exact h
theorem stI_sm {s : Nat} {f : Int → Int} {m m' : zMm} (h : stI s f m) (hs : sm s (s + 19) m m') : stI s f m' := by
  obtain ⟨h1, h2, h3, h4, h5, h6, h7, h8⟩ := h
  refine ⟨?_, tbI_sm h2 (hs _ (by omega) (by omega)) (hs _ (by omega) (by omega)), tbI_sm h3 (hs _ (by omega) (by omega)) (hs _ (by omega) (by omega)), tbI_sm h4 (hs _ (by omega) (by omega)) (hs _ (by omega) (by omega)), tbI_sm h5 (hs _ (by omega) (by omega)) (hs _ (by omega) (by omega)), ?_, ?_, fun p hp => tbI_sm (h8 p hp) (hs _ (by omega) (by omega)) (hs _ (by omega) (by omega))⟩
  · rw [hs (s + 1) (by omega) (by omega)]; exact h1
  · rw [hs (s + 11) (by omega) (by omega)]; exact h6
  · rw [hs s (by omega) (by omega)]; exact h7
theorem scrOk_sm {s : Nat} {b : Int → Int} {len : Int} {m m' : zMm} (h : scrOk s b len m) (hs : sm s (s + 3) m m') : scrOk s b len m' := by
  unfold scrOk cItm at h ⊢
  rw [hs s (by omega) (by omega), hs (s + 1) (by omega) (by omega), hs (s + 2) (by omega) (by omega), hs (s + 3) (by omega) (by omega)]
  exact h
theorem drwOk_sm {d : Nat} {f : Int → Int} {p : Int} {m m' : zMm} (h : drwOk d f p m) (hs : sm d (d + 4) m m') : drwOk d f p m' := by
  unfold drwOk cPk rowIs at h ⊢
  rw [hs d (by omega) (by omega), hs (d + 1) (by omega) (by omega), hs (d + 2) (by omega) (by omega), hs (d + 3) (by omega) (by omega), hs (d + 4) (by omega) (by omega)]
  exact h
theorem cPr_sm {p : Nat} {f : Int → Int} {m m' : zMm} (h : cPr p f m) (hs : sm (66 + 14 * p) (79 + 14 * p) m m') : cPr p f m' := by
  obtain ⟨h1, h2⟩ := h
  unfold cPr
  rw [hs (66 + 14 * p) (by omega) (by omega), hs (73 + 14 * p) (by omega) (by omega)]
  exact ⟨h1.imp_right (fun hx => ⟨hx.1, scrOk_sm hx.2 (sm_wd hs (by omega) (by omega))⟩), h2.imp_right (fun hx => ⟨hx.1, hx.2.1, drwOk_sm hx.2.2 (sm_wd hs (by omega) (by omega))⟩)⟩
/-- what is known of the net -/
def cNtK (f : Int → Int) (mm : zMm) : Prop := (mm 38 0 = (oddS (nA f) (nC f) (2 ^ nE f - 1) (nE f) : Nat) ∧ mm 38 1 = (if hgB f = true then 1 else 0) ∧ mm 38 2 = (if onB f = true then 1 else 0) ∧ mm 38 3 = (nE f : Int)) ∧ (∀ e : Nat, e < nE f → mm 39 (e : Int) = (nA f e : Int) ∧ mm 40 (e : Int) = (nC f e : Int) ∧ mm 41 (e : Int) = (hgO (nA f) (nC f) e : Nat) ∧ mm 42 (e : Int) = sg (nX f (nC f e) - nX f (nA f e)) ∧ mm 43 (e : Int) = sg (nY f (nC f e) - nY f (nA f e)) ∧ mm 44 (e : Int) = (twN f e e : Nat) ∧ mm 45 (e : Int) = nPr f e) ∧ (mm 38 14 = -1 ∨ (mm 38 14 ≠ -1 ∧ trR f (f 982).toNat (mm 38 14) (fun k => mm 46 k))) ∧ (mm 38 15 = -1 ∨ bnA f (mm 38 15)) ∧ (mm 38 16 = -1 ∨ mm 38 16 = agF f)
def cNt (f : Int → Int) (mm : zMm) : Prop := mm 38 10 = 0 ∨ (mm 38 10 = 1 ∧ cNtK f mm)
theorem cNtK_sm {f : Int → Int} {m m' : zMm} (h : cNtK f m) (hs : sm 38 46 m m') : cNtK f m' := by
  unfold cNtK at h ⊢
  rw [hs 38 (by omega) (by omega), hs 39 (by omega) (by omega), hs 40 (by omega) (by omega), hs 41 (by omega) (by omega), hs 42 (by omega) (by omega), hs 43 (by omega) (by omega), hs 44 (by omega) (by omega), hs 45 (by omega) (by omega), hs 46 (by omega) (by omega)]
  exact h
theorem cNt_sm {f : Int → Int} {m m' : zMm} (h : cNt f m) (hs : sm 38 46 m m') : cNt f m' := by
  unfold cNt
  rw [hs 38 (by omega) (by omega)]
  exact h.imp_right (fun hx => ⟨hx.1, cNtK_sm hx.2 hs⟩)
theorem cNtK_net {f f' : Int → Int} {m : zMm} (hn : netE f f') (h : cNtK f m) : cNtK f' m := by
  unfold cNtK at h ⊢
  simp only [hgB_net hn, onB_net hn, nA_net hn, nC_net hn, nE_net hn, nX_net hn, nY_net hn, twN_net hn, nPr_net hn, trR_net hn, bnA_net hn, agF_net hn, hn.2.2.1]
  exact h
/-- what is known of round -/
def cQu (mm : zMm) : Prop := ∀ r : Nat, 1 ≤ r → r ≤ 7 → mm 49 (r : Int) = 0 ∨ (mm 49 (r : Int) = 1 ∧ ∀ n : Nat, 1 ≤ n → n ≤ 6 → mm 50 (7 * (r : Int) + (n : Int)) = rT (r : Int) n (8 * r))
theorem cQu_sm {m m' : zMm} (h : cQu m) (hs : sm 49 50 m m') : cQu m' := by
  unfold cQu
  rw [hs 49 (by omega) (by omega), hs 50 (by omega) (by omega)]
  exact h
theorem bG_sm {a v : Nat} {m m' : zMm} (h : bG a v m) (hs : sm a (a + 1) m m') : bG a v m' := by
  unfold bG bW lmb
  rw [hs a (by omega) (by omega), hs (a + 1) (by omega) (by omega)]
  exact h
/-- the images lie apart, behind all that the constructors made; so do the lines -/
def cIm (G : Int → Option (Int → Int)) (sh : zSh) (pp : zPp) (mm : zMm) : Prop := (∀ i, 0 ≤ i → i < 2 → (pp 34 i = 0 ∧ G i = none) ∨ (143 ≤ pp 34 i ∧ pp 34 i + 20 ≤ sh.length ∧ stL sh pp (pp 34 i) ∧ ∃ g, G i = some g ∧ fOk g ∧ fSn g ∧ stI (pp 34 i) g mm)) ∧ (pp 34 0 = 0 ∨ pp 34 1 = 0 ∨ pp 34 0 + 20 ≤ pp 34 1 ∨ pp 34 1 + 20 ≤ pp 34 0)
def cLi (sh : zSh) (pp : zPp) : Prop := pp 38 17 = 0 ∨ (143 ≤ pp 38 17 ∧ pp 38 17 + 3 ≤ sh.length ∧ (zKd sh (pp 38 17) = 5 ∧ (zKd sh (pp 38 17 + 1) = 20 ∧ zLn sh (pp 38 17 + 1) = 4096 ∧ pp (pp 38 17) 0 = pp 38 17 + 1) ∧ zKd sh (pp 38 17 + 2) = 20 ∧ zLn sh (pp 38 17 + 2) = 36864 ∧ pp (pp 38 17) 1 = pp 38 17 + 2) ∧ ∀ i, 0 ≤ i → i < 2 → pp 34 i = 0 ∨ pp 34 i + 20 ≤ pp 38 17 ∨ pp 38 17 + 3 ≤ pp 34 i)
def cRm (sh : zSh) (pp : zPp) : Prop := sh.length + (if pp 34 0 = 0 then 20 else 0) + (if pp 34 1 = 0 then 20 else 0) + (if pp 38 17 = 0 then 3 else 0) ≤ 186 ∧ zSm sh + (if pp 34 0 = 0 then 1200 else 0) + (if pp 34 1 = 0 then 1200 else 0) + (if pp 38 17 = 0 then 41000 else 0) ≤ 200000
def cOk (f : Int → Int) (G : Int → Option (Int → Int)) (cn : Int → Int) (N D : Nat) (sh : zSh) (pp : zPp) (mm : zMm) : Prop := zLy sh pp ∧ zCs sh pp mm ∧ stI 14 f mm ∧ cIm G sh pp mm ∧ (∀ i, 0 ≤ i → i < 3 → mm 35 i = cn i) ∧ (∀ p : Nat, p < 4 → cPr p f mm) ∧ cNt f mm ∧ cQu mm ∧ (bG 58 N mm ∧ bG 60 D mm) ∧ cLi sh pp ∧ cRm sh pp
/-- what a call of the class leaves as it was -/
def frX (sh : zSh) (mm : zMm) (sh' : zSh) (mm' : zMm) : Prop := (∀ a, a < 13 ∨ (122 ≤ a ∧ a < 143) → mm' a = mm a) ∧ ∀ a, a < 13 → zKd sh' a = zKd sh a ∧ zLn sh' a = zLn sh a
theorem frX_rf (sh : zSh) (mm : zMm) : frX sh mm sh mm := ⟨fun _ _ => rfl, fun _ _ => ⟨rfl, rfl⟩⟩
theorem frX_tr {s1 s2 s3 : zSh} {a b c : zMm} (h : frX s1 a s2 b) (h' : frX s2 b s3 c) : frX s1 a s3 c := ⟨fun x hx => (h'.1 x hx).trans (h.1 x hx), fun x hx => ⟨(h'.2 x hx).1.trans (h.2 x hx).1, (h'.2 x hx).2.trans (h.2 x hx).2⟩⟩
theorem frX_sm {sh : zSh} {a b : zMm} (h1 : sm 0 12 a b) (h2 : sm 122 142 a b) : frX sh a sh b := ⟨fun x hx => hx.elim (fun h => h1 x (by omega) (by omega)) (fun h => h2 x (by omega) (by omega)), fun _ _ => ⟨rfl, rfl⟩⟩
theorem frX_up {sh : zSh} {a b : zMm} (h : frX sh a sh b) {x : Nat} {i v : Int} (h1 : 13 ≤ x) (h2 : ¬ (122 ≤ x ∧ x < 143)) : frX sh a sh (zupd b x i v) := ⟨fun y hy => by
  rw [← h.1 y hy]
  funext j
  exact zupd_na (by omega), h.2⟩
