/-! ===== the same for what is done ===== -/
theorem dStep_ext {kd a1 a2 kd' a1' a2' : Nat → Int} {px py : Int} {n : Nat} (hk : ∀ k, k < n → kd' k = kd k ∧ (kd k ≠ 7 → a1' k = a1 k) ∧ (kd k = 4 → a2' k = a2 k)) {σ : zDs} (h : σ.1 < n) : dStep kd' a1' a2' px py σ = dStep kd a1 a2 px py σ := by
  obtain ⟨k, o, bd, lf, it, sp, se, P⟩ := σ
  obtain ⟨z1, z2, z3⟩ := hk k h
  unfold dStep
  dsimp only
  rw [z1]
  by_cases c7 : kd k = 7
  · rw [if_pos c7, if_pos c7]
  · rw [if_neg c7, if_neg c7, z2 c7]
    by_cases c4 : kd k = 4
    · rw [z3 c4]
    · have zz : ∀ v : Int, (300 ≤ it ∨ (kd k = 4 ∧ 2000 < P.2.2.2.2 + max (sz (a1 k)) (sz v))) ↔ 300 ≤ it := fun v => ⟨fun hx => hx.elim id (fun hy => absurd hy.1 c4), Or.inl⟩
      simp only [zz, if_neg c4]
theorem dRun_ext {kd a1 a2 kd' a1' a2' : Nat → Int} {px py : Int} {n : Nat} (hk : ∀ k, k < n → kd' k = kd k ∧ (kd k ≠ 7 → a1' k = a1 k) ∧ (kd k = 4 → a2' k = a2 k)) : ∀ (m : Nat) (σ : zDs), dRun kd' a1' a2' px py n m σ = dRun kd a1 a2 px py n m σ
  | 0, _ => rfl
  | m + 1, σ => by
    show (if dOn n σ = true then dRun kd' a1' a2' px py n m (dStep kd' a1' a2' px py σ) else σ) = (if dOn n σ = true then dRun kd a1 a2 px py n m (dStep kd a1 a2 px py σ) else σ)
    by_cases hd : dOn n σ = true
    · rw [if_pos hd, if_pos hd]
      have hl : σ.1 < n := by
        unfold dOn at hd
        simp at hd
        exact hd.2
      rw [dStep_ext hk hl, dRun_ext hk m]
    · rw [if_neg hd, if_neg hd]
theorem nItF_ext {b b' : Int → Int} {len : Int} (hb : ∀ k, 0 ≤ k → k < len → b k = b' k) : ∀ (m k : Nat), nItF b' len m k = nItF b len m k
  | 0, _ => rfl
  | m + 1, k => by
    show (if tKd b' len (ip b' len k) = 0 then k else nItF b' len m (k + 1)) = (if tKd b len (ip b len k) = 0 then k else nItF b len m (k + 1))
    rw [ip_ext hb, tKd_ext hb (ip_nn k), nItF_ext hb m]
/-- the text p is the same -/
def txE (f f' : Int → Int) (p : Int) : Prop := f' (9 + 121 * p) = f (9 + 121 * p) ∧ ∀ k, 0 ≤ k → k < f (9 + 121 * p) → f' (9 + 121 * p + 1 + k) = f (9 + 121 * p + 1 + k)
theorem txE_b {f f' : Int → Int} {p : Int} (h : txE f f' p) : ∀ k, 0 ≤ k → k < lOf f p → bOf f p k = bOf f' p k := fun k k0 k1 => (h.2 k k0 k1).symm
theorem txE_rf (f : Int → Int) (p : Int) : txE f f p := ⟨rfl, fun _ _ _ => rfl⟩
theorem ft_ext {f f' : Int → Int} {p : Int} (h : txE f f' p) : ft f' p = ft f p := by
  unfold ft
  rw [show lOf f' p = lOf f p from h.1]
  exact rd_ext (txE_b h)
theorem dOf_ext {f f' : Int → Int} {p : Int} (ok : fOk f) (p0 : 0 ≤ p) (p3 : p ≤ 3) (h : txE f f' p) (hn : ∀ i, 0 ≤ i → i ≤ 6 → f' i = f i) (hr : rd (bOf f p) (lOf f p) = -1) : dOf f' p = dOf f p := by
  have hb := txE_b h
  have hl : lOf f' p = lOf f p := h.1
  have zt := ok.2.1 p p0 p3
  obtain ⟨n, s1, s3, s4, s5⟩ := rd_ok (b := bOf f p) (len := lOf f p) zt.2.1 hr
  have en : nIt (bOf f p) (lOf f p) = n := nItF_eq s3 (fun k hk => (s5 k hk).1) 31 0 (by omega) (by omega)
  have en' : nIt (bOf f' p) (lOf f p) = n := by rw [← en]; exact nItF_ext hb 31 0
  unfold dOf dSg
  rw [hl, en, en', hn 4 (by decide) (by decide), hn 5 (by decide) (by decide)]
  have zb : dBeg f' = dBeg f := by
    unfold dBeg pBeg
    rw [hn 0 (by decide) (by decide), hn 1 (by decide) (by decide), hn 2 (by decide) (by decide), hn 3 (by decide) (by decide)]
  rw [zb]
  refine dRun_ext (fun k hk => ?_) 10000 (dBeg f)
  obtain ⟨d1, d2⟩ := s5 k hk
  have g0 := ip_nn (b := bOf f p) (len := lOf f p) k
  have g1 : 0 ≤ tEn (bOf f p) (lOf f p) (ip (bOf f p) (lOf f p) k) := Int.le_trans g0 tEn_le
  have g2 : 0 ≤ tEn (bOf f p) (lOf f p) (tEn (bOf f p) (lOf f p) (ip (bOf f p) (lOf f p) k)) := Int.le_trans g1 tEn_le
  unfold kdF a1F a2F
  rw [ip_ext hb, tKd_ext hb g0, tEn_ext hb g0, tEn_ext hb g1]
  exact ⟨rfl, fun h7 => tVl_ext hb g1 (iFt_n3 g0 d2 h7).1, fun h4 => tVl_ext hb g2 ((iFt_n3 g0 d2 (by omega)).2 h4)⟩
/-- what is kept of program p: its script, its drawing -/
def cPr (p : Nat) (f : Int → Int) (mm : zMm) : Prop := (mm (66 + 14 * p) 5 = 0 ∨ (mm (66 + 14 * p) 5 = 1 ∧ scrOk (66 + 14 * p) (bOf f p) (lOf f p) mm)) ∧ (mm (73 + 14 * p) 5 = 0 ∨ (mm (73 + 14 * p) 5 = 1 ∧ rd (bOf f p) (lOf f p) = -1 ∧ drwOk (73 + 14 * p) f p mm))
theorem cPr_ext {f f' : Int → Int} {p : Nat} {mm : zMm} (ok : fOk f) (hp : p < 4) (h : txE f f' p) (hn : (∀ i, 0 ≤ i → i ≤ 6 → f' i = f i) ∨ mm (73 + 14 * p) 5 = 0) (hc : cPr p f mm) : cPr p f' mm := by
  obtain ⟨c1, c2⟩ := hc
  have hb := txE_b h
  have hl : lOf f' p = lOf f p := h.1
  refine ⟨c1.imp_right (fun hx => ⟨hx.1, ?_⟩), ?_⟩
  · rw [hl]; exact scrOk_ext hb hx.2
  · rcases hn with hn | hn
    · refine c2.imp_right (fun hx => ⟨hx.1, ?_, ?_⟩)
      · rw [hl, rd_ext hb]; exact hx.2.1
      · unfold drwOk
        rw [dOf_ext ok (by omega) (by omega) h hn hx.2.1, hn 6 (by decide) (by decide)]
        exact hx.2.2
    · exact Or.inl hn
