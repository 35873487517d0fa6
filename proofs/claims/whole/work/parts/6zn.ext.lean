/-! ===== what is read and done hangs on the text's own bytes and the numbers 0 to 6 alone ===== -/
section
variable {b b' : Int → Int} {len : Int}
theorem tFs_ext (hb : ∀ k, 0 ≤ k → k < len → b k = b' k) {p : Int} (h0 : 0 ≤ p) (hl : tAt b len p < len) : tFs b' len p = tFs b len p := by
  have za := tAt_lo (b := b) (len := len) p
  unfold tFs
  rw [tAt_ext hb h0, hb _ (by omega) hl]
theorem tEn_ext (hb : ∀ k, 0 ≤ k → k < len → b k = b' k) {p : Int} (h0 : 0 ≤ p) : tEn b' len p = tEn b len p := by
  have za := tAt_lo (b := b) (len := len) p
  by_cases hl : len ≤ tAt b len p
  · unfold tEn
    rw [tAt_ext hb h0, if_pos hl, if_pos hl]
  · have ze := hb (tAt b len p) (by omega) (by omega)
    have zf := tFs_ext hb h0 (by omega)
    have zl := tFs_lo (b := b) (len := len) p
    have r1 := rn_ext (c := cLt) hb (p := tAt b len p) (by omega)
    have r2 := rn_ext (c := cFg) hb (p := tFs b len p) (by omega)
    unfold tEn
    rw [tAt_ext hb h0, zf, ← ze, r1, r2]
theorem wdIs_ext : ∀ (w : List Int) (a : Int), (∀ k, a ≤ k → k < a + (w.length : Int) → b k = b' k) → wdIs b' a w = wdIs b a w
  | [], _, _ => rfl
  | c :: w, a, h => by
    have zi := wdIs_ext w (a + 1) (fun k h1 h2 => h k (by omega) (by simp only [List.length_cons]; omega))
    have zh := h a (by omega) (by simp only [List.length_cons]; omega)
    simp only [wdIs, zi, zh]
theorem wKd_ext {a e : Int} (hb : ∀ k, a ≤ k → k < e → b k = b' k) : wKd b' a e = wKd b a e := by
  have w1 : (e - a = 4 ∧ wdIs b' a [116, 117, 114, 110] = true) ↔ (e - a = 4 ∧ wdIs b a [116, 117, 114, 110] = true) := and_congr_right (fun h => by rw [wdIs_ext _ a (fun k h1 h2 => hb k h1 (by simp at h2; omega))])
  have w2 : (e - a = 5 ∧ wdIs b' a [115, 104, 97, 107, 101] = true) ↔ (e - a = 5 ∧ wdIs b a [115, 104, 97, 107, 101] = true) := and_congr_right (fun h => by rw [wdIs_ext _ a (fun k h1 h2 => hb k h1 (by simp at h2; omega))])
  have w3 : (e - a = 4 ∧ wdIs b' a [108, 111, 111, 112] = true) ↔ (e - a = 4 ∧ wdIs b a [108, 111, 111, 112] = true) := and_congr_right (fun h => by rw [wdIs_ext _ a (fun k h1 h2 => hb k h1 (by simp at h2; omega))])
  have w4 : (e - a = 3 ∧ wdIs b' a [101, 110, 100] = true) ↔ (e - a = 3 ∧ wdIs b a [101, 110, 100] = true) := and_congr_right (fun h => by rw [wdIs_ext _ a (fun k h1 h2 => hb k h1 (by simp at h2; omega))])
  unfold wKd
  simp only [w1, w2, w3, w4]
theorem tKd_ext (hb : ∀ k, 0 ≤ k → k < len → b k = b' k) {p : Int} (h0 : 0 ≤ p) : tKd b' len p = tKd b len p := by
  have za := tAt_lo (b := b) (len := len) p
  by_cases hl : len ≤ tAt b len p
  · unfold tKd
    rw [tAt_ext hb h0, if_pos hl, if_pos hl]
  · have ze := hb (tAt b len p) (by omega) (by omega)
    have zf := tFs_ext hb h0 (by omega)
    have zh : tEn b len p ≤ len := by
      by_cases hp : p ≤ len
      · exact tEn_hi hp
      · omega
    have zw := wKd_ext (b := b) (b' := b') (a := tAt b len p) (e := tEn b len p) (fun k h1 h2 => hb k (by omega) (by omega))
    unfold tKd
    rw [tAt_ext hb h0, zf, tEn_ext hb h0, ← ze, zw]
theorem tVl_ext (hb : ∀ k, 0 ≤ k → k < len → b k = b' k) {p : Int} (h0 : 0 ≤ p) (h3 : tKd b len p = 3) : tVl b' len p = tVl b len p := by
  have za := tAt_lo (b := b) (len := len) p
  have hl : tAt b len p < len := by
    have := tKd_0 (b := b) (len := len) p
    omega
  have ze := hb (tAt b len p) (by omega) hl
  have zf := tFs_ext hb h0 hl
  have zl := tFs_lo (b := b) (len := len) p
  have zn := (tEn_fg h3).2
  have zh : tEn b len p ≤ len := tEn_hi (by omega)
  have zv : nv b' (tFs b len p) (tEn b len p - tFs b len p) = nv b (tFs b len p) (tEn b len p - tFs b len p) := by
    unfold nv
    rcases zn with hz | hz
    · rw [hz, ← hb (tFs b len p) (by omega) (by omega)]
      rfl
    · rw [hz, ← hb (tFs b len p) (by omega) (by omega), ← hb (tFs b len p + 1) (by omega) (by omega)]
  unfold tVl
  rw [tAt_ext hb h0, zf, tEn_ext hb h0, ← ze, zv]
theorem iNx_nn {p : Int} (h0 : 0 ≤ p) : 0 ≤ iNx b len p := by
  have g1 : 0 ≤ tEn b len p := Int.le_trans h0 tEn_le
  have g2 : 0 ≤ tEn b len (tEn b len p) := Int.le_trans g1 tEn_le
  have g3 : 0 ≤ tEn b len (tEn b len (tEn b len p)) := Int.le_trans g2 tEn_le
  have g4 : 0 ≤ tEn b len (tEn b len (tEn b len (tEn b len p))) := Int.le_trans g3 tEn_le
  unfold iNx
  split
  · exact g4
  · split
    · exact g2
    · exact g3
theorem iNx_ext (hb : ∀ k, 0 ≤ k → k < len → b k = b' k) {p : Int} (h0 : 0 ≤ p) : iNx b' len p = iNx b len p := by
  have g1 : 0 ≤ tEn b len p := Int.le_trans h0 tEn_le
  have g2 : 0 ≤ tEn b len (tEn b len p) := Int.le_trans g1 tEn_le
  have g3 : 0 ≤ tEn b len (tEn b len (tEn b len p)) := Int.le_trans g2 tEn_le
  unfold iNx
  rw [tKd_ext hb h0, tEn_ext hb h0, tEn_ext hb g1, tEn_ext hb g2, tEn_ext hb g3]
theorem iFt_ext (hb : ∀ k, 0 ≤ k → k < len → b k = b' k) {p o : Int} (h0 : 0 ≤ p) : iFt b' len p o = iFt b len p o := by
  have g1 : 0 ≤ tEn b len p := Int.le_trans h0 tEn_le
  have g2 : 0 ≤ tEn b len (tEn b len p) := Int.le_trans g1 tEn_le
  have g3 : 0 ≤ tEn b len (tEn b len (tEn b len p)) := Int.le_trans g2 tEn_le
  have k0 := tKd_ext hb h0
  have e0 := tEn_ext hb h0
  have e1 := tEn_ext hb g1
  have e2 := tEn_ext hb g2
  have k1 := tKd_ext hb g1
  have k2 := tKd_ext hb g2
  have k3 := tKd_ext hb g3
  have a1 := tAt_ext hb g1
  have a2 := tAt_ext hb g2
  have a3 := tAt_ext hb g3
  by_cases hB : iBg (tKd b len p) o
  · rcases hB with h4 | h5 | ⟨h6, ho⟩ | ⟨h7, ho⟩
    · rw [iFt_4 (b := b') (k0.trans h4), iFt_4 h4, e0, e1, e2, k1, k2, k3, a1, a2, a3]
    · rw [iFt_5 (b := b') (k0.trans h5), iFt_5 h5, e0, e1, k1, k2, a1, a2]
      by_cases h3 : tKd b len (tEn b len p) = 3
      · rw [tVl_ext hb g1 h3]
      · rw [if_neg (fun hx => h3 hx.1), if_neg (fun hx => h3 hx.1)]
    · rw [iFt_6 (b := b') (k0.trans h6) ho, iFt_6 h6 ho, e0, e1, k1, k2, a1, a2]
      by_cases h3 : tKd b len (tEn b len p) = 3
      · rw [tVl_ext hb g1 h3]
      · rw [if_neg (fun hx => h3 hx.1), if_neg (fun hx => h3 hx.1)]
    · rw [iFt_7 (b := b') (k0.trans h7) ho, iFt_7 h7 ho, e0, k1, a1]
  · rw [iFt_no (b := b') (by rw [k0]; exact hB), iFt_no hB, tAt_ext hb h0]
theorem rdN_ext (hb : ∀ k, 0 ≤ k → k < len → b k = b' k) : ∀ (n : Nat) (p o : Int), 0 ≤ p → rdN b' len n p o = rdN b len n p o
  | 0, _, _, _ => rfl
  | n + 1, p, o, h0 => by
    rw [rdN_s, rdN_s, tKd_ext hb h0, tAt_ext hb h0, iFt_ext hb h0, iNx_ext hb h0, rdN_ext hb n _ _ (iNx_nn h0)]
theorem rd_ext (hb : ∀ k, 0 ≤ k → k < len → b k = b' k) : rd b' len = rd b len := rdN_ext hb 31 0 0 (Int.le_refl 0)
theorem ip_nn : ∀ k, 0 ≤ ip b len k
  | 0 => Int.le_refl 0
  | k + 1 => iNx_nn (ip_nn k)
theorem ip_ext (hb : ∀ k, 0 ≤ k → k < len → b k = b' k) : ∀ k, ip b' len k = ip b len k
  | 0 => rfl
  | k + 1 => by
    show iNx b' len (ip b' len k) = iNx b len (ip b len k)
    rw [ip_ext hb k, iNx_ext hb (ip_nn k)]
theorem dp_ext (hb : ∀ k, 0 ≤ k → k < len → b k = b' k) : ∀ k, dp b' len k = dp b len k
  | 0 => rfl
  | k + 1 => by
    show dp b' len k + dK (tKd b' len (ip b' len k)) = dp b len k + dK (tKd b len (ip b len k))
    rw [dp_ext hb k, ip_ext hb k, tKd_ext hb (ip_nn k)]
theorem iFt_n3 {p o : Int} (h0 : 0 ≤ p) (h : iFt b len p o = -1) (h7 : tKd b len p ≠ 7) : tKd b len (tEn b len p) = 3 ∧ (tKd b len p = 4 → tKd b len (tEn b len (tEn b len p)) = 3) := by
  have g1 : 0 ≤ tEn b len p := Int.le_trans h0 tEn_le
  have g2 : 0 ≤ tEn b len (tEn b len p) := Int.le_trans g1 tEn_le
  have z1 := tAt_lo (b := b) (len := len) (tEn b len p)
  have z2 := tAt_lo (b := b) (len := len) (tEn b len (tEn b len p))
  rcases iFt_bg h h0 with h4 | h5 | ⟨h6, ho⟩ | ⟨h8, ho⟩
  · rw [iFt_4 h4] at h
    by_cases c1 : tKd b len (tEn b len p) = 3
    · rw [if_pos c1] at h
      by_cases c2 : tKd b len (tEn b len (tEn b len p)) = 3
      · exact ⟨c1, fun _ => c2⟩
      · rw [if_neg c2] at h
        omega
    · rw [if_neg c1] at h
      omega
  · rw [iFt_5 h5] at h
    by_cases c1 : tKd b len (tEn b len p) = 3
    · exact ⟨c1, fun h4 => by omega⟩
    · rw [if_neg (fun hx => c1 hx.1)] at h
      omega
  · rw [iFt_6 h6 ho] at h
    by_cases c1 : tKd b len (tEn b len p) = 3
    · exact ⟨c1, fun h4 => by omega⟩
    · rw [if_neg (fun hx => c1 hx.1)] at h
      omega
  · exact absurd h8 h7
theorem scrOk_ext (hb : ∀ k, 0 ≤ k → k < len → b k = b' k) {s : Nat} {mm : zMm} (h : scrOk s b len mm) : scrOk s b' len mm := by
  obtain ⟨h1, h2⟩ := h
  unfold scrOk
  rw [rd_ext hb]
  refine ⟨h1, fun hr => ?_⟩
  obtain ⟨n, c1, c2, c3, c4, c5⟩ := h2 hr
  refine ⟨n, c1, c2, ?_, ?_, fun k hk => ?_⟩
  · rw [ip_ext hb, tKd_ext hb (ip_nn n)]; exact c3
  · rw [dp_ext hb]; exact c4
  · obtain ⟨d1, d2, d3⟩ := c5 k hk
    have g0 := ip_nn (b := b) (len := len) k
    have g1 : 0 ≤ tEn b len (ip b len k) := Int.le_trans g0 tEn_le
    have g2 : 0 ≤ tEn b len (tEn b len (ip b len k)) := Int.le_trans g1 tEn_le
    rw [ip_ext hb, dp_ext hb, tKd_ext hb g0, iFt_ext hb g0]
    refine ⟨d1, d2, ?_⟩
    unfold cItm at d3 ⊢
    rw [tKd_ext hb g0, tEn_ext hb g0, tEn_ext hb g1]
    refine ⟨d3.1, fun h7 => ?_, fun h4 => ?_⟩
    · rw [tVl_ext hb g1 (iFt_n3 g0 d2 h7).1]; exact d3.2.1 h7
    · rw [tVl_ext hb g2 ((iFt_n3 g0 d2 (by omega)).2 h4)]; exact d3.2.2 h4
end
