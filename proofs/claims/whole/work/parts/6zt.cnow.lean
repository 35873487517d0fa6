/-! ===== one section of the state changes ===== -/
section
variable {sh : zSh} {pp : zPp} {mm m' : zMm} {f f' : Int → Int} {G : Int → Option (Int → Int)} {cn : Int → Int} {N D : Nat}
theorem tbI_ch {t : Nat} {w lim n n' b : Int} (h : tbI t w lim n b f mm) (hn : n' = n) (h1 : ∀ j, m' t j = mm t j) (h2 : ∀ j, m' (t + 1) j = mm (t + 1) j) (hf : ∀ k, 0 ≤ k → k < w * n → f' (b + k) = f (b + k)) : tbI t w lim n' b f' m' := by
  obtain ⟨z1, z2, z3, z4⟩ := h
  subst hn
  exact ⟨(h1 0).trans z1, (h1 1).trans z2, (h1 3).trans z3, fun k k0 k1 => by rw [h2 k, hf k k0 k1]; exact z4 k k0 k1⟩
theorem cNowWsh (hc : cOk f G cn N D sh pp mm) (ok : fOk f) (hd : ∀ k, ¬ (k = 981 ∨ (493 ≤ k ∧ k < 517)) → f' k = f k) (hr : frP (fun x _ => x = 17 ∨ x = 18) mm m') (ht : tbI 17 2 12 (f' 981) 493 f' m') : cOk f' G cn N D sh pp m' := by
  have st := hc.2.2.1
  obtain ⟨s1, s2, s3, s4, s5, s6, s7, s8⟩ := st
  have g2 := ok.2.2.1.1
  have g2' := ok.2.2.1.2.1
  have g3 := ok.2.2.2.1.1
  have g3' := ok.2.2.2.1.2.1
  have g4 := ok.2.2.2.2.1.1
  have g4' := ok.2.2.2.2.1.2.1
  have g5 := ok.2.2.2.2.2.1.1
  have g5' := ok.2.2.2.2.2.1.2.1
  refine cOk_now hc ok (frP_wd hr (fun x j hj => by omega)) ⟨fun i i0 i1 => by rw [hr _ _ (by omega), hd i (by omega)]; exact s1 i i0 i1, ht, tbI_ch s3 (hd _ (by omega)) (fun j => hr _ _ (by omega)) (fun j => hr _ _ (by omega)) (fun k k0 k1 => hd _ (by omega)), tbI_ch s4 (hd _ (by omega)) (fun j => hr _ _ (by omega)) (fun j => hr _ _ (by omega)) (fun k k0 k1 => hd _ (by omega)), tbI_ch s5 (hd _ (by omega)) (fun j => hr _ _ (by omega)) (fun j => hr _ _ (by omega)) (fun k k0 k1 => hd _ (by omega)), fun i i0 i1 => by rw [hr _ _ (by omega), hd _ (by omega)]; exact s6 i i0 i1, by rw [hr _ _ (by omega), hd _ (by omega)]; exact s7, fun p hp => by
    have g8 := ok.2.1 (p : Int) (by omega) (by omega)
    exact tbI_ch (s8 p hp) (hd _ (by omega)) (fun j => hr _ _ (by omega)) (fun j => hr _ _ (by omega)) (fun k k0 k1 => hd _ (by omega))⟩ (fun p hp => by
    have g8 := ok.2.1 (p : Int) (by omega) (by omega)
    exact Or.inl ⟨⟨hd _ (by omega), fun k k0 k1 => hd _ (by omega)⟩, Or.inl (fun i i0 i1 => hd i (by omega))⟩) (Or.inl ⟨fun k h1 h2 => hd k (by omega), hd _ (by omega), hd _ (by omega), hd _ (by omega)⟩)
theorem cNowCor (hc : cOk f G cn N D sh pp mm) (ok : fOk f) (hN : mm 38 10 = 0) (hd : ∀ k, ¬ (k = 982 ∨ (517 ≤ k ∧ k < 537)) → f' k = f k) (hr : frP (fun x _ => x = 19 ∨ x = 20) mm m') (ht : tbI 19 2 10 (f' 982) 517 f' m') : cOk f' G cn N D sh pp m' := by
  have st := hc.2.2.1
  obtain ⟨s1, s2, s3, s4, s5, s6, s7, s8⟩ := st
  have g2 := ok.2.2.1.1
  have g2' := ok.2.2.1.2.1
  have g3 := ok.2.2.2.1.1
  have g3' := ok.2.2.2.1.2.1
  have g4 := ok.2.2.2.2.1.1
  have g4' := ok.2.2.2.2.1.2.1
  have g5 := ok.2.2.2.2.2.1.1
  have g5' := ok.2.2.2.2.2.1.2.1
  refine cOk_now hc ok (frP_wd hr (fun x j hj => by omega)) ⟨fun i i0 i1 => by rw [hr _ _ (by omega), hd i (by omega)]; exact s1 i i0 i1, tbI_ch s2 (hd _ (by omega)) (fun j => hr _ _ (by omega)) (fun j => hr _ _ (by omega)) (fun k k0 k1 => hd _ (by omega)), ht, tbI_ch s4 (hd _ (by omega)) (fun j => hr _ _ (by omega)) (fun j => hr _ _ (by omega)) (fun k k0 k1 => hd _ (by omega)), tbI_ch s5 (hd _ (by omega)) (fun j => hr _ _ (by omega)) (fun j => hr _ _ (by omega)) (fun k k0 k1 => hd _ (by omega)), fun i i0 i1 => by rw [hr _ _ (by omega), hd _ (by omega)]; exact s6 i i0 i1, by rw [hr _ _ (by omega), hd _ (by omega)]; exact s7, fun p hp => by
    have g8 := ok.2.1 (p : Int) (by omega) (by omega)
    exact tbI_ch (s8 p hp) (hd _ (by omega)) (fun j => hr _ _ (by omega)) (fun j => hr _ _ (by omega)) (fun k k0 k1 => hd _ (by omega))⟩ (fun p hp => by
    have g8 := ok.2.1 (p : Int) (by omega) (by omega)
    exact Or.inl ⟨⟨hd _ (by omega), fun k k0 k1 => hd _ (by omega)⟩, Or.inl (fun i i0 i1 => hd i (by omega))⟩) (Or.inr hN)
theorem cNowEdg (hc : cOk f G cn N D sh pp mm) (ok : fOk f) (hN : mm 38 10 = 0) (hd : ∀ k, ¬ (k = 983 ∨ (537 ≤ k ∧ k < 573)) → f' k = f k) (hr : frP (fun x _ => x = 21 ∨ x = 22) mm m') (ht : tbI 21 3 12 (f' 983) 537 f' m') : cOk f' G cn N D sh pp m' := by
  have st := hc.2.2.1
  obtain ⟨s1, s2, s3, s4, s5, s6, s7, s8⟩ := st
  have g2 := ok.2.2.1.1
  have g2' := ok.2.2.1.2.1
  have g3 := ok.2.2.2.1.1
  have g3' := ok.2.2.2.1.2.1
  have g4 := ok.2.2.2.2.1.1
  have g4' := ok.2.2.2.2.1.2.1
  have g5 := ok.2.2.2.2.2.1.1
  have g5' := ok.2.2.2.2.2.1.2.1
  refine cOk_now hc ok (frP_wd hr (fun x j hj => by omega)) ⟨fun i i0 i1 => by rw [hr _ _ (by omega), hd i (by omega)]; exact s1 i i0 i1, tbI_ch s2 (hd _ (by omega)) (fun j => hr _ _ (by omega)) (fun j => hr _ _ (by omega)) (fun k k0 k1 => hd _ (by omega)), tbI_ch s3 (hd _ (by omega)) (fun j => hr _ _ (by omega)) (fun j => hr _ _ (by omega)) (fun k k0 k1 => hd _ (by omega)), ht, tbI_ch s5 (hd _ (by omega)) (fun j => hr _ _ (by omega)) (fun j => hr _ _ (by omega)) (fun k k0 k1 => hd _ (by omega)), fun i i0 i1 => by rw [hr _ _ (by omega), hd _ (by omega)]; exact s6 i i0 i1, by rw [hr _ _ (by omega), hd _ (by omega)]; exact s7, fun p hp => by
    have g8 := ok.2.1 (p : Int) (by omega) (by omega)
    exact tbI_ch (s8 p hp) (hd _ (by omega)) (fun j => hr _ _ (by omega)) (fun j => hr _ _ (by omega)) (fun k k0 k1 => hd _ (by omega))⟩ (fun p hp => by
    have g8 := ok.2.1 (p : Int) (by omega) (by omega)
    exact Or.inl ⟨⟨hd _ (by omega), fun k k0 k1 => hd _ (by omega)⟩, Or.inl (fun i i0 i1 => hd i (by omega))⟩) (Or.inr hN)
theorem cNowTst (hc : cOk f G cn N D sh pp mm) (ok : fOk f) (hd : ∀ k, ¬ (k = 984 ∨ (957 ≤ k ∧ k < 981)) → f' k = f k) (hr : frP (fun x _ => x = 23 ∨ x = 24) mm m') (ht : tbI 23 3 8 (f' 984) 957 f' m') : cOk f' G cn N D sh pp m' := by
  have st := hc.2.2.1
  obtain ⟨s1, s2, s3, s4, s5, s6, s7, s8⟩ := st
  have g2 := ok.2.2.1.1
  have g2' := ok.2.2.1.2.1
  have g3 := ok.2.2.2.1.1
  have g3' := ok.2.2.2.1.2.1
  have g4 := ok.2.2.2.2.1.1
  have g4' := ok.2.2.2.2.1.2.1
  have g5 := ok.2.2.2.2.2.1.1
  have g5' := ok.2.2.2.2.2.1.2.1
  refine cOk_now hc ok (frP_wd hr (fun x j hj => by omega)) ⟨fun i i0 i1 => by rw [hr _ _ (by omega), hd i (by omega)]; exact s1 i i0 i1, tbI_ch s2 (hd _ (by omega)) (fun j => hr _ _ (by omega)) (fun j => hr _ _ (by omega)) (fun k k0 k1 => hd _ (by omega)), tbI_ch s3 (hd _ (by omega)) (fun j => hr _ _ (by omega)) (fun j => hr _ _ (by omega)) (fun k k0 k1 => hd _ (by omega)), tbI_ch s4 (hd _ (by omega)) (fun j => hr _ _ (by omega)) (fun j => hr _ _ (by omega)) (fun k k0 k1 => hd _ (by omega)), ht, fun i i0 i1 => by rw [hr _ _ (by omega), hd _ (by omega)]; exact s6 i i0 i1, by rw [hr _ _ (by omega), hd _ (by omega)]; exact s7, fun p hp => by
    have g8 := ok.2.1 (p : Int) (by omega) (by omega)
    exact tbI_ch (s8 p hp) (hd _ (by omega)) (fun j => hr _ _ (by omega)) (fun j => hr _ _ (by omega)) (fun k k0 k1 => hd _ (by omega))⟩ (fun p hp => by
    have g8 := ok.2.1 (p : Int) (by omega) (by omega)
    exact Or.inl ⟨⟨hd _ (by omega), fun k k0 k1 => hd _ (by omega)⟩, Or.inl (fun i i0 i1 => hd i (by omega))⟩) (Or.inl ⟨fun k h1 h2 => hd k (by omega), hd _ (by omega), hd _ (by omega), hd _ (by omega)⟩)
theorem cNowSee (hc : cOk f G cn N D sh pp mm) (ok : fOk f) (hd : ∀ k, ¬ (k = 985 ∨ (573 ≤ k ∧ k < 957)) → f' k = f k) (hr : frP (fun x _ => x = 25 ∨ x = 14) mm m') (ht : (∀ i, 0 ≤ i → i < 384 → m' 25 i = f' (573 + i)) ∧ m' 14 7 = f' 985) : cOk f' G cn N D sh pp m' := by
  have st := hc.2.2.1
  obtain ⟨s1, s2, s3, s4, s5, s6, s7, s8⟩ := st
  have g2 := ok.2.2.1.1
  have g2' := ok.2.2.1.2.1
  have g3 := ok.2.2.2.1.1
  have g3' := ok.2.2.2.1.2.1
  have g4 := ok.2.2.2.2.1.1
  have g4' := ok.2.2.2.2.1.2.1
  have g5 := ok.2.2.2.2.2.1.1
  have g5' := ok.2.2.2.2.2.1.2.1
  refine cOk_now hc ok (frP_wd hr (fun x j hj => by omega)) ⟨fun i i0 i1 => by rw [hr _ _ (by omega), hd i (by omega)]; exact s1 i i0 i1, tbI_ch s2 (hd _ (by omega)) (fun j => hr _ _ (by omega)) (fun j => hr _ _ (by omega)) (fun k k0 k1 => hd _ (by omega)), tbI_ch s3 (hd _ (by omega)) (fun j => hr _ _ (by omega)) (fun j => hr _ _ (by omega)) (fun k k0 k1 => hd _ (by omega)), tbI_ch s4 (hd _ (by omega)) (fun j => hr _ _ (by omega)) (fun j => hr _ _ (by omega)) (fun k k0 k1 => hd _ (by omega)), tbI_ch s5 (hd _ (by omega)) (fun j => hr _ _ (by omega)) (fun j => hr _ _ (by omega)) (fun k k0 k1 => hd _ (by omega)), ht.1, ht.2, fun p hp => by
    have g8 := ok.2.1 (p : Int) (by omega) (by omega)
    exact tbI_ch (s8 p hp) (hd _ (by omega)) (fun j => hr _ _ (by omega)) (fun j => hr _ _ (by omega)) (fun k k0 k1 => hd _ (by omega))⟩ (fun p hp => by
    have g8 := ok.2.1 (p : Int) (by omega) (by omega)
    exact Or.inl ⟨⟨hd _ (by omega), fun k k0 k1 => hd _ (by omega)⟩, Or.inl (fun i i0 i1 => hd i (by omega))⟩) (Or.inl ⟨fun k h1 h2 => hd k (by omega), hd _ (by omega), hd _ (by omega), hd _ (by omega)⟩)
theorem cNowNum (hc : cOk f G cn N D sh pp mm) (ok : fOk f) (hD : (∀ i, 0 ≤ i → i ≤ 6 → f' i = f i) ∨ ∀ p : Nat, p < 4 → mm (73 + 14 * p) 5 = 0) (hN : f' 7 = f 7 ∨ mm 38 10 = 0) (hd : ∀ k, ¬ (0 ≤ k ∧ k ≤ 8) → f' k = f k) (hr : frP (fun x _ => x = 15) mm m') (ht : ∀ i, 0 ≤ i → i ≤ 8 → m' 15 i = f' i) : cOk f' G cn N D sh pp m' := by
  have st := hc.2.2.1
  obtain ⟨s1, s2, s3, s4, s5, s6, s7, s8⟩ := st
  have g2 := ok.2.2.1.1
  have g2' := ok.2.2.1.2.1
  have g3 := ok.2.2.2.1.1
  have g3' := ok.2.2.2.1.2.1
  have g4 := ok.2.2.2.2.1.1
  have g4' := ok.2.2.2.2.1.2.1
  have g5 := ok.2.2.2.2.2.1.1
  have g5' := ok.2.2.2.2.2.1.2.1
  refine cOk_now hc ok (frP_wd hr (fun x j hj => by omega)) ⟨ht, tbI_ch s2 (hd _ (by omega)) (fun j => hr _ _ (by omega)) (fun j => hr _ _ (by omega)) (fun k k0 k1 => hd _ (by omega)), tbI_ch s3 (hd _ (by omega)) (fun j => hr _ _ (by omega)) (fun j => hr _ _ (by omega)) (fun k k0 k1 => hd _ (by omega)), tbI_ch s4 (hd _ (by omega)) (fun j => hr _ _ (by omega)) (fun j => hr _ _ (by omega)) (fun k k0 k1 => hd _ (by omega)), tbI_ch s5 (hd _ (by omega)) (fun j => hr _ _ (by omega)) (fun j => hr _ _ (by omega)) (fun k k0 k1 => hd _ (by omega)), fun i i0 i1 => by rw [hr _ _ (by omega), hd _ (by omega)]; exact s6 i i0 i1, by rw [hr _ _ (by omega), hd _ (by omega)]; exact s7, fun p hp => by
    have g8 := ok.2.1 (p : Int) (by omega) (by omega)
    exact tbI_ch (s8 p hp) (hd _ (by omega)) (fun j => hr _ _ (by omega)) (fun j => hr _ _ (by omega)) (fun k k0 k1 => hd _ (by omega))⟩ (fun p hp => by
    have g8 := ok.2.1 (p : Int) (by omega) (by omega)
    exact Or.inl ⟨⟨hd _ (by omega), fun k k0 k1 => hd _ (by omega)⟩, hD.imp id (fun hx => hx p hp)⟩) (hN.imp (fun hx => ⟨fun k h1 h2 => hd k (by omega), hx, hd _ (by omega), hd _ (by omega)⟩) id)
theorem cNowTxt (hc : cOk f G cn N D sh pp mm) (ok : fOk f) {q : Nat} (hq : q < 4) (hP : mm (66 + 14 * q) 5 = 0 ∧ mm (73 + 14 * q) 5 = 0) (hd : ∀ k, ¬ (9 + 121 * (q : Int) ≤ k ∧ k < 130 + 121 * (q : Int)) → f' k = f k) (hr : frP (fun x _ => x = 26 + 2 * q ∨ x = 27 + 2 * q) mm m') (ht : tbI (26 + 2 * q) 1 120 (f' (9 + 121 * (q : Int))) (10 + 121 * (q : Int)) f' m') : cOk f' G cn N D sh pp m' := by
  have st := hc.2.2.1
  obtain ⟨s1, s2, s3, s4, s5, s6, s7, s8⟩ := st
  have g2 := ok.2.2.1.1
  have g2' := ok.2.2.1.2.1
  have g3 := ok.2.2.2.1.1
  have g3' := ok.2.2.2.1.2.1
  have g4 := ok.2.2.2.2.1.1
  have g4' := ok.2.2.2.2.1.2.1
  have g5 := ok.2.2.2.2.2.1.1
  have g5' := ok.2.2.2.2.2.1.2.1
  refine cOk_now hc ok (frP_wd hr (fun x j hj => by omega)) ⟨fun i i0 i1 => by rw [hr _ _ (by omega), hd i (by omega)]; exact s1 i i0 i1, tbI_ch s2 (hd _ (by omega)) (fun j => hr _ _ (by omega)) (fun j => hr _ _ (by omega)) (fun k k0 k1 => hd _ (by omega)), tbI_ch s3 (hd _ (by omega)) (fun j => hr _ _ (by omega)) (fun j => hr _ _ (by omega)) (fun k k0 k1 => hd _ (by omega)), tbI_ch s4 (hd _ (by omega)) (fun j => hr _ _ (by omega)) (fun j => hr _ _ (by omega)) (fun k k0 k1 => hd _ (by omega)), tbI_ch s5 (hd _ (by omega)) (fun j => hr _ _ (by omega)) (fun j => hr _ _ (by omega)) (fun k k0 k1 => hd _ (by omega)), fun i i0 i1 => by rw [hr _ _ (by omega), hd _ (by omega)]; exact s6 i i0 i1, by rw [hr _ _ (by omega), hd _ (by omega)]; exact s7, fun p hp => by
    by_cases hpq : p = q
    · subst hpq; rw [show 14 + 12 + 2 * p = 26 + 2 * p by omega]; exact ht
    · have g8 := ok.2.1 (p : Int) (by omega) (by omega)
      exact tbI_ch (s8 p hp) (hd _ (by omega)) (fun j => hr _ _ (by omega)) (fun j => hr _ _ (by omega)) (fun k k0 k1 => hd _ (by omega))⟩ (fun p hp => by
    by_cases hpq : p = q
    · subst hpq; exact Or.inr hP
    · have g8 := ok.2.1 (p : Int) (by omega) (by omega)
      exact Or.inl ⟨⟨hd _ (by omega), fun k k0 k1 => hd _ (by omega)⟩, Or.inl (fun i i0 i1 => hd i (by omega))⟩) (Or.inl ⟨fun k h1 h2 => hd k (by omega), hd _ (by omega), hd _ (by omega), hd _ (by omega)⟩)
end
