/-! ===== calls of the class: image ===== -/
section
variable {sh : zSh} {pp : zPp} {mm : zMm} {Q : zV → zSh → zPp → zMm → Prop} {f : Int → Int} {G : Int → Option (Int → Int)} {cn : Int → Int} {N D : Nat}
def gI (f : Int → Int) (G : Int → Option (Int → Int)) (i : Int) (j : Int) : Option (Int → Int) := if j = i then some f else G j
theorem cOk_hi (hc : cOk f G cn N D sh pp mm) {m' : zMm} {G' : Int → Option (Int → Int)} (hm : ∀ x, x ≤ 142 → m' x = mm x) (hI : cIm G' sh pp m') : cOk f G' cn N D sh pp m' := by
  obtain ⟨c1, c2, c3, c4, c5, c6, c7, c8, c9, c10, c11⟩ := hc
  have s : ∀ lo hi, hi ≤ 142 → sm lo hi mm m' := fun lo hi h1 x _ b => hm x (by omega)
  exact ⟨c1, zCs_sm c2 (s 0 12 (by omega)), stI_sm c3 (s _ _ (by omega)), hI, fun i i0 i1 => by rw [hm 35 (by omega)]; exact c5 i i0 i1, fun p hp => cPr_sm (c6 p hp) (s _ _ (by omega)), cNt_sm c7 (s _ _ (by omega)), cQu_sm c8 (s _ _ (by omega)), ⟨bG_sm c9.1 (s _ _ (by omega)), bG_sm c9.2 (s _ _ (by omega))⟩, c10, c11⟩
theorem cImOld (hc : cOk f G cn N D sh pp mm) (ok : fOk f) (sn : fSn f) {i : Int} (i0 : 0 ≤ i) (i1 : i < 2) {m' : zMm} (h1 : 143 ≤ pp 34 i) (hst : stI (pp 34 i) f m') (h2 : pp 34 i + 20 ≤ sh.length) (h3 : stL sh pp (pp 34 i)) (hf : frP (fun x _ => pp 34 i ≤ x ∧ x ≤ pp 34 i + 19) mm m') : cOk f (gI f G i) cn N D sh pp m' ∧ frX sh mm sh m' := by
  refine ⟨cOk_hi hc (fun x hx => by funext j; exact hf x j (by omega)) ⟨fun j j0 j1 => ?_, hc.2.2.2.1.2⟩, fun a ha => by funext j; exact hf a j (by omega), fun a ha => ⟨rfl, rfl⟩⟩
  by_cases e : j = i
  · subst e
    exact Or.inr ⟨h1, h2, h3, f, if_pos rfl, ok, sn, hst⟩
  · have eg : gI f G i j = G j := if_neg e
    rw [eg]
    have dj := hc.2.2.2.1.2
    rcases hc.2.2.2.1.1 j j0 j1 with x | ⟨x1, x2, x3, g, x4, x5, x6, x7⟩
    · exact Or.inl x
    · refine Or.inr ⟨x1, x2, x3, g, x4, x5, x6, stI_sm x7 (sm_fr hf (fun x k hk => ?_))⟩
      rcases (show (i = 0 ∧ j = 1) ∨ (i = 1 ∧ j = 0) by omega) with ⟨rfl, rfl⟩ | ⟨rfl, rfl⟩ <;> omega
theorem cImNew (hc : cOk f G cn N D sh pp mm) (ok : fOk f) (sn : fSn f) {i : Int} (i0 : 0 ≤ i) (i1 : i < 2) (hz : pp 34 i = 0) {pp1 : zPp} {m1 m' : zMm} (hp : ∀ a j, a < sh.length → pp1 a j = pp a j) (hm : ∀ a j, a < sh.length → m1 a j = mm a j) (hL : stL (sh ++ stQ) pp1 sh.length) (hst : stI sh.length f m') (hf : frP (fun x _ => sh.length ≤ x ∧ x ≤ sh.length + 19) m1 m') : cOk f (gI f G i) cn N D (sh ++ stQ) (zupp pp1 34 i sh.length) m' ∧ frX sh mm (sh ++ stQ) m' := by
  have l := hc.1.2.2
  have c4 := hc.2.2.2.1
  have c10 := hc.2.2.2.2.2.2.2.2.2.1
  have c11 := hc.2.2.2.2.2.2.2.2.2.2
  have ll : (sh ++ stQ).length = sh.length + 20 := by rw [List.length_append]; rfl
  have hm' : ∀ a, a < sh.length → m' a = mm a := fun a ha => by funext j; rw [hf a j (by omega)]; exact hm a j ha
  have pE : ppE sh.length pp (zupp pp1 34 i sh.length) := fun a j a1 a2 a3 => by rw [zupp_na a2]; exact hp a j a1
  have ej : ∀ j, j ≠ i → zupp pp1 34 i sh.length 34 j = pp 34 j := fun j hj => by rw [zupp_ni hj]; exact hp 34 j (by omega)
  have e17 : zupp pp1 34 i sh.length 38 17 = pp 38 17 := by rw [zupp_na (by decide)]; exact hp 38 17 (by omega)
  have ei : zupp pp1 34 i sh.length 34 i = sh.length := zupp_eq _ _ _ _
  have hL' : stL (sh ++ stQ) (zupp pp1 34 i sh.length) sh.length := stL_ex hL ⟨Nat.le_refl _, fun a _ => ⟨rfl, rfl⟩⟩ (by omega) (fun a j a1 a2 => zupp_na (by omega))
  refine ⟨cOk_ex hc (exH_app stQ) pE hm' ⟨fun j j0 j1 => ?_, ?_⟩ ?_ ?_, fun a ha => hm' a (by omega), fun a ha => (exH_app stQ).2 a (by omega)⟩
  · by_cases e : j = i
    · subst e
      rw [ei]
      exact Or.inr ⟨by omega, by omega, hL', f, if_pos rfl, ok, sn, hst⟩
    · exact cIm1_ex (cIm_1 c4 j j0 j1) (exH_app stQ) (if_neg e) (ej j e) pE hm'
  · rcases (show i = 0 ∨ i = 1 by omega) with rfl | rfl
    · rw [ei, ej 1 (by decide)]
      rcases c4.1 1 (by decide) (by decide) with x | ⟨x1, x2, -⟩
      · exact Or.inr (Or.inl x.1)
      · exact Or.inr (Or.inr (Or.inr x2))
    · rw [ei, ej 0 (by decide)]
      rcases c4.1 0 (by decide) (by decide) with x | ⟨x1, x2, -⟩
      · exact Or.inl x.1
      · exact Or.inr (Or.inr (Or.inl x2))
  · unfold cLi
    rw [e17]
    rcases c10 with x | ⟨x1, x2, x3, x4⟩
    · exact Or.inl x
    · refine Or.inr ⟨x1, by omega, lnL_ex x3 (exH_app stQ) x2 (fun k => pE _ k (by omega) (by omega) (by omega)), fun j j0 j1 => ?_⟩
      by_cases e : j = i
      · subst e
        rw [ei]
        exact Or.inr (Or.inr x2)
      · rw [ej j e]
        exact x4 j j0 j1
  · have es : zSm (sh ++ stQ) = zSm sh + 1021 := by unfold zSm stQ; simp
    obtain ⟨r1, r2⟩ := c11
    unfold cRm
    rw [e17, ll, es]
    rcases (show i = 0 ∨ i = 1 by omega) with rfl | rfl
    · rw [ei, ej 1 (by decide), if_neg (show ¬ sh.length = 0 by omega), if_neg (show ¬ sh.length = 0 by omega)]
      rw [if_pos hz] at r1 r2
      exact ⟨by omega, by omega⟩
    · rw [ei, ej 0 (by decide), if_neg (show ¬ sh.length = 0 by omega), if_neg (show ¬ sh.length = 0 by omega)]
      rw [if_pos hz] at r1 r2
      exact ⟨by omega, by omega⟩
theorem cImage (hc : cOk f G cn N D sh pp mm) (ok : fOk f) (sn : fSn f) {i : Int} (hQ : ∀ sh' pp' m, cOk f (oImage f cn G i).1 (oImage f cn G i).2.1 N D sh' pp' m → frX sh mm sh' m → (∀ a, a < 143 → a ≠ 34 → a ≠ 38 → pp' a = pp a) → Q (zI (oImage f cn G i).2.2) sh' pp' m) : zS 133 0 [zR 13, zI i] [] sh pp mm Q := by
  have h := hc.1
  have k13 := k_13 h
  have k14 := k_14 h
  have p14 := p_13_0 h
  have k34 := k_34 h
  have l34 := l_34 h
  have p34 := p_13_1 h
  have l := h.2.2
  by_cases hg : 0 ≤ i ∧ i ≤ 1
  · have ze : oImage f cn G i = (gI f G i, cn, 1) := by unfold oImage; rw [if_pos hg]; rfl
    rw [ze] at hQ
    dsimp only at hQ
    have k34 := k_34 h
    by_cases hz : pp 34 i = 0
    · have kn := fun q : zSh => zKd_app (sh := sh) (q := q) (a := 34) (by omega)
      have ln := fun q : zSh => zLn_app (sh := sh) (q := q) (a := 34) (by omega)
      have kx := fun q : zSh => zKd_app (sh := sh) (q := q) (a := 13) (by omega)
      have kS : zKd (sh ++ [(9, 8)]) sh.length = 9 := zKd_at (k := 0) (x := (9, 8)) (by omega) rfl
      have ks : zKd (sh ++ stQ) sh.length = 9 := zKd_at (k := 0) (x := (9, 8)) (by omega) rfl
      simp (disch := first | assumption | omega) only [rX_image_0, rX_image_1, rX_image_2, rX_image_3, rX_image_6, rX_image_17, rX_image_18, rX_image_21, rX_image_22, rX_image_23, rX_image_26, rX_image_27, rX_image_30, rX_image_31, rX_image_34, rX_image_35, kX_isWithin, Bool.false_eq_true, true_implies, false_implies, implies_true, true_and, and_true, not_true_eq_false, not_false_eq_true, zPush_I, zPush_L, zPush_R, zPush_U, Int.reduceLT, Int.reduceLE, Int.reduceEq, Int.reduceNe, Int.reduceAdd, Int.reduceSub, Int.reduceMul, Int.reduceNeg, Int.reduceToNat, Nat.reduceAdd, Nat.reduceMul, Nat.reduceEqDiff, zw32_id, zw64_id, zupd_eq, zupd_na, zupd_ni, zupp_eq, zupp_na, zupp_ni, p34, eq_true hg, eq_true hz]
      have z2 := hc.2.1
      have zc := z2.1 (4, 30, 9) (by decide)
      refine cState (by omega) zc (fun j j0 j1 => ?_) (fun pp1 mm1 a1 a2 a3 a4 => ?_)
      · rw [zclr_na (by omega), z2.2.2 4 (by decide) (by decide) j j0]
        rcases (show j = 0 ∨ j = 1 ∨ j = 2 ∨ j = 3 ∨ j = 4 ∨ j = 5 ∨ j = 6 ∨ j = 7 ∨ j = 8 by omega) with rfl | rfl | rfl | rfl | rfl | rfl | rfl | rfl | rfl <;> rfl
      · have hp : ∀ a j, a < sh.length → pp1 a j = pp a j := fun a j ha => by rw [a1 a j ha, zclp_na (by omega)]
        have hm : ∀ a j, a < sh.length → mm1 a j = mm a j := fun a j ha => by rw [a2 a j ha, zclr_na (by omega)]
        have kk : zKd (sh ++ stQ) 34 = 25 := by rw [kn]; exact k34
        have kk2 : zLn (sh ++ stQ) 34 = 2 := by rw [ln]; exact l34
        have kk3 : zKd (sh ++ stQ) 13 = 11 := by rw [kx]; exact k13
        have q1 : pp1 13 1 = 34 := by rw [hp 13 1 (by omega)]; exact p34
        have q0 : pp1 13 0 = 14 := by rw [hp 13 0 (by omega)]; exact p14
        have hL14 : stL (sh ++ stQ) (zupp pp1 34 i sh.length) 14 := stL_ex (stL_14 h) (exH_app stQ) (by omega) (fun a j b1 b2 => by rw [zupp_na (by omega)]; exact hp a j (by omega))
        have hL' : stL (sh ++ stQ) (zupp pp1 34 i sh.length) sh.length := stL_ex a3 ⟨Nat.le_refl _, fun a _ => ⟨rfl, rfl⟩⟩ (by rw [List.length_append]; exact Nat.le_refl _) (fun a j b1 b2 => zupp_na (by omega))
        have ty : (zKd (sh ++ stQ) 34 = 24 ∧ zKd (sh ++ stQ) sh.length = 10) ∨ (zKd (sh ++ stQ) 34 = 25 ∧ zKd (sh ++ stQ) sh.length = 9) ∨ (zKd (sh ++ stQ) 34 = 26 ∧ zKd (sh ++ stQ) sh.length = 8) ∨ (zKd (sh ++ stQ) 34 = 27 ∧ zKd (sh ++ stQ) sh.length = 1) := Or.inr (Or.inl ⟨kk, ks⟩)
        have u1 : zupp pp1 34 i sh.length 13 1 = 34 := by rw [zupp_na (by decide)]; exact q1
        have u0 : zupp pp1 34 i sh.length 13 0 = 14 := by rw [zupp_na (by decide)]; exact q0
        simp (disch := first | assumption | omega) only [rX_image_38, rX_image_39, rX_image_40, rX_image_43, rX_image_44, rX_image_45, rX_image_46, rX_image_49, Bool.false_eq_true, true_implies, false_implies, implies_true, true_and, and_true, not_true_eq_false, not_false_eq_true, zPush_I, zPush_L, zPush_R, zPush_U, Int.reduceLT, Int.reduceLE, Int.reduceEq, Int.reduceNe, Int.reduceAdd, Int.reduceSub, Int.reduceMul, Int.reduceNeg, Int.reduceToNat, Nat.reduceAdd, Nat.reduceMul, Nat.reduceEqDiff, zw32_id, zw64_id, zupd_eq, zupd_na, zupd_ni, zupp_eq, zupp_na, zupp_ni, q1, q0, u1, u0]
        refine cTakeS hL' hL14 (by omega) ok (stI_sm hc.2.2.1 (fun x b1 b2 => by funext j; exact hm x j (by omega))) (hdr_of a4) (fun m' b1 b2 => ?_)
        obtain ⟨d1, d2⟩ := cImNew hc ok sn hg.1 (by omega) hz hp hm a3 b1 b2
        have q := hQ _ _ m' d1 d2 (fun a b1 b2 b3 => by funext j; rw [zupp_na b2]; exact hp a j (by omega))
        simp (disch := first | assumption | omega) only [rX_image_52, rX_image_53, Bool.false_eq_true, true_implies, false_implies, implies_true, true_and, and_true, not_true_eq_false, not_false_eq_true, zPush_I, zPush_L, zPush_R, zPush_U, Int.reduceLT, Int.reduceLE, Int.reduceEq, Int.reduceNe, Int.reduceAdd, Int.reduceSub, Int.reduceMul, Int.reduceNeg, Int.reduceToNat, Nat.reduceAdd, Nat.reduceMul, Nat.reduceEqDiff, zw32_id, zw64_id, zupd_eq, zupd_na, zupd_ni, zupp_eq, zupp_na, zupp_ni]
        exact q
    · rcases hc.2.2.2.1.1 i (by omega) (by omega) with x | ⟨x1, x2, x3, g, x4, x5, x6, x7⟩
      · exact absurd x.1 hz
      · have ks := x3.1
        simp (disch := first | assumption | omega) only [rX_image_0, rX_image_1, rX_image_2, rX_image_3, rX_image_6, rX_image_17, rX_image_18, rX_image_21, rX_image_22, rX_image_23, rX_image_39, rX_image_40, rX_image_43, rX_image_44, rX_image_45, rX_image_46, rX_image_49, kX_isWithin, Bool.false_eq_true, true_implies, false_implies, implies_true, true_and, and_true, not_true_eq_false, not_false_eq_true, zPush_I, zPush_L, zPush_R, zPush_U, Int.reduceLT, Int.reduceLE, Int.reduceEq, Int.reduceNe, Int.reduceAdd, Int.reduceSub, Int.reduceMul, Int.reduceNeg, Int.reduceToNat, Nat.reduceAdd, Nat.reduceMul, Nat.reduceEqDiff, zw32_id, zw64_id, zupd_eq, zupd_na, zupd_ni, zupp_eq, zupp_na, zupp_ni, p14, p34, eq_true hg, eq_false hz]
        refine cTakeS x3 (stL_14 h) (by omega) ok hc.2.2.1 (hdr_of x7) (fun m' b1 b2 => ?_)
        obtain ⟨d1, d2⟩ := cImOld hc ok sn hg.1 (by omega) x1 b1 x2 x3 b2
        have q := hQ _ _ m' d1 d2 (fun a _ _ _ => rfl)
        simp (disch := first | assumption | omega) only [rX_image_52, rX_image_53, Bool.false_eq_true, true_implies, false_implies, implies_true, true_and, and_true, not_true_eq_false, not_false_eq_true, zPush_I, zPush_L, zPush_R, zPush_U, Int.reduceLT, Int.reduceLE, Int.reduceEq, Int.reduceNe, Int.reduceAdd, Int.reduceSub, Int.reduceMul, Int.reduceNeg, Int.reduceToNat, Nat.reduceAdd, Nat.reduceMul, Nat.reduceEqDiff, zw32_id, zw64_id, zupd_eq, zupd_na, zupd_ni, zupp_eq, zupp_na, zupp_ni]
        exact q
  · have ze : oImage f cn G i = (G, bump cn 0, -2) := by unfold oImage; rw [if_neg hg]
    rw [ze] at hQ
    dsimp only at hQ
    have zq := cBadP hc (i := 0) (by decide) (by decide) (fun m a b => hQ sh pp m a b (fun a _ _ _ => rfl))
    simp (disch := first | assumption | omega) only [rX_image_0, rX_image_1, rX_image_2, rX_image_3, rX_image_6, rX_image_9, rX_image_10, rX_image_11, rX_image_13, rX_image_16, kX_isWithin, kX_refuse h, Bool.false_eq_true, true_implies, false_implies, implies_true, true_and, and_true, not_true_eq_false, not_false_eq_true, zPush_I, zPush_L, zPush_R, zPush_U, Int.reduceLT, Int.reduceLE, Int.reduceEq, Int.reduceNe, Int.reduceAdd, Int.reduceSub, Int.reduceMul, Int.reduceNeg, Int.reduceToNat, Nat.reduceAdd, Nat.reduceMul, Nat.reduceEqDiff, zw32_id, zw64_id, zupd_eq, zupd_na, zupd_ni, zupp_eq, zupp_na, zupp_ni, eq_false hg]
    exact zq
end
