/-! ===== bends of the class: the call ===== -/
theorem zclp_na {pp : zPp} {a b : Nat} {j : Int} (h : b ≠ a) : zclp pp a b j = pp b j := by unfold zclp; rw [if_neg h]
theorem zclr_na {mm : zMm} {a b : Nat} {j : Int} (h : b ≠ a) : zclr mm a b j = mm b j := by unfold zclr; rw [if_neg h]
theorem zclr_eq {mm : zMm} {a : Nat} {j : Int} : zclr mm a a j = 0 := by unfold zclr; rw [if_pos rfl]
theorem zKd_sum {sh q : zSh} {k : Nat} : zKd (sh ++ q) (sh.length + k) = zKd q k := by
  unfold zKd
  rw [List.getElem?_append_right (by omega), Nat.add_sub_cancel_left]
theorem zLn_sum {sh q : zSh} {k : Nat} : zLn (sh ++ q) (sh.length + k) = zLn q k := by
  unfold zLn
  rw [List.getElem?_append_right (by omega), Nat.add_sub_cancel_left]
section
variable {sh : zSh} {pp : zPp} {mm : zMm} {Q : zV → zSh → zPp → zMm → Prop} {f : Int → Int} {G : Int → Option (Int → Int)} {cn : Int → Int} {N D : Nat}
theorem kL_init {s : Nat} (hs : s ≠ 0) (hl : s < sh.length) (hk : zKd sh s = 5) : zS 46 0 [zR s] [] sh pp mm Q ↔ Q zU (sh ++ [(20, 4096)] ++ [(20, 36864)]) (zupp (zclp (zupp (zclp pp sh.length) s 0 sh.length) (sh ++ [(20, 4096)]).length) s 1 (sh ++ [(20, 4096)]).length) (zclr (zclr mm sh.length) (sh ++ [(20, 4096)]).length) := by
  have h1 : zKd (sh ++ [(20, 4096)]) s = 5 := by rw [zKd_app hl]; exact hk
  have h2 : zKd (sh ++ [(20, 4096)] ++ [(20, 36864)]) s = 5 := by rw [zKd_app (by rw [List.length_append]; omega)]; exact h1
  simp (disch := first | assumption | decide) only [rL_init_0, rL_init_1, rL_init_4, rL_init_5, rL_init_8, rL_init_10, rL_init_13, rL_init_14, rL_init_16, rL_init_18, rL_init_21, Int.reduceToNat]
theorem newLines (h : zLy sh pp) (hQ : ∀ sh' pp' mm', exH sh sh' → sh'.length = sh.length + 3 → zSm sh' = zSm sh + 40962 → pp' 38 17 = sh.length → lnL sh' pp' sh.length → (∀ a i, a < sh.length → ¬ (a = 38 ∧ i = 17) → pp' a i = pp a i) → (∀ a, a < sh.length → mm' a = mm a) → zS 68 31 [zR 38, zU, zU, zU] [] sh' pp' mm' Q) : zS 68 20 [zR 38, zU, zU, zU] [] sh pp mm Q := by
  have l := h.2.2
  have k38 := k_38 h
  obtain ⟨L, hL⟩ : ∃ L, L = sh.length := ⟨_, rfl⟩
  have hk : zKd (sh ++ [(5, 2)]) L = 5 := zKd_at (k := 0) (x := (5, 2)) hL rfl
  have ll : (sh ++ [(5, 2)]).length = L + 1 := by rw [List.length_append, hL]; rfl
  have ki := fun (Q : zV → zSh → zPp → zMm → Prop) (pp : zPp) (mm : zMm) => kL_init (sh := sh ++ [(5, 2)]) (pp := pp) (mm := mm) (Q := Q) (s := L) (by omega) (by omega) hk
  have e3 : sh ++ [(5, 2)] ++ [(20, 4096)] ++ [(20, 36864)] = sh ++ [(5, 2), (20, 4096), (20, 36864)] := by simp
  have ll2 : (sh ++ [(5, 2)] ++ [(20, 4096)]).length = L + 2 := by rw [List.length_append, ll]; rfl
  have kn : zKd (sh ++ [(5, 2), (20, 4096), (20, 36864)]) 38 = 6 := by rw [zKd_app (by omega)]; exact k38
  rw [ll, ll2, e3] at ki
  simp (disch := assumption) only [rN_fewestAbouts_20, rN_fewestAbouts_21, rN_fewestAbouts_24, rN_fewestAbouts_25, rN_fewestAbouts_28, ← hL, ki, zPush_U]
  refine hQ _ _ _ (exH_app _) (by rw [List.length_append]; rfl) (by unfold zSm; simp) ?_ ?_ (fun a i a1 a2 => ?_) (fun a a1 => ?_)
  · rw [zupp_eq, hL]
  · rw [← hL]
    refine ⟨zKd_at (k := 0) (x := (5, 2)) (by omega) rfl, ⟨zKd_at (k := 1) (x := (20, 4096)) (by omega) rfl, zLn_at (k := 1) (x := (20, 4096)) (by omega) rfl, ?_⟩, zKd_at (k := 2) (x := (20, 36864)) (by omega) rfl, zLn_at (k := 2) (x := (20, 36864)) (by omega) rfl, ?_⟩
    · rw [zupp_na (by omega), zupp_ni (by decide), zclp_na (by omega), zupp_eq]
    · rw [zupp_na (by omega), zupp_eq]
  · have e : ∀ (p : zPp) (v : Nat), zupp p 38 17 v a i = p a i := fun p v => by
      unfold zupp
      rw [if_neg a2]
    rw [e, zupp_na (by omega), zclp_na (by omega), zupp_na (by omega), zclp_na (by omega), zclp_na (by omega)]
  · funext j
    rw [zclr_na (by omega), zclr_na (by omega), zclr_na (by omega)]
theorem cAbLoop (h : zLy sh pp) (ok : fOk f) {P : Nat} (hP17 : pp 38 17 = P) (hL : lnL sh pp P) (hP : 143 ≤ P) (hK : cNtK f mm) (h0 : onB f = true ∧ 0 < nE f) (hQ : ∀ m' v, frP (lwF P) mm m' → bnA f v → Q (zI v) sh pp (zupd m' 38 15 v)) : zS 68 31 [zR 38, zU, zU, zU] [] sh pp mm Q := by
  have k38 := k_38 h
  have p38 := p_13_5 h
  have hk5 := hL.1
  have c1 := ok.2.2.2.1.2.1
  have kf := fun (Q : zV → zSh → zPp → zMm → Prop) => kN_first (Q := Q) h ok hK
  have hfc := fC_lt ok
  have key : ∀ (d i : Nat) (m1 : zMm) (v : Int), i + d = 10 → frP (lwF P) mm m1 → mnB (fun x => ∃ c, c < i ∧ bnP f c x) v → zS 68 41 [zR 38, zI ((fC f : Nat) : Int), zI v, zI (i : Int)] [] sh pp m1 Q := by
    intro d
    induction d with
    | zero =>
      intro i m1 v hi hf hv
      have q := hQ m1 v hf (bnA_of ok (mnB_cg hv (fun x => by
        constructor
        · rintro ⟨c, a, b⟩
          exact ⟨c, by omega, b⟩
        · rintro ⟨c, a, b⟩
          exact ⟨c, cP_lt ok h0.2 (by omega) (bnP_cP ok (by omega) b), b⟩)))
      rw [rN_fewestAbouts_41]
      simp (disch := first | assumption | omega) only [rN_fewestAbouts_42, rN_fewestAbouts_44, rN_fewestAbouts_76, rN_fewestAbouts_77, rN_fewestAbouts_78, rN_fewestAbouts_81, rN_fewestAbouts_82, rN_fewestAbouts_85, Bool.false_eq_true, true_implies, false_implies, implies_true, true_and, and_true, not_true_eq_false, not_false_eq_true, zPush_I, zPush_L, zPush_R, zPush_U, Int.reduceLT, Int.reduceLE, Int.reduceEq, Int.reduceNe, Int.reduceAdd, Int.reduceSub, Int.reduceMul, Int.reduceNeg, Int.reduceToNat, Nat.reduceAdd, Nat.reduceMul, Nat.reduceEqDiff, zw32_id, zw64_id, zupd_eq, zupd_na, zupd_ni, zupp_eq, zupp_na, zupp_ni, eq_false (show ¬ (i : Int) < 10 by omega)]
      exact q
    | succ d ih =>
      intro i m1 v hi hf hv
      have i10 : i < 10 := by omega
      have b := tb_i hfc i10
      rw [rN_fewestAbouts_41]
      by_cases hb : (fC f).testBit i = true
      · rw [if_pos hb] at b
        simp (disch := first | assumption | omega) only [rN_fewestAbouts_42, rN_fewestAbouts_44, rN_fewestAbouts_47, rN_fewestAbouts_48, rN_fewestAbouts_49, rN_fewestAbouts_50, rN_fewestAbouts_51, rN_fewestAbouts_52, rN_fewestAbouts_53, rN_fewestAbouts_56, rN_fewestAbouts_57, rN_fewestAbouts_58, rN_fewestAbouts_61, rN_fewestAbouts_62, rN_fewestAbouts_63, Bool.false_eq_true, true_implies, false_implies, implies_true, true_and, and_true, not_true_eq_false, not_false_eq_true, zPush_I, zPush_L, zPush_R, zPush_U, Int.reduceLT, Int.reduceLE, Int.reduceEq, Int.reduceNe, Int.reduceAdd, Int.reduceSub, Int.reduceMul, Int.reduceNeg, Int.reduceToNat, Nat.reduceAdd, Nat.reduceMul, Nat.reduceEqDiff, zw32_id, zw64_id, zupd_eq, zupd_na, zupd_ni, zupp_eq, zupp_na, zupp_ni, eq_true (show (i : Int) < 10 by omega), b, hP17]
        have r := lw_rw hP hf
        have hK1 : cNtK f m1 := cNtK_sm hK (fun x a b => r x (by omega))
        refine cFewest h ok hL hP hK1 i10 (fun m2 u a1 a2 => ?_)
        have n := ih (i + 1) m2 (min v u) (by omega) (frP_tr hf a1) (mnB_cg (mnB_or hv a2) (fun x => by
          constructor
          · rintro ⟨c, a, bq⟩
            by_cases e : c = i
            · subst e; exact Or.inr bq
            · exact Or.inl ⟨c, by omega, bq⟩
          · rintro (⟨c, a, bq⟩ | bq)
            · exact ⟨c, by omega, bq⟩
            · exact ⟨i, by omega, bq⟩))
        rw [show ((i + 1 : Nat) : Int) = (i : Int) + 1 by omega] at n
        simp (disch := first | assumption | omega) only [rN_fewestAbouts_66, rN_fewestAbouts_69, rN_fewestAbouts_70, rN_fewestAbouts_73, kJ_min, Bool.false_eq_true, true_implies, false_implies, implies_true, true_and, and_true, not_true_eq_false, not_false_eq_true, zPush_I, zPush_L, zPush_R, zPush_U, Int.reduceLT, Int.reduceLE, Int.reduceEq, Int.reduceNe, Int.reduceAdd, Int.reduceSub, Int.reduceMul, Int.reduceNeg, Int.reduceToNat, Nat.reduceAdd, Nat.reduceMul, Nat.reduceEqDiff, zw32_id, zw64_id, zupd_eq, zupd_na, zupd_ni, zupp_eq, zupp_na, zupp_ni]
        exact n
      · rw [if_neg hb] at b
        have n := ih (i + 1) m1 v (by omega) hf (mnB_cg hv (fun x => by
          constructor
          · rintro ⟨c, a, bq⟩
            by_cases e : c = i
            · subst e
              have z := bnP_cP ok i10 bq
              exact absurd ((fC_tb ok).mpr ⟨cP_lt ok h0.2 i10 z, h0.2, z⟩) hb
            · exact ⟨c, by omega, bq⟩
          · rintro ⟨c, a, bq⟩
            exact ⟨c, by omega, bq⟩))
        rw [show ((i + 1 : Nat) : Int) = (i : Int) + 1 by omega] at n
        simp (disch := first | assumption | omega) only [rN_fewestAbouts_42, rN_fewestAbouts_44, rN_fewestAbouts_47, rN_fewestAbouts_48, rN_fewestAbouts_49, rN_fewestAbouts_50, rN_fewestAbouts_51, rN_fewestAbouts_52, rN_fewestAbouts_53, rN_fewestAbouts_70, rN_fewestAbouts_73, Bool.false_eq_true, true_implies, false_implies, implies_true, true_and, and_true, not_true_eq_false, not_false_eq_true, zPush_I, zPush_L, zPush_R, zPush_U, Int.reduceLT, Int.reduceLE, Int.reduceEq, Int.reduceNe, Int.reduceAdd, Int.reduceSub, Int.reduceMul, Int.reduceNeg, Int.reduceToNat, Nat.reduceAdd, Nat.reduceMul, Nat.reduceEqDiff, zw32_id, zw64_id, zupd_eq, zupd_na, zupd_ni, zupp_eq, zupp_na, zupp_ni, eq_true (show (i : Int) < 10 by omega), b]
        exact n
  have k := key 10 0 mm 1000000 (by omega) (frP_rf _ _) (mnB_no (fun x hx => by obtain ⟨c, a, -⟩ := hx; omega))
  simp (disch := first | assumption | omega) only [rN_fewestAbouts_31, rN_fewestAbouts_32, rN_fewestAbouts_35, rN_fewestAbouts_36, rN_fewestAbouts_38, rN_fewestAbouts_39, rN_fewestAbouts_40, Bool.false_eq_true, true_implies, false_implies, implies_true, true_and, and_true, not_true_eq_false, not_false_eq_true, zPush_I, zPush_L, zPush_R, zPush_U, Int.reduceLT, Int.reduceLE, Int.reduceEq, Int.reduceNe, Int.reduceAdd, Int.reduceSub, Int.reduceMul, Int.reduceNeg, Int.reduceToNat, Nat.reduceAdd, Nat.reduceMul, Nat.reduceEqDiff, zw32_id, zw64_id, zupd_eq, zupd_na, zupd_ni, zupp_eq, zupp_na, zupp_ni, kf]
  exact k
/-- at the end of bends: what was found is kept -/
theorem cAbEnd (hc : cOk f G cn N D sh pp mm) {P : Nat} (hP17 : pp 38 17 = P) (hP : 143 ≤ P) (hK : cNtK f mm) (k10 : mm 38 10 = 1) {m' : zMm} {v : Int} (hf : frP (lwF P) mm m') (hv : bnA f v) : cOk f G cn N D sh pp (zupd m' 38 15 v) ∧ frX sh mm sh (zupd m' 38 15 v) := by
  obtain ⟨c1, c2, c3, c4, c5, c6, c7, c8, c9, c10, c11⟩ := id hc
  have r := lw_rw hP hf
  obtain ⟨m9, hm9⟩ : ∃ m9, m9 = zupd m' 38 15 v := ⟨_, rfl⟩
  rw [← hm9]
  have r9 : ∀ x, x ≤ 142 → x ≠ 38 → m9 x = mm x := fun x a b => by
    rw [← r x a, hm9]
    funext j
    exact zupd_na b
  have n9 : ∀ j, j ≠ 15 → m9 38 j = mm 38 j := fun j hj => by rw [hm9, zupd_ni hj, r 38 (by omega)]
  have s : ∀ lo hi, hi ≤ 142 → (hi < 38 ∨ 38 < lo) → sm lo hi mm m9 := fun lo hi h1 h2 x a b => r9 x (by omega) (by omega)
  have K9 : cNtK f m9 := by
    obtain ⟨⟨b1, b2, b3, b4⟩, b5, b6, b7, b8⟩ := hK
    refine ⟨⟨by rw [n9 0 (by decide)]; exact b1, by rw [n9 1 (by decide)]; exact b2, by rw [n9 2 (by decide)]; exact b3, by rw [n9 3 (by decide)]; exact b4⟩, fun e he => nRw_fr (b5 e he) (fun x a b => by rw [r9 x (by omega) (by omega)]), ?_, Or.inr (by rw [hm9, zupd_eq]; exact hv), by rw [n9 16 (by decide)]; exact b8⟩
    rw [n9 14 (by decide), r9 46 (by omega) (by omega)]
    exact b6
  have im : cIm G sh pp m9 := by
    refine ⟨fun i i0 i1 => ?_, c4.2⟩
    rcases c4.1 i i0 i1 with x | ⟨x1, x2, x3, g, x4, x5, x6, x7⟩
    · exact Or.inl x
    · refine Or.inr ⟨x1, x2, x3, g, x4, x5, x6, stI_sm x7 (fun x a b => ?_)⟩
      funext j
      rw [hm9, zupd_na (by omega)]
      refine hf x j (fun hx => ?_)
      unfold lwF at hx
      rcases c10 with y | ⟨y1, y2, y3, y4⟩
      · omega
      · have := y4 i i0 i1
        omega
  refine ⟨⟨c1, zCs_sm c2 (s 0 12 (by omega) (by omega)), stI_sm c3 (s _ _ (by omega) (by omega)), im, fun i i0 i1 => by rw [r9 35 (by omega) (by omega)]; exact c5 i i0 i1, fun p hp => cPr_sm (c6 p hp) (s _ _ (by omega) (by omega)), Or.inr ⟨by rw [n9 10 (by decide)]; exact k10, K9⟩, cQu_sm c8 (s _ _ (by omega) (by omega)), ⟨bG_sm c9.1 (s _ _ (by omega) (by omega)), bG_sm c9.2 (s _ _ (by omega) (by omega))⟩, c10, c11⟩, fun a ha => ?_, fun a ha => ⟨rfl, rfl⟩⟩
  exact r9 a (by omega) (by omega)
end
