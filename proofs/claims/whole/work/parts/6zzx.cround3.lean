/-! ===== round of the class: the call ===== -/
section
variable {sh : zSh} {pp : zPp} {mm : zMm} {Q : zV → zSh → zPp → zMm → Prop} {f : Int → Int} {G : Int → Option (Int → Int)} {cn : Int → Int} {N D : Nat}
theorem cY (h : zLy sh pp) {r n : Int} {r' x : Nat} (er : r = (r' : Int)) (r7 : r' ≤ 7) (hx : x ≤ r') (hz : ∀ m', frP oqF mm m' → qI r' x ((r' : Int) + 1) x ((r' : Int) + 1) m' → zS 72 58 [zR 48, zI r, zI n, zI (x : Int), zU] [] sh pp m' Q) : ∀ (d y : Nat) (m1 : zMm), y + d = r' + 1 → frP oqF mm m1 → qI r' x y x y m1 → zS 72 38 [zR 48, zI r, zI n, zI (x : Int), zI (y : Int)] [] sh pp m1 Q := by
  have k48 := k_48 h
  have p48 := p_13_6 h
  intro d
  induction d with
  | zero =>
    intro y m1 hy hf hI
    have ey : (y : Int) = (r' : Int) + 1 := by omega
    rw [ey] at hI
    rw [rQ_leastOff_38]
    simp (disch := first | assumption | omega) only [rQ_leastOff_40, rQ_leastOff_41, Bool.false_eq_true, true_implies, false_implies, implies_true, true_and, and_true, not_true_eq_false, not_false_eq_true, zPush_I, zPush_L, zPush_R, zPush_U, Int.reduceLT, Int.reduceLE, Int.reduceEq, Int.reduceNe, Int.reduceAdd, Int.reduceSub, Int.reduceMul, Int.reduceNeg, Int.reduceToNat, Nat.reduceAdd, Nat.reduceMul, Nat.reduceEqDiff, zw32_id, zw64_id, zupd_eq, zupd_na, zupd_ni, zupp_eq, zupp_na, zupp_ni, eq_true (show r < (y : Int) by omega)]
    exact hz m1 hf hI
  | succ d ih =>
    intro y m1 hy hf hI
    rw [rQ_leastOff_38]
    simp (disch := first | assumption | omega) only [rQ_leastOff_40, rQ_leastOff_41, rQ_leastOff_44, rQ_leastOff_45, rQ_leastOff_46, rQ_leastOff_47, rQ_leastOff_49, Bool.false_eq_true, true_implies, false_implies, implies_true, true_and, and_true, not_true_eq_false, not_false_eq_true, zPush_I, zPush_L, zPush_R, zPush_U, Int.reduceLT, Int.reduceLE, Int.reduceEq, Int.reduceNe, Int.reduceAdd, Int.reduceSub, Int.reduceMul, Int.reduceNeg, Int.reduceToNat, Nat.reduceAdd, Nat.reduceMul, Nat.reduceEqDiff, zw32_id, zw64_id, zupd_eq, zupd_na, zupd_ni, zupp_eq, zupp_na, zupp_ni, eq_false (show ¬ r < (y : Int) by omega)]
    rw [er]
    refine cGoOn h r7 hx (by omega) hI (fun m2 f2 e2 => ?_)
    rw [← er]
    have nx := ih (y + 1) m2 (by omega) (frP_tr hf f2) (by rw [show ((y + 1 : Nat) : Int) = (y : Int) + 1 by omega]; exact e2)
    rw [show ((y + 1 : Nat) : Int) = (y : Int) + 1 by omega] at nx
    simp (disch := first | assumption | omega) only [rQ_leastOff_52, rQ_leastOff_55, Bool.false_eq_true, true_implies, false_implies, implies_true, true_and, and_true, not_true_eq_false, not_false_eq_true, zPush_I, zPush_L, zPush_R, zPush_U, Int.reduceLT, Int.reduceLE, Int.reduceEq, Int.reduceNe, Int.reduceAdd, Int.reduceSub, Int.reduceMul, Int.reduceNeg, Int.reduceToNat, Nat.reduceAdd, Nat.reduceMul, Nat.reduceEqDiff, zw32_id, zw64_id, zupd_eq, zupd_na, zupd_ni, zupp_eq, zupp_na, zupp_ni]
    exact nx
theorem cX (h : zLy sh pp) {n : Int} {r : Nat} (r7 : r ≤ 7) (hz : ∀ m', frP oqF mm m' → qI r (-1) 0 (-1) 0 m' → zS 72 64 [zR 48, zI (r : Int), zI n, zU, zU] [] sh pp m' Q) : ∀ (X : Nat) (m1 : zMm), X ≤ r + 1 → frP oqF mm m1 → qI r ((X : Int) - 1) 0 ((X : Int) - 1) 0 m1 → zS 72 31 [zR 48, zI (r : Int), zI n, zI ((X : Int) - 1), zU] [] sh pp m1 Q := by
  have k48 := k_48 h
  have p48 := p_13_6 h
  intro X
  induction X with
  | zero =>
    intro m1 _ hf hI
    rw [rQ_leastOff_31]
    simp (disch := first | assumption | omega) only [rQ_leastOff_32, Bool.false_eq_true, true_implies, false_implies, implies_true, true_and, and_true, not_true_eq_false, not_false_eq_true, zPush_I, zPush_L, zPush_R, zPush_U, Int.reduceLT, Int.reduceLE, Int.reduceEq, Int.reduceNe, Int.reduceAdd, Int.reduceSub, Int.reduceMul, Int.reduceNeg, Int.reduceToNat, Nat.reduceAdd, Nat.reduceMul, Nat.reduceEqDiff, zw32_id, zw64_id, zupd_eq, zupd_na, zupd_ni, zupp_eq, zupp_na, zupp_ni, Int.cast_ofNat_Int]
    exact hz m1 hf hI
  | succ X ih =>
    intro m1 hX hf hI
    rw [show ((X + 1 : Nat) : Int) - 1 = (X : Int) by omega] at hI ⊢
    rw [rQ_leastOff_31]
    simp (disch := first | assumption | omega) only [rQ_leastOff_32, rQ_leastOff_35, rQ_leastOff_36, Bool.false_eq_true, true_implies, false_implies, implies_true, true_and, and_true, not_true_eq_false, not_false_eq_true, zPush_I, zPush_L, zPush_R, zPush_U, Int.reduceLT, Int.reduceLE, Int.reduceEq, Int.reduceNe, Int.reduceAdd, Int.reduceSub, Int.reduceMul, Int.reduceNeg, Int.reduceToNat, Nat.reduceAdd, Nat.reduceMul, Nat.reduceEqDiff, zw32_id, zw64_id, zupd_eq, zupd_na, zupd_ni, zupp_eq, zupp_na, zupp_ni, eq_false (show ¬ (X : Int) < 0 by omega)]
    refine cY h rfl r7 (by omega) (fun m2 f2 e2 => ?_) (r + 1) 0 m1 (by omega) (frP_rf _ _) hI
    have nx := ih m2 (by omega) (frP_tr hf f2) (qI_cg (by omega) e2 (by omega))
    simp (disch := first | assumption | omega) only [rQ_leastOff_58, rQ_leastOff_61, Bool.false_eq_true, true_implies, false_implies, implies_true, true_and, and_true, not_true_eq_false, not_false_eq_true, zPush_I, zPush_L, zPush_R, zPush_U, Int.reduceLT, Int.reduceLE, Int.reduceEq, Int.reduceNe, Int.reduceAdd, Int.reduceSub, Int.reduceMul, Int.reduceNeg, Int.reduceToNat, Nat.reduceAdd, Nat.reduceMul, Nat.reduceEqDiff, zw32_id, zw64_id, zupd_eq, zupd_na, zupd_ni, zupp_eq, zupp_na, zupp_ni]
    exact nx
theorem qI_end {r : Nat} {m : zMm} (r7 : r ≤ 7) (h : qI r (-1) 0 (-1) 0 m) {n : Nat} (h1 : 1 ≤ n) (h6 : n ≤ 6) : m 51 ((r : Int) * 7 + (n : Int)) = rT r n (8 * r) := by
  obtain ⟨k, rfl⟩ : ∃ k, n = k + 1 := ⟨n - 1, by omega⟩
  obtain ⟨-, z⟩ := h 0 r (by omega) (Int.le_refl _)
  have z := z k (by omega)
  rw [show ((((0 : Nat) : Int) * 8 + (r : Int)) * 7 + (k : Int) + 1) = (r : Int) * 7 + ((k + 1 : Nat) : Int) by omega] at z
  rw [z, rT_s, show 8 * r + 0 = 8 * r by omega]
  refine mnF_ex2 64 (fun q hq => ?_)
  try dsimp only
  by_cases hp : qP r (-1) 0 (-1) 0 (8 * r) q = true
  · rw [if_pos hp]
  · rw [if_neg hp]
    have : (1000000 : Int) ≤ rG r k (8 * r) q := by
      by_cases hc : rC r (8 * r) q
      · by_cases hxq : ((q % 8 : Nat) : Int) ≤ (r : Int)
        · exfalso
          apply hp
          unfold rC at hc
          unfold qP
          rw [decide_eq_true_eq]
          omega
        · exact rG_xx (by omega)
      · rw [rG_no hc]; exact Int.le_refl _
    omega
def quF (x : Nat) (_ : Int) : Prop := x = 49 ∨ x = 50 ∨ x = 51
theorem cLeast (h : zLy sh pp) (hq : cQu mm) {r n : Nat} (r1 : 1 ≤ r) (r7 : r ≤ 7) (n1 : 1 ≤ n) (n6 : n ≤ 6) (hQ : ∀ m', frP quF mm m' → cQu m' → Q (zI (rT r n (8 * r))) sh pp m') : zS 72 0 [zR 48, zI (r : Int), zI (n : Int), zU, zU] [] sh pp mm Q := by
  have k48 := k_48 h
  have p48 := p_13_6 h
  have k49 := k_49 h
  have l49 := l_49 h
  have p49 := p_48_0 h
  have k50 := k_50 h
  have l50 := l_50 h
  have p50 := p_48_1 h
  have k51 := k_51 h
  have l51 := l_51 h
  have p51 := p_48_2 h
  rcases hq r r1 r7 with hk | ⟨hk, ha⟩
  · simp (disch := first | assumption | omega) only [rQ_leastOff_0, rQ_leastOff_1, rQ_leastOff_4, rQ_leastOff_5, rQ_leastOff_6, rQ_leastOff_9, rQ_leastOff_10, rQ_leastOff_13, rQ_leastOff_15, Bool.false_eq_true, true_implies, false_implies, implies_true, true_and, and_true, not_true_eq_false, not_false_eq_true, zPush_I, zPush_L, zPush_R, zPush_U, Int.reduceLT, Int.reduceLE, Int.reduceEq, Int.reduceNe, Int.reduceAdd, Int.reduceSub, Int.reduceMul, Int.reduceNeg, Int.reduceToNat, Nat.reduceAdd, Nat.reduceMul, Nat.reduceEqDiff, zw32_id, zw64_id, zupd_eq, zupd_na, zupd_ni, zupp_eq, zupp_na, zupp_ni, p49, p51, hk]
    refine cFill k51 l51 (by decide) (by decide) (fun m1 e1 f1 => ?_)
    have kr := fun (Q : zV → zSh → zPp → zMm → Prop) => kQ_row (sh := sh) (pp := pp) (mm := m1) (Q := Q) (x := (r : Int)) (y := 0) (by omega) (by omega)
    simp (disch := first | assumption | omega) only [rQ_leastOff_18, rQ_leastOff_19, rQ_leastOff_22, rQ_leastOff_23, rQ_leastOff_24, rQ_leastOff_27, rQ_leastOff_28, rQ_leastOff_29, rQ_leastOff_30, Bool.false_eq_true, true_implies, false_implies, implies_true, true_and, and_true, not_true_eq_false, not_false_eq_true, zPush_I, zPush_L, zPush_R, zPush_U, Int.reduceLT, Int.reduceLE, Int.reduceEq, Int.reduceNe, Int.reduceAdd, Int.reduceSub, Int.reduceMul, Int.reduceNeg, Int.reduceToNat, Nat.reduceAdd, Nat.reduceMul, Nat.reduceEqDiff, zw32_id, zw64_id, zupd_eq, zupd_na, zupd_ni, zupp_eq, zupp_na, zupp_ni, p51, kr]
    obtain ⟨m2, hm2⟩ : ∃ m2, m2 = zupd m1 51 (((r : Int) * 8 + 0) * 7) 0 := ⟨_, rfl⟩
    rw [← hm2]
    have f2 : frP oqF mm m2 := by
      rw [hm2]
      exact frP_up (frP_wd f1 (fun x j hj => hj)) rfl
    have k := cX (mm := mm) (Q := Q) h (n := (n : Int)) r7 (fun m3 f3 e3 => ?_) (r + 1) m2 (by omega) f2 (fun a b ha hb => ?_)
    · rw [show ((r + 1 : Nat) : Int) - 1 = (r : Int) by omega] at k
      exact k
    · have kr := fun (Q : zV → zSh → zPp → zMm → Prop) => kQ_row (sh := sh) (pp := pp) (mm := m3) (Q := Q) (x := 0) (y := (r : Int)) (by omega) (by omega)
      simp (disch := first | assumption | omega) only [rQ_leastOff_64, rQ_leastOff_65, rQ_leastOff_68, rQ_leastOff_69, rQ_leastOff_70, rQ_leastOff_73, rQ_leastOff_74, rQ_leastOff_77, rQ_leastOff_78, rQ_leastOff_80, rQ_leastOff_81, rQ_leastOff_83, rQ_leastOff_86, rQ_leastOff_87, rQ_leastOff_90, rQ_leastOff_91, rQ_leastOff_92, Bool.false_eq_true, true_implies, false_implies, implies_true, true_and, and_true, not_true_eq_false, not_false_eq_true, zPush_I, zPush_L, zPush_R, zPush_U, Int.reduceLT, Int.reduceLE, Int.reduceEq, Int.reduceNe, Int.reduceAdd, Int.reduceSub, Int.reduceMul, Int.reduceNeg, Int.reduceToNat, Nat.reduceAdd, Nat.reduceMul, Nat.reduceEqDiff, zw32_id, zw64_id, zupd_eq, zupd_na, zupd_ni, zupp_eq, zupp_na, zupp_ni, p51, p50, p49, kr, true_or, or_true]
      obtain ⟨m4, hm4⟩ : ∃ m4, m4 = zupd (zcpy m3 51 ((0 + (r : Int)) * 7) 50 ((r : Int) * 7) 7) 49 (r : Int) 1 := ⟨_, rfl⟩
      have e4 : ∀ n : Nat, 1 ≤ n → n ≤ 6 → m4 50 (7 * (r : Int) + (n : Int)) = rT r n (8 * r) := fun n n1 n6 => by
        rw [hm4, zupd_na (by decide), zcpy_in (by omega) (by omega), show ((0 + (r : Int)) * 7 + (7 * (r : Int) + (n : Int) - (r : Int) * 7)) = (r : Int) * 7 + (n : Int) by omega]
        exact qI_end r7 e3 n1 n6
      have f4 : frP quF mm m4 := by
        rw [hm4]
        refine frP_up (frP_tr (frP_wd f3 (fun x j hj => by unfold oqF at hj; unfold quF; omega)) (fun x j hx => ?_)) (Or.inl rfl)
        exact zcpy_na (fun e => hx (Or.inr (Or.inl e)))
      have q4 : cQu m4 := by
        intro s s1 s7
        by_cases e : s = r
        · subst e
          exact Or.inr ⟨by rw [hm4, zupd_eq], e4⟩
        · have z1 : m4 49 (s : Int) = mm 49 (s : Int) := by
            rw [hm4, zupd_ni (by omega), zcpy_na (by decide)]
            exact f3 _ _ (by unfold oqF; omega)
          have z2 : ∀ n : Nat, n ≤ 6 → m4 50 (7 * (s : Int) + (n : Int)) = mm 50 (7 * (s : Int) + (n : Int)) := fun n hn => by
            rw [hm4, zupd_na (by decide)]
            unfold zcpy
            rw [if_neg (by omega)]
            exact f3 _ _ (by unfold oqF; omega)
          rw [z1]
          exact (hq s s1 s7).imp_right (fun hx => ⟨hx.1, fun n n1 n6 => by rw [z2 n n6]; exact hx.2 n n1 n6⟩)
      have q := hQ m4 f4 q4
      rw [← hm4]
      have z := e4 n n1 n6
      rw [show 7 * (r : Int) + (n : Int) = (r : Int) * 7 + (n : Int) by omega] at z
      simp (disch := first | assumption | omega) only [rQ_leastOff_93, rQ_leastOff_94, rQ_leastOff_97, rQ_leastOff_98, rQ_leastOff_100, rQ_leastOff_101, rQ_leastOff_102, rQ_leastOff_103, rQ_leastOff_104, Bool.false_eq_true, true_implies, false_implies, implies_true, true_and, and_true, not_true_eq_false, not_false_eq_true, zPush_I, zPush_L, zPush_R, zPush_U, Int.reduceLT, Int.reduceLE, Int.reduceEq, Int.reduceNe, Int.reduceAdd, Int.reduceSub, Int.reduceMul, Int.reduceNeg, Int.reduceToNat, Nat.reduceAdd, Nat.reduceMul, Nat.reduceEqDiff, zw32_id, zw64_id, zupd_eq, zupd_na, zupd_ni, zupp_eq, zupp_na, zupp_ni, p50, z]
      exact q
    · refine ⟨?_, fun n hn => ?_⟩
      · show _ = (if ((8 * b + a : Nat) : Int) = (r : Int) then (0 : Int) else 1000000)
        by_cases e : (a = r ∧ b = 0)
        · rw [if_pos (by omega), hm2, e.1, e.2, show (((r : Int) * 8 + ((0 : Nat) : Int)) * 7) = ((r : Int) * 8 + 0) * 7 by omega, zupd_eq]
        · rw [if_neg (by omega), hm2, zupd_ni (by omega)]
          exact e1 _ (by omega) (by omega)
      · rw [hm2, zupd_ni (by omega), e1 _ (by omega) (by omega)]
        have z := mnF_ex2 (g := fun q => if qP r ((r + 1 : Nat) - 1) 0 ((r + 1 : Nat) - 1) 0 (8 * b + a) q = true then rG r n (8 * b + a) q else 1000000) (g' := fun _ => 1000000) 64 (fun q hq => by
          try dsimp only
          by_cases hp : qP r ((r + 1 : Nat) - 1) 0 ((r + 1 : Nat) - 1) 0 (8 * b + a) q = true
          · have : (1000000 : Int) ≤ rG r n (8 * b + a) q := by
              by_cases hc : rC r (8 * b + a) q
              · exfalso
                unfold rC at hc
                unfold qP at hp
                rw [decide_eq_true_eq] at hp
                omega
              · rw [rG_no hc]; exact Int.le_refl _
            rw [if_pos hp]
            omega
          · rw [if_neg hp])
        have z0 : mnF (fun _ => (1000000 : Int)) 64 = 1000000 := by
          have a := mnF_M (fun _ => (1000000 : Int)) 64
          have b := mnF_ge (g := fun _ => (1000000 : Int)) (Int.le_refl 1000000) 64 (fun q _ => Int.le_refl _)
          omega
        rw [z0] at z
        exact z
  · have q := hQ mm (frP_rf _ _) hq
    have z := ha n n1 n6
    rw [show 7 * (r : Int) + (n : Int) = (r : Int) * 7 + (n : Int) by omega] at z
    simp (disch := first | assumption | omega) only [rQ_leastOff_0, rQ_leastOff_1, rQ_leastOff_4, rQ_leastOff_5, rQ_leastOff_6, rQ_leastOff_93, rQ_leastOff_94, rQ_leastOff_97, rQ_leastOff_98, rQ_leastOff_100, rQ_leastOff_101, rQ_leastOff_102, rQ_leastOff_103, rQ_leastOff_104, Bool.false_eq_true, true_implies, false_implies, implies_true, true_and, and_true, not_true_eq_false, not_false_eq_true, zPush_I, zPush_L, zPush_R, zPush_U, Int.reduceLT, Int.reduceLE, Int.reduceEq, Int.reduceNe, Int.reduceAdd, Int.reduceSub, Int.reduceMul, Int.reduceNeg, Int.reduceToNat, Nat.reduceAdd, Nat.reduceMul, Nat.reduceEqDiff, zw32_id, zw64_id, zupd_eq, zupd_na, zupd_ni, zupp_eq, zupp_na, zupp_ni, p49, p50, hk, z]
    exact q
theorem cRound (hc : cOk f G cn N D sh pp mm) {r n : Int} (hQ : ∀ m, cOk f G (oRound cn r n).1 N D sh pp m → frX sh mm sh m → Q (zI (oRound cn r n).2) sh pp m) : zS 124 0 [zR 13, zI r, zI n] [] sh pp mm Q := by
  have h := hc.1
  have k13 := k_13 h
  have k48 := k_48 h
  have p48 := p_13_6 h
  unfold oRound at hQ
  by_cases g1 : 1 ≤ r ∧ r ≤ 7
  · by_cases g2 : 1 ≤ n ∧ n ≤ 6
    · rw [if_pos ⟨g1, g2⟩] at hQ
      by_cases g3 : 2 * r < n
      · rw [if_pos g3] at hQ
        have zq := cBadP hc (i := 1) (by decide) (by decide) hQ
        simp (disch := first | assumption | omega) only [rX_round_0, rX_round_1, rX_round_2, rX_round_4, rX_round_7, rX_round_10, rX_round_11, rX_round_12, rX_round_14, rX_round_17, rX_round_20, rX_round_21, rX_round_22, rX_round_24, rX_round_27, rX_round_28, rX_round_29, rX_round_30, rX_round_31, rX_round_32, rX_round_35, rX_round_36, rX_round_37, rX_round_39, rX_round_42, kX_isWithin, kX_refuse h, Bool.false_eq_true, true_implies, false_implies, implies_true, true_and, and_true, not_true_eq_false, not_false_eq_true, zPush_I, zPush_L, zPush_R, zPush_U, Int.reduceLT, Int.reduceLE, Int.reduceEq, Int.reduceNe, Int.reduceAdd, Int.reduceSub, Int.reduceMul, Int.reduceNeg, Int.reduceToNat, Nat.reduceAdd, Nat.reduceMul, Nat.reduceEqDiff, zw32_id, zw64_id, zupd_eq, zupd_na, zupd_ni, zupp_eq, zupp_na, zupp_ni, eq_true g1, eq_true g2, eq_true g3]
        exact zq
      · rw [if_neg g3] at hQ
        simp (disch := first | assumption | omega) only [rX_round_0, rX_round_1, rX_round_2, rX_round_4, rX_round_7, rX_round_10, rX_round_11, rX_round_12, rX_round_14, rX_round_17, rX_round_20, rX_round_21, rX_round_22, rX_round_24, rX_round_27, rX_round_28, rX_round_29, rX_round_30, rX_round_31, rX_round_32, rX_round_43, rX_round_44, rX_round_47, rX_round_48, rX_round_49, kX_isWithin, Bool.false_eq_true, true_implies, false_implies, implies_true, true_and, and_true, not_true_eq_false, not_false_eq_true, zPush_I, zPush_L, zPush_R, zPush_U, Int.reduceLT, Int.reduceLE, Int.reduceEq, Int.reduceNe, Int.reduceAdd, Int.reduceSub, Int.reduceMul, Int.reduceNeg, Int.reduceToNat, Nat.reduceAdd, Nat.reduceMul, Nat.reduceEqDiff, zw32_id, zw64_id, zupd_eq, zupd_na, zupd_ni, zupp_eq, zupp_na, zupp_ni, p48, eq_true g1, eq_true g2, eq_false g3]
        obtain ⟨n', hn'⟩ : ∃ k : Nat, n = (k : Int) := ⟨n.toNat, by omega⟩
        obtain ⟨r', hr'⟩ : ∃ k : Nat, r = (k : Int) := ⟨r.toNat, by omega⟩
        rw [hn', hr'] at hQ ⊢
        rw [Int.toNat_natCast, Int.toNat_natCast] at hQ
        obtain ⟨c1, c2, c3, c4, c5, c6, c7, c8, c9, c10, c11⟩ := id hc
        refine cLeast h c8 (by omega) (by omega) (by omega) (by omega) (fun m1 f1 q1 => ?_)
        have zq := hQ m1 (cOk_mk hc (sm_fr f1 (fun x j hj => by unfold quF at hj; omega)) (stI_sm c3 (sm_fr f1 (fun x j hj => by unfold quF at hj; omega))) (fun j j0 j1 => by rw [f1 _ _ (by unfold quF; omega)]; exact c5 j j0 j1) (fun p hp => cPr_sm (c6 p hp) (sm_fr f1 (fun x j hj => by unfold quF at hj; omega))) (cNt_sm c7 (sm_fr f1 (fun x j hj => by unfold quF at hj; omega))) q1 ⟨bG_sm c9.1 (sm_fr f1 (fun x j hj => by unfold quF at hj; omega)), bG_sm c9.2 (sm_fr f1 (fun x j hj => by unfold quF at hj; omega))⟩ (fun x hx => by funext j; exact f1 x j (by unfold quF; omega))) (frX_P f1 (fun x j hj => by unfold quF at hj; omega))
        simp (disch := first | assumption | omega) only [rX_round_52, Bool.false_eq_true, true_implies, false_implies, implies_true, true_and, and_true, not_true_eq_false, not_false_eq_true, zPush_I, zPush_L, zPush_R, zPush_U, Int.reduceLT, Int.reduceLE, Int.reduceEq, Int.reduceNe, Int.reduceAdd, Int.reduceSub, Int.reduceMul, Int.reduceNeg, Int.reduceToNat, Nat.reduceAdd, Nat.reduceMul, Nat.reduceEqDiff, zw32_id, zw64_id, zupd_eq, zupd_na, zupd_ni, zupp_eq, zupp_na, zupp_ni]
        exact zq
    · rw [if_neg (fun x => g2 x.2)] at hQ
      have zq := cBadP hc (i := 0) (by decide) (by decide) hQ
      simp (disch := first | assumption | omega) only [rX_round_0, rX_round_1, rX_round_2, rX_round_4, rX_round_7, rX_round_10, rX_round_11, rX_round_12, rX_round_14, rX_round_17, rX_round_20, rX_round_21, rX_round_22, rX_round_24, rX_round_27, kX_isWithin, kX_refuse h, Bool.false_eq_true, true_implies, false_implies, implies_true, true_and, and_true, not_true_eq_false, not_false_eq_true, zPush_I, zPush_L, zPush_R, zPush_U, Int.reduceLT, Int.reduceLE, Int.reduceEq, Int.reduceNe, Int.reduceAdd, Int.reduceSub, Int.reduceMul, Int.reduceNeg, Int.reduceToNat, Nat.reduceAdd, Nat.reduceMul, Nat.reduceEqDiff, zw32_id, zw64_id, zupd_eq, zupd_na, zupd_ni, zupp_eq, zupp_na, zupp_ni, eq_true g1, eq_false g2]
      exact zq
  · rw [if_neg (fun x => g1 x.1)] at hQ
    have zq := cBadP hc (i := 0) (by decide) (by decide) hQ
    simp (disch := first | assumption | omega) only [rX_round_0, rX_round_1, rX_round_2, rX_round_4, rX_round_7, rX_round_10, rX_round_11, rX_round_12, rX_round_14, rX_round_17, rX_round_20, rX_round_21, rX_round_22, rX_round_24, rX_round_27, kX_isWithin, kX_refuse h, Bool.false_eq_true, true_implies, false_implies, implies_true, true_and, and_true, not_true_eq_false, not_false_eq_true, zPush_I, zPush_L, zPush_R, zPush_U, Int.reduceLT, Int.reduceLE, Int.reduceEq, Int.reduceNe, Int.reduceAdd, Int.reduceSub, Int.reduceMul, Int.reduceNeg, Int.reduceToNat, Nat.reduceAdd, Nat.reduceMul, Nat.reduceEqDiff, zw32_id, zw64_id, zupd_eq, zupd_na, zupd_ni, zupp_eq, zupp_na, zupp_ni, eq_false g1]
    exact zq
end
