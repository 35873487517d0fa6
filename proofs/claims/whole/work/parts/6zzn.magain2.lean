/-! ===== nets of the reference: again ===== -/
section
variable {sh : zSh} {pp : zPp} {mm : zMm} {Q : zV → zSh → zPp → zMm → Prop} {f : Int → Int} {G : Int → Option (Int → Int)} {cn : Int → Int} {N D : Nat}
theorem agIn (h : zLy sh pp) (hm : ∀ k, 0 ≤ k → k < 986 → mm 123 k = f k) (ok : fOk f) {S : Nat} (hS : S < 4096) {O L : Int} : ∀ (d e : Nat), e + d = nE f → (zS 232 57 [zR 122, zI O, zI L, zI (S : Int), zI (prS f S e), zI (e : Int)] [] sh pp mm Q ↔ zS 232 98 [zR 122, zI O, zI L, zI (S : Int), zI (prS f S (nE f)), zU] [] sh pp mm Q) := by
  have k122 := k_122 h
  have k123 := k_123 h
  have l123 := l_123 h
  have p123 := p_122_0 h
  have l := nE_le ok
  have e9 : mm 123 983 = (nE f : Int) := by rw [hm _ (by decide) (by decide)]; exact nE_eq ok
  intro d
  induction d with
  | zero =>
    intro e he
    have he' : e = nE f := by omega
    rw [rM_again_57]
    simp (disch := first | assumption | omega) only [rM_again_59, rM_again_60, rM_again_61, rM_again_64, rM_many_0, rM_many_1, rM_many_4, rM_many_7, rM_many_8, rM_many_9, rM_many_10, Bool.false_eq_true, true_implies, false_implies, implies_true, true_and, and_true, not_true_eq_false, not_false_eq_true, zPush_I, zPush_L, zPush_R, zPush_U, Int.reduceLT, Int.reduceLE, Int.reduceEq, Int.reduceNe, Int.reduceAdd, Int.reduceSub, Int.reduceMul, Int.reduceNeg, Int.reduceToNat, Nat.reduceAdd, Nat.reduceMul, Nat.reduceEqDiff, zw32_id, zw64_id, zupd_eq, zupd_na, zupd_ni, zupp_eq, zupp_na, zupp_ni, p123, e9, eq_false (show ¬ (e : Int) < (nE f : Int) by omega)]
    rw [he']
  | succ d ih =>
    intro e he
    have zi := ih (e + 1) (by omega)
    rw [show ((e + 1 : Nat) : Int) = (e : Int) + 1 by omega] at zi
    have es : prS f S (e + 1) = prS f S e + (if S.testBit e = true then nPr f e else 0) := rfl
    have zb := prS_bd ok (S := S) e (by omega)
    have zp := nPr_bd ok (e := e) (by omega)
    have hb := bit_i (R := S) (k := e) (by omega) (by omega)
    have hp := fun (Q : zV → zSh → zPp → zMm → Prop) => kM_priceOf (Q := Q) h hm ok (e := e) (by omega)
    rw [← zi, rM_again_57, es]
    by_cases ht : S.testBit e = true
    · rw [if_pos ht] at hb ⊢
      simp (disch := first | assumption | omega) only [rM_again_59, rM_again_60, rM_again_61, rM_again_64, rM_again_67, rM_again_69, rM_again_70, rM_again_72, rM_again_73, rM_again_74, rM_again_75, rM_again_76, rM_again_79, rM_again_80, rM_again_82, rM_again_85, rM_again_88, rM_again_89, rM_again_90, rM_again_92, rM_again_95, rM_many_0, rM_many_1, rM_many_4, rM_many_7, rM_many_8, rM_many_9, rM_many_10, Bool.false_eq_true, true_implies, false_implies, implies_true, true_and, and_true, not_true_eq_false, not_false_eq_true, zPush_I, zPush_L, zPush_R, zPush_U, Int.reduceLT, Int.reduceLE, Int.reduceEq, Int.reduceNe, Int.reduceAdd, Int.reduceSub, Int.reduceMul, Int.reduceNeg, Int.reduceToNat, Nat.reduceAdd, Nat.reduceMul, Nat.reduceEqDiff, zw32_id, zw64_id, zupd_eq, zupd_na, zupd_ni, zupp_eq, zupp_na, zupp_ni, p123, e9, eq_true (show (e : Int) < (nE f : Int) by omega), hb, hp]
    · rw [if_neg ht] at hb ⊢
      simp (disch := first | assumption | omega) only [rM_again_59, rM_again_60, rM_again_61, rM_again_64, rM_again_67, rM_again_69, rM_again_70, rM_again_72, rM_again_73, rM_again_74, rM_again_75, rM_again_76, rM_again_79, rM_again_80, rM_again_82, rM_again_85, rM_again_88, rM_again_89, rM_again_90, rM_again_92, rM_again_95, rM_many_0, rM_many_1, rM_many_4, rM_many_7, rM_many_8, rM_many_9, rM_many_10, Bool.false_eq_true, true_implies, false_implies, implies_true, true_and, and_true, not_true_eq_false, not_false_eq_true, zPush_I, zPush_L, zPush_R, zPush_U, Int.reduceLT, Int.reduceLE, Int.reduceEq, Int.reduceNe, Int.reduceAdd, Int.reduceSub, Int.reduceMul, Int.reduceNeg, Int.reduceToNat, Nat.reduceAdd, Nat.reduceMul, Nat.reduceEqDiff, zw32_id, zw64_id, zupd_eq, zupd_na, zupd_ni, zupp_eq, zupp_na, zupp_ni, p123, e9, eq_true (show (e : Int) < (nE f : Int) by omega), hb, Int.add_zero]
theorem mAgain (h : zLy sh pp) (hm : mOk f G cn N D mm) (ok : fOk f) (hQ1 : ¬ hgB f = true → ∀ m, mOk f G (bump cn 1) N D m → frC mm m → Q (zI (-3)) sh pp m) (hQ2 : hgB f = true → Q (zI (agF f)) sh pp mm) : zS 232 0 [zR 122, zU, zU, zU, zU, zU] [] sh pp mm Q := by
  have k122 := k_122 h
  have k123 := k_123 h
  have l123 := l_123 h
  have p123 := p_122_0 h
  have k126 := k_126 h
  have l126 := l_126 h
  have p126 := p_122_3 h
  have l := nE_le ok
  have p12 : 2 ^ nE f ≤ 2 ^ 12 := Nat.pow_le_pow_right (by decide) l
  have pp0 : 0 < 2 ^ nE f := Nat.pow_pos (by decide)
  obtain ⟨P, hP⟩ : ∃ P, P = 2 ^ nE f := ⟨_, rfl⟩
  rw [← hP] at p12 pp0
  have p4 : P ≤ 4096 := p12
  have ek : ((P : Nat) : Int) - 1 = ((P - 1 : Nat) : Int) := by omega
  obtain ⟨O, hO⟩ : ∃ O, O = oddS (nA f) (nC f) (P - 1) (nE f) := ⟨_, rfl⟩
  have hac : ∀ e, e < nE f → nA f e ≤ 9 ∧ nC f e ≤ 9 := fun e he => ⟨(nAC ok he).2.2.2.2.2.1, (nAC ok he).2.2.2.2.2.2⟩
  have O10 : O < 1024 := by rw [hO]; exact oddS_lt (nE f) hac
  have all := fun (Q : zV → zSh → zPp → zMm → Prop) => kM_allEdges (Q := Q) h hm.1 ok
  rw [← hP, ek] at all
  have od := fun (Q : zV → zSh → zPp → zMm → Prop) (S : Nat) (hS : S < 4096) => kM_oddOf (Q := Q) h hm.1 ok hS
  simp (disch := first | assumption | omega) only [rM_again_0, rM_again_1, Bool.false_eq_true, true_implies, false_implies, implies_true, true_and, and_true, not_true_eq_false, not_false_eq_true, zPush_I, zPush_L, zPush_R, zPush_U, Int.reduceLT, Int.reduceLE, Int.reduceEq, Int.reduceNe, Int.reduceAdd, Int.reduceSub, Int.reduceMul, Int.reduceNeg, Int.reduceToNat, Nat.reduceAdd, Nat.reduceMul, Nat.reduceEqDiff, zw32_id, zw64_id, zupd_eq, zupd_na, zupd_ni, zupp_eq, zupp_na, zupp_ni]
  apply mHang h hm.1 ok
  by_cases hb : hgB f = true
  · rw [if_pos hb]
    have q2 := hQ2 hb
    have eO := fun (Q : zV → zSh → zPp → zMm → Prop) => od Q (P - 1) (by omega)
    rw [← hO] at eO
    simp (disch := first | assumption | omega) only [rM_again_4, rM_again_14, rM_again_15, rM_again_16, rM_again_19, rM_again_22, rM_again_23, rM_again_26, rM_again_27, rM_again_28, Bool.false_eq_true, true_implies, false_implies, implies_true, true_and, and_true, not_true_eq_false, not_false_eq_true, zPush_I, zPush_L, zPush_R, zPush_U, Int.reduceLT, Int.reduceLE, Int.reduceEq, Int.reduceNe, Int.reduceAdd, Int.reduceSub, Int.reduceMul, Int.reduceNeg, Int.reduceToNat, Nat.reduceAdd, Nat.reduceMul, Nat.reduceEqDiff, zw32_id, zw64_id, zupd_eq, zupd_na, zupd_ni, zupp_eq, zupp_na, zupp_ni, all, eO]
    have key : ∀ (d S : Nat), S + d = P → zS 232 29 [zR 122, zI (O : Int), zI (mnF (agG f) S), zI (S : Int), zU, zU] [] sh pp mm Q := by
      intro d
      induction d with
      | zero =>
        intro S hS
        have eS : mnF (agG f) S = agF f := by unfold agF; rw [← hP, show S = P by omega]
        rw [rM_again_29, eS]
        simp (disch := first | assumption | omega) only [rM_again_30, rM_again_31, rM_again_34, rM_again_117, rM_again_118, Bool.false_eq_true, true_implies, false_implies, implies_true, true_and, and_true, not_true_eq_false, not_false_eq_true, zPush_I, zPush_L, zPush_R, zPush_U, Int.reduceLT, Int.reduceLE, Int.reduceEq, Int.reduceNe, Int.reduceAdd, Int.reduceSub, Int.reduceMul, Int.reduceNeg, Int.reduceToNat, Nat.reduceAdd, Nat.reduceMul, Nat.reduceEqDiff, zw32_id, zw64_id, zupd_eq, zupd_na, zupd_ni, zupp_eq, zupp_na, zupp_ni, all, eq_true (show ((P - 1 : Nat) : Int) < (S : Int) by omega)]
        exact q2
      | succ d ih =>
        intro S hS
        have zi := ih (S + 1) (by omega)
        rw [show ((S + 1 : Nat) : Int) = (S : Int) + 1 by omega] at zi
        have em : mnF (agG f) (S + 1) = min (mnF (agG f) S) (agG f S) := rfl
        have eg : agG f S = if pcN (O ^^^ oddS (nA f) (nC f) S (nE f)) 12 ≤ 2 then prS f S (nE f) else 1000000 := by unfold agG; rw [← hP, ← hO]
        have zM := mnF_M (agG f) S
        have oS : oddS (nA f) (nC f) S (nE f) < 1024 := oddS_lt (nE f) hac
        have oX : O ^^^ oddS (nA f) (nC f) S (nE f) < 1024 := Nat.xor_lt_two_pow (n := 10) O10 oS
        have ex : zxor (O : Int) ((oddS (nA f) (nC f) S (nE f) : Nat) : Int) = ((O ^^^ oddS (nA f) (nC f) S (nE f) : Nat) : Int) := zxorN (by omega) (by omega)
        have eb := fun (Q : zV → zSh → zPp → zMm → Prop) => kM_bitsOf (sh := sh) (pp := pp) (mm := mm) (Q := Q) (S := O ^^^ oddS (nA f) (nC f) S (nE f)) (by omega)
        have eS := fun (Q : zV → zSh → zPp → zMm → Prop) => od Q S (by omega)
        have zb := prS_bd ok (S := S) (nE f) (Nat.le_refl _)
        rw [em, eg] at zi
        rw [rM_again_29]
        generalize mnF (agG f) S = L at *
        by_cases hc : pcN (O ^^^ oddS (nA f) (nC f) S (nE f)) 12 ≤ 2
        · rw [if_pos hc] at zi
          simp (disch := first | assumption | omega) only [rM_again_30, rM_again_31, rM_again_34, rM_again_37, rM_again_38, rM_again_39, rM_again_40, rM_again_43, rM_again_44, rM_again_47, rM_again_48, rM_again_51, rM_again_52, rM_again_54, rM_again_55, Bool.false_eq_true, true_implies, false_implies, implies_true, true_and, and_true, not_true_eq_false, not_false_eq_true, zPush_I, zPush_L, zPush_R, zPush_U, Int.reduceLT, Int.reduceLE, Int.reduceEq, Int.reduceNe, Int.reduceAdd, Int.reduceSub, Int.reduceMul, Int.reduceNeg, Int.reduceToNat, Nat.reduceAdd, Nat.reduceMul, Nat.reduceEqDiff, zw32_id, zw64_id, zupd_eq, zupd_na, zupd_ni, zupp_eq, zupp_na, zupp_ni, all, eS, ex, eb, eq_false (show ¬ ((P - 1 : Nat) : Int) < (S : Int) by omega), eq_false (show ¬ (2 : Int) < ((pcN (O ^^^ oddS (nA f) (nC f) S (nE f)) 12 : Nat) : Int) by omega)]
          refine (agIn h hm.1 ok (by omega) (nE f) 0 (by omega)).mpr ?_
          by_cases hl : prS f S (nE f) < L
          · rw [show min L (prS f S (nE f)) = prS f S (nE f) by omega] at zi
            simp (disch := first | assumption | omega) only [rM_again_98, rM_again_100, rM_again_101, rM_again_104, rM_again_106, rM_again_109, rM_again_110, rM_again_111, rM_again_114, Bool.false_eq_true, true_implies, false_implies, implies_true, true_and, and_true, not_true_eq_false, not_false_eq_true, zPush_I, zPush_L, zPush_R, zPush_U, Int.reduceLT, Int.reduceLE, Int.reduceEq, Int.reduceNe, Int.reduceAdd, Int.reduceSub, Int.reduceMul, Int.reduceNeg, Int.reduceToNat, Nat.reduceAdd, Nat.reduceMul, Nat.reduceEqDiff, zw32_id, zw64_id, zupd_eq, zupd_na, zupd_ni, zupp_eq, zupp_na, zupp_ni, eq_true hl]
            exact zi
          · rw [show min L (prS f S (nE f)) = L by omega] at zi
            simp (disch := first | assumption | omega) only [rM_again_98, rM_again_100, rM_again_101, rM_again_104, rM_again_106, rM_again_109, rM_again_110, rM_again_111, rM_again_114, Bool.false_eq_true, true_implies, false_implies, implies_true, true_and, and_true, not_true_eq_false, not_false_eq_true, zPush_I, zPush_L, zPush_R, zPush_U, Int.reduceLT, Int.reduceLE, Int.reduceEq, Int.reduceNe, Int.reduceAdd, Int.reduceSub, Int.reduceMul, Int.reduceNeg, Int.reduceToNat, Nat.reduceAdd, Nat.reduceMul, Nat.reduceEqDiff, zw32_id, zw64_id, zupd_eq, zupd_na, zupd_ni, zupp_eq, zupp_na, zupp_ni, eq_false hl]
            exact zi
        · rw [if_neg hc, show min L 1000000 = L by omega] at zi
          simp (disch := first | assumption | omega) only [rM_again_30, rM_again_31, rM_again_34, rM_again_37, rM_again_38, rM_again_39, rM_again_40, rM_again_43, rM_again_44, rM_again_47, rM_again_48, rM_again_111, rM_again_114, Bool.false_eq_true, true_implies, false_implies, implies_true, true_and, and_true, not_true_eq_false, not_false_eq_true, zPush_I, zPush_L, zPush_R, zPush_U, Int.reduceLT, Int.reduceLE, Int.reduceEq, Int.reduceNe, Int.reduceAdd, Int.reduceSub, Int.reduceMul, Int.reduceNeg, Int.reduceToNat, Nat.reduceAdd, Nat.reduceMul, Nat.reduceEqDiff, zw32_id, zw64_id, zupd_eq, zupd_na, zupd_ni, zupp_eq, zupp_na, zupp_ni, all, eS, ex, eb, eq_false (show ¬ ((P - 1 : Nat) : Int) < (S : Int) by omega), eq_true (show (2 : Int) < ((pcN (O ^^^ oddS (nA f) (nC f) S (nE f)) 12 : Nat) : Int) by omega)]
          exact zi
    exact key P 0 (by omega)
  · rw [if_neg hb]
    have q1 := hQ1 hb _ (mOk_ref hm (i := 1) (by decide) (by decide)) (frC_up (frC_rf mm) (by decide) (by decide))
    simp (disch := first | assumption | omega) only [rM_again_4, rM_again_7, rM_again_8, rM_again_10, rM_again_13, rM_no_0, rM_no_1, rM_no_4, rM_no_5, rM_no_6, rM_no_7, rM_no_8, rM_no_9, rM_no_10, rM_no_11, Bool.false_eq_true, true_implies, false_implies, implies_true, true_and, and_true, not_true_eq_false, not_false_eq_true, zPush_I, zPush_L, zPush_R, zPush_U, Int.reduceLT, Int.reduceLE, Int.reduceEq, Int.reduceNe, Int.reduceAdd, Int.reduceSub, Int.reduceMul, Int.reduceNeg, Int.reduceToNat, Nat.reduceAdd, Nat.reduceMul, Nat.reduceEqDiff, zw32_id, zw64_id, zupd_eq, zupd_na, zupd_ni, zupp_eq, zupp_na, zupp_ni, p126]
    exact q1
end
