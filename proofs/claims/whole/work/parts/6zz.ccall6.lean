/-! ===== calls of the class: span ===== -/
section
variable {sh : zSh} {pp : zPp} {mm m' : zMm} {Q : zV → zSh → zPp → zMm → Prop} {f f' : Int → Int} {G : Int → Option (Int → Int)} {cn cn' : Int → Int} {N D N' D' : Nat}
theorem cSpanL (hc : cOk f G cn N D sh pp mm) (ok : fOk f) {k w : Int} : ∀ (d i : Nat), (i : Int) + (d : Int) = f 984 → (zS 130 40 [zR 13, zI k, zI w, zI (spL f k i), zI (spH f k i), zI (i : Int), zU, zU] [] sh pp mm Q ↔ zS 130 137 [zR 13, zU, zI w, zI (spL f k (f 984).toNat), zI (spH f k (f 984).toNat), zU, zU, zU] [] sh pp mm Q) := by
  have h := hc.1
  have k13 := k_13 h
  have k14 := k_14 h
  have p14 := p_13_0 h
  have k23 := k_23 h
  have p23 := p_14_5 h
  have k24 := k_24 h
  have l24 := l_24 h
  have p24 := p_23_2 h
  have tb : tbI 23 3 8 (f 984) 957 f mm := hc.2.2.1.2.2.2.2.1
  have tl : tbL sh pp 23 24 := ⟨k23, k24, l24, p24⟩
  have t3 := tb.2.2.1
  have g1 := ok.2.2.2.2.2.1.1
  have g2 := ok.2.2.2.2.2.1.2.1
  intro d
  induction d with
  | zero =>
    intro i hi
    have hw : (f 984).toNat = i := by omega
    rw [rX_span_40, hw]
    simp (disch := first | assumption | omega) only [rX_span_42, rX_span_43, rX_span_46, rX_span_49, rX_span_52, Bool.false_eq_true, true_implies, false_implies, implies_true, true_and, and_true, not_true_eq_false, not_false_eq_true, zPush_I, zPush_L, zPush_R, zPush_U, Int.reduceLT, Int.reduceLE, Int.reduceEq, Int.reduceNe, Int.reduceAdd, Int.reduceSub, Int.reduceMul, Int.reduceNeg, Int.reduceToNat, Nat.reduceAdd, Nat.reduceMul, Nat.reduceEqDiff, zw32_id, zw64_id, zupd_eq, zupd_na, zupd_ni, zupp_eq, zupp_na, zupp_ni, p14, p23, t3, eq_false (show ¬ (i : Int) < f 984 by omega)]
  | succ d ih =>
    intro i hi
    push_cast at hi
    have zi := ih (i + 1) (by push_cast; omega)
    rw [show ((i + 1 : Nat) : Int) = (i : Int) + 1 by omega] at zi
    rw [← zi, rX_span_40]
    have zt := ok.2.2.2.2.2.1.2.2 (i : Int) (by omega) (by omega)
    have zn := spL_nn ok (k := k) i (by omega)
    have a0 := fun (Q : zV → zSh → zPp → zMm → Prop) => kT_at3 (Q := Q) tl tb (show 0 ≤ (i : Int) by omega) (show (i : Int) < f 984 by omega) (c := 0) (by decide) (by decide) (by omega) (by decide)
    have a1 := fun (Q : zV → zSh → zPp → zMm → Prop) => kT_at3 (Q := Q) tl tb (show 0 ≤ (i : Int) by omega) (show (i : Int) < f 984 by omega) (c := 1) (by decide) (by decide) (by omega) (by decide)
    have a2 := fun (Q : zV → zSh → zPp → zMm → Prop) => kT_at3 (Q := Q) tl tb (show 0 ≤ (i : Int) by omega) (show (i : Int) < f 984 by omega) (c := 2) (by decide) (by decide) (by omega) (by decide)
    simp only [Int.add_zero] at a0
    have eL : spL f k (i + 1) = if f (957 + 3 * (i : Int)) = k then max (spL f k i) (f (957 + 3 * (i : Int) + 1) - f (957 + 3 * (i : Int) + 2)) else spL f k i := rfl
    have eH : spH f k (i + 1) = if f (957 + 3 * (i : Int)) = k ∧ 0 < f (957 + 3 * (i : Int) + 2) then min (spH f k i) (f (957 + 3 * (i : Int) + 1) - f (957 + 3 * (i : Int) + 2)) else spH f k i := rfl
    rw [eL, eH]
    by_cases c1 : f (957 + 3 * (i : Int)) = k
    · by_cases c2 : 0 < f (957 + 3 * (i : Int) + 2)
      · have c3 : f (957 + 3 * (i : Int)) = k ∧ 0 < f (957 + 3 * (i : Int) + 2) := ⟨c1, c2⟩
        rw [if_pos c1, if_pos c3]
        simp (disch := first | assumption | omega) only [rX_span_42, rX_span_43, rX_span_46, rX_span_49, rX_span_52, rX_span_55, rX_span_56, rX_span_59, rX_span_62, rX_span_64, rX_span_65, rX_span_68, rX_span_69, rX_span_72, rX_span_73, rX_span_76, rX_span_79, rX_span_81, rX_span_82, rX_span_85, rX_span_87, rX_span_88, rX_span_91, rX_span_94, rX_span_96, rX_span_97, rX_span_100, rX_span_102, rX_span_103, rX_span_105, rX_span_106, rX_span_108, rX_span_111, rX_span_112, rX_span_114, rX_span_117, rX_span_119, rX_span_121, rX_span_124, rX_span_127, rX_span_129, rX_span_131, rX_span_134, kJ_max, kJ_min, Bool.false_eq_true, true_implies, false_implies, implies_true, true_and, and_true, not_true_eq_false, not_false_eq_true, zPush_I, zPush_L, zPush_R, zPush_U, Int.reduceLT, Int.reduceLE, Int.reduceEq, Int.reduceNe, Int.reduceAdd, Int.reduceSub, Int.reduceMul, Int.reduceNeg, Int.reduceToNat, Nat.reduceAdd, Nat.reduceMul, Nat.reduceEqDiff, zw32_id, zw64_id, zupd_eq, zupd_na, zupd_ni, zupp_eq, zupp_na, zupp_ni, p14, p23, t3, eq_true (show (i : Int) < f 984 by omega), a0, a1, a2, eq_true c1, eq_true c2]
      · have c3 : ¬ (f (957 + 3 * (i : Int)) = k ∧ 0 < f (957 + 3 * (i : Int) + 2)) := fun hx => c2 hx.2
        rw [if_pos c1, if_neg c3]
        simp (disch := first | assumption | omega) only [rX_span_42, rX_span_43, rX_span_46, rX_span_49, rX_span_52, rX_span_55, rX_span_56, rX_span_59, rX_span_62, rX_span_64, rX_span_65, rX_span_68, rX_span_69, rX_span_72, rX_span_73, rX_span_76, rX_span_79, rX_span_81, rX_span_82, rX_span_85, rX_span_87, rX_span_88, rX_span_91, rX_span_94, rX_span_96, rX_span_97, rX_span_100, rX_span_102, rX_span_103, rX_span_105, rX_span_106, rX_span_108, rX_span_111, rX_span_112, rX_span_114, rX_span_117, rX_span_119, rX_span_121, rX_span_124, rX_span_127, rX_span_129, rX_span_131, rX_span_134, kJ_max, kJ_min, Bool.false_eq_true, true_implies, false_implies, implies_true, true_and, and_true, not_true_eq_false, not_false_eq_true, zPush_I, zPush_L, zPush_R, zPush_U, Int.reduceLT, Int.reduceLE, Int.reduceEq, Int.reduceNe, Int.reduceAdd, Int.reduceSub, Int.reduceMul, Int.reduceNeg, Int.reduceToNat, Nat.reduceAdd, Nat.reduceMul, Nat.reduceEqDiff, zw32_id, zw64_id, zupd_eq, zupd_na, zupd_ni, zupp_eq, zupp_na, zupp_ni, p14, p23, t3, eq_true (show (i : Int) < f 984 by omega), a0, a1, a2, eq_true c1, eq_false c2]
    · have c3 : ¬ (f (957 + 3 * (i : Int)) = k ∧ 0 < f (957 + 3 * (i : Int) + 2)) := fun hx => c1 hx.1
      rw [if_neg c1, if_neg c3]
      simp (disch := first | assumption | omega) only [rX_span_42, rX_span_43, rX_span_46, rX_span_49, rX_span_52, rX_span_55, rX_span_56, rX_span_59, rX_span_62, rX_span_64, rX_span_65, rX_span_68, rX_span_69, rX_span_72, rX_span_73, rX_span_76, rX_span_79, rX_span_81, rX_span_82, rX_span_85, rX_span_87, rX_span_88, rX_span_91, rX_span_94, rX_span_96, rX_span_97, rX_span_100, rX_span_102, rX_span_103, rX_span_105, rX_span_106, rX_span_108, rX_span_111, rX_span_112, rX_span_114, rX_span_117, rX_span_119, rX_span_121, rX_span_124, rX_span_127, rX_span_129, rX_span_131, rX_span_134, kJ_max, kJ_min, Bool.false_eq_true, true_implies, false_implies, implies_true, true_and, and_true, not_true_eq_false, not_false_eq_true, zPush_I, zPush_L, zPush_R, zPush_U, Int.reduceLT, Int.reduceLE, Int.reduceEq, Int.reduceNe, Int.reduceAdd, Int.reduceSub, Int.reduceMul, Int.reduceNeg, Int.reduceToNat, Nat.reduceAdd, Nat.reduceMul, Nat.reduceEqDiff, zw32_id, zw64_id, zupd_eq, zupd_na, zupd_ni, zupp_eq, zupp_na, zupp_ni, p14, p23, t3, eq_true (show (i : Int) < f 984 by omega), a0, eq_false c1]
theorem cSpan (hc : cOk f G cn N D sh pp mm) (ok : fOk f) {k w : Int} (hQ : ∀ m, cOk f G (oSpan f cn k w).1 N D sh pp m → frX sh mm sh m → Q (zI (oSpan f cn k w).2) sh pp m) : zS 130 0 [zR 13, zI k, zI w, zU, zU, zU, zU, zU] [] sh pp mm Q := by
  have h := hc.1
  have k13 := k_13 h
  have hcs := hc.2.1
  have k2 : zKd sh 2 = 30 := (hcs.1 (2, 30, 9) (by decide)).1
  have l2 : zLn sh 2 = 9 := (hcs.1 (2, 30, 9) (by decide)).2
  have k3 : zKd sh 3 = 30 := (hcs.1 (3, 30, 9) (by decide)).1
  have l3 : zLn sh 3 = 9 := (hcs.1 (3, 30, 9) (by decide)).2
  have z2 : mm 2 0 = 0 := (zCs_lo hcs (w := 0) (by decide) (by decide)).1
  have z3 : mm 3 0 = 9 := (zCs_lo hcs (w := 0) (by decide) (by decide)).2
  have g1 := ok.2.2.2.2.2.1.1
  by_cases hg : (0 ≤ k ∧ k ≤ 1) ∧ (0 ≤ w ∧ w ≤ 1)
  · have hw : w = 0 ∨ w = 1 := by omega
    have zs := spF_LH ok (k := k) hw
    have zn := spL_nn ok (k := k) (f 984).toNat (by omega)
    have zl := cSpanL (Q := Q) hc ok (k := k) (w := w) (f 984).toNat 0 (by omega)
    simp (disch := first | assumption | omega) only [rX_span_0, rX_span_1, rX_span_4, rX_span_7, rX_span_8, rX_span_9, rX_span_10, rX_span_13, rX_span_16, rX_span_17, rX_span_18, rX_span_20, rX_span_23, rX_span_24, rX_span_27, rX_span_28, rX_span_29, rX_span_30, rX_span_33, rX_span_34, rX_span_35, rX_span_37, rX_span_38, kX_isKnob, kX_isWithin, kX_refuse h, Bool.false_eq_true, true_implies, false_implies, implies_true, true_and, and_true, not_true_eq_false, not_false_eq_true, zPush_I, zPush_L, zPush_R, zPush_U, Int.reduceLT, Int.reduceLE, Int.reduceEq, Int.reduceNe, Int.reduceAdd, Int.reduceSub, Int.reduceMul, Int.reduceNeg, Int.reduceToNat, Nat.reduceAdd, Nat.reduceMul, Nat.reduceEqDiff, zw32_id, zw64_id, zupd_eq, zupd_na, zupd_ni, zupp_eq, zupp_na, zupp_ni, z2, z3, eq_true hg.1, eq_true hg.2]
    refine zl.mpr ?_
    unfold oSpan at hQ
    rw [if_pos hg, zs] at hQ
    by_cases c : spL f k (f 984).toNat ≤ spH f k (f 984).toNat
    · rw [if_pos c] at hQ
      rcases hw with rfl | rfl
      · rw [if_pos rfl, if_neg (by omega)] at hQ
        dsimp only at hQ
        have zq := hQ mm hc (frX_rf _ _)
        simp (disch := first | assumption | omega) only [rX_span_137, rX_span_138, rX_span_140, rX_span_143, rX_span_144, rX_span_145, rX_span_147, rX_span_150, rX_span_151, rX_span_152, rX_span_155, rX_span_156, rX_span_159, rX_span_161, kX_refuse h, Bool.false_eq_true, true_implies, false_implies, implies_true, true_and, and_true, not_true_eq_false, not_false_eq_true, zPush_I, zPush_L, zPush_R, zPush_U, Int.reduceLT, Int.reduceLE, Int.reduceEq, Int.reduceNe, Int.reduceAdd, Int.reduceSub, Int.reduceMul, Int.reduceNeg, Int.reduceToNat, Nat.reduceAdd, Nat.reduceMul, Nat.reduceEqDiff, zw32_id, zw64_id, zupd_eq, zupd_na, zupd_ni, zupp_eq, zupp_na, zupp_ni, eq_false (show ¬ spH f k (f 984).toNat < spL f k (f 984).toNat by omega)]
        exact zq
      · rw [if_neg (show ¬ ((1 : Int) = 0) by decide), if_neg (by omega)] at hQ
        dsimp only at hQ
        have zq := hQ mm hc (frX_rf _ _)
        simp (disch := first | assumption | omega) only [rX_span_137, rX_span_138, rX_span_140, rX_span_143, rX_span_144, rX_span_145, rX_span_147, rX_span_150, rX_span_151, rX_span_152, rX_span_155, rX_span_156, rX_span_159, rX_span_161, kX_refuse h, Bool.false_eq_true, true_implies, false_implies, implies_true, true_and, and_true, not_true_eq_false, not_false_eq_true, zPush_I, zPush_L, zPush_R, zPush_U, Int.reduceLT, Int.reduceLE, Int.reduceEq, Int.reduceNe, Int.reduceAdd, Int.reduceSub, Int.reduceMul, Int.reduceNeg, Int.reduceToNat, Nat.reduceAdd, Nat.reduceMul, Nat.reduceEqDiff, zw32_id, zw64_id, zupd_eq, zupd_na, zupd_ni, zupp_eq, zupp_na, zupp_ni, eq_false (show ¬ spH f k (f 984).toNat < spL f k (f 984).toNat by omega)]
        exact zq
    · rw [if_neg c, if_pos rfl] at hQ
      dsimp only at hQ
      have zq := cBadP hc (i := 1) (by decide) (by decide) hQ
      simp (disch := first | assumption | omega) only [rX_span_137, rX_span_138, rX_span_140, rX_span_143, rX_span_144, rX_span_145, rX_span_147, rX_span_150, rX_span_151, rX_span_152, rX_span_155, rX_span_156, rX_span_159, rX_span_161, kX_refuse h, Bool.false_eq_true, true_implies, false_implies, implies_true, true_and, and_true, not_true_eq_false, not_false_eq_true, zPush_I, zPush_L, zPush_R, zPush_U, Int.reduceLT, Int.reduceLE, Int.reduceEq, Int.reduceNe, Int.reduceAdd, Int.reduceSub, Int.reduceMul, Int.reduceNeg, Int.reduceToNat, Nat.reduceAdd, Nat.reduceMul, Nat.reduceEqDiff, zw32_id, zw64_id, zupd_eq, zupd_na, zupd_ni, zupp_eq, zupp_na, zupp_ni, eq_true (show spH f k (f 984).toNat < spL f k (f 984).toNat by omega)]
      exact zq
  · have ze : oSpan f cn k w = (bump cn 0, -2) := by unfold oSpan; rw [if_neg hg]
    rw [ze] at hQ
    dsimp only at hQ
    have zq := cBadP hc (i := 0) (by decide) (by decide) hQ
    by_cases hk : 0 ≤ k ∧ k ≤ 1
    · simp (disch := first | assumption | omega) only [rX_span_0, rX_span_1, rX_span_4, rX_span_7, rX_span_8, rX_span_9, rX_span_10, rX_span_13, rX_span_16, rX_span_17, rX_span_18, rX_span_20, rX_span_23, rX_span_24, kX_isKnob, kX_isWithin, kX_refuse h, Bool.false_eq_true, true_implies, false_implies, implies_true, true_and, and_true, not_true_eq_false, not_false_eq_true, zPush_I, zPush_L, zPush_R, zPush_U, Int.reduceLT, Int.reduceLE, Int.reduceEq, Int.reduceNe, Int.reduceAdd, Int.reduceSub, Int.reduceMul, Int.reduceNeg, Int.reduceToNat, Nat.reduceAdd, Nat.reduceMul, Nat.reduceEqDiff, zw32_id, zw64_id, zupd_eq, zupd_na, zupd_ni, zupp_eq, zupp_na, zupp_ni, eq_true hk, eq_false (show ¬ (0 ≤ w ∧ w ≤ 1) by omega)]
      exact zq
    · simp (disch := first | assumption | omega) only [rX_span_0, rX_span_1, rX_span_4, rX_span_7, rX_span_8, rX_span_9, rX_span_10, rX_span_13, rX_span_16, rX_span_17, rX_span_18, rX_span_20, rX_span_23, rX_span_24, kX_isKnob, kX_isWithin, kX_refuse h, Bool.false_eq_true, true_implies, false_implies, implies_true, true_and, and_true, not_true_eq_false, not_false_eq_true, zPush_I, zPush_L, zPush_R, zPush_U, Int.reduceLT, Int.reduceLE, Int.reduceEq, Int.reduceNe, Int.reduceAdd, Int.reduceSub, Int.reduceMul, Int.reduceNeg, Int.reduceToNat, Nat.reduceAdd, Nat.reduceMul, Nat.reduceEqDiff, zw32_id, zw64_id, zupd_eq, zupd_na, zupd_ni, zupp_eq, zupp_na, zupp_ni, eq_false hk]
      exact zq
end
