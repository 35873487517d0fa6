/-! ===== calls of the class: right, span ===== -/
section
variable {sh : zSh} {pp : zPp} {mm m' : zMm} {Q : zV → zSh → zPp → zMm → Prop} {f f' : Int → Int} {G : Int → Option (Int → Int)} {cn cn' : Int → Int} {N D N' D' : Nat}
theorem kX_slackFor (a b c : Int) : zS 145 0 [zI a, zI b, zI c] [] sh pp mm Q ↔ Q (zI (if 0 < a then c else if a < 0 then 0 else b)) sh pp mm := by
  by_cases h1 : a = 0
  · subst h1
    simp (disch := first | assumption | omega) only [rX_slackFor_0, rX_slackFor_1, rX_slackFor_4, rX_slackFor_5, rX_slackFor_6, rX_slackFor_7, rX_slackFor_10, rX_slackFor_11, rX_slackFor_14, rX_slackFor_15, Bool.false_eq_true, true_implies, false_implies, implies_true, true_and, and_true, not_true_eq_false, not_false_eq_true, zPush_I, zPush_L, zPush_R, zPush_U, Int.reduceLT, Int.reduceLE, Int.reduceEq, Int.reduceNe, Int.reduceAdd, Int.reduceSub, Int.reduceMul, Int.reduceNeg, Int.reduceToNat, Nat.reduceAdd, Nat.reduceMul, Nat.reduceEqDiff, zw32_id, zw64_id, zupd_eq, zupd_na, zupd_ni, zupp_eq, zupp_na, zupp_ni, if_false]
  · by_cases h2 : 0 < a
    · simp (disch := first | assumption | omega) only [rX_slackFor_0, rX_slackFor_1, rX_slackFor_4, rX_slackFor_5, rX_slackFor_6, rX_slackFor_7, rX_slackFor_10, rX_slackFor_11, rX_slackFor_14, rX_slackFor_15, Bool.false_eq_true, true_implies, false_implies, implies_true, true_and, and_true, not_true_eq_false, not_false_eq_true, zPush_I, zPush_L, zPush_R, zPush_U, Int.reduceLT, Int.reduceLE, Int.reduceEq, Int.reduceNe, Int.reduceAdd, Int.reduceSub, Int.reduceMul, Int.reduceNeg, Int.reduceToNat, Nat.reduceAdd, Nat.reduceMul, Nat.reduceEqDiff, zw32_id, zw64_id, zupd_eq, zupd_na, zupd_ni, zupp_eq, zupp_na, zupp_ni, eq_false h1, eq_true h2, if_true]
    · simp (disch := first | assumption | omega) only [rX_slackFor_0, rX_slackFor_1, rX_slackFor_4, rX_slackFor_5, rX_slackFor_6, rX_slackFor_7, rX_slackFor_10, rX_slackFor_11, rX_slackFor_14, rX_slackFor_15, Bool.false_eq_true, true_implies, false_implies, implies_true, true_and, and_true, not_true_eq_false, not_false_eq_true, zPush_I, zPush_L, zPush_R, zPush_U, Int.reduceLT, Int.reduceLE, Int.reduceEq, Int.reduceNe, Int.reduceAdd, Int.reduceSub, Int.reduceMul, Int.reduceNeg, Int.reduceToNat, Nat.reduceAdd, Nat.reduceMul, Nat.reduceEqDiff, zw32_id, zw64_id, zupd_eq, zupd_na, zupd_ni, zupp_eq, zupp_na, zupp_ni, eq_false h1, eq_false h2, eq_true (show a < 0 by omega), if_true, if_false]
theorem cRightL (hc : cOk f G cn N D sh pp mm) (ok : fOk f) {w k : Int} (w1 : w < f 981) (hk : 0 ≤ k ∧ k ≤ 1) : ∀ (d i : Nat), (i : Int) + (d : Int) = w → (zS 114 51 [zR 13, zI w, zI k, zI (f k), zI (rtH f k i), zI (i : Int)] [] sh pp mm Q ↔ zS 114 84 [zR 13, zI w, zI k, zI (f k), zI (rtH f k w.toNat), zU] [] sh pp mm Q) := by
  have h := hc.1
  have k13 := k_13 h
  have k14 := k_14 h
  have p14 := p_13_0 h
  have k17 := k_17 h
  have p17 := p_14_2 h
  have k18 := k_18 h
  have l18 := l_18 h
  have p18 := p_17_2 h
  have tb : tbI 17 2 12 (f 981) 493 f mm := hc.2.2.1.2.1
  have tl : tbL sh pp 17 24 := ⟨k17, k18, l18, p18⟩
  have g2 := ok.2.2.1.2.1
  intro d
  induction d with
  | zero =>
    intro i hi
    have hw : w = (i : Int) := by omega
    subst hw
    rw [rX_right_51]
    simp (disch := first | assumption | omega) only [rX_right_53, rX_right_54, Bool.false_eq_true, true_implies, false_implies, implies_true, true_and, and_true, not_true_eq_false, not_false_eq_true, zPush_I, zPush_L, zPush_R, zPush_U, Int.reduceLT, Int.reduceLE, Int.reduceEq, Int.reduceNe, Int.reduceAdd, Int.reduceSub, Int.reduceMul, Int.reduceNeg, Int.reduceToNat, Nat.reduceAdd, Nat.reduceMul, Nat.reduceEqDiff, zw32_id, zw64_id, zupd_eq, zupd_na, zupd_ni, zupp_eq, zupp_na, zupp_ni, Int.lt_irrefl, Int.toNat_natCast]
  | succ d ih =>
    intro i hi
    push_cast at hi
    rw [rX_right_51]
    simp (disch := first | assumption | omega) only [rX_right_53, rX_right_54, rX_right_57, rX_right_58, rX_right_61, rX_right_64, rX_right_66, rX_right_67, rX_right_70, rX_right_72, rX_right_73, rX_right_76, rX_right_78, rX_right_81, kX_slackFor, Bool.false_eq_true, true_implies, false_implies, implies_true, true_and, and_true, not_true_eq_false, not_false_eq_true, zPush_I, zPush_L, zPush_R, zPush_U, Int.reduceLT, Int.reduceLE, Int.reduceEq, Int.reduceNe, Int.reduceAdd, Int.reduceSub, Int.reduceMul, Int.reduceNeg, Int.reduceToNat, Nat.reduceAdd, Nat.reduceMul, Nat.reduceEqDiff, zw32_id, zw64_id, zupd_eq, zupd_na, zupd_ni, zupp_eq, zupp_na, zupp_ni, p14, p17, eq_true (show (i : Int) < w by omega), kT_at2 tl tb (show 0 ≤ (i : Int) by omega) (show (i : Int) < f 981 by omega) hk.1 (show k < 2 by omega) (show 2 * f 981 ≤ 24 by omega) (by decide)]
    have := ih (i + 1) (by push_cast; omega)
    push_cast at this
    rw [← this]
    rfl
theorem cRight (hc : cOk f G cn N D sh pp mm) (ok : fOk f) {w k : Int} (hQ : ∀ m, cOk f G (oRight f cn w k).1 N D sh pp m → frX sh mm sh m → Q (zI (oRight f cn w k).2) sh pp m) : zS 114 0 [zR 13, zI w, zI k, zU, zU, zU] [] sh pp mm Q := by
  have h := hc.1
  have k13 := k_13 h
  have k14 := k_14 h
  have p14 := p_13_0 h
  have k17 := k_17 h
  have p17 := p_14_2 h
  have k18 := k_18 h
  have l18 := l_18 h
  have p18 := p_17_2 h
  have k15 := k_15 h
  have l15 := l_15 h
  have p15 := p_14_0 h
  have tb : tbI 17 2 12 (f 981) 493 f mm := hc.2.2.1.2.1
  have tl : tbL sh pp 17 24 := ⟨k17, k18, l18, p18⟩
  have t3 := tb.2.2.1
  have g2 := ok.2.2.1.2.1
  by_cases hg : (0 ≤ w ∧ w ≤ f 981 - 1) ∧ (0 ≤ k ∧ k ≤ 1)
  · have ze : oRight f cn w k = (cn, sz (rtH f k (w.toNat + 1) - rtH f k w.toNat)) := by unfold oRight; rw [if_pos hg]
    rw [ze] at hQ
    dsimp only at hQ
    have zq := hQ mm hc (frX_rf _ _)
    obtain ⟨hw, hk⟩ := hg
    have zn : mm 15 k = f k := hc.2.2.1.1 k (by omega) (by omega)
    have r0 := rtH_bd ok hk.1 hk.2 w.toNat
    have r1 := rtH_bd ok hk.1 hk.2 (w.toNat + 1)
    simp (disch := first | assumption | omega) only [rX_right_0, rX_right_1, rX_right_4, rX_right_5, rX_right_6, rX_right_9, rX_right_12, rX_right_15, rX_right_18, rX_right_19, rX_right_22, rX_right_25, rX_right_26, rX_right_27, rX_right_29, rX_right_32, rX_right_33, rX_right_34, rX_right_37, rX_right_40, rX_right_41, rX_right_42, rX_right_43, rX_right_44, rX_right_45, rX_right_46, rX_right_48, rX_right_49, kX_isKnob, kX_refuse h, Bool.false_eq_true, true_implies, false_implies, implies_true, true_and, and_true, not_true_eq_false, not_false_eq_true, zPush_I, zPush_L, zPush_R, zPush_U, Int.reduceLT, Int.reduceLE, Int.reduceEq, Int.reduceNe, Int.reduceAdd, Int.reduceSub, Int.reduceMul, Int.reduceNeg, Int.reduceToNat, Nat.reduceAdd, Nat.reduceMul, Nat.reduceEqDiff, zw32_id, zw64_id, zupd_eq, zupd_na, zupd_ni, zupp_eq, zupp_na, zupp_ni, p14, p17, p15, t3, eq_false (show ¬ w < 0 by omega), eq_true (show w < f 981 by omega), eq_true hk, Int.zero_add, zn]
    have zl := cRightL (Q := Q) hc ok (w := w) (k := k) (by omega) hk w.toNat 0 (by omega)
    refine zl.mpr ?_
    have er : (if 0 < f (493 + 2 * w + k) then f k else if f (493 + 2 * w + k) < 0 then 0 else rtH f k w.toNat) = rtH f k (w.toNat + 1) := by
      show _ = (if 0 < f (493 + 2 * (w.toNat : Int) + k) then f k else if f (493 + 2 * (w.toNat : Int) + k) < 0 then 0 else rtH f k w.toNat)
      rw [Int.toNat_of_nonneg hw.1]
    simp (disch := first | assumption | omega) only [rX_right_84, rX_right_85, rX_right_88, rX_right_91, rX_right_92, rX_right_93, rX_right_96, rX_right_98, rX_right_99, rX_right_102, rX_right_104, rX_right_105, rX_right_108, kX_slackFor, kJ_abs, Bool.false_eq_true, true_implies, false_implies, implies_true, true_and, and_true, not_true_eq_false, not_false_eq_true, zPush_I, zPush_L, zPush_R, zPush_U, Int.reduceLT, Int.reduceLE, Int.reduceEq, Int.reduceNe, Int.reduceAdd, Int.reduceSub, Int.reduceMul, Int.reduceNeg, Int.reduceToNat, Nat.reduceAdd, Nat.reduceMul, Nat.reduceEqDiff, zw32_id, zw64_id, zupd_eq, zupd_na, zupd_ni, zupp_eq, zupp_na, zupp_ni, p14, p17, kT_at2 tl tb (show 0 ≤ w by omega) (show w < f 981 by omega) hk.1 (show k < 2 by omega) (show 2 * f 981 ≤ 24 by omega) (by decide), er]
    exact zq
  · have ze : oRight f cn w k = (bump cn 0, -2) := by unfold oRight; rw [if_neg hg]
    rw [ze] at hQ
    dsimp only at hQ
    have zq := cBadP hc (i := 0) (by decide) (by decide) hQ
    simp (disch := first | assumption | omega) only [rX_right_0, rX_right_1, rX_right_4, rX_right_5, rX_right_6, rX_right_9, rX_right_12, rX_right_15, rX_right_18, rX_right_19, rX_right_22, rX_right_25, rX_right_26, rX_right_27, rX_right_29, rX_right_32, kX_isKnob, kX_refuse h, Bool.false_eq_true, true_implies, false_implies, implies_true, true_and, and_true, not_true_eq_false, not_false_eq_true, zPush_I, zPush_L, zPush_R, zPush_U, Int.reduceLT, Int.reduceLE, Int.reduceEq, Int.reduceNe, Int.reduceAdd, Int.reduceSub, Int.reduceMul, Int.reduceNeg, Int.reduceToNat, Nat.reduceAdd, Nat.reduceMul, Nat.reduceEqDiff, zw32_id, zw64_id, zupd_eq, zupd_na, zupd_ni, zupp_eq, zupp_na, zupp_ni, p14, p17, p15, t3]
    (repeat' (first | apply And.intro | intro _)) <;> first | exact zq | (exfalso; omega)
/-- the least and the greatest play by n tests -/
def spL (f : Int → Int) (k : Int) : Nat → Int
  | 0 => 0
  | n + 1 => if f (957 + 3 * (n : Int)) = k then max (spL f k n) (f (957 + 3 * (n : Int) + 1) - f (957 + 3 * (n : Int) + 2)) else spL f k n
def spH (f : Int → Int) (k : Int) : Nat → Int
  | 0 => 9
  | n + 1 => if f (957 + 3 * (n : Int)) = k ∧ 0 < f (957 + 3 * (n : Int) + 2) then min (spH f k n) (f (957 + 3 * (n : Int) + 1) - f (957 + 3 * (n : Int) + 2)) else spH f k n
theorem mpl_LH (ok : fOk f) {k y : Int} (y0 : 0 ≤ y) (y9 : y ≤ 9) : ∀ n : Nat, (n : Int) ≤ f 984 → (mpl f k y n = true ↔ spL f k n ≤ y ∧ y ≤ spH f k n)
  | 0, _ => by unfold mpl spL spH; simp; omega
  | n + 1, hn => by
    push_cast at hn
    have zi := mpl_LH ok (k := k) y0 y9 n (by omega)
    have zt := ok.2.2.2.2.2.1.2.2 (n : Int) (by omega) (by omega)
    unfold mpl spL spH
    simp only [Bool.and_eq_true, zi, decide_eq_true_eq]
    by_cases c1 : f (957 + 3 * (n : Int)) = k
    · by_cases c2 : 0 < f (957 + 3 * (n : Int) + 2)
      · have c3 : f (957 + 3 * (n : Int)) = k ∧ 0 < f (957 + 3 * (n : Int) + 2) := ⟨c1, c2⟩
        rw [if_pos c1, if_pos c2, if_pos c3]
        omega
      · have c3 : ¬ (f (957 + 3 * (n : Int)) = k ∧ 0 < f (957 + 3 * (n : Int) + 2)) := fun hx => c2 hx.2
        rw [if_pos c1, if_neg c2, if_neg c3]
        omega
    · have c3 : ¬ (f (957 + 3 * (n : Int)) = k ∧ 0 < f (957 + 3 * (n : Int) + 2)) := fun hx => c1 hx.1
      rw [if_neg c1, if_neg c3]
      constructor
      · exact fun hx => hx.1
      · exact fun hx => ⟨hx, Or.inl c1⟩
theorem spL_nn (ok : fOk f) {k : Int} : ∀ n : Nat, (n : Int) ≤ f 984 → 0 ≤ spL f k n ∧ spH f k n ≤ 9 ∧ spL f k n ≤ 100 ∧ -100 ≤ spH f k n
  | 0, _ => by unfold spL spH; omega
  | n + 1, hn => by
    push_cast at hn
    have zi := spL_nn ok (k := k) n (by omega)
    have zt := ok.2.2.2.2.2.1.2.2 (n : Int) (by omega) (by omega)
    unfold spL spH
    split <;> split <;> omega
theorem spF_0 {k : Int} {L H : Int} (L0 : 0 ≤ L) (hm : ∀ y : Int, 0 ≤ y → y ≤ 9 → (mpl f k y (f 984).toNat = true ↔ L ≤ y ∧ y ≤ H)) : ∀ n : Nat, n ≤ 10 → spF f k 0 n = if L < (n : Int) ∧ L ≤ H then L else -1
  | 0, _ => by unfold spF; rw [if_neg (by omega)]
  | n + 1, hn => by
    have zi := spF_0 L0 hm n (by omega)
    have zm := hm (n : Int) (by omega) (by omega)
    unfold spF
    rw [zi, show ((n + 1 : Nat) : Int) = (n : Int) + 1 by omega]
    by_cases c1 : L < (n : Int) ∧ L ≤ H
    · rw [if_pos c1, if_neg (fun hx => hx.2.elim (fun hy => absurd hy (by decide)) (fun hy => by omega)), if_pos (by omega)]
    · rw [if_neg c1]
      by_cases c2 : L = (n : Int) ∧ L ≤ H
      · rw [if_pos ⟨zm.mpr (by omega), Or.inr rfl⟩, if_pos (by omega)]; omega
      · rw [if_neg (fun hx => by have := zm.mp hx.1; omega), if_neg (by omega)]
theorem spF_1 {k : Int} {L H : Int} (L0 : 0 ≤ L) (hm : ∀ y : Int, 0 ≤ y → y ≤ 9 → (mpl f k y (f 984).toNat = true ↔ L ≤ y ∧ y ≤ H)) : ∀ n : Nat, n ≤ 10 → spF f k 1 n = if L < (n : Int) ∧ L ≤ H then min H ((n : Int) - 1) else -1
  | 0, _ => by unfold spF; rw [if_neg (by omega)]
  | n + 1, hn => by
    have zi := spF_1 L0 hm n (by omega)
    have zm := hm (n : Int) (by omega) (by omega)
    unfold spF
    rw [zi, show ((n + 1 : Nat) : Int) = (n : Int) + 1 by omega]
    by_cases c2 : L ≤ (n : Int) ∧ (n : Int) ≤ H
    · rw [if_pos ⟨zm.mpr c2, Or.inl rfl⟩, if_pos (by omega)]; omega
    · rw [if_neg (fun hx => c2 (zm.mp hx.1))]
      by_cases c1 : L < (n : Int) ∧ L ≤ H
      · rw [if_pos c1, if_pos (by omega)]; omega
      · rw [if_neg c1, if_neg (by omega)]
theorem spF_LH (ok : fOk f) {k w : Int} (hw : w = 0 ∨ w = 1) : spF f k w 10 = if spL f k (f 984).toNat ≤ spH f k (f 984).toNat then (if w = 0 then spL f k (f 984).toNat else spH f k (f 984).toNat) else -1 := by
  have g1 := ok.2.2.2.2.2.1.1
  have zn := spL_nn ok (k := k) (f 984).toNat (by omega)
  have hm : ∀ y : Int, 0 ≤ y → y ≤ 9 → (mpl f k y (f 984).toNat = true ↔ spL f k (f 984).toNat ≤ y ∧ y ≤ spH f k (f 984).toNat) := fun y y0 y9 => mpl_LH ok y0 y9 _ (by omega)
  rcases hw with rfl | rfl
  · rw [spF_0 zn.1 hm 10 (by omega), if_pos rfl]
    by_cases c : spL f k (f 984).toNat ≤ spH f k (f 984).toNat
    · rw [if_pos c, if_pos (by omega)]
    · rw [if_neg c, if_neg (by omega)]
  · rw [spF_1 zn.1 hm 10 (by omega), if_neg (show ¬ ((1 : Int) = 0) by decide)]
    by_cases c : spL f k (f 984).toNat ≤ spH f k (f 984).toNat
    · rw [if_pos c, if_pos (by omega)]; omega
    · rw [if_neg c, if_neg (by omega)]
end
