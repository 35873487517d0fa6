/-! ===== calls of the class: type, right, span ===== -/
theorem ty_out {p v : Int} : ∀ (k : Nat) (f : Int → Int), 0 ≤ f (9 + 121 * p) → f (9 + 121 * p) + (k : Int) ≤ 120 → ∀ j, ¬ (9 + 121 * p ≤ j ∧ j < 130 + 121 * p) → ty p v k f j = f j
  | 0, _, _, _, _, _ => rfl
  | k + 1, f, h0, h1, j, hj => by
    show ty p v k (fup (fup f (9 + 121 * p + 1 + f (9 + 121 * p)) ((v / 2 ^ (8 * k)) % 256)) (9 + 121 * p) (f (9 + 121 * p) + 1)) j = f j
    rw [ty_out k _ (by rw [fup_eq]; omega) (by rw [fup_eq]; push_cast at h1; omega) j hj, fup_ne (by omega), fup_ne (by omega)]
theorem ty_ok {q : Nat} (hq : q < 4) {v : Int} : ∀ (k : Nat) (f : Int → Int), fOk f → f (9 + 121 * (q : Int)) + (k : Int) ≤ 120 → fOk (ty (q : Int) v k f)
  | 0, _, ok, _ => ok
  | k + 1, f, ok, h1 => by
    show fOk (ty (q : Int) v k (fup (fup f (9 + 121 * (q : Int) + 1 + f (9 + 121 * (q : Int))) ((v / 2 ^ (8 * k)) % 256)) (9 + 121 * (q : Int)) (f (9 + 121 * (q : Int)) + 1)))
    obtain ⟨b1, b2, b3⟩ := ok.2.1 (q : Int) (by omega) (by omega)
    refine ty_ok hq k _ (fOkTxt ok hq (fun j hj => ?_) ⟨?_, ?_, fun j j0 j1 => ?_⟩) (by rw [fup_eq]; push_cast at h1; omega)
    · rw [fup_ne (by omega), fup_ne (by omega)]
    · rw [fup_eq]; omega
    · rw [fup_eq]; push_cast at h1; omega
    · rw [fup_eq] at j1
      rw [fup_ne (by omega)]
      by_cases hj : j = f (9 + 121 * (q : Int))
      · subst hj
        rw [fup_eq]
        omega
      · rw [fup_ne (by omega)]
        exact b3 j j0 (by omega)
section
variable {sh : zSh} {pp : zPp} {mm m' : zMm} {Q : zV → zSh → zPp → zMm → Prop} {f f' : Int → Int} {G : Int → Option (Int → Int)} {cn cn' : Int → Int} {N D N' D' : Nat}
theorem cTypeL {q : Nat} {v : Int} (hv : -9223372036854775808 ≤ v ∧ v ≤ 9223372036854775807) {t : Nat} (hL : tbL sh pp t 120) : ∀ (k : Nat) (f : Int → Int) (m : zMm), k ≤ 8 → tbI t 1 120 (f (9 + 121 * (q : Int))) (10 + 121 * (q : Int)) f m → 0 ≤ f (9 + 121 * (q : Int)) → f (9 + 121 * (q : Int)) + (k : Int) ≤ 120 → frP (fun x _ => x = t ∨ x = t + 1) mm m → (∀ m1, tbI t 1 120 (ty (q : Int) v k f (9 + 121 * (q : Int))) (10 + 121 * (q : Int)) (ty (q : Int) v k f) m1 → frP (fun x _ => x = t ∨ x = t + 1) mm m1 → zS 104 97 [zR 13, zI (q : Int), zU, zU, zU, zR t, zU] [] sh pp m1 Q) → zS 104 66 [zR 13, zI (q : Int), zL v, zU, zU, zR t, zI ((k : Int) - 1)] [] sh pp m Q := by
  have kt := hL.1
  intro k
  induction k with
  | zero =>
    intro f m _ hI h0 h1 hfr hz
    rw [rX_type_66]
    simp (disch := first | assumption | omega) only [rX_type_68, Bool.false_eq_true, true_implies, false_implies, implies_true, true_and, and_true, not_true_eq_false, not_false_eq_true, zPush_I, zPush_L, zPush_R, zPush_U, Int.reduceLT, Int.reduceLE, Int.reduceEq, Int.reduceNe, Int.reduceAdd, Int.reduceSub, Int.reduceMul, Int.reduceNeg, Int.reduceToNat, Nat.reduceAdd, Nat.reduceMul, Nat.reduceEqDiff, zw32_id, zw64_id, zupd_eq, zupd_na, zupd_ni, zupp_eq, zupp_na, zupp_ni, Int.natCast_zero]
    exact hz m hI hfr
  | succ k ih =>
    intro f m hk hI h0 h1 hfr hz
    push_cast at h1
    rw [show ((k + 1 : Nat) : Int) - 1 = (k : Int) by push_cast; omega, rX_type_66]
    have zs := zlshrD (x := v) (k := 8 * k) hv.1 hv.2 (by omega)
    rw [show ((8 * k : Nat) : Int) = 8 * (k : Int) by push_cast; rfl] at zs
    have zb : zand (zw32 (v / 2 ^ (8 * k))) 255 = (v / 2 ^ (8 * k)) % 256 := by
      rw [zand255]
      unfold zw32
      omega
    simp (disch := first | assumption | omega) only [rX_type_68, rX_type_71, rX_type_73, rX_type_74, rX_type_76, rX_type_78, rX_type_79, rX_type_80, rX_type_81, rX_type_84, rX_type_85, rX_type_86, rX_type_87, Bool.false_eq_true, true_implies, false_implies, implies_true, true_and, and_true, not_true_eq_false, not_false_eq_true, zPush_I, zPush_L, zPush_R, zPush_U, Int.reduceLT, Int.reduceLE, Int.reduceEq, Int.reduceNe, Int.reduceAdd, Int.reduceSub, Int.reduceMul, Int.reduceNeg, Int.reduceToNat, Nat.reduceAdd, Nat.reduceMul, Nat.reduceEqDiff, zw32_id, zw64_id, zupd_eq, zupd_na, zupd_ni, zupp_eq, zupp_na, zupp_ni, eq_false (show ¬ (k : Int) < 0 by omega), zs, zb]
    refine kT_add1 (f' := fup (fup f (9 + 121 * (q : Int) + 1 + f (9 + 121 * (q : Int))) ((v / 2 ^ (8 * k)) % 256)) (9 + 121 * (q : Int)) (f (9 + 121 * (q : Int)) + 1)) hL hI h0 (by omega) (by decide) (by decide) (fun j j0 j1 => ?_) ?_ (fun m1 a1 a2 => ?_)
    · rw [fup_ne (by omega), fup_ne (by omega)]
    · rw [fup_ne (by omega), show 10 + 121 * (q : Int) + f (9 + 121 * (q : Int)) = 9 + 121 * (q : Int) + 1 + f (9 + 121 * (q : Int)) by omega, fup_eq]
    · simp (disch := first | assumption | omega) only [rX_type_90, rX_type_91, rX_type_94, Bool.false_eq_true, true_implies, false_implies, implies_true, true_and, and_true, not_true_eq_false, not_false_eq_true, zPush_I, zPush_L, zPush_R, zPush_U, Int.reduceLT, Int.reduceLE, Int.reduceEq, Int.reduceNe, Int.reduceAdd, Int.reduceSub, Int.reduceMul, Int.reduceNeg, Int.reduceToNat, Nat.reduceAdd, Nat.reduceMul, Nat.reduceEqDiff, zw32_id, zw64_id, zupd_eq, zupd_na, zupd_ni, zupp_eq, zupp_na, zupp_ni]
      rw [show (k : Int) + -1 = (k : Int) - 1 by omega]
      exact ih _ m1 (by omega) (by rw [fup_eq]; exact a1) (by rw [fup_eq]; omega) (by rw [fup_eq]; omega) (frP_tr hfr a2) hz
theorem cType (hc : cOk f G cn N D sh pp mm) (ok : fOk f) {p v n : Int} (hv : -9223372036854775808 ≤ v ∧ v ≤ 9223372036854775807) (hQ : ∀ m, cOk (oType f cn p v n).1 G (oType f cn p v n).2.1 N D sh pp m → frX sh mm sh m → Q (zI (oType f cn p v n).2.2) sh pp m) : zS 104 0 [zR 13, zI p, zL v, zU, zI n, zU, zU] [] sh pp mm Q := by
  have h := hc.1
  have k13 := k_13 h
  have k14 := k_14 h
  have p14 := p_13_0 h
  have k16 := k_16 h
  have l16 := l_16 h
  have p16 := p_14_1 h
  by_cases hg : (0 ≤ p ∧ p ≤ 3) ∧ (1 ≤ n ∧ n ≤ 8)
  · obtain ⟨q, hq⟩ : ∃ q : Nat, p = (q : Int) := ⟨p.toNat, by omega⟩
    subst hq
    have hq4 : q < 4 := by omega
    have sl := stL_14 h
    have zt := sl.2.2.2.2.2.2.2.2 q hq4
    rw [show 14 + 12 + 2 * q = 26 + 2 * q by omega] at zt
    have kt := zt.1.1
    have pt : pp 16 (q : Int) = 26 + 2 * q := zt.2
    have tb := hc.2.2.1.2.2.2.2.2.2.2 q hq4
    rw [show 14 + 12 + 2 * q = 26 + 2 * q by omega] at tb
    have t3 := tb.2.2.1
    obtain ⟨b1, b2, b3⟩ := ok.2.1 (q : Int) (by omega) (by omega)
    by_cases hf : 120 < f (9 + 121 * (q : Int)) + n
    · have ze : oType f cn (q : Int) v n = (f, bump cn 2, -4) := by unfold oType; rw [if_pos hg, if_pos hf]
      rw [ze] at hQ
      dsimp only at hQ
      have zq := cBadP hc (i := 2) (by decide) (by decide) hQ
      simp (disch := first | assumption | omega) only [rX_type_0, rX_type_1, rX_type_4, rX_type_7, rX_type_9, rX_type_10, rX_type_13, rX_type_15, rX_type_17, rX_type_20, rX_type_21, rX_type_22, rX_type_24, rX_type_27, rX_type_28, rX_type_29, rX_type_32, rX_type_35, rX_type_36, rX_type_37, rX_type_39, rX_type_41, rX_type_44, rX_type_46, rX_type_47, rX_type_49, rX_type_52, rX_type_53, rX_type_54, rX_type_56, rX_type_59, kX_isProgram, kX_refuse h, Bool.false_eq_true, true_implies, false_implies, implies_true, true_and, and_true, not_true_eq_false, not_false_eq_true, zPush_I, zPush_L, zPush_R, zPush_U, Int.reduceLT, Int.reduceLE, Int.reduceEq, Int.reduceNe, Int.reduceAdd, Int.reduceSub, Int.reduceMul, Int.reduceNeg, Int.reduceToNat, Nat.reduceAdd, Nat.reduceMul, Nat.reduceEqDiff, zw32_id, zw64_id, zupd_eq, zupd_na, zupd_ni, zupp_eq, zupp_na, zupp_ni, p14, p16, pt, t3, eq_true hg.1, eq_false (show ¬ n < 1 by omega), eq_false (show ¬ 8 < n by omega), eq_true hf]
      exact zq
    · have ze : oType f cn (q : Int) v n = (ty (q : Int) v n.toNat f, cn, f (9 + 121 * (q : Int)) + n) := by unfold oType; rw [if_pos hg, if_neg hf]
      rw [ze] at hQ
      dsimp only at hQ
      simp (disch := first | assumption | omega) only [rX_type_0, rX_type_1, rX_type_4, rX_type_7, rX_type_9, rX_type_10, rX_type_13, rX_type_15, rX_type_17, rX_type_20, rX_type_21, rX_type_22, rX_type_24, rX_type_27, rX_type_28, rX_type_29, rX_type_32, rX_type_35, rX_type_36, rX_type_37, rX_type_39, rX_type_41, rX_type_44, rX_type_46, rX_type_47, rX_type_49, rX_type_52, rX_type_53, rX_type_54, rX_type_56, rX_type_59, rX_type_60, rX_type_62, rX_type_63, rX_type_64, kX_isProgram, kX_refuse h, Bool.false_eq_true, true_implies, false_implies, implies_true, true_and, and_true, not_true_eq_false, not_false_eq_true, zPush_I, zPush_L, zPush_R, zPush_U, Int.reduceLT, Int.reduceLE, Int.reduceEq, Int.reduceNe, Int.reduceAdd, Int.reduceSub, Int.reduceMul, Int.reduceNeg, Int.reduceToNat, Nat.reduceAdd, Nat.reduceMul, Nat.reduceEqDiff, zw32_id, zw64_id, zupd_eq, zupd_na, zupd_ni, zupp_eq, zupp_na, zupp_ni, p14, p16, pt, t3, eq_true hg.1, eq_false (show ¬ n < 1 by omega), eq_false (show ¬ 8 < n by omega), eq_false hf]
      have zl := cTypeL (Q := Q) (q := q) (mm := mm) hv (t := 26 + 2 * q) zt.1 n.toNat f mm (by omega) tb b1 (by omega) (frP_rf _ _) (fun m1 a1 a2 => ?_)
      · rw [Int.toNat_of_nonneg (by omega)] at zl
        exact zl
      · have e3 := a1.2.2.1
        rw [ty_len _ _ _ _ b1, Int.toNat_of_nonneg (by omega)] at e3
        have e4 : zupd (zupd m1 (66 + 14 * q) 5 0) (73 + 14 * q) 5 0 (26 + 2 * q) 3 = f (9 + 121 * (q : Int)) + n := by rw [zupd_na (by omega), zupd_na (by omega)]; exact e3
        simp (disch := first | assumption | omega) only [rX_type_97, rX_type_98, rX_type_99, rX_type_102, rX_type_104, rX_type_107, kX_outP h, Bool.false_eq_true, true_implies, false_implies, implies_true, true_and, and_true, not_true_eq_false, not_false_eq_true, zPush_I, zPush_L, zPush_R, zPush_U, Int.reduceLT, Int.reduceLE, Int.reduceEq, Int.reduceNe, Int.reduceAdd, Int.reduceSub, Int.reduceMul, Int.reduceNeg, Int.reduceToNat, Nat.reduceAdd, Nat.reduceMul, Nat.reduceEqDiff, zw32_id, zw64_id, zupd_eq, zupd_na, zupd_ni, zupp_eq, zupp_na, zupp_ni, e3]
        have hc1 := cOk_oP hc hq4
        refine hQ _ (cNowTxt hc1 ok hq4 ⟨by rw [zupd_na (by omega), zupd_eq], zupd_eq _ _ _ _⟩ (ty_out _ _ b1 (by omega)) (frP_wd (fr_zu (fr_zu a2)) (fun x j hj => by omega)) (tbI_sm a1 ?_ ?_)) (frX_up (frX_up (frX_P a2 (by omega)) (by omega) (by omega)) (by omega) (by omega))
        · funext j; rw [zupd_na (by omega), zupd_na (by omega)]
        · funext j; rw [zupd_na (by omega), zupd_na (by omega)]
  · have ze : oType f cn p v n = (f, bump cn 0, -2) := by unfold oType; rw [if_neg hg]
    rw [ze] at hQ
    dsimp only at hQ
    have zq := cBadP hc (i := 0) (by decide) (by decide) hQ
    by_cases hp : 0 ≤ p ∧ p ≤ 3
    · by_cases h1 : n < 1
      · simp (disch := first | assumption | omega) only [rX_type_0, rX_type_1, rX_type_4, rX_type_7, rX_type_9, rX_type_10, rX_type_13, rX_type_15, rX_type_17, rX_type_20, rX_type_21, rX_type_22, rX_type_24, rX_type_27, rX_type_28, rX_type_29, kX_isProgram, kX_refuse h, Bool.false_eq_true, true_implies, false_implies, implies_true, true_and, and_true, not_true_eq_false, not_false_eq_true, zPush_I, zPush_L, zPush_R, zPush_U, Int.reduceLT, Int.reduceLE, Int.reduceEq, Int.reduceNe, Int.reduceAdd, Int.reduceSub, Int.reduceMul, Int.reduceNeg, Int.reduceToNat, Nat.reduceAdd, Nat.reduceMul, Nat.reduceEqDiff, zw32_id, zw64_id, zupd_eq, zupd_na, zupd_ni, zupp_eq, zupp_na, zupp_ni, eq_true hp, eq_true h1]
        exact zq
      · simp (disch := first | assumption | omega) only [rX_type_0, rX_type_1, rX_type_4, rX_type_7, rX_type_9, rX_type_10, rX_type_13, rX_type_15, rX_type_17, rX_type_20, rX_type_21, rX_type_22, rX_type_24, rX_type_27, rX_type_28, rX_type_29, kX_isProgram, kX_refuse h, Bool.false_eq_true, true_implies, false_implies, implies_true, true_and, and_true, not_true_eq_false, not_false_eq_true, zPush_I, zPush_L, zPush_R, zPush_U, Int.reduceLT, Int.reduceLE, Int.reduceEq, Int.reduceNe, Int.reduceAdd, Int.reduceSub, Int.reduceMul, Int.reduceNeg, Int.reduceToNat, Nat.reduceAdd, Nat.reduceMul, Nat.reduceEqDiff, zw32_id, zw64_id, zupd_eq, zupd_na, zupd_ni, zupp_eq, zupp_na, zupp_ni, eq_true hp, eq_false h1, eq_true (show 8 < n by omega)]
        exact zq
    · simp (disch := first | assumption | omega) only [rX_type_0, rX_type_1, rX_type_4, rX_type_7, rX_type_9, rX_type_10, rX_type_13, rX_type_15, rX_type_17, rX_type_20, rX_type_21, rX_type_22, rX_type_24, rX_type_27, rX_type_28, rX_type_29, kX_isProgram, kX_refuse h, Bool.false_eq_true, true_implies, false_implies, implies_true, true_and, and_true, not_true_eq_false, not_false_eq_true, zPush_I, zPush_L, zPush_R, zPush_U, Int.reduceLT, Int.reduceLE, Int.reduceEq, Int.reduceNe, Int.reduceAdd, Int.reduceSub, Int.reduceMul, Int.reduceNeg, Int.reduceToNat, Nat.reduceAdd, Nat.reduceMul, Nat.reduceEqDiff, zw32_id, zw64_id, zupd_eq, zupd_na, zupd_ni, zupp_eq, zupp_na, zupp_ni, eq_false hp]
      exact zq
end
