/-! ===== nets of the reference: do they hang together ===== -/
def hgO (A C : Nat → Nat) (e : Nat) : Nat := 2 ^ A e ||| 2 ^ C e
def hgR (A C : Nat → Nat) (M : Nat) : Nat → Nat
  | 0 => M
  | n + 1 => if hgR A C M n &&& hgO A C n = 0 then hgR A C M n else hgR A C M n ||| hgO A C n
def hgN (A C : Nat → Nat) (E M : Nat) : Nat → Nat
  | 0 => M
  | r + 1 => hgR A C (hgN A C E M r) E
def hgT (A : Nat → Nat) (M : Nat) : Nat → Bool
  | 0 => true
  | n + 1 => hgT A M n && M.testBit (A n)
def hgM (f : Int → Int) : Nat := hgN (nA f) (nC f) (nE f) (if nE f = 0 then 0 else 2 ^ nA f 0) 12
def hgB (f : Int → Int) : Bool := hgT (nA f) (hgM f) (nE f)
theorem hgO_lt {A C : Nat → Nat} {e : Nat} (h : A e ≤ 9 ∧ C e ≤ 9) : hgO A C e < 1024 := Nat.or_lt_two_pow (n := 10) (two_lt10 h.1) (two_lt10 h.2)
theorem hgR_lt {A C : Nat → Nat} {M : Nat} (hM : M < 1024) : ∀ n, (∀ e, e < n → A e ≤ 9 ∧ C e ≤ 9) → hgR A C M n < 1024
  | 0, _ => hM
  | n + 1, h => by
    have i := hgR_lt hM n (fun e he => h e (by omega))
    unfold hgR
    split
    · exact i
    · exact Nat.or_lt_two_pow (n := 10) i (hgO_lt (h n (by omega)))
theorem hgN_lt {A C : Nat → Nat} {M E : Nat} (hM : M < 1024) (h : ∀ e, e < E → A e ≤ 9 ∧ C e ≤ 9) : ∀ r, hgN A C E M r < 1024
  | 0 => hM
  | r + 1 => hgR_lt (hgN_lt hM h r) E h
section
variable {sh : zSh} {pp : zPp} {mm : zMm} {Q : zV → zSh → zPp → zMm → Prop} {f : Int → Int} {G : Int → Option (Int → Int)} {cn : Int → Int} {N D : Nat}
theorem hang1 (h : zLy sh pp) (hm : ∀ k, 0 ≤ k → k < 986 → mm 123 k = f k) (ok : fOk f) {M : Nat} (hM : M < 1024) {r : Int} (hQ : zS 217 81 [zR 122, zI (hgR (nA f) (nC f) M (nE f) : Nat), zI r, zU, zU] [] sh pp mm Q) : zS 217 31 [zR 122, zI M, zI r, zI 0, zU] [] sh pp mm Q := by
  have k122 := k_122 h
  have k123 := k_123 h
  have l123 := l_123 h
  have p123 := p_122_0 h
  have e9 := hm 983 (by decide) (by decide)
  rw [nE_eq ok] at e9
  have l := nE_le ok
  have key : ∀ (d i : Nat), i + d = nE f → zS 217 31 [zR 122, zI (hgR (nA f) (nC f) M i : Nat), zI r, zI i, zU] [] sh pp mm Q := by
    intro d
    induction d with
    | zero =>
      intro i hi
      have hi : i = nE f := by omega
      subst hi
      rw [rM_hangTogether_31]
      simp (disch := first | assumption | omega) only [rM_hangTogether_32, rM_hangTogether_33, rM_hangTogether_34, rM_hangTogether_37, rM_many_0, rM_many_1, rM_many_4, rM_many_7, rM_many_8, rM_many_9, rM_many_10, Bool.false_eq_true, true_implies, false_implies, implies_true, true_and, and_true, not_true_eq_false, not_false_eq_true, zPush_I, zPush_L, zPush_R, zPush_U, Int.reduceLT, Int.reduceLE, Int.reduceEq, Int.reduceNe, Int.reduceAdd, Int.reduceSub, Int.reduceMul, Int.reduceNeg, Int.reduceToNat, Nat.reduceAdd, Nat.reduceMul, Nat.reduceEqDiff, zw32_id, zw64_id, zupd_eq, zupd_na, zupd_ni, zupp_eq, zupp_na, zupp_ni, p123, e9, Int.lt_irrefl]
      exact hQ
    | succ d ih =>
      intro i hi
      have nx := ih (i + 1) (by omega)
      have ac := nAC ok (show i < nE f by omega)
      have ea := hm (537 + 3 * (i : Int)) (by omega) (by omega)
      rw [ac.1] at ea
      have ec := hm (537 + 3 * (i : Int) + 1) (by omega) (by omega)
      rw [ac.2.1] at ec
      have la := ac.2.2.2.2.2.1
      have lc := ac.2.2.2.2.2.2
      have o := hgR_lt (A := nA f) (C := nC f) hM i (fun e he => (nAC ok (show e < nE f by omega)).2.2.2.2.2)
      have ol := hgO_lt (A := nA f) (C := nC f) (e := i) ac.2.2.2.2.2
      rw [show ((i + 1 : Nat) : Int) = (i : Int) + 1 by omega] at nx
      have es : hgR (nA f) (nC f) M (i + 1) = if hgR (nA f) (nC f) M i &&& hgO (nA f) (nC f) i = 0 then hgR (nA f) (nC f) M i else hgR (nA f) (nC f) M i ||| hgO (nA f) (nC f) i := rfl
      rw [es] at nx
      have a2 := two_lt10 la
      have c2 := two_lt10 lc
      have x1 := zshl1 (nA f i) (by omega)
      have x2 := zshl1 (nC f i) (by omega)
      have x3 : zor ((2 ^ nA f i : Nat) : Int) ((2 ^ nC f i : Nat) : Int) = ((hgO (nA f) (nC f) i : Nat) : Int) := zorN (by omega) (by omega)
      have x4 : zand ((hgR (nA f) (nC f) M i : Nat) : Int) ((hgO (nA f) (nC f) i : Nat) : Int) = ((hgR (nA f) (nC f) M i &&& hgO (nA f) (nC f) i : Nat) : Int) := zandN (by omega) (by omega)
      have x5 : zor ((hgR (nA f) (nC f) M i : Nat) : Int) ((hgO (nA f) (nC f) i : Nat) : Int) = ((hgR (nA f) (nC f) M i ||| hgO (nA f) (nC f) i : Nat) : Int) := zorN (by omega) (by omega)
      rw [rM_hangTogether_31]
      by_cases hb : hgR (nA f) (nC f) M i &&& hgO (nA f) (nC f) i = 0
      · rw [if_pos hb] at nx
        have x6 : (((hgR (nA f) (nC f) M i &&& hgO (nA f) (nC f) i : Nat) : Int) = 0) := by omega
        simp (disch := first | assumption | omega) only [rM_hangTogether_32, rM_hangTogether_33, rM_hangTogether_34, rM_hangTogether_37, rM_hangTogether_40, rM_hangTogether_41, rM_hangTogether_42, rM_hangTogether_43, rM_hangTogether_44, rM_hangTogether_47, rM_hangTogether_48, rM_hangTogether_49, rM_hangTogether_50, rM_hangTogether_51, rM_hangTogether_52, rM_hangTogether_55, rM_hangTogether_56, rM_hangTogether_57, rM_hangTogether_59, rM_hangTogether_60, rM_hangTogether_62, rM_hangTogether_63, rM_hangTogether_66, rM_hangTogether_67, rM_hangTogether_69, rM_hangTogether_70, rM_hangTogether_73, rM_hangTogether_74, rM_hangTogether_75, rM_hangTogether_78, rM_many_0, rM_many_1, rM_many_4, rM_many_7, rM_many_8, rM_many_9, rM_many_10, rM_endOf_0, rM_endOf_1, rM_endOf_4, rM_endOf_7, rM_endOf_8, rM_endOf_9, rM_endOf_10, rM_endOf_11, rM_endOf_12, rM_endOf_13, rM_endOf_14, Bool.false_eq_true, true_implies, false_implies, implies_true, true_and, and_true, not_true_eq_false, not_false_eq_true, zPush_I, zPush_L, zPush_R, zPush_U, Int.reduceLT, Int.reduceLE, Int.reduceEq, Int.reduceNe, Int.reduceAdd, Int.reduceSub, Int.reduceMul, Int.reduceNeg, Int.reduceToNat, Nat.reduceAdd, Nat.reduceMul, Nat.reduceEqDiff, zw32_id, zw64_id, zupd_eq, zupd_na, zupd_ni, zupp_eq, zupp_na, zupp_ni, p123, e9, eq_true (show (i : Int) < (nE f : Int) by omega), Int.add_zero, ea, ec, x1, x2, x3, x4, eq_true x6]
        exact nx
      · rw [if_neg hb] at nx
        have x6 : ¬ (((hgR (nA f) (nC f) M i &&& hgO (nA f) (nC f) i : Nat) : Int) = 0) := by omega
        simp (disch := first | assumption | omega) only [rM_hangTogether_32, rM_hangTogether_33, rM_hangTogether_34, rM_hangTogether_37, rM_hangTogether_40, rM_hangTogether_41, rM_hangTogether_42, rM_hangTogether_43, rM_hangTogether_44, rM_hangTogether_47, rM_hangTogether_48, rM_hangTogether_49, rM_hangTogether_50, rM_hangTogether_51, rM_hangTogether_52, rM_hangTogether_55, rM_hangTogether_56, rM_hangTogether_57, rM_hangTogether_59, rM_hangTogether_60, rM_hangTogether_62, rM_hangTogether_63, rM_hangTogether_66, rM_hangTogether_67, rM_hangTogether_69, rM_hangTogether_70, rM_hangTogether_73, rM_hangTogether_74, rM_hangTogether_75, rM_hangTogether_78, rM_many_0, rM_many_1, rM_many_4, rM_many_7, rM_many_8, rM_many_9, rM_many_10, rM_endOf_0, rM_endOf_1, rM_endOf_4, rM_endOf_7, rM_endOf_8, rM_endOf_9, rM_endOf_10, rM_endOf_11, rM_endOf_12, rM_endOf_13, rM_endOf_14, Bool.false_eq_true, true_implies, false_implies, implies_true, true_and, and_true, not_true_eq_false, not_false_eq_true, zPush_I, zPush_L, zPush_R, zPush_U, Int.reduceLT, Int.reduceLE, Int.reduceEq, Int.reduceNe, Int.reduceAdd, Int.reduceSub, Int.reduceMul, Int.reduceNeg, Int.reduceToNat, Nat.reduceAdd, Nat.reduceMul, Nat.reduceEqDiff, zw32_id, zw64_id, zupd_eq, zupd_na, zupd_ni, zupp_eq, zupp_na, zupp_ni, p123, e9, eq_true (show (i : Int) < (nE f : Int) by omega), Int.add_zero, ea, ec, x1, x2, x3, x4, x5, eq_false x6]
        exact nx
  exact key (nE f) 0 (by omega)
theorem hang2 (h : zLy sh pp) (hm : ∀ k, 0 ≤ k → k < 986 → mm 123 k = f k) (ok : fOk f) {M : Nat} (hM : M < 1024) (hQ : zS 217 87 [zR 122, zI (hgN (nA f) (nC f) (nE f) M 12 : Nat), zU, zU, zU] [] sh pp mm Q) : zS 217 23 [zR 122, zI M, zI 0, zU, zU] [] sh pp mm Q := by
  have key : ∀ (d i : Nat), i + d = 12 → zS 217 23 [zR 122, zI (hgN (nA f) (nC f) (nE f) M i : Nat), zI i, zU, zU] [] sh pp mm Q := by
    intro d
    induction d with
    | zero =>
      intro i hi
      have hi : i = 12 := by omega
      subst hi
      rw [rM_hangTogether_23]
      simp (disch := first | assumption | omega) only [rM_hangTogether_24, rM_hangTogether_26, Bool.false_eq_true, true_implies, false_implies, implies_true, true_and, and_true, not_true_eq_false, not_false_eq_true, zPush_I, zPush_L, zPush_R, zPush_U, Int.reduceLT, Int.reduceLE, Int.reduceEq, Int.reduceNe, Int.reduceAdd, Int.reduceSub, Int.reduceMul, Int.reduceNeg, Int.reduceToNat, Nat.reduceAdd, Nat.reduceMul, Nat.reduceEqDiff, zw32_id, zw64_id, zupd_eq, zupd_na, zupd_ni, zupp_eq, zupp_na, zupp_ni, Int.cast_ofNat_Int, Int.lt_irrefl]
      exact hQ
    | succ d ih =>
      intro i hi
      have nx := ih (i + 1) (by omega)
      rw [show ((i + 1 : Nat) : Int) = (i : Int) + 1 by omega] at nx
      have o := hgN_lt (A := nA f) (C := nC f) (E := nE f) hM (fun e he => (nAC ok he).2.2.2.2.2) i
      rw [rM_hangTogether_23]
      simp (disch := first | assumption | omega) only [rM_hangTogether_24, rM_hangTogether_26, rM_hangTogether_29, rM_hangTogether_30, Bool.false_eq_true, true_implies, false_implies, implies_true, true_and, and_true, not_true_eq_false, not_false_eq_true, zPush_I, zPush_L, zPush_R, zPush_U, Int.reduceLT, Int.reduceLE, Int.reduceEq, Int.reduceNe, Int.reduceAdd, Int.reduceSub, Int.reduceMul, Int.reduceNeg, Int.reduceToNat, Nat.reduceAdd, Nat.reduceMul, Nat.reduceEqDiff, zw32_id, zw64_id, zupd_eq, zupd_na, zupd_ni, zupp_eq, zupp_na, zupp_ni, eq_true (show (i : Int) < 12 by omega)]
      apply hang1 h hm ok o
      simp (disch := first | assumption | omega) only [rM_hangTogether_81, rM_hangTogether_84, Bool.false_eq_true, true_implies, false_implies, implies_true, true_and, and_true, not_true_eq_false, not_false_eq_true, zPush_I, zPush_L, zPush_R, zPush_U, Int.reduceLT, Int.reduceLE, Int.reduceEq, Int.reduceNe, Int.reduceAdd, Int.reduceSub, Int.reduceMul, Int.reduceNeg, Int.reduceToNat, Nat.reduceAdd, Nat.reduceMul, Nat.reduceEqDiff, zw32_id, zw64_id, zupd_eq, zupd_na, zupd_ni, zupp_eq, zupp_na, zupp_ni]
      exact nx
  exact key 12 0 (by omega)
theorem hang3 (h : zLy sh pp) (hm : ∀ k, 0 ≤ k → k < 986 → mm 123 k = f k) (ok : fOk f) {M : Nat} (hM : M < 1024) (hQ : Q (zI (if hgT (nA f) M (nE f) = true then 1 else 0)) sh pp mm) : zS 217 87 [zR 122, zI M, zU, zU, zU] [] sh pp mm Q := by
  have k122 := k_122 h
  have k123 := k_123 h
  have l123 := l_123 h
  have p123 := p_122_0 h
  have e9 := hm 983 (by decide) (by decide)
  rw [nE_eq ok] at e9
  have l := nE_le ok
  have key : ∀ (d i : Nat), i + d = nE f → zS 217 91 [zR 122, zI M, zI (if hgT (nA f) M i = true then 1 else 0), zI i, zU] [] sh pp mm Q := by
    intro d
    induction d with
    | zero =>
      intro i hi
      have hi : i = nE f := by omega
      subst hi
      rw [rM_hangTogether_91]
      simp (disch := first | assumption | omega) only [rM_hangTogether_92, rM_hangTogether_93, rM_hangTogether_94, rM_hangTogether_97, rM_hangTogether_130, rM_many_0, rM_many_1, rM_many_4, rM_many_7, rM_many_8, rM_many_9, rM_many_10, Bool.false_eq_true, true_implies, false_implies, implies_true, true_and, and_true, not_true_eq_false, not_false_eq_true, zPush_I, zPush_L, zPush_R, zPush_U, Int.reduceLT, Int.reduceLE, Int.reduceEq, Int.reduceNe, Int.reduceAdd, Int.reduceSub, Int.reduceMul, Int.reduceNeg, Int.reduceToNat, Nat.reduceAdd, Nat.reduceMul, Nat.reduceEqDiff, zw32_id, zw64_id, zupd_eq, zupd_na, zupd_ni, zupp_eq, zupp_na, zupp_ni, p123, e9, Int.lt_irrefl]
      rw [rM_hangTogether_131 (by split <;> simp)]
      exact hQ
    | succ d ih =>
      intro i hi
      have nx := ih (i + 1) (by omega)
      rw [show ((i + 1 : Nat) : Int) = (i : Int) + 1 by omega] at nx
      have ac := nAC ok (show i < nE f by omega)
      have ea := hm (537 + 3 * (i : Int)) (by omega) (by omega)
      rw [ac.1] at ea
      have la := ac.2.2.2.2.2.1
      have b := bit_i (show M < 2147483648 by omega) (show nA f i < 31 by omega)
      have es : hgT (nA f) M (i + 1) = (hgT (nA f) M i && M.testBit (nA f i)) := rfl
      rw [es] at nx
      rw [rM_hangTogether_91]
      by_cases hb : hgT (nA f) M i = true
      · by_cases hc : M.testBit (nA f i) = true
        · rw [hb, hc] at nx
          rw [if_pos hc] at b
          rw [if_pos hb]
          simp (disch := first | assumption | omega) only [rM_hangTogether_92, rM_hangTogether_93, rM_hangTogether_94, rM_hangTogether_97, rM_hangTogether_100, rM_hangTogether_101, rM_hangTogether_104, rM_hangTogether_105, rM_hangTogether_106, rM_hangTogether_107, rM_hangTogether_108, rM_hangTogether_111, rM_hangTogether_112, rM_hangTogether_113, rM_hangTogether_114, rM_hangTogether_115, rM_hangTogether_118, rM_hangTogether_119, rM_hangTogether_122, rM_hangTogether_123, rM_hangTogether_124, rM_hangTogether_127, rM_many_0, rM_many_1, rM_many_4, rM_many_7, rM_many_8, rM_many_9, rM_many_10, rM_endOf_0, rM_endOf_1, rM_endOf_4, rM_endOf_7, rM_endOf_8, rM_endOf_9, rM_endOf_10, rM_endOf_11, rM_endOf_12, rM_endOf_13, rM_endOf_14, Bool.false_eq_true, true_implies, false_implies, implies_true, true_and, and_true, not_true_eq_false, not_false_eq_true, zPush_I, zPush_L, zPush_R, zPush_U, Int.reduceLT, Int.reduceLE, Int.reduceEq, Int.reduceNe, Int.reduceAdd, Int.reduceSub, Int.reduceMul, Int.reduceNeg, Int.reduceToNat, Nat.reduceAdd, Nat.reduceMul, Nat.reduceEqDiff, zw32_id, zw64_id, zupd_eq, zupd_na, zupd_ni, zupp_eq, zupp_na, zupp_ni, p123, e9, eq_true (show (i : Int) < (nE f : Int) by omega), Int.add_zero, ea, b]
          exact nx
        · rw [hb, (by simpa using hc : M.testBit (nA f i) = false)] at nx
          rw [if_neg hc] at b
          rw [if_pos hb]
          simp (disch := first | assumption | omega) only [rM_hangTogether_92, rM_hangTogether_93, rM_hangTogether_94, rM_hangTogether_97, rM_hangTogether_100, rM_hangTogether_101, rM_hangTogether_104, rM_hangTogether_105, rM_hangTogether_106, rM_hangTogether_107, rM_hangTogether_108, rM_hangTogether_111, rM_hangTogether_112, rM_hangTogether_113, rM_hangTogether_114, rM_hangTogether_115, rM_hangTogether_118, rM_hangTogether_119, rM_hangTogether_122, rM_hangTogether_123, rM_hangTogether_124, rM_hangTogether_127, rM_many_0, rM_many_1, rM_many_4, rM_many_7, rM_many_8, rM_many_9, rM_many_10, rM_endOf_0, rM_endOf_1, rM_endOf_4, rM_endOf_7, rM_endOf_8, rM_endOf_9, rM_endOf_10, rM_endOf_11, rM_endOf_12, rM_endOf_13, rM_endOf_14, Bool.false_eq_true, true_implies, false_implies, implies_true, true_and, and_true, not_true_eq_false, not_false_eq_true, zPush_I, zPush_L, zPush_R, zPush_U, Int.reduceLT, Int.reduceLE, Int.reduceEq, Int.reduceNe, Int.reduceAdd, Int.reduceSub, Int.reduceMul, Int.reduceNeg, Int.reduceToNat, Nat.reduceAdd, Nat.reduceMul, Nat.reduceEqDiff, zw32_id, zw64_id, zupd_eq, zupd_na, zupd_ni, zupp_eq, zupp_na, zupp_ni, p123, e9, eq_true (show (i : Int) < (nE f : Int) by omega), Int.add_zero, ea, b]
          exact nx
      · rw [(by simpa using hb : hgT (nA f) M i = false)] at nx
        rw [if_neg hb]
        simp (disch := first | assumption | omega) only [rM_hangTogether_92, rM_hangTogether_93, rM_hangTogether_94, rM_hangTogether_97, rM_hangTogether_100, rM_hangTogether_101, rM_hangTogether_104, rM_hangTogether_105, rM_hangTogether_106, rM_hangTogether_107, rM_hangTogether_108, rM_hangTogether_111, rM_hangTogether_112, rM_hangTogether_113, rM_hangTogether_114, rM_hangTogether_115, rM_hangTogether_118, rM_hangTogether_119, rM_hangTogether_122, rM_hangTogether_123, rM_hangTogether_124, rM_hangTogether_127, rM_many_0, rM_many_1, rM_many_4, rM_many_7, rM_many_8, rM_many_9, rM_many_10, rM_endOf_0, rM_endOf_1, rM_endOf_4, rM_endOf_7, rM_endOf_8, rM_endOf_9, rM_endOf_10, rM_endOf_11, rM_endOf_12, rM_endOf_13, rM_endOf_14, Bool.false_eq_true, true_implies, false_implies, implies_true, true_and, and_true, not_true_eq_false, not_false_eq_true, zPush_I, zPush_L, zPush_R, zPush_U, Int.reduceLT, Int.reduceLE, Int.reduceEq, Int.reduceNe, Int.reduceAdd, Int.reduceSub, Int.reduceMul, Int.reduceNeg, Int.reduceToNat, Nat.reduceAdd, Nat.reduceMul, Nat.reduceEqDiff, zw32_id, zw64_id, zupd_eq, zupd_na, zupd_ni, zupp_eq, zupp_na, zupp_ni, p123, e9, eq_true (show (i : Int) < (nE f : Int) by omega)]
        exact nx
  simp (disch := first | assumption | omega) only [rM_hangTogether_87, rM_hangTogether_88, rM_hangTogether_89, rM_hangTogether_90, Bool.false_eq_true, true_implies, false_implies, implies_true, true_and, and_true, not_true_eq_false, not_false_eq_true, zPush_I, zPush_L, zPush_R, zPush_U, Int.reduceLT, Int.reduceLE, Int.reduceEq, Int.reduceNe, Int.reduceAdd, Int.reduceSub, Int.reduceMul, Int.reduceNeg, Int.reduceToNat, Nat.reduceAdd, Nat.reduceMul, Nat.reduceEqDiff, zw32_id, zw64_id, zupd_eq, zupd_na, zupd_ni, zupp_eq, zupp_na, zupp_ni]
  exact key (nE f) 0 (by omega)
theorem mHang (h : zLy sh pp) (hm : ∀ k, 0 ≤ k → k < 986 → mm 123 k = f k) (ok : fOk f) (hQ : Q (zI (if hgB f = true then 1 else 0)) sh pp mm) : zS 217 0 [zR 122, zU, zU, zU, zU] [] sh pp mm Q := by
  have k122 := k_122 h
  have k123 := k_123 h
  have l123 := l_123 h
  have p123 := p_122_0 h
  have e9 := hm 983 (by decide) (by decide)
  rw [nE_eq ok] at e9
  unfold hgB hgM at hQ
  have go : ∀ M : Nat, M < 1024 → Q (zI (if hgT (nA f) (hgN (nA f) (nC f) (nE f) M 12) (nE f) = true then 1 else 0)) sh pp mm → zS 217 20 [zR 122, zU, zU, zU, zU] [zI M] sh pp mm Q := by
    intro M hM hq
    simp (disch := first | assumption | omega) only [rM_hangTogether_20, rM_hangTogether_21, rM_hangTogether_22, Bool.false_eq_true, true_implies, false_implies, implies_true, true_and, and_true, not_true_eq_false, not_false_eq_true, zPush_I, zPush_L, zPush_R, zPush_U, Int.reduceLT, Int.reduceLE, Int.reduceEq, Int.reduceNe, Int.reduceAdd, Int.reduceSub, Int.reduceMul, Int.reduceNeg, Int.reduceToNat, Nat.reduceAdd, Nat.reduceMul, Nat.reduceEqDiff, zw32_id, zw64_id, zupd_eq, zupd_na, zupd_ni, zupp_eq, zupp_na, zupp_ni]
    exact hang2 h hm ok hM (hang3 h hm ok (hgN_lt hM (fun e he => (nAC ok he).2.2.2.2.2) 12) hq)
  by_cases h0 : nE f = 0
  · rw [if_pos h0] at hQ
    have z : ((nE f : Nat) : Int) = 0 := by omega
    simp (disch := first | assumption | omega) only [rM_hangTogether_0, rM_hangTogether_1, rM_hangTogether_2, rM_hangTogether_5, rM_hangTogether_8, rM_hangTogether_9, rM_hangTogether_12, rM_hangTogether_13, rM_hangTogether_14, rM_hangTogether_15, rM_hangTogether_16, rM_hangTogether_19, rM_many_0, rM_many_1, rM_many_4, rM_many_7, rM_many_8, rM_many_9, rM_many_10, rM_endOf_0, rM_endOf_1, rM_endOf_4, rM_endOf_7, rM_endOf_8, rM_endOf_9, rM_endOf_10, rM_endOf_11, rM_endOf_12, rM_endOf_13, rM_endOf_14, Bool.false_eq_true, true_implies, false_implies, implies_true, true_and, and_true, not_true_eq_false, not_false_eq_true, zPush_I, zPush_L, zPush_R, zPush_U, Int.reduceLT, Int.reduceLE, Int.reduceEq, Int.reduceNe, Int.reduceAdd, Int.reduceSub, Int.reduceMul, Int.reduceNeg, Int.reduceToNat, Nat.reduceAdd, Nat.reduceMul, Nat.reduceEqDiff, zw32_id, zw64_id, zupd_eq, zupd_na, zupd_ni, zupp_eq, zupp_na, zupp_ni, p123, e9, eq_true z]
    exact go 0 (by omega) hQ
  · rw [if_neg h0] at hQ
    have z : ¬ ((nE f : Nat) : Int) = 0 := by omega
    have ac := nAC ok (show 0 < nE f by omega)
    have ea := hm 537 (by omega) (by omega)
    have ac1 : f 537 = (nA f 0 : Int) := ac.1
    rw [ac1] at ea
    have x1 := zshl1 (nA f 0) (by omega)
    simp (disch := first | assumption | omega) only [rM_hangTogether_0, rM_hangTogether_1, rM_hangTogether_2, rM_hangTogether_5, rM_hangTogether_8, rM_hangTogether_9, rM_hangTogether_12, rM_hangTogether_13, rM_hangTogether_14, rM_hangTogether_15, rM_hangTogether_16, rM_hangTogether_19, rM_many_0, rM_many_1, rM_many_4, rM_many_7, rM_many_8, rM_many_9, rM_many_10, rM_endOf_0, rM_endOf_1, rM_endOf_4, rM_endOf_7, rM_endOf_8, rM_endOf_9, rM_endOf_10, rM_endOf_11, rM_endOf_12, rM_endOf_13, rM_endOf_14, Bool.false_eq_true, true_implies, false_implies, implies_true, true_and, and_true, not_true_eq_false, not_false_eq_true, zPush_I, zPush_L, zPush_R, zPush_U, Int.reduceLT, Int.reduceLE, Int.reduceEq, Int.reduceNe, Int.reduceAdd, Int.reduceSub, Int.reduceMul, Int.reduceNeg, Int.reduceToNat, Nat.reduceAdd, Nat.reduceMul, Nat.reduceEqDiff, zw32_id, zw64_id, zupd_eq, zupd_na, zupd_ni, zupp_eq, zupp_na, zupp_ni, p123, e9, eq_false z, ea, x1]
    exact go _ (two_lt10 ac.2.2.2.2.2.1) hQ
theorem mIsOnce (h : zLy sh pp) (hm : ∀ k, 0 ≤ k → k < 986 → mm 123 k = f k) (ok : fOk f) (hQ : Q (zI (if hgB f = true ∧ pcN (oddS (nA f) (nC f) (2 ^ nE f - 1) (nE f)) 12 ≤ 2 then 1 else 0)) sh pp mm) : zS 218 0 [zR 122] [] sh pp mm Q := by
  have k122 := k_122 h
  have k123 := k_123 h
  have l123 := l_123 h
  have p123 := p_122_0 h
  have l := nE_le ok
  have t : 2 ^ nE f ≤ 4096 := by simpa using Nat.pow_le_pow_right (n := 2) (by omega) l
  have t0 : 0 < 2 ^ nE f := Nat.pow_pos (by omega)
  have e : (((2 ^ nE f : Nat) : Int) - 1) = ((2 ^ nE f - 1 : Nat) : Int) := by omega
  have o := oddS_lt (R := 2 ^ nE f - 1) (nE f) (fun e he => (nAC ok he).2.2.2.2.2)
  simp (disch := first | assumption | omega) only [rM_isOnce_0, rM_isOnce_1, rM_isOnce_4, rM_isOnce_7, rM_isOnce_8, rM_isOnce_9, rM_isOnce_12, rM_isOnce_15, rM_isOnce_18, rM_isOnce_19, rM_isOnce_22, rM_isOnce_23, rM_isOnce_26, rM_isOnce_27, Bool.false_eq_true, true_implies, false_implies, implies_true, true_and, and_true, not_true_eq_false, not_false_eq_true, zPush_I, zPush_L, zPush_R, zPush_U, Int.reduceLT, Int.reduceLE, Int.reduceEq, Int.reduceNe, Int.reduceAdd, Int.reduceSub, Int.reduceMul, Int.reduceNeg, Int.reduceToNat, Nat.reduceAdd, Nat.reduceMul, Nat.reduceEqDiff, zw32_id, zw64_id, zupd_eq, zupd_na, zupd_ni, zupp_eq, zupp_na, zupp_ni]
  apply mHang h hm ok
  by_cases hb : hgB f = true
  · rw [if_pos hb]
    simp (disch := first | assumption | omega) only [rM_isOnce_0, rM_isOnce_1, rM_isOnce_4, rM_isOnce_7, rM_isOnce_8, rM_isOnce_9, rM_isOnce_12, rM_isOnce_15, rM_isOnce_18, rM_isOnce_19, rM_isOnce_22, rM_isOnce_23, rM_isOnce_26, rM_isOnce_27, Bool.false_eq_true, true_implies, false_implies, implies_true, true_and, and_true, not_true_eq_false, not_false_eq_true, zPush_I, zPush_L, zPush_R, zPush_U, Int.reduceLT, Int.reduceLE, Int.reduceEq, Int.reduceNe, Int.reduceAdd, Int.reduceSub, Int.reduceMul, Int.reduceNeg, Int.reduceToNat, Nat.reduceAdd, Nat.reduceMul, Nat.reduceEqDiff, zw32_id, zw64_id, zupd_eq, zupd_na, zupd_ni, zupp_eq, zupp_na, zupp_ni]
    rw [kM_allEdges h hm ok, e]
    simp (disch := first | assumption | omega) only [rM_isOnce_0, rM_isOnce_1, rM_isOnce_4, rM_isOnce_7, rM_isOnce_8, rM_isOnce_9, rM_isOnce_12, rM_isOnce_15, rM_isOnce_18, rM_isOnce_19, rM_isOnce_22, rM_isOnce_23, rM_isOnce_26, rM_isOnce_27, Bool.false_eq_true, true_implies, false_implies, implies_true, true_and, and_true, not_true_eq_false, not_false_eq_true, zPush_I, zPush_L, zPush_R, zPush_U, Int.reduceLT, Int.reduceLE, Int.reduceEq, Int.reduceNe, Int.reduceAdd, Int.reduceSub, Int.reduceMul, Int.reduceNeg, Int.reduceToNat, Nat.reduceAdd, Nat.reduceMul, Nat.reduceEqDiff, zw32_id, zw64_id, zupd_eq, zupd_na, zupd_ni, zupp_eq, zupp_na, zupp_ni]
    rw [kM_oddOf h hm ok (by omega)]
    simp (disch := first | assumption | omega) only [rM_isOnce_0, rM_isOnce_1, rM_isOnce_4, rM_isOnce_7, rM_isOnce_8, rM_isOnce_9, rM_isOnce_12, rM_isOnce_15, rM_isOnce_18, rM_isOnce_19, rM_isOnce_22, rM_isOnce_23, rM_isOnce_26, rM_isOnce_27, Bool.false_eq_true, true_implies, false_implies, implies_true, true_and, and_true, not_true_eq_false, not_false_eq_true, zPush_I, zPush_L, zPush_R, zPush_U, Int.reduceLT, Int.reduceLE, Int.reduceEq, Int.reduceNe, Int.reduceAdd, Int.reduceSub, Int.reduceMul, Int.reduceNeg, Int.reduceToNat, Nat.reduceAdd, Nat.reduceMul, Nat.reduceEqDiff, zw32_id, zw64_id, zupd_eq, zupd_na, zupd_ni, zupp_eq, zupp_na, zupp_ni]
    rw [kM_bitsOf (by omega)]
    by_cases hp : pcN (oddS (nA f) (nC f) (2 ^ nE f - 1) (nE f)) 12 ≤ 2
    · rw [if_pos ⟨hb, hp⟩] at hQ
      simp (disch := first | assumption | omega) only [rM_isOnce_0, rM_isOnce_1, rM_isOnce_4, rM_isOnce_7, rM_isOnce_8, rM_isOnce_9, rM_isOnce_12, rM_isOnce_15, rM_isOnce_18, rM_isOnce_19, rM_isOnce_22, rM_isOnce_23, rM_isOnce_26, rM_isOnce_27, Bool.false_eq_true, true_implies, false_implies, implies_true, true_and, and_true, not_true_eq_false, not_false_eq_true, zPush_I, zPush_L, zPush_R, zPush_U, Int.reduceLT, Int.reduceLE, Int.reduceEq, Int.reduceNe, Int.reduceAdd, Int.reduceSub, Int.reduceMul, Int.reduceNeg, Int.reduceToNat, Nat.reduceAdd, Nat.reduceMul, Nat.reduceEqDiff, zw32_id, zw64_id, zupd_eq, zupd_na, zupd_ni, zupp_eq, zupp_na, zupp_ni, eq_false (show ¬ ((2 : Int) < (pcN (oddS (nA f) (nC f) (2 ^ nE f - 1) (nE f)) 12 : Nat)) by omega), true_or, or_true]
      exact hQ
    · rw [if_neg (fun x => hp x.2)] at hQ
      simp (disch := first | assumption | omega) only [rM_isOnce_0, rM_isOnce_1, rM_isOnce_4, rM_isOnce_7, rM_isOnce_8, rM_isOnce_9, rM_isOnce_12, rM_isOnce_15, rM_isOnce_18, rM_isOnce_19, rM_isOnce_22, rM_isOnce_23, rM_isOnce_26, rM_isOnce_27, Bool.false_eq_true, true_implies, false_implies, implies_true, true_and, and_true, not_true_eq_false, not_false_eq_true, zPush_I, zPush_L, zPush_R, zPush_U, Int.reduceLT, Int.reduceLE, Int.reduceEq, Int.reduceNe, Int.reduceAdd, Int.reduceSub, Int.reduceMul, Int.reduceNeg, Int.reduceToNat, Nat.reduceAdd, Nat.reduceMul, Nat.reduceEqDiff, zw32_id, zw64_id, zupd_eq, zupd_na, zupd_ni, zupp_eq, zupp_na, zupp_ni, eq_true (show ((2 : Int) < (pcN (oddS (nA f) (nC f) (2 ^ nE f - 1) (nE f)) 12 : Nat)) by omega), true_or, or_true]
      exact hQ
  · rw [if_neg hb]
    rw [if_neg (fun x => hb x.1)] at hQ
    simp (disch := first | assumption | omega) only [rM_isOnce_0, rM_isOnce_1, rM_isOnce_4, rM_isOnce_7, rM_isOnce_8, rM_isOnce_9, rM_isOnce_12, rM_isOnce_15, rM_isOnce_18, rM_isOnce_19, rM_isOnce_22, rM_isOnce_23, rM_isOnce_26, rM_isOnce_27, Bool.false_eq_true, true_implies, false_implies, implies_true, true_and, and_true, not_true_eq_false, not_false_eq_true, zPush_I, zPush_L, zPush_R, zPush_U, Int.reduceLT, Int.reduceLE, Int.reduceEq, Int.reduceNe, Int.reduceAdd, Int.reduceSub, Int.reduceMul, Int.reduceNeg, Int.reduceToNat, Nat.reduceAdd, Nat.reduceMul, Nat.reduceEqDiff, zw32_id, zw64_id, zupd_eq, zupd_na, zupd_ni, zupp_eq, zupp_na, zupp_ni, true_or, or_true]
    exact hQ
def onB (f : Int → Int) : Bool := decide (hgB f = true ∧ pcN (oddS (nA f) (nC f) (2 ^ nE f - 1) (nE f)) 12 ≤ 2)
theorem onB_i (f : Int → Int) : onB f = true ↔ (hgB f = true ∧ pcN (oddS (nA f) (nC f) (2 ^ nE f - 1) (nE f)) 12 ≤ 2) := by
  unfold onB
  exact decide_eq_true_iff
theorem mOnce (h : zLy sh pp) (hm : mOk f G cn N D mm) (ok : fOk f) (hQ : Q (zI (if onB f = true then 1 else 0)) sh pp mm) : zS 220 0 [zR 122] [] sh pp mm Q := by
  have k122 := k_122 h
  have k123 := k_123 h
  have l123 := l_123 h
  have p123 := p_122_0 h
  simp (disch := first | assumption | omega) only [rM_once_0, rM_once_1, rM_once_4, rM_once_7, rM_once_8, rM_once_11, rM_once_12, Bool.false_eq_true, true_implies, false_implies, implies_true, true_and, and_true, not_true_eq_false, not_false_eq_true, zPush_I, zPush_L, zPush_R, zPush_U, Int.reduceLT, Int.reduceLE, Int.reduceEq, Int.reduceNe, Int.reduceAdd, Int.reduceSub, Int.reduceMul, Int.reduceNeg, Int.reduceToNat, Nat.reduceAdd, Nat.reduceMul, Nat.reduceEqDiff, zw32_id, zw64_id, zupd_eq, zupd_na, zupd_ni, zupp_eq, zupp_na, zupp_ni]
  apply mIsOnce h hm.1 ok
  by_cases hb : onB f = true
  · rw [if_pos hb] at hQ
    rw [if_pos (show hgB f = true ∧ pcN (oddS (nA f) (nC f) (2 ^ nE f - 1) (nE f)) 12 ≤ 2 from (onB_i f).mp hb)]
    simp (disch := first | assumption | omega) only [rM_once_0, rM_once_1, rM_once_4, rM_once_7, rM_once_8, rM_once_11, rM_once_12, Bool.false_eq_true, true_implies, false_implies, implies_true, true_and, and_true, not_true_eq_false, not_false_eq_true, zPush_I, zPush_L, zPush_R, zPush_U, Int.reduceLT, Int.reduceLE, Int.reduceEq, Int.reduceNe, Int.reduceAdd, Int.reduceSub, Int.reduceMul, Int.reduceNeg, Int.reduceToNat, Nat.reduceAdd, Nat.reduceMul, Nat.reduceEqDiff, zw32_id, zw64_id, zupd_eq, zupd_na, zupd_ni, zupp_eq, zupp_na, zupp_ni]
    exact hQ
  · rw [if_neg hb] at hQ
    rw [if_neg (show ¬ (hgB f = true ∧ pcN (oddS (nA f) (nC f) (2 ^ nE f - 1) (nE f)) 12 ≤ 2) from fun x => hb ((onB_i f).mpr x))]
    simp (disch := first | assumption | omega) only [rM_once_0, rM_once_1, rM_once_4, rM_once_7, rM_once_8, rM_once_11, rM_once_12, Bool.false_eq_true, true_implies, false_implies, implies_true, true_and, and_true, not_true_eq_false, not_false_eq_true, zPush_I, zPush_L, zPush_R, zPush_U, Int.reduceLT, Int.reduceLE, Int.reduceEq, Int.reduceNe, Int.reduceAdd, Int.reduceSub, Int.reduceMul, Int.reduceNeg, Int.reduceToNat, Nat.reduceAdd, Nat.reduceMul, Nat.reduceEqDiff, zw32_id, zw64_id, zupd_eq, zupd_na, zupd_ni, zupp_eq, zupp_na, zupp_ni]
    exact hQ
end
