/-! ===== nets of the reference: ends ===== -/
section
variable {sh : zSh} {pp : zPp} {mm : zMm} {Q : zV → zSh → zPp → zMm → Prop} {f : Int → Int} {G : Int → Option (Int → Int)} {cn : Int → Int} {N D : Nat}
theorem kM_across (h : zLy sh pp) (hm : ∀ k, 0 ≤ k → k < 986 → mm 123 k = f k) (ok : fOk f) {e w : Nat} (he : e < nE f) : zS 213 0 [zR 122, zI e, zI w] [] sh pp mm Q ↔ ((mts (nA f) (nC f) e w → Q (zI (oth (nA f) (nC f) e w : Nat)) sh pp mm) ∧ (¬ mts (nA f) (nC f) e w → Q (zI (-1)) sh pp mm)) := by
  have k122 := k_122 h
  have k123 := k_123 h
  have l123 := l_123 h
  have p123 := p_122_0 h
  have l := nE_le ok
  have ac := nAC ok he
  have ea := hm (537 + 3 * (e : Int)) (by omega) (by omega)
  rw [ac.1] at ea
  have ec := hm (537 + 3 * (e : Int) + 1) (by omega) (by omega)
  rw [ac.2.1] at ec
  unfold mts oth
  by_cases h1 : nA f e = w
  · have i1 : ((nA f e : Nat) : Int) = (w : Int) := by omega
    simp (disch := first | assumption | omega) only [rM_across_0, rM_across_1, rM_across_2, rM_across_3, rM_across_6, rM_across_7, rM_across_10, rM_across_11, rM_across_12, rM_across_13, rM_across_16, rM_across_19, rM_across_20, rM_across_21, rM_across_22, rM_across_25, rM_across_26, rM_across_29, rM_across_30, rM_across_31, rM_across_32, rM_across_35, rM_across_38, rM_across_39, rM_endOf_0, rM_endOf_1, rM_endOf_4, rM_endOf_7, rM_endOf_8, rM_endOf_9, rM_endOf_10, rM_endOf_11, rM_endOf_12, rM_endOf_13, rM_endOf_14, Bool.false_eq_true, true_implies, false_implies, implies_true, true_and, and_true, not_true_eq_false, not_false_eq_true, zPush_I, zPush_L, zPush_R, zPush_U, Int.reduceLT, Int.reduceLE, Int.reduceEq, Int.reduceNe, Int.reduceAdd, Int.reduceSub, Int.reduceMul, Int.reduceNeg, Int.reduceToNat, Nat.reduceAdd, Nat.reduceMul, Nat.reduceEqDiff, zw32_id, zw64_id, zupd_eq, zupd_na, zupd_ni, zupp_eq, zupp_na, zupp_ni, p123, Int.add_zero, ea, ec, eq_true i1, eq_true h1, true_or, if_true]
  · have i1 : ¬ ((nA f e : Nat) : Int) = (w : Int) := by omega
    by_cases h2 : nC f e = w
    · have i2 : ((nC f e : Nat) : Int) = (w : Int) := by omega
      simp (disch := first | assumption | omega) only [rM_across_0, rM_across_1, rM_across_2, rM_across_3, rM_across_6, rM_across_7, rM_across_10, rM_across_11, rM_across_12, rM_across_13, rM_across_16, rM_across_19, rM_across_20, rM_across_21, rM_across_22, rM_across_25, rM_across_26, rM_across_29, rM_across_30, rM_across_31, rM_across_32, rM_across_35, rM_across_38, rM_across_39, rM_endOf_0, rM_endOf_1, rM_endOf_4, rM_endOf_7, rM_endOf_8, rM_endOf_9, rM_endOf_10, rM_endOf_11, rM_endOf_12, rM_endOf_13, rM_endOf_14, Bool.false_eq_true, true_implies, false_implies, implies_true, true_and, and_true, not_true_eq_false, not_false_eq_true, zPush_I, zPush_L, zPush_R, zPush_U, Int.reduceLT, Int.reduceLE, Int.reduceEq, Int.reduceNe, Int.reduceAdd, Int.reduceSub, Int.reduceMul, Int.reduceNeg, Int.reduceToNat, Nat.reduceAdd, Nat.reduceMul, Nat.reduceEqDiff, zw32_id, zw64_id, zupd_eq, zupd_na, zupd_ni, zupp_eq, zupp_na, zupp_ni, p123, Int.add_zero, ea, ec, eq_false i1, eq_false h1, eq_true i2, eq_true h2, or_true, if_false]
    · have i2 : ¬ ((nC f e : Nat) : Int) = (w : Int) := by omega
      simp (disch := first | assumption | omega) only [rM_across_0, rM_across_1, rM_across_2, rM_across_3, rM_across_6, rM_across_7, rM_across_10, rM_across_11, rM_across_12, rM_across_13, rM_across_16, rM_across_19, rM_across_20, rM_across_21, rM_across_22, rM_across_25, rM_across_26, rM_across_29, rM_across_30, rM_across_31, rM_across_32, rM_across_35, rM_across_38, rM_across_39, rM_endOf_0, rM_endOf_1, rM_endOf_4, rM_endOf_7, rM_endOf_8, rM_endOf_9, rM_endOf_10, rM_endOf_11, rM_endOf_12, rM_endOf_13, rM_endOf_14, Bool.false_eq_true, true_implies, false_implies, implies_true, true_and, and_true, not_true_eq_false, not_false_eq_true, zPush_I, zPush_L, zPush_R, zPush_U, Int.reduceLT, Int.reduceLE, Int.reduceEq, Int.reduceNe, Int.reduceAdd, Int.reduceSub, Int.reduceMul, Int.reduceNeg, Int.reduceToNat, Nat.reduceAdd, Nat.reduceMul, Nat.reduceEqDiff, zw32_id, zw64_id, zupd_eq, zupd_na, zupd_ni, zupp_eq, zupp_na, zupp_ni, p123, Int.add_zero, ea, ec, eq_false i1, eq_false h1, eq_false i2, eq_false h2, or_false]
theorem fTail (h : zLy sh pp) (ok : fOk f) {c S i : Nat} {v : Int} (hS : S < 2 ^ nE f) (hi : i < nE f) (hv : v = 0 ∨ v = 1) (hup : ∀ T : Nat, S < T → T < 2 ^ nE f → (mm 138 T = 0 ∨ mm 138 T = 1) ∧ (mm 138 T = 1 ↔ cP f c T)) {g : Int} (hg : g = 0 ∨ g = 1) (hb : g = 1 → S.testBit i = false) (nx : ∀ v' : Int, (v' = 0 ∨ v' = 1) → (v' = 1 ↔ v = 1 ∨ (g = 1 ∧ cP f c (S ||| 2 ^ i))) → zS 222 52 [zR 122, zI c, zI S, zI ((i : Int) + 1), zU] [] sh pp (zupd mm 138 S v') Q) : zS 222 99 [zR 122, zI c, zI S, zI i, zU] [zI g] sh pp (zupd mm 138 S v) Q := by
  have k122 := k_122 h
  have k138 := k_138 h
  have l138 := l_138 h
  have p138 := p_122_31 h
  have l := nE_le ok
  have t : 2 ^ nE f ≤ 4096 := by simpa using Nat.pow_le_pow_right (n := 2) (by omega) l
  have s4 : (S : Int) < 4096 := by omega
  rcases hv with rfl | rfl
  · rcases hg with rfl | rfl
    · have n := nx 0 (Or.inl rfl) (by simp)
      simp (disch := first | assumption | omega) only [rM_findEnds_99, rM_findEnds_101, rM_findEnds_102, rM_findEnds_105, rM_findEnds_106, rM_findEnds_107, rM_findEnds_110, rM_findEnds_111, rM_findEnds_112, rM_findEnds_115, rM_findEnds_117, rM_findEnds_120, rM_findEnds_121, rM_findEnds_124, rM_findEnds_125, rM_findEnds_126, rM_findEnds_127, rM_findEnds_128, rM_findEnds_129, rM_findEnds_130, rM_findEnds_133, rM_findEnds_134, rM_findEnds_137, rM_findEnds_138, rM_findEnds_139, rM_findEnds_142, Bool.false_eq_true, true_implies, false_implies, implies_true, true_and, and_true, not_true_eq_false, not_false_eq_true, zPush_I, zPush_L, zPush_R, zPush_U, Int.reduceLT, Int.reduceLE, Int.reduceEq, Int.reduceNe, Int.reduceAdd, Int.reduceSub, Int.reduceMul, Int.reduceNeg, Int.reduceToNat, Nat.reduceAdd, Nat.reduceMul, Nat.reduceEqDiff, zw32_id, zw64_id, zupd_eq, zupd_na, zupd_ni, zupp_eq, zupp_na, zupp_ni, p138, zupd_2, true_or, or_true]
      exact n
    · have hb := hb rfl
      have i2 : 2 ^ i < 2 ^ nE f := Nat.pow_lt_pow_right (by omega) hi
      have x1 := zshl1 i (by omega)
      have x2 : zor (S : Int) ((2 ^ i : Nat) : Int) = ((S ||| 2 ^ i : Nat) : Int) := zorN (by omega) (by omega)
      have lt : S ||| 2 ^ i < 2 ^ nE f := Nat.or_lt_two_pow hS i2
      have le : S ≤ S ||| 2 ^ i := Nat.left_le_or
      have ne : S ||| 2 ^ i ≠ S := by
        intro e
        have e2 : (S ||| 2 ^ i).testBit i = S.testBit i := by rw [e]
        rw [Nat.testBit_or, hb, Nat.testBit_two_pow] at e2
        simp at e2
      have u := hup (S ||| 2 ^ i) (by omega) lt
      generalize S ||| 2 ^ i = T at lt le ne u x2 nx
      have ne2 : (T : Int) ≠ (S : Int) := by omega
      have t4 : (T : Int) < 4096 := by omega
      rcases u.1 with u1 | u1
      · have n := nx 0 (Or.inl rfl) (by simp [← u.2, u1])
        simp (disch := first | assumption | omega) only [rM_findEnds_99, rM_findEnds_101, rM_findEnds_102, rM_findEnds_105, rM_findEnds_106, rM_findEnds_107, rM_findEnds_110, rM_findEnds_111, rM_findEnds_112, rM_findEnds_115, rM_findEnds_117, rM_findEnds_120, rM_findEnds_121, rM_findEnds_124, rM_findEnds_125, rM_findEnds_126, rM_findEnds_127, rM_findEnds_128, rM_findEnds_129, rM_findEnds_130, rM_findEnds_133, rM_findEnds_134, rM_findEnds_137, rM_findEnds_138, rM_findEnds_139, rM_findEnds_142, Bool.false_eq_true, true_implies, false_implies, implies_true, true_and, and_true, not_true_eq_false, not_false_eq_true, zPush_I, zPush_L, zPush_R, zPush_U, Int.reduceLT, Int.reduceLE, Int.reduceEq, Int.reduceNe, Int.reduceAdd, Int.reduceSub, Int.reduceMul, Int.reduceNeg, Int.reduceToNat, Nat.reduceAdd, Nat.reduceMul, Nat.reduceEqDiff, zw32_id, zw64_id, zupd_eq, zupd_na, zupd_ni, zupp_eq, zupp_na, zupp_ni, p138, zupd_2, true_or, or_true, x1, x2, u1]
        exact n
      · have n := nx 1 (Or.inr rfl) (by simp [← u.2, u1])
        simp (disch := first | assumption | omega) only [rM_findEnds_99, rM_findEnds_101, rM_findEnds_102, rM_findEnds_105, rM_findEnds_106, rM_findEnds_107, rM_findEnds_110, rM_findEnds_111, rM_findEnds_112, rM_findEnds_115, rM_findEnds_117, rM_findEnds_120, rM_findEnds_121, rM_findEnds_124, rM_findEnds_125, rM_findEnds_126, rM_findEnds_127, rM_findEnds_128, rM_findEnds_129, rM_findEnds_130, rM_findEnds_133, rM_findEnds_134, rM_findEnds_137, rM_findEnds_138, rM_findEnds_139, rM_findEnds_142, Bool.false_eq_true, true_implies, false_implies, implies_true, true_and, and_true, not_true_eq_false, not_false_eq_true, zPush_I, zPush_L, zPush_R, zPush_U, Int.reduceLT, Int.reduceLE, Int.reduceEq, Int.reduceNe, Int.reduceAdd, Int.reduceSub, Int.reduceMul, Int.reduceNeg, Int.reduceToNat, Nat.reduceAdd, Nat.reduceMul, Nat.reduceEqDiff, zw32_id, zw64_id, zupd_eq, zupd_na, zupd_ni, zupp_eq, zupp_na, zupp_ni, p138, zupd_2, true_or, or_true, x1, x2, u1]
        exact n
  · have n := nx 1 (Or.inr rfl) (by simp)
    simp (disch := first | assumption | omega) only [rM_findEnds_99, rM_findEnds_101, rM_findEnds_102, rM_findEnds_105, rM_findEnds_106, rM_findEnds_107, rM_findEnds_110, rM_findEnds_111, rM_findEnds_112, rM_findEnds_115, rM_findEnds_117, rM_findEnds_120, rM_findEnds_121, rM_findEnds_124, rM_findEnds_125, rM_findEnds_126, rM_findEnds_127, rM_findEnds_128, rM_findEnds_129, rM_findEnds_130, rM_findEnds_133, rM_findEnds_134, rM_findEnds_137, rM_findEnds_138, rM_findEnds_139, rM_findEnds_142, Bool.false_eq_true, true_implies, false_implies, implies_true, true_and, and_true, not_true_eq_false, not_false_eq_true, zPush_I, zPush_L, zPush_R, zPush_U, Int.reduceLT, Int.reduceLE, Int.reduceEq, Int.reduceNe, Int.reduceAdd, Int.reduceSub, Int.reduceMul, Int.reduceNeg, Int.reduceToNat, Nat.reduceAdd, Nat.reduceMul, Nat.reduceEqDiff, zw32_id, zw64_id, zupd_eq, zupd_na, zupd_ni, zupp_eq, zupp_na, zupp_ni, p138, zupd_2, true_or, or_true]
    exact n
theorem fIn (h : zLy sh pp) (hm : ∀ k, 0 ≤ k → k < 986 → mm 123 k = f k) (ok : fOk f) {c S w : Nat} (hc : c < 10) (hS : S < 2 ^ nE f) (hw : mm 137 S = (w : Int)) (hup : ∀ T : Nat, S < T → T < 2 ^ nE f → (mm 138 T = 0 ∨ mm 138 T = 1) ∧ (mm 138 T = 1 ↔ cP f c T)) (hQ : ∀ v : Int, (v = 0 ∨ v = 1) → (v = 1 ↔ S = 2 ^ nE f - 1 ∨ ∃ e, e < nE f ∧ S.testBit e = false ∧ mts (nA f) (nC f) e w ∧ cP f c (S ||| 2 ^ e)) → zS 222 145 [zR 122, zI c, zI S, zU, zU] [] sh pp (zupd mm 138 S v) Q) : ∀ (d i : Nat) (v : Int), i + d = nE f → (v = 0 ∨ v = 1) → (v = 1 ↔ S = 2 ^ nE f - 1 ∨ ∃ e, e < i ∧ S.testBit e = false ∧ mts (nA f) (nC f) e w ∧ cP f c (S ||| 2 ^ e)) → zS 222 52 [zR 122, zI c, zI S, zI i, zU] [] sh pp (zupd mm 138 S v) Q := by
  have k122 := k_122 h
  have k123 := k_123 h
  have l123 := l_123 h
  have p123 := p_122_0 h
  have k137 := k_137 h
  have l137 := l_137 h
  have p137 := p_122_30 h
  have k138 := k_138 h
  have l138 := l_138 h
  have p138 := p_122_31 h
  have l := nE_le ok
  have t : 2 ^ nE f ≤ 4096 := by simpa using Nat.pow_le_pow_right (n := 2) (by omega) l
  have s4 : (S : Int) < 4096 := by omega
  have e9 := hm 983 (by decide) (by decide)
  rw [nE_eq ok] at e9
  have nw : ¬ (w : Int) = -1 := by omega
  intro d
  induction d with
  | zero =>
    intro i v hi hv hv1
    have hi : i = nE f := by omega
    rw [← hi] at e9
    have q := hQ v hv (by rw [hv1, ← hi])
    rw [rM_findEnds_52]
    simp (disch := first | assumption | omega) only [rM_findEnds_53, rM_findEnds_54, rM_findEnds_55, rM_findEnds_58, rM_many_0, rM_many_1, rM_many_4, rM_many_7, rM_many_8, rM_many_9, rM_many_10, Bool.false_eq_true, true_implies, false_implies, implies_true, true_and, and_true, not_true_eq_false, not_false_eq_true, zPush_I, zPush_L, zPush_R, zPush_U, Int.reduceLT, Int.reduceLE, Int.reduceEq, Int.reduceNe, Int.reduceAdd, Int.reduceSub, Int.reduceMul, Int.reduceNeg, Int.reduceToNat, Nat.reduceAdd, Nat.reduceMul, Nat.reduceEqDiff, zw32_id, zw64_id, zupd_eq, zupd_na, zupd_ni, zupp_eq, zupp_na, zupp_ni, p123, e9, Int.lt_irrefl]
    exact q
  | succ d ih =>
    intro i v hi hv hv1
    have b := bit_i (show S < 2147483648 by omega) (show i < 31 by omega)
    have lt : (i : Int) < (nE f : Int) := by omega
    have hm2 : ∀ k, 0 ≤ k → k < 986 → zupd mm 138 S v 123 k = f k := fun k a b => by rw [zupd_na (by decide)]; exact hm k a b
    have tl := fun (g : Int) (hg : g = 0 ∨ g = 1) (hb : g = 1 → S.testBit i = false) (hx : g = 1 ↔ S.testBit i = false ∧ mts (nA f) (nC f) i w) => fTail (Q := Q) (c := c) h ok hS (show i < nE f by omega) hv hup hg hb (fun v' a1 a2 => by
      have n := ih (i + 1) v' (by omega) a1 (by
        rw [a2, hv1]
        constructor
        · intro x
          rcases x with (x | ⟨e, x1, x2⟩) | ⟨x1, x2⟩
          · exact Or.inl x
          · exact Or.inr ⟨e, by omega, x2⟩
          · exact Or.inr ⟨i, by omega, (hx.mp x1).1, (hx.mp x1).2, x2⟩
        · intro x
          rcases x with x | ⟨e, x1, x2, x3, x4⟩
          · exact Or.inl (Or.inl x)
          · by_cases ee : e = i
            · subst ee
              exact Or.inr ⟨hx.mpr ⟨x2, x3⟩, x4⟩
            · exact Or.inl (Or.inr ⟨e, by omega, x2, x3, x4⟩))
      rw [show ((i + 1 : Nat) : Int) = (i : Int) + 1 by omega] at n
      exact n)
    rw [rM_findEnds_52]
    by_cases hb : S.testBit i = true
    · rw [if_pos hb] at b
      have q := tl 0 (Or.inl rfl) (by simp) (by simp [hb])
      simp (disch := first | assumption | omega) only [rM_findEnds_53, rM_findEnds_54, rM_findEnds_55, rM_findEnds_58, rM_findEnds_61, rM_findEnds_62, rM_findEnds_65, rM_findEnds_66, rM_findEnds_67, rM_findEnds_68, rM_findEnds_71, rM_findEnds_72, rM_findEnds_73, rM_findEnds_74, rM_findEnds_75, rM_findEnds_76, rM_findEnds_79, rM_findEnds_80, rM_findEnds_81, rM_findEnds_82, rM_findEnds_85, rM_findEnds_86, rM_findEnds_87, rM_findEnds_90, rM_findEnds_91, rM_findEnds_94, rM_findEnds_95, rM_findEnds_98, rM_many_0, rM_many_1, rM_many_4, rM_many_7, rM_many_8, rM_many_9, rM_many_10, Bool.false_eq_true, true_implies, false_implies, implies_true, true_and, and_true, not_true_eq_false, not_false_eq_true, zPush_I, zPush_L, zPush_R, zPush_U, Int.reduceLT, Int.reduceLE, Int.reduceEq, Int.reduceNe, Int.reduceAdd, Int.reduceSub, Int.reduceMul, Int.reduceNeg, Int.reduceToNat, Nat.reduceAdd, Nat.reduceMul, Nat.reduceEqDiff, zw32_id, zw64_id, zupd_eq, zupd_na, zupd_ni, zupp_eq, zupp_na, zupp_ni, p123, p137, e9, eq_true lt, hw, eq_false nw, b]
      exact q
    · rw [if_neg hb] at b
      have hb2 : S.testBit i = false := by simpa using hb
      simp (disch := first | assumption | omega) only [rM_findEnds_53, rM_findEnds_54, rM_findEnds_55, rM_findEnds_58, rM_findEnds_61, rM_findEnds_62, rM_findEnds_65, rM_findEnds_66, rM_findEnds_67, rM_findEnds_68, rM_findEnds_71, rM_findEnds_72, rM_findEnds_73, rM_findEnds_74, rM_findEnds_75, rM_findEnds_76, rM_findEnds_79, rM_findEnds_80, rM_findEnds_81, rM_findEnds_82, rM_findEnds_85, rM_findEnds_86, rM_findEnds_87, rM_many_0, rM_many_1, rM_many_4, rM_many_7, rM_many_8, rM_many_9, rM_many_10, Bool.false_eq_true, true_implies, false_implies, implies_true, true_and, and_true, not_true_eq_false, not_false_eq_true, zPush_I, zPush_L, zPush_R, zPush_U, Int.reduceLT, Int.reduceLE, Int.reduceEq, Int.reduceNe, Int.reduceAdd, Int.reduceSub, Int.reduceMul, Int.reduceNeg, Int.reduceToNat, Nat.reduceAdd, Nat.reduceMul, Nat.reduceEqDiff, zw32_id, zw64_id, zupd_eq, zupd_na, zupd_ni, zupp_eq, zupp_na, zupp_ni, p123, p137, e9, eq_true lt, hw, eq_false nw, b]
      rw [kM_across h hm2 ok (by omega)]
      refine ⟨fun a => ?_, fun a => ?_⟩
      · have q := tl 1 (Or.inr rfl) (fun _ => hb2) (by simp [hb2, a])
        have nz : ¬ ((oth (nA f) (nC f) i w : Nat) : Int) = -1 := by omega
        simp (disch := first | assumption | omega) only [rM_findEnds_90, rM_findEnds_91, rM_findEnds_94, rM_findEnds_95, rM_findEnds_98, Bool.false_eq_true, true_implies, false_implies, implies_true, true_and, and_true, not_true_eq_false, not_false_eq_true, zPush_I, zPush_L, zPush_R, zPush_U, Int.reduceLT, Int.reduceLE, Int.reduceEq, Int.reduceNe, Int.reduceAdd, Int.reduceSub, Int.reduceMul, Int.reduceNeg, Int.reduceToNat, Nat.reduceAdd, Nat.reduceMul, Nat.reduceEqDiff, zw32_id, zw64_id, zupd_eq, zupd_na, zupd_ni, zupp_eq, zupp_na, zupp_ni, eq_false nz]
        exact q
      · have q := tl 0 (Or.inl rfl) (by simp) (by simp [a])
        simp (disch := first | assumption | omega) only [rM_findEnds_90, rM_findEnds_91, rM_findEnds_94, rM_findEnds_95, rM_findEnds_98, Bool.false_eq_true, true_implies, false_implies, implies_true, true_and, and_true, not_true_eq_false, not_false_eq_true, zPush_I, zPush_L, zPush_R, zPush_U, Int.reduceLT, Int.reduceLE, Int.reduceEq, Int.reduceNe, Int.reduceAdd, Int.reduceSub, Int.reduceMul, Int.reduceNeg, Int.reduceToNat, Nat.reduceAdd, Nat.reduceMul, Nat.reduceEqDiff, zw32_id, zw64_id, zupd_eq, zupd_na, zupd_ni, zupp_eq, zupp_na, zupp_ni]
        exact q
end
