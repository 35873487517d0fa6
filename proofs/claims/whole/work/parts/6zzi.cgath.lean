/-! ===== the class gathers the weights of its guesses ===== -/
noncomputable def gGd (f : Int → Int) (i : Nat) : Bool := gOk f ((i / 4 : Nat) : Int)
noncomputable def gLv (f : Int → Int) (i : Nat) : Nat := rcN f (gDv f ((i / 4 : Nat) : Int) (i % 4)) 384
def gWt (i : Nat) : Nat := if i % 4 = 0 then 3 else 1
noncomputable def gCA (f : Int → Int) (i : Nat) : Nat := if gGd f i = true then gWt i else 0
noncomputable def gCP (q a : Int) (f : Int → Int) (i : Nat) : Nat := if gGd f i = true ∧ gMn q a f ((i / 4 : Nat) : Int) (i % 4) = true then gWt i else 0
theorem gLv_60 {f : Int → Int} (ok : fOk f) (hsn : fSn f) (i : Nat) : gLv f i ≤ 60 := by
  have z1 := rc_le f (gDv f ((i / 4 : Nat) : Int) (i % 4)) 384
  have z2 := ok.2.2.2.2.2.2.1.2
  unfold fSn at hsn
  unfold gLv
  omega
section
variable {sh : zSh} {pp : zPp} {mm m' : zMm} {Q : zV → zSh → zPp → zMm → Prop} {f f' g : Int → Int} {q a : Int}
theorem kG_isMeant (h : zLy sh pp) {p s : Nat} (hp : p < 4) (q0 : 0 ≤ q) (q2 : q ≤ 2) (a0 : 0 ≤ a) (a1 : a < 384) (hd : drwOk (73 + 14 * p) f p mm) : zS 42 0 [zI q, zI a, zI (p : Int), zI (s : Int), zR 37] [] sh pp mm Q ↔ Q (zI (if gMn q a f p s = true then 1 else 0)) sh pp mm := by
  have k37 := k_37 h
  have l37 := l_37 h
  have p37 := p_13_4 h
  obtain ⟨d1, d2⟩ := drL_of h hp
  obtain ⟨kd, ⟨k1, l1, p1⟩, -⟩ := d1
  have zc : mm (73 + 14 * p + 1) a = gDr f p a := hd.1.2.2.1 a a0 a1
  unfold gMn
  rcases (show q = 0 ∨ q = 1 ∨ q = 2 by omega) with rfl | rfl | rfl
  · rw [if_pos rfl]
    by_cases c : (p : Int) = a
    · simp (disch := first | assumption | omega) only [rG_isMeant_0, rG_isMeant_1_0, rG_isMeant_1_1, rG_isMeant_1_d, rG_isMeant_28, rG_isMeant_29, rG_isMeant_30, rG_isMeant_33, rG_isMeant_34, rG_isMeant_37, rG_isMeant_38, rG_isMeant_39, rG_isMeant_40, rG_isMeant_43, rG_isMeant_44, rG_isMeant_47, rG_isMeant_48, rG_isMeant_49, rG_isMeant_51, rG_isMeant_52, rG_isMeant_53, rG_isMeant_56, rG_isMeant_57, rG_isMeant_58, rG_isMeant_59, rG_isMeant_62, rG_isMeant_63, rG_isMeant_66, rG_isMeant_67, Bool.false_eq_true, true_implies, false_implies, implies_true, true_and, and_true, not_true_eq_false, not_false_eq_true, zPush_I, zPush_L, zPush_R, zPush_U, Int.reduceLT, Int.reduceLE, Int.reduceEq, Int.reduceNe, Int.reduceAdd, Int.reduceSub, Int.reduceMul, Int.reduceNeg, Int.reduceToNat, Nat.reduceAdd, Nat.reduceMul, Nat.reduceEqDiff, zw32_id, zw64_id, zupd_eq, zupd_na, zupd_ni, zupp_eq, zupp_na, zupp_ni, eq_true c, decide_true, if_true, true_or, or_true]
    · simp (disch := first | assumption | omega) only [rG_isMeant_0, rG_isMeant_1_0, rG_isMeant_1_1, rG_isMeant_1_d, rG_isMeant_28, rG_isMeant_29, rG_isMeant_30, rG_isMeant_33, rG_isMeant_34, rG_isMeant_37, rG_isMeant_38, rG_isMeant_39, rG_isMeant_40, rG_isMeant_43, rG_isMeant_44, rG_isMeant_47, rG_isMeant_48, rG_isMeant_49, rG_isMeant_51, rG_isMeant_52, rG_isMeant_53, rG_isMeant_56, rG_isMeant_57, rG_isMeant_58, rG_isMeant_59, rG_isMeant_62, rG_isMeant_63, rG_isMeant_66, rG_isMeant_67, Bool.false_eq_true, true_implies, false_implies, implies_true, true_and, and_true, not_true_eq_false, not_false_eq_true, zPush_I, zPush_L, zPush_R, zPush_U, Int.reduceLT, Int.reduceLE, Int.reduceEq, Int.reduceNe, Int.reduceAdd, Int.reduceSub, Int.reduceMul, Int.reduceNeg, Int.reduceToNat, Nat.reduceAdd, Nat.reduceMul, Nat.reduceEqDiff, zw32_id, zw64_id, zupd_eq, zupd_na, zupd_ni, zupp_eq, zupp_na, zupp_ni, eq_false c, decide_false, if_false, true_or, or_true]
  · rw [if_neg (show ¬ ((1 : Int) = 0) by decide), if_pos rfl]
    by_cases c : s = 0
    · subst c
      simp (disch := first | assumption | omega) only [rG_isMeant_0, rG_isMeant_1_0, rG_isMeant_1_1, rG_isMeant_1_d, rG_isMeant_28, rG_isMeant_29, rG_isMeant_30, rG_isMeant_33, rG_isMeant_34, rG_isMeant_37, rG_isMeant_38, rG_isMeant_39, rG_isMeant_40, rG_isMeant_43, rG_isMeant_44, rG_isMeant_47, rG_isMeant_48, rG_isMeant_49, rG_isMeant_51, rG_isMeant_52, rG_isMeant_53, rG_isMeant_56, rG_isMeant_57, rG_isMeant_58, rG_isMeant_59, rG_isMeant_62, rG_isMeant_63, rG_isMeant_66, rG_isMeant_67, Bool.false_eq_true, true_implies, false_implies, implies_true, true_and, and_true, not_true_eq_false, not_false_eq_true, zPush_I, zPush_L, zPush_R, zPush_U, Int.reduceLT, Int.reduceLE, Int.reduceEq, Int.reduceNe, Int.reduceAdd, Int.reduceSub, Int.reduceMul, Int.reduceNeg, Int.reduceToNat, Nat.reduceAdd, Nat.reduceMul, Nat.reduceEqDiff, zw32_id, zw64_id, zupd_eq, zupd_na, zupd_ni, zupp_eq, zupp_na, zupp_ni, Int.natCast_zero, decide_false, if_false, true_or, or_true, ne_eq]
    · simp (disch := first | assumption | omega) only [rG_isMeant_0, rG_isMeant_1_0, rG_isMeant_1_1, rG_isMeant_1_d, rG_isMeant_28, rG_isMeant_29, rG_isMeant_30, rG_isMeant_33, rG_isMeant_34, rG_isMeant_37, rG_isMeant_38, rG_isMeant_39, rG_isMeant_40, rG_isMeant_43, rG_isMeant_44, rG_isMeant_47, rG_isMeant_48, rG_isMeant_49, rG_isMeant_51, rG_isMeant_52, rG_isMeant_53, rG_isMeant_56, rG_isMeant_57, rG_isMeant_58, rG_isMeant_59, rG_isMeant_62, rG_isMeant_63, rG_isMeant_66, rG_isMeant_67, Bool.false_eq_true, true_implies, false_implies, implies_true, true_and, and_true, not_true_eq_false, not_false_eq_true, zPush_I, zPush_L, zPush_R, zPush_U, Int.reduceLT, Int.reduceLE, Int.reduceEq, Int.reduceNe, Int.reduceAdd, Int.reduceSub, Int.reduceMul, Int.reduceNeg, Int.reduceToNat, Nat.reduceAdd, Nat.reduceMul, Nat.reduceEqDiff, zw32_id, zw64_id, zupd_eq, zupd_na, zupd_ni, zupp_eq, zupp_na, zupp_ni, eq_true (show 0 < (s : Int) by omega), ne_eq, eq_false c, decide_true, if_true, true_or, or_true]
  · rw [if_neg (show ¬ ((2 : Int) = 0) by decide), if_neg (show ¬ ((2 : Int) = 1) by decide)]
    by_cases c : gDr f p a = 1
    · simp (disch := first | assumption | omega) only [rG_isMeant_0, rG_isMeant_1_0, rG_isMeant_1_1, rG_isMeant_1_d, rG_isMeant_28, rG_isMeant_29, rG_isMeant_30, rG_isMeant_33, rG_isMeant_34, rG_isMeant_37, rG_isMeant_38, rG_isMeant_39, rG_isMeant_40, rG_isMeant_43, rG_isMeant_44, rG_isMeant_47, rG_isMeant_48, rG_isMeant_49, rG_isMeant_51, rG_isMeant_52, rG_isMeant_53, rG_isMeant_56, rG_isMeant_57, rG_isMeant_58, rG_isMeant_59, rG_isMeant_62, rG_isMeant_63, rG_isMeant_66, rG_isMeant_67, Bool.false_eq_true, true_implies, false_implies, implies_true, true_and, and_true, not_true_eq_false, not_false_eq_true, zPush_I, zPush_L, zPush_R, zPush_U, Int.reduceLT, Int.reduceLE, Int.reduceEq, Int.reduceNe, Int.reduceAdd, Int.reduceSub, Int.reduceMul, Int.reduceNeg, Int.reduceToNat, Nat.reduceAdd, Nat.reduceMul, Nat.reduceEqDiff, zw32_id, zw64_id, zupd_eq, zupd_na, zupd_ni, zupp_eq, zupp_na, zupp_ni, d2, p1, zc, eq_true c, decide_true, if_true, true_or, or_true]
    · simp (disch := first | assumption | omega) only [rG_isMeant_0, rG_isMeant_1_0, rG_isMeant_1_1, rG_isMeant_1_d, rG_isMeant_28, rG_isMeant_29, rG_isMeant_30, rG_isMeant_33, rG_isMeant_34, rG_isMeant_37, rG_isMeant_38, rG_isMeant_39, rG_isMeant_40, rG_isMeant_43, rG_isMeant_44, rG_isMeant_47, rG_isMeant_48, rG_isMeant_49, rG_isMeant_51, rG_isMeant_52, rG_isMeant_53, rG_isMeant_56, rG_isMeant_57, rG_isMeant_58, rG_isMeant_59, rG_isMeant_62, rG_isMeant_63, rG_isMeant_66, rG_isMeant_67, Bool.false_eq_true, true_implies, false_implies, implies_true, true_and, and_true, not_true_eq_false, not_false_eq_true, zPush_I, zPush_L, zPush_R, zPush_U, Int.reduceLT, Int.reduceLE, Int.reduceEq, Int.reduceNe, Int.reduceAdd, Int.reduceSub, Int.reduceMul, Int.reduceNeg, Int.reduceToNat, Nat.reduceAdd, Nat.reduceMul, Nat.reduceEqDiff, zw32_id, zw64_id, zupd_eq, zupd_na, zupd_ni, zupp_eq, zupp_na, zupp_ni, d2, p1, zc, eq_false c, decide_false, if_false, true_or, or_true]
def gaI (cA cP lv : Nat → Nat) (gd : Nat → Bool) (k : Nat) (m : zMm) : Prop := (∀ l : Nat, l ≤ 60 → m 54 (l : Int) = ((wS cA lv k l : Nat) : Int) ∧ m 53 (l : Int) = ((wS cP lv k l : Nat) : Int)) ∧ m 52 2 = ((loS gd lv k : Nat) : Int) ∧ m 52 3 = ((hiS gd lv k : Nat) : Int)
def gaF (x : Nat) (j : Int) : Prop := x = 54 ∨ x = 53 ∨ (x = 52 ∧ (j = 2 ∨ j = 3))
theorem wS_24 {c lv : Nat → Nat} {l : Nat} (hc : ∀ i, c i ≤ gWt i) : ∀ k, k ≤ 16 → wS c lv k l ≤ 24 := by
  have key : ∀ k, wS c lv k l ≤ tot gWt (fun _ => 0) 1 0 k := by
    intro k
    induction k with
    | zero => exact Nat.le_refl 0
    | succ k ih =>
      have := hc k
      unfold wS tot
      simp
      split <;> omega
  intro k hk
  have mono : ∀ n m, n ≤ m → tot gWt (fun _ => 0) 1 0 n ≤ tot gWt (fun _ => 0) 1 0 m := by
    intro n m hnm
    induction hnm with
    | refl => exact Nat.le_refl _
    | step _ ih => exact Nat.le_trans ih (Nat.le_add_right _ _)
  have z1 := mono k 16 hk
  have z2 : tot gWt (fun _ => 0) 1 0 16 = 24 := by decide +kernel
  have z3 := key k
  omega
theorem dv4 : ∀ i : Nat, i < 16 → zw32 ((i : Int).tdiv 4) = ((i / 4 : Nat) : Int) ∧ (i : Int).tmod 4 = ((i % 4 : Nat) : Int) := by decide +kernel
theorem gaStep (h : zLy sh pp) {m : zMm} {W A P lo hi i p s L b : Int} (L0 : 0 ≤ L) (L60 : L ≤ 60) (zA : m 54 L = A) (zP : m 53 L = P) (i2 : m 52 2 = lo) (i3 : m 52 3 = hi) (A0 : 0 ≤ A) (A1 : A ≤ 24) (P0 : 0 ≤ P) (P1 : P ≤ 24) (W0 : 0 ≤ W) (W1 : W ≤ 3) (hb : b = 0 ∨ b = 1) (hm1 : ∀ (w : Int) (Q : zV → zSh → zPp → zMm → Prop), zS 42 0 [zI q, zI a, zI p, zI s, zR 37] [] sh pp (zupd m 54 L w) Q ↔ Q (zI b) sh pp (zupd m 54 L w)) : zS 41 83 [zR 52, zI q, zI a, zR 37, zI i, zI p, zI s, zI L, zU] [zI W] sh pp m Q ↔ zS 41 152 [zR 52, zI q, zI a, zR 37, zI i, zU, zU, zU, zU] [] sh pp (zupd (zupd (zupd (zupd m 54 L (A + W)) 53 L (P + (if b = 1 then W else 0))) 52 2 (min lo L)) 52 3 (max hi L)) Q := by
  have k52 := k_52 h
  have p52 := p_13_7 h
  have k53 := k_53 h
  have l53 := l_53 h
  have p53 := p_52_0 h
  have k54 := k_54 h
  have l54 := l_54 h
  have p54 := p_52_1 h
  have k37 := k_37 h
  have l37 := l_37 h
  have p37 := p_13_4 h
  rcases hb with rfl | rfl
  · simp (disch := first | assumption | omega) only [rG_gather_83, rG_gather_85, rG_gather_86, rG_gather_89, rG_gather_91, rG_gather_92, rG_gather_93, rG_gather_95, rG_gather_96, rG_gather_97, rG_gather_98, rG_gather_101, rG_gather_103, rG_gather_104, rG_gather_105, rG_gather_106, rG_gather_107, rG_gather_109, rG_gather_111, rG_gather_112, rG_gather_115, rG_gather_118, rG_gather_120, rG_gather_123, rG_gather_124, rG_gather_125, rG_gather_126, rG_gather_127, rG_gather_128, rG_gather_131, rG_gather_133, rG_gather_136, rG_gather_139, rG_gather_140, rG_gather_141, rG_gather_144, rG_gather_146, rG_gather_149, kJ_min, kJ_max, hm1, Bool.false_eq_true, true_implies, false_implies, implies_true, true_and, and_true, not_true_eq_false, not_false_eq_true, zPush_I, zPush_L, zPush_R, zPush_U, Int.reduceLT, Int.reduceLE, Int.reduceEq, Int.reduceNe, Int.reduceAdd, Int.reduceSub, Int.reduceMul, Int.reduceNeg, Int.reduceToNat, Nat.reduceAdd, Nat.reduceMul, Nat.reduceEqDiff, zw32_id, zw64_id, zupd_eq, zupd_na, zupd_ni, zupp_eq, zupp_na, zupp_ni, p54, p53, zA, zP, i2, i3, if_false]
  · simp (disch := first | assumption | omega) only [rG_gather_83, rG_gather_85, rG_gather_86, rG_gather_89, rG_gather_91, rG_gather_92, rG_gather_93, rG_gather_95, rG_gather_96, rG_gather_97, rG_gather_98, rG_gather_101, rG_gather_103, rG_gather_104, rG_gather_105, rG_gather_106, rG_gather_107, rG_gather_109, rG_gather_111, rG_gather_112, rG_gather_115, rG_gather_118, rG_gather_120, rG_gather_123, rG_gather_124, rG_gather_125, rG_gather_126, rG_gather_127, rG_gather_128, rG_gather_131, rG_gather_133, rG_gather_136, rG_gather_139, rG_gather_140, rG_gather_141, rG_gather_144, rG_gather_146, rG_gather_149, kJ_min, kJ_max, hm1, Bool.false_eq_true, true_implies, false_implies, implies_true, true_and, and_true, not_true_eq_false, not_false_eq_true, zPush_I, zPush_L, zPush_R, zPush_U, Int.reduceLT, Int.reduceLE, Int.reduceEq, Int.reduceNe, Int.reduceAdd, Int.reduceSub, Int.reduceMul, Int.reduceNeg, Int.reduceToNat, Nat.reduceAdd, Nat.reduceMul, Nat.reduceEqDiff, zw32_id, zw64_id, zupd_eq, zupd_na, zupd_ni, zupp_eq, zupp_na, zupp_ni, p54, p53, zA, zP, i2, i3, if_true]
theorem gaHead (h : zLy sh pp) {m : zMm} {i p s L : Int} (hi0 : 0 ≤ i) (hi1 : i < 16) (e1 : zw32 (i.tdiv 4) = p) (e2 : i.tmod 4 = s) (p0 : 0 ≤ p) (p3 : p < 4) (zr : m 56 i = L) (L60 : L ≤ 60) (zg : m 55 p = 1) : zS 41 30 [zR 52, zI q, zI a, zR 37, zI i, zU, zU, zU, zU] [] sh pp m Q ↔ zS 41 83 [zR 52, zI q, zI a, zR 37, zI i, zI p, zI s, zI L, zU] [zI (if s = 0 then 3 else 1)] sh pp m Q := by
  have k52 := k_52 h
  have p52 := p_13_7 h
  have k56 := k_56 h
  have l56 := l_56 h
  have p56 := p_52_5 h
  have k55 := k_55 h
  have l55 := l_55 h
  have p55 := p_52_4 h
  have emin : min L 60 = L := by omega
  rw [rG_gather_30]
  by_cases hs : s = 0
  · rw [if_pos hs]
    simp (disch := first | assumption | omega) only [rG_gather_32, rG_gather_34, rG_gather_37, rG_gather_39, rG_gather_40, rG_gather_41, rG_gather_43, rG_gather_45, rG_gather_46, rG_gather_47, rG_gather_49, rG_gather_50, rG_gather_53, rG_gather_55, rG_gather_56, rG_gather_58, rG_gather_61, rG_gather_63, rG_gather_64, rG_gather_67, rG_gather_69, rG_gather_70, rG_gather_73, rG_gather_75, rG_gather_78, rG_gather_79, rG_gather_82, kJ_min, Bool.false_eq_true, true_implies, false_implies, implies_true, true_and, and_true, not_true_eq_false, not_false_eq_true, zPush_I, zPush_L, zPush_R, zPush_U, Int.reduceLT, Int.reduceLE, Int.reduceEq, Int.reduceNe, Int.reduceAdd, Int.reduceSub, Int.reduceMul, Int.reduceNeg, Int.reduceToNat, Nat.reduceAdd, Nat.reduceMul, Nat.reduceEqDiff, zw32_id, zw64_id, zupd_eq, zupd_na, zupd_ni, zupp_eq, zupp_na, zupp_ni, eq_true hi1, e1, e2, p56, p55, zr, zg, emin, eq_true hs]
  · rw [if_neg hs]
    simp (disch := first | assumption | omega) only [rG_gather_32, rG_gather_34, rG_gather_37, rG_gather_39, rG_gather_40, rG_gather_41, rG_gather_43, rG_gather_45, rG_gather_46, rG_gather_47, rG_gather_49, rG_gather_50, rG_gather_53, rG_gather_55, rG_gather_56, rG_gather_58, rG_gather_61, rG_gather_63, rG_gather_64, rG_gather_67, rG_gather_69, rG_gather_70, rG_gather_73, rG_gather_75, rG_gather_78, rG_gather_79, rG_gather_82, kJ_min, Bool.false_eq_true, true_implies, false_implies, implies_true, true_and, and_true, not_true_eq_false, not_false_eq_true, zPush_I, zPush_L, zPush_R, zPush_U, Int.reduceLT, Int.reduceLE, Int.reduceEq, Int.reduceNe, Int.reduceAdd, Int.reduceSub, Int.reduceMul, Int.reduceNeg, Int.reduceToNat, Nat.reduceAdd, Nat.reduceMul, Nat.reduceEqDiff, zw32_id, zw64_id, zupd_eq, zupd_na, zupd_ni, zupp_eq, zupp_na, zupp_ni, eq_true hi1, e1, e2, p56, p55, zr, zg, emin, eq_false hs]
theorem gaSkip (h : zLy sh pp) {m : zMm} {i p s : Int} (hi0 : 0 ≤ i) (hi1 : i < 16) (e1 : zw32 (i.tdiv 4) = p) (e2 : i.tmod 4 = s) (p0 : 0 ≤ p) (p3 : p < 4) (zg : m 55 p = 0) : zS 41 30 [zR 52, zI q, zI a, zR 37, zI i, zU, zU, zU, zU] [] sh pp m Q ↔ zS 41 30 [zR 52, zI q, zI a, zR 37, zI (i + 1), zU, zU, zU, zU] [] sh pp m Q := by
  have k52 := k_52 h
  have p52 := p_13_7 h
  have k56 := k_56 h
  have l56 := l_56 h
  have p56 := p_52_5 h
  have k55 := k_55 h
  have l55 := l_55 h
  have p55 := p_52_4 h
  rw [rG_gather_30]
  simp (disch := first | assumption | omega) only [rG_gather_32, rG_gather_34, rG_gather_37, rG_gather_39, rG_gather_40, rG_gather_41, rG_gather_43, rG_gather_45, rG_gather_46, rG_gather_47, rG_gather_49, rG_gather_50, rG_gather_53, rG_gather_55, rG_gather_56, rG_gather_58, rG_gather_61, rG_gather_63, rG_gather_64, rG_gather_67, rG_gather_69, rG_gather_70, rG_gather_152, rG_gather_155, kJ_min, Bool.false_eq_true, true_implies, false_implies, implies_true, true_and, and_true, not_true_eq_false, not_false_eq_true, zPush_I, zPush_L, zPush_R, zPush_U, Int.reduceLT, Int.reduceLE, Int.reduceEq, Int.reduceNe, Int.reduceAdd, Int.reduceSub, Int.reduceMul, Int.reduceNeg, Int.reduceToNat, Nat.reduceAdd, Nat.reduceMul, Nat.reduceEqDiff, zw32_id, zw64_id, zupd_eq, zupd_na, zupd_ni, zupp_eq, zupp_na, zupp_ni, eq_true hi1, e1, e2, p56, p55, zg]
theorem gaNext {m : zMm} {i : Int} (hi0 : 0 ≤ i) (hi1 : i < 16) : zS 41 152 [zR 52, zI q, zI a, zR 37, zI i, zU, zU, zU, zU] [] sh pp m Q ↔ zS 41 30 [zR 52, zI q, zI a, zR 37, zI (i + 1), zU, zU, zU, zU] [] sh pp m Q := by
  simp (disch := first | assumption | omega) only [rG_gather_152, rG_gather_155, Bool.false_eq_true, true_implies, false_implies, implies_true, true_and, and_true, not_true_eq_false, not_false_eq_true, zPush_I, zPush_L, zPush_R, zPush_U, Int.reduceLT, Int.reduceLE, Int.reduceEq, Int.reduceNe, Int.reduceAdd, Int.reduceSub, Int.reduceMul, Int.reduceNeg, Int.reduceToNat, Nat.reduceAdd, Nat.reduceMul, Nat.reduceEqDiff, zw32_id, zw64_id, zupd_eq, zupd_na, zupd_ni, zupp_eq, zupp_na, zupp_ni]
theorem cGather (h : zLy sh pp) {cA cP lv : Nat → Nat} {gd mn : Nat → Bool} (hlv : ∀ i, lv i ≤ 60) (hcA : ∀ i, cA i = if gd i = true then gWt i else 0) (hcP : ∀ i, cP i = if gd i = true ∧ mn i = true then gWt i else 0) (hg : ∀ i : Nat, i < 16 → mm 55 ((i / 4 : Nat) : Int) = (if gd i = true then 1 else 0)) (hR : ∀ i : Nat, i < 16 → gd i = true → mm 56 (i : Int) = ((lv i : Nat) : Int)) (hM : ∀ i : Nat, i < 16 → gd i = true → ∀ (m : zMm) (Q : zV → zSh → zPp → zMm → Prop), frP gaF mm m → (zS 42 0 [zI q, zI a, zI ((i / 4 : Nat) : Int), zI ((i % 4 : Nat) : Int), zR 37] [] sh pp m Q ↔ Q (zI (if mn i = true then 1 else 0)) sh pp m)) (hQ : ∀ m, gaI cA cP lv gd 16 m → frP gaF mm m → Q zU sh pp m) : zS 41 0 [zR 52, zI q, zI a, zR 37, zU, zU, zU, zU, zU] [] sh pp mm Q := by
  have k52 := k_52 h
  have p52 := p_13_7 h
  have k56 := k_56 h
  have l56 := l_56 h
  have p56 := p_52_5 h
  have k55 := k_55 h
  have l55 := l_55 h
  have p55 := p_52_4 h
  have k53 := k_53 h
  have l53 := l_53 h
  have p53 := p_52_0 h
  have k54 := k_54 h
  have l54 := l_54 h
  have p54 := p_52_1 h
  have k37 := k_37 h
  have l37 := l_37 h
  have p37 := p_13_4 h
  have key : ∀ (t i : Nat) (m : zMm), i + t = 16 → gaI cA cP lv gd i m → frP gaF mm m → zS 41 30 [zR 52, zI q, zI a, zR 37, zI (i : Int), zU, zU, zU, zU] [] sh pp m Q := by
    intro t
    induction t with
    | zero =>
      intro i m hi hI hfr
      have hi : i = 16 := by omega
      subst hi
      rw [rG_gather_30]
      simp (disch := first | assumption | omega) only [rG_gather_32, rG_gather_34, rG_gather_158, Bool.false_eq_true, true_implies, false_implies, implies_true, true_and, and_true, not_true_eq_false, not_false_eq_true, zPush_I, zPush_L, zPush_R, zPush_U, Int.reduceLT, Int.reduceLE, Int.reduceEq, Int.reduceNe, Int.reduceAdd, Int.reduceSub, Int.reduceMul, Int.reduceNeg, Int.reduceToNat, Nat.reduceAdd, Nat.reduceMul, Nat.reduceEqDiff, zw32_id, zw64_id, zupd_eq, zupd_na, zupd_ni, zupp_eq, zupp_na, zupp_ni, eq_false (show ¬ ((16 : Nat) : Int) < 16 by decide)]
      exact hQ m hI hfr
    | succ t ih =>
      intro i m hi hI hfr
      have hp4 : i / 4 < 4 := by omega
      have zg : m 55 ((i / 4 : Nat) : Int) = (if gd i = true then 1 else 0) := by
        rw [hfr _ _ (by unfold gaF; omega)]
        exact hg i (by omega)
      have zr : m 56 (i : Int) = mm 56 (i : Int) := hfr _ _ (by unfold gaF; omega)
      obtain ⟨i1, i2, i3⟩ := id hI
      have hi16 : (i : Int) < 16 := by omega
      have hp3 : ((i / 4 : Nat) : Int) < 4 := by omega
      have hp0 : 0 ≤ ((i / 4 : Nat) : Int) := by omega
      have hi0 : 0 ≤ (i : Int) := by omega
      have hin : i < 16 := by omega
      by_cases hgd : gd i = true
      · rw [if_pos hgd] at zg
        rw [hR i (by omega) hgd] at zr
        have L60 := hlv i
        obtain ⟨L, hL⟩ : ∃ L, L = lv i := ⟨_, rfl⟩
        rw [← hL] at zr L60
        obtain ⟨zA, zP⟩ := i1 L L60
        have bA := wS_24 (c := cA) (lv := lv) (l := L) (fun z => by rw [hcA z]; split <;> omega) i (by omega)
        have bP := wS_24 (c := cP) (lv := lv) (l := L) (fun z => by rw [hcP z]; split <;> omega) i (by omega)
        have hm1 := fun (w : Int) (Q : zV → zSh → zPp → zMm → Prop) => hM i (by omega) hgd (zupd m 54 (L : Int) w) Q (frP_up hfr (Or.inl rfl))
        have eWt : (if ((i % 4 : Nat) : Int) = 0 then (3 : Int) else 1) = ((gWt i : Nat) : Int) := by
          unfold gWt
          by_cases h0 : i % 4 = 0
          · rw [if_pos h0, if_pos (by omega)]; rfl
          · rw [if_neg h0, if_neg (by omega)]; rfl
        have hwt : gWt i ≤ 3 := by unfold gWt; split <;> omega
        have hL0 : 0 ≤ (L : Int) := by omega
        have hL6 : (L : Int) ≤ 60 := by omega
        have hA0 : 0 ≤ ((wS cA lv i L : Nat) : Int) := by omega
        have hA1 : ((wS cA lv i L : Nat) : Int) ≤ 24 := by omega
        have hP0 : 0 ≤ ((wS cP lv i L : Nat) : Int) := by omega
        have hP1 : ((wS cP lv i L : Nat) : Int) ≤ 24 := by omega
        have hW0 : 0 ≤ ((gWt i : Nat) : Int) := by omega
        have hW1 : ((gWt i : Nat) : Int) ≤ 3 := by omega
        have hb1 : (if mn i = true then (1 : Int) else 0) = 0 ∨ (if mn i = true then (1 : Int) else 0) = 1 := by split <;> simp
        have eCA : cA i = gWt i := by rw [hcA i, if_pos hgd]
        have eA : ∀ l, wS cA lv (i + 1) l = wS cA lv i l + (if lv i = l then cA i else 0) := fun l => rfl
        have eP : ∀ l, wS cP lv (i + 1) l = wS cP lv i l + (if lv i = l then cP i else 0) := fun l => rfl
        have eL : loS gd lv (i + 1) = min (loS gd lv i) (lv i) := by
          show (if gd i = true then min (loS gd lv i) (lv i) else loS gd lv i) = _
          rw [if_pos hgd]
        have eH : hiS gd lv (i + 1) = max (hiS gd lv i) (lv i) := by
          show (if gd i = true then max (hiS gd lv i) (lv i) else hiS gd lv i) = _
          rw [if_pos hgd]
        have eCP : ((cP i : Nat) : Int) = (if (if mn i = true then (1 : Int) else 0) = 1 then ((gWt i : Nat) : Int) else 0) := by
          rw [hcP i]
          by_cases hmn : mn i = true
          · rw [if_pos ⟨hgd, hmn⟩, if_pos hmn, if_pos rfl]
          · rw [if_neg (fun hx => hmn hx.2), if_neg hmn, if_neg (by decide)]; rfl
        rw [gaHead h hi0 hi16 (dv4 i hin).1 (dv4 i hin).2 hp0 hp3 zr hL6 zg, eWt, gaStep h hL0 hL6 zA zP i2 i3 hA0 hA1 hP0 hP1 hW0 hW1 hb1 hm1, gaNext hi0 hi16]
        refine ih (i + 1) _ (by omega) ⟨fun l hl => ?_, ?_, ?_⟩ (frP_up (frP_up (frP_up (frP_up hfr (Or.inl rfl)) (Or.inr (Or.inl rfl))) (Or.inr (Or.inr ⟨rfl, Or.inl rfl⟩))) (Or.inr (Or.inr ⟨rfl, Or.inr rfl⟩)))
        · refine ⟨?_, ?_⟩
          · rw [zupd_na (by decide), zupd_na (by decide), zupd_na (by decide), eA l]
            by_cases hl2 : l = L
            · subst hl2
              rw [zupd_eq, if_pos hL.symm, eCA]
              omega
            · have hne : ¬ lv i = l := fun hx => hl2 (hx.symm.trans hL.symm)
              rw [zupd_ni (by omega), if_neg hne, Nat.add_zero]
              exact (i1 l hl).1
          · rw [zupd_na (by decide), zupd_na (by decide), eP l]
            by_cases hl2 : l = L
            · subst hl2
              rw [zupd_eq, if_pos hL.symm, ← eCP]
              omega
            · have hne : ¬ lv i = l := fun hx => hl2 (hx.symm.trans hL.symm)
              rw [zupd_ni (by omega), zupd_na (by decide), if_neg hne, Nat.add_zero]
              exact (i1 l hl).2
        · rw [zupd_ni (by decide), zupd_eq, eL, ← hL]
          omega
        · rw [zupd_eq, eH, ← hL]
          omega
      · rw [if_neg hgd] at zg
        rw [gaSkip h hi0 hi16 (dv4 i hin).1 (dv4 i hin).2 hp0 hp3 zg]
        have eCA : cA i = 0 := by rw [hcA i, if_neg hgd]
        have eCP : cP i = 0 := by rw [hcP i, if_neg (fun hx => hgd hx.1)]
        have eA : ∀ l, wS cA lv (i + 1) l = wS cA lv i l := fun l => by
          show wS cA lv i l + (if lv i = l then cA i else 0) = _
          rw [eCA]
          split <;> rfl
        have eP : ∀ l, wS cP lv (i + 1) l = wS cP lv i l := fun l => by
          show wS cP lv i l + (if lv i = l then cP i else 0) = _
          rw [eCP]
          split <;> rfl
        have eL : loS gd lv (i + 1) = loS gd lv i := by
          show (if gd i = true then min (loS gd lv i) (lv i) else loS gd lv i) = _
          rw [if_neg hgd]
        have eH : hiS gd lv (i + 1) = hiS gd lv i := by
          show (if gd i = true then max (hiS gd lv i) (lv i) else hiS gd lv i) = _
          rw [if_neg hgd]
        refine ih (i + 1) m (by omega) ⟨fun l hl => ?_, ?_, ?_⟩ hfr
        · rw [eA l, eP l]; exact i1 l hl
        · rw [eL]; exact i2
        · rw [eH]; exact i3
  simp (disch := first | assumption | omega) only [rG_gather_0, rG_gather_1, rG_gather_4, rG_gather_5, Bool.false_eq_true, true_implies, false_implies, implies_true, true_and, and_true, not_true_eq_false, not_false_eq_true, zPush_I, zPush_L, zPush_R, zPush_U, Int.reduceLT, Int.reduceLE, Int.reduceEq, Int.reduceNe, Int.reduceAdd, Int.reduceSub, Int.reduceMul, Int.reduceNeg, Int.reduceToNat, Nat.reduceAdd, Nat.reduceMul, Nat.reduceEqDiff, zw32_id, zw64_id, zupd_eq, zupd_na, zupd_ni, zupp_eq, zupp_na, zupp_ni, p53]
  refine cFill k53 l53 (by decide) (by decide) (fun m1 a3 a4 => ?_)
  simp (disch := first | assumption | omega) only [rG_gather_8, rG_gather_9, rG_gather_12, rG_gather_13, Bool.false_eq_true, true_implies, false_implies, implies_true, true_and, and_true, not_true_eq_false, not_false_eq_true, zPush_I, zPush_L, zPush_R, zPush_U, Int.reduceLT, Int.reduceLE, Int.reduceEq, Int.reduceNe, Int.reduceAdd, Int.reduceSub, Int.reduceMul, Int.reduceNeg, Int.reduceToNat, Nat.reduceAdd, Nat.reduceMul, Nat.reduceEqDiff, zw32_id, zw64_id, zupd_eq, zupd_na, zupd_ni, zupp_eq, zupp_na, zupp_ni, p54]
  refine cFill k54 l54 (by decide) (by decide) (fun m2 a5 a6 => ?_)
  simp (disch := first | assumption | omega) only [rG_gather_16, rG_gather_17, rG_gather_19, rG_gather_22, rG_gather_23, rG_gather_24, rG_gather_27, rG_gather_28, Bool.false_eq_true, true_implies, false_implies, implies_true, true_and, and_true, not_true_eq_false, not_false_eq_true, zPush_I, zPush_L, zPush_R, zPush_U, Int.reduceLT, Int.reduceLE, Int.reduceEq, Int.reduceNe, Int.reduceAdd, Int.reduceSub, Int.reduceMul, Int.reduceNeg, Int.reduceToNat, Nat.reduceAdd, Nat.reduceMul, Nat.reduceEqDiff, zw32_id, zw64_id, zupd_eq, zupd_na, zupd_ni, zupp_eq, zupp_na, zupp_ni]
  refine key 16 0 _ (by omega) ⟨fun l hl => ⟨?_, ?_⟩, ?_, ?_⟩ (frP_up (frP_up (frP_tr (frP_wd a4 (fun x j hj => Or.inr (Or.inl hj))) (frP_wd a6 (fun x j hj => Or.inl hj))) (Or.inr (Or.inr ⟨rfl, Or.inl rfl⟩))) (Or.inr (Or.inr ⟨rfl, Or.inr rfl⟩)))
  · rw [zupd_na (by decide), zupd_na (by decide)]; exact a5 l (by omega) (by omega)
  · rw [zupd_na (by decide), zupd_na (by decide), a6 _ _ (show ¬ (53 = 54) by decide)]; exact a3 l (by omega) (by omega)
  · rw [zupd_ni (by decide), zupd_eq]; rfl
  · rw [zupd_eq]; rfl
end
