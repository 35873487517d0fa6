/-! ===== the law: calls, 3 ===== -/
section
variable {sh : zSh} {pp : zPp} {mm : zMm} {Q : zV → zSh → zPp → zMm → Prop} {L : Nat} {xs : Nat → Int32} {i : Int}
theorem law_starts (i0 : 0 ≤ i) (i4 : i + 4 < (L : Int)) (iL : (L : Int) ≤ 2560) (hI : lwI L xs sh pp mm) (hz : ∀ sh pp mm, lwI L xs sh pp mm → zS 273 1160 [zR 1, zR 13, zR 122, zI i] [] sh pp mm Q) : zS 273 738 [zR 1, zR 13, zR 122, zI i] [] sh pp mm Q := by
  obtain ⟨f, G, cn, N, D, v, c, m, ⟨k1, l1⟩, hx⟩ := hI
  have h := c.1
  have k13 := k_13 h
  have kb : zKd sh 1 = 20 ∨ zKd sh 1 = 30 := Or.inr k1
  simp (disch := first | assumption | omega) only [rW_law_738, rW_law_739, Bool.false_eq_true, true_implies, false_implies, implies_true, true_and, and_true, not_true_eq_false, not_false_eq_true, zPush_I, zPush_L, zPush_R, zPush_U, Int.reduceLT, Int.reduceLE, Int.reduceEq, Int.reduceNe, Int.reduceAdd, Int.reduceSub, Int.reduceMul, Int.reduceNeg, Int.reduceToNat, Nat.reduceAdd, Nat.reduceMul, Nat.reduceEqDiff, zw32_id, zw64_id, zupd_eq, zupd_na, zupd_ni, zupp_eq, zupp_na, zupp_ni]
  refine cStarts c v.1 (fun m1 w1 c1 fx a1 => ?_)
  have h1 := c1.1
  have k122 := k_122 h1
  have x1 : m1 1 = mm 1 := fx.1 1 (Or.inl (by decide))
  have kk1 : zKd sh 1 = 30 := by rw [(fx.2 1 (by decide)).1]; exact k1
  have ll1 : zLn sh 1 = (L : Int) := by rw [(fx.2 1 (by decide)).2]; exact l1
  have kb1 : zKd sh 1 = 20 ∨ zKd sh 1 = 30 := Or.inr kk1
  have m1k := mOk_fx m (fun a a1 a2 => fx.1 a (Or.inr ⟨a1, a2⟩))
  simp (disch := first | assumption | omega) only [rW_law_742, rW_law_743, Bool.false_eq_true, true_implies, false_implies, implies_true, true_and, and_true, not_true_eq_false, not_false_eq_true, zPush_I, zPush_L, zPush_R, zPush_U, Int.reduceLT, Int.reduceLE, Int.reduceEq, Int.reduceNe, Int.reduceAdd, Int.reduceSub, Int.reduceMul, Int.reduceNeg, Int.reduceToNat, Nat.reduceAdd, Nat.reduceMul, Nat.reduceEqDiff, zw32_id, zw64_id, zupd_eq, zupd_na, zupd_ni, zupp_eq, zupp_na, zupp_ni, x1]
  refine mStartsC h1 m1k v.1 (fun m2 w2 mm2 fc a2 => ?_)
  have ew := stA_uq a1 a2
  subst ew
  have x2 : m2 1 = mm 1 := (fc 1 (by decide)).trans x1
  have q := hz _ _ m2 ⟨_, _, _, _, _, v, cOk_fc c1 fc, mm2, ⟨kk1, ll1⟩, fun j => by rw [x2]; exact hx j⟩
  simp (disch := first | assumption | omega) only [rW_law_746, rW_law_749, rW_law_750, Bool.false_eq_true, true_implies, false_implies, implies_true, true_and, and_true, not_true_eq_false, not_false_eq_true, zPush_I, zPush_L, zPush_R, zPush_U, Int.reduceLT, Int.reduceLE, Int.reduceEq, Int.reduceNe, Int.reduceAdd, Int.reduceSub, Int.reduceMul, Int.reduceNeg, Int.reduceToNat, Nat.reduceAdd, Nat.reduceMul, Nat.reduceEqDiff, zw32_id, zw64_id, zupd_eq, zupd_na, zupd_ni, zupp_eq, zupp_na, zupp_ni]
  exact q
theorem law_bends (i0 : 0 ≤ i) (i4 : i + 4 < (L : Int)) (iL : (L : Int) ≤ 2560) (hI : lwI L xs sh pp mm) (hz : ∀ sh pp mm, lwI L xs sh pp mm → zS 273 1160 [zR 1, zR 13, zR 122, zI i] [] sh pp mm Q) : zS 273 751 [zR 1, zR 13, zR 122, zI i] [] sh pp mm Q := by
  obtain ⟨f, G, cn, N, D, v, c, m, ⟨k1, l1⟩, hx⟩ := hI
  have h := c.1
  have k13 := k_13 h
  have kb : zKd sh 1 = 20 ∨ zKd sh 1 = 30 := Or.inr k1
  simp (disch := first | assumption | omega) only [rW_law_751, rW_law_752, Bool.false_eq_true, true_implies, false_implies, implies_true, true_and, and_true, not_true_eq_false, not_false_eq_true, zPush_I, zPush_L, zPush_R, zPush_U, Int.reduceLT, Int.reduceLE, Int.reduceEq, Int.reduceNe, Int.reduceAdd, Int.reduceSub, Int.reduceMul, Int.reduceNeg, Int.reduceToNat, Nat.reduceAdd, Nat.reduceMul, Nat.reduceEqDiff, zw32_id, zw64_id, zupd_eq, zupd_na, zupd_ni, zupp_eq, zupp_na, zupp_ni]
  refine cBends c v.1 (fun hb m1 c1 fx => ?_) (fun hb hn sh1 pp1 m1 w1 c1 fx _ a1 => ?_)
  · have h1 := c1.1
    have k122 := k_122 h1
    have x1 : m1 1 = mm 1 := fx.1 1 (Or.inl (by decide))
    have kk1 : zKd sh 1 = 30 := by rw [(fx.2 1 (by decide)).1]; exact k1
    have ll1 : zLn sh 1 = (L : Int) := by rw [(fx.2 1 (by decide)).2]; exact l1
    have kb1 : zKd sh 1 = 20 ∨ zKd sh 1 = 30 := Or.inr kk1
    have m1k := mOk_fx m (fun a a1 a2 => fx.1 a (Or.inr ⟨a1, a2⟩))
    simp (disch := first | assumption | omega) only [rW_law_755, rW_law_756, Bool.false_eq_true, true_implies, false_implies, implies_true, true_and, and_true, not_true_eq_false, not_false_eq_true, zPush_I, zPush_L, zPush_R, zPush_U, Int.reduceLT, Int.reduceLE, Int.reduceEq, Int.reduceNe, Int.reduceAdd, Int.reduceSub, Int.reduceMul, Int.reduceNeg, Int.reduceToNat, Nat.reduceAdd, Nat.reduceMul, Nat.reduceEqDiff, zw32_id, zw64_id, zupd_eq, zupd_na, zupd_ni, zupp_eq, zupp_na, zupp_ni, x1]
    refine mBends h1 m1k v.1 (fun _ m2 mm2 fc => ?_) (fun x y => absurd ⟨x, y⟩ hb)
    have x2 : m2 1 = mm 1 := (fc 1 (by decide)).trans x1
    have q := hz _ _ m2 ⟨_, _, _, _, _, v, cOk_fc c1 fc, mm2, ⟨kk1, ll1⟩, fun j => by rw [x2]; exact hx j⟩
    simp (disch := first | assumption | omega) only [rW_law_759, rW_law_762, rW_law_763, Bool.false_eq_true, true_implies, false_implies, implies_true, true_and, and_true, not_true_eq_false, not_false_eq_true, zPush_I, zPush_L, zPush_R, zPush_U, Int.reduceLT, Int.reduceLE, Int.reduceEq, Int.reduceNe, Int.reduceAdd, Int.reduceSub, Int.reduceMul, Int.reduceNeg, Int.reduceToNat, Nat.reduceAdd, Nat.reduceMul, Nat.reduceEqDiff, zw32_id, zw64_id, zupd_eq, zupd_na, zupd_ni, zupp_eq, zupp_na, zupp_ni]
    exact q
  · have h1 := c1.1
    have k122 := k_122 h1
    have x1 : m1 1 = mm 1 := fx.1 1 (Or.inl (by decide))
    have kk1 : zKd sh1 1 = 30 := by rw [(fx.2 1 (by decide)).1]; exact k1
    have ll1 : zLn sh1 1 = (L : Int) := by rw [(fx.2 1 (by decide)).2]; exact l1
    have kb1 : zKd sh1 1 = 20 ∨ zKd sh1 1 = 30 := Or.inr kk1
    have m1k := mOk_fx m (fun a a1 a2 => fx.1 a (Or.inr ⟨a1, a2⟩))
    simp (disch := first | assumption | omega) only [rW_law_755, rW_law_756, Bool.false_eq_true, true_implies, false_implies, implies_true, true_and, and_true, not_true_eq_false, not_false_eq_true, zPush_I, zPush_L, zPush_R, zPush_U, Int.reduceLT, Int.reduceLE, Int.reduceEq, Int.reduceNe, Int.reduceAdd, Int.reduceSub, Int.reduceMul, Int.reduceNeg, Int.reduceToNat, Nat.reduceAdd, Nat.reduceMul, Nat.reduceEqDiff, zw32_id, zw64_id, zupd_eq, zupd_na, zupd_ni, zupp_eq, zupp_na, zupp_ni, x1]
    refine mBends h1 m1k v.1 (fun x => absurd ⟨hb, hn⟩ x) (fun _ _ m2 w2 mm2 fc a2 => ?_)
    have ew : w1 = w2 := mnA_uq a1 a2
    subst ew
    have x2 : m2 1 = mm 1 := (fc 1 (by decide)).trans x1
    have q := hz _ _ m2 ⟨_, _, _, _, _, v, cOk_fc c1 fc, mm2, ⟨kk1, ll1⟩, fun j => by rw [x2]; exact hx j⟩
    simp (disch := first | assumption | omega) only [rW_law_759, rW_law_762, rW_law_763, Bool.false_eq_true, true_implies, false_implies, implies_true, true_and, and_true, not_true_eq_false, not_false_eq_true, zPush_I, zPush_L, zPush_R, zPush_U, Int.reduceLT, Int.reduceLE, Int.reduceEq, Int.reduceNe, Int.reduceAdd, Int.reduceSub, Int.reduceMul, Int.reduceNeg, Int.reduceToNat, Nat.reduceAdd, Nat.reduceMul, Nat.reduceEqDiff, zw32_id, zw64_id, zupd_eq, zupd_na, zupd_ni, zupp_eq, zupp_na, zupp_ni]
    exact q
theorem law_again (i0 : 0 ≤ i) (i4 : i + 4 < (L : Int)) (iL : (L : Int) ≤ 2560) (hI : lwI L xs sh pp mm) (hz : ∀ sh pp mm, lwI L xs sh pp mm → zS 273 1160 [zR 1, zR 13, zR 122, zI i] [] sh pp mm Q) : zS 273 764 [zR 1, zR 13, zR 122, zI i] [] sh pp mm Q := by
  obtain ⟨f, G, cn, N, D, v, c, m, ⟨k1, l1⟩, hx⟩ := hI
  have h := c.1
  have k13 := k_13 h
  have kb : zKd sh 1 = 20 ∨ zKd sh 1 = 30 := Or.inr k1
  simp (disch := first | assumption | omega) only [rW_law_764, rW_law_765, Bool.false_eq_true, true_implies, false_implies, implies_true, true_and, and_true, not_true_eq_false, not_false_eq_true, zPush_I, zPush_L, zPush_R, zPush_U, Int.reduceLT, Int.reduceLE, Int.reduceEq, Int.reduceNe, Int.reduceAdd, Int.reduceSub, Int.reduceMul, Int.reduceNeg, Int.reduceToNat, Nat.reduceAdd, Nat.reduceMul, Nat.reduceEqDiff, zw32_id, zw64_id, zupd_eq, zupd_na, zupd_ni, zupp_eq, zupp_na, zupp_ni]
  refine cAgain c v.1 (fun hb m1 c1 fx => ?_) (fun hb m1 c1 fx => ?_)
  · have h1 := c1.1
    have k122 := k_122 h1
    have x1 : m1 1 = mm 1 := fx.1 1 (Or.inl (by decide))
    have kk1 : zKd sh 1 = 30 := by rw [(fx.2 1 (by decide)).1]; exact k1
    have ll1 : zLn sh 1 = (L : Int) := by rw [(fx.2 1 (by decide)).2]; exact l1
    have kb1 : zKd sh 1 = 20 ∨ zKd sh 1 = 30 := Or.inr kk1
    have m1k := mOk_fx m (fun a a1 a2 => fx.1 a (Or.inr ⟨a1, a2⟩))
    simp (disch := first | assumption | omega) only [rW_law_768, rW_law_769, Bool.false_eq_true, true_implies, false_implies, implies_true, true_and, and_true, not_true_eq_false, not_false_eq_true, zPush_I, zPush_L, zPush_R, zPush_U, Int.reduceLT, Int.reduceLE, Int.reduceEq, Int.reduceNe, Int.reduceAdd, Int.reduceSub, Int.reduceMul, Int.reduceNeg, Int.reduceToNat, Nat.reduceAdd, Nat.reduceMul, Nat.reduceEqDiff, zw32_id, zw64_id, zupd_eq, zupd_na, zupd_ni, zupp_eq, zupp_na, zupp_ni, x1]
    refine mAgain h1 m1k v.1 (fun _ m2 mm2 fc => ?_) (fun hb2 => absurd hb2 hb)
    have x2 : m2 1 = mm 1 := (fc 1 (by decide)).trans x1
    have q := hz _ _ m2 ⟨_, _, _, _, _, v, cOk_fc c1 fc, mm2, ⟨kk1, ll1⟩, fun j => by rw [x2]; exact hx j⟩
    simp (disch := first | assumption | omega) only [rW_law_772, rW_law_775, rW_law_776, Bool.false_eq_true, true_implies, false_implies, implies_true, true_and, and_true, not_true_eq_false, not_false_eq_true, zPush_I, zPush_L, zPush_R, zPush_U, Int.reduceLT, Int.reduceLE, Int.reduceEq, Int.reduceNe, Int.reduceAdd, Int.reduceSub, Int.reduceMul, Int.reduceNeg, Int.reduceToNat, Nat.reduceAdd, Nat.reduceMul, Nat.reduceEqDiff, zw32_id, zw64_id, zupd_eq, zupd_na, zupd_ni, zupp_eq, zupp_na, zupp_ni]
    exact q
  · have h1 := c1.1
    have k122 := k_122 h1
    have x1 : m1 1 = mm 1 := fx.1 1 (Or.inl (by decide))
    have kk1 : zKd sh 1 = 30 := by rw [(fx.2 1 (by decide)).1]; exact k1
    have ll1 : zLn sh 1 = (L : Int) := by rw [(fx.2 1 (by decide)).2]; exact l1
    have kb1 : zKd sh 1 = 20 ∨ zKd sh 1 = 30 := Or.inr kk1
    have m1k := mOk_fx m (fun a a1 a2 => fx.1 a (Or.inr ⟨a1, a2⟩))
    simp (disch := first | assumption | omega) only [rW_law_768, rW_law_769, Bool.false_eq_true, true_implies, false_implies, implies_true, true_and, and_true, not_true_eq_false, not_false_eq_true, zPush_I, zPush_L, zPush_R, zPush_U, Int.reduceLT, Int.reduceLE, Int.reduceEq, Int.reduceNe, Int.reduceAdd, Int.reduceSub, Int.reduceMul, Int.reduceNeg, Int.reduceToNat, Nat.reduceAdd, Nat.reduceMul, Nat.reduceEqDiff, zw32_id, zw64_id, zupd_eq, zupd_na, zupd_ni, zupp_eq, zupp_na, zupp_ni, x1]
    refine mAgain h1 m1k v.1 (fun hb2 => absurd hb hb2) (fun _ => ?_)
    have q := hz _ _ m1 ⟨_, _, _, _, _, v, c1, m1k, ⟨kk1, ll1⟩, fun j => by rw [x1]; exact hx j⟩
    simp (disch := first | assumption | omega) only [rW_law_772, rW_law_775, rW_law_776, Bool.false_eq_true, true_implies, false_implies, implies_true, true_and, and_true, not_true_eq_false, not_false_eq_true, zPush_I, zPush_L, zPush_R, zPush_U, Int.reduceLT, Int.reduceLE, Int.reduceEq, Int.reduceNe, Int.reduceAdd, Int.reduceSub, Int.reduceMul, Int.reduceNeg, Int.reduceToNat, Nat.reduceAdd, Nat.reduceMul, Nat.reduceEqDiff, zw32_id, zw64_id, zupd_eq, zupd_na, zupd_ni, zupp_eq, zupp_na, zupp_ni]
    exact q
theorem law_round (i0 : 0 ≤ i) (i4 : i + 4 < (L : Int)) (iL : (L : Int) ≤ 2560) (hI : lwI L xs sh pp mm) (hz : ∀ sh pp mm, lwI L xs sh pp mm → zS 273 1160 [zR 1, zR 13, zR 122, zI i] [] sh pp mm Q) : zS 273 777 [zR 1, zR 13, zR 122, zI i] [] sh pp mm Q := by
  obtain ⟨f, G, cn, N, D, v, c, m, ⟨k1, l1⟩, hx⟩ := hI
  have h := c.1
  have k13 := k_13 h
  have kb : zKd sh 1 = 20 ∨ zKd sh 1 = 30 := Or.inr k1
  have b1 := xs_bd hx (i + 1)
  have b2 := xs_bd hx (i + 2)
  simp (disch := first | assumption | omega) only [rW_law_777, rW_law_778, rW_law_779, rW_law_780, rW_law_781, rW_law_782, rW_law_783, rW_law_784, rW_law_785, rW_law_786, rW_law_787, rW_law_788, Bool.false_eq_true, true_implies, false_implies, implies_true, true_and, and_true, not_true_eq_false, not_false_eq_true, zPush_I, zPush_L, zPush_R, zPush_U, Int.reduceLT, Int.reduceLE, Int.reduceEq, Int.reduceNe, Int.reduceAdd, Int.reduceSub, Int.reduceMul, Int.reduceNeg, Int.reduceToNat, Nat.reduceAdd, Nat.reduceMul, Nat.reduceEqDiff, zw32_id, zw64_id, zupd_eq, zupd_na, zupd_ni, zupp_eq, zupp_na, zupp_ni]
  refine cRound c (fun m1 c1 fx => ?_)
  have h1 := c1.1
  have k122 := k_122 h1
  have x1 : m1 1 = mm 1 := fx.1 1 (Or.inl (by decide))
  have kk1 : zKd sh 1 = 30 := by rw [(fx.2 1 (by decide)).1]; exact k1
  have ll1 : zLn sh 1 = (L : Int) := by rw [(fx.2 1 (by decide)).2]; exact l1
  have kb1 : zKd sh 1 = 20 ∨ zKd sh 1 = 30 := Or.inr kk1
  have m1k := mOk_fx m (fun a a1 a2 => fx.1 a (Or.inr ⟨a1, a2⟩))
  simp (disch := first | assumption | omega) only [rW_law_791, rW_law_792, rW_law_793, rW_law_794, rW_law_795, rW_law_796, rW_law_797, rW_law_798, rW_law_799, rW_law_800, rW_law_801, rW_law_802, Bool.false_eq_true, true_implies, false_implies, implies_true, true_and, and_true, not_true_eq_false, not_false_eq_true, zPush_I, zPush_L, zPush_R, zPush_U, Int.reduceLT, Int.reduceLE, Int.reduceEq, Int.reduceNe, Int.reduceAdd, Int.reduceSub, Int.reduceMul, Int.reduceNeg, Int.reduceToNat, Nat.reduceAdd, Nat.reduceMul, Nat.reduceEqDiff, zw32_id, zw64_id, zupd_eq, zupd_na, zupd_ni, zupp_eq, zupp_na, zupp_ni, x1]
  refine mRound h1 m1k b1 b2 (fun m2 mm2 fc => ?_)
  have x2 : m2 1 = mm 1 := (fc 1 (by decide)).trans x1
  have q := hz _ _ m2 ⟨_, _, _, _, _, v, cOk_fc c1 fc, mm2, ⟨kk1, ll1⟩, fun j => by rw [x2]; exact hx j⟩
  simp (disch := first | assumption | omega) only [rW_law_805, rW_law_808, rW_law_809, Bool.false_eq_true, true_implies, false_implies, implies_true, true_and, and_true, not_true_eq_false, not_false_eq_true, zPush_I, zPush_L, zPush_R, zPush_U, Int.reduceLT, Int.reduceLE, Int.reduceEq, Int.reduceNe, Int.reduceAdd, Int.reduceSub, Int.reduceMul, Int.reduceNeg, Int.reduceToNat, Nat.reduceAdd, Nat.reduceMul, Nat.reduceEqDiff, zw32_id, zw64_id, zupd_eq, zupd_na, zupd_ni, zupp_eq, zupp_na, zupp_ni]
  exact q
theorem law_see (i0 : 0 ≤ i) (i4 : i + 4 < (L : Int)) (iL : (L : Int) ≤ 2560) (hI : lwI L xs sh pp mm) (hz : ∀ sh pp mm, lwI L xs sh pp mm → zS 273 1160 [zR 1, zR 13, zR 122, zI i] [] sh pp mm Q) : zS 273 810 [zR 1, zR 13, zR 122, zI i] [] sh pp mm Q := by
  obtain ⟨f, G, cn, N, D, v, c, m, ⟨k1, l1⟩, hx⟩ := hI
  have h := c.1
  have k13 := k_13 h
  have kb : zKd sh 1 = 20 ∨ zKd sh 1 = 30 := Or.inr k1
  simp (disch := first | assumption | omega) only [rW_law_810, rW_law_811, rW_law_812, rW_law_813, rW_law_814, rW_law_815, rW_law_816, rW_law_817, rW_law_818, rW_law_819, rW_law_820, rW_law_821, rW_law_822, rW_law_823, rW_law_824, rW_law_825, rW_law_826, Bool.false_eq_true, true_implies, false_implies, implies_true, true_and, and_true, not_true_eq_false, not_false_eq_true, zPush_I, zPush_L, zPush_R, zPush_U, Int.reduceLT, Int.reduceLE, Int.reduceEq, Int.reduceNe, Int.reduceAdd, Int.reduceSub, Int.reduceMul, Int.reduceNeg, Int.reduceToNat, Nat.reduceAdd, Nat.reduceMul, Nat.reduceEqDiff, zw32_id, zw64_id, zupd_eq, zupd_na, zupd_ni, zupp_eq, zupp_na, zupp_ni]
  refine cSee c v.1 (fun m1 c1 fx => ?_)
  have h1 := c1.1
  have k122 := k_122 h1
  have x1 : m1 1 = mm 1 := fx.1 1 (Or.inl (by decide))
  have kk1 : zKd sh 1 = 30 := by rw [(fx.2 1 (by decide)).1]; exact k1
  have ll1 : zLn sh 1 = (L : Int) := by rw [(fx.2 1 (by decide)).2]; exact l1
  have kb1 : zKd sh 1 = 20 ∨ zKd sh 1 = 30 := Or.inr kk1
  have m1k := mOk_fx m (fun a a1 a2 => fx.1 a (Or.inr ⟨a1, a2⟩))
  simp (disch := first | assumption | omega) only [rW_law_829, rW_law_830, rW_law_831, rW_law_832, rW_law_833, rW_law_834, rW_law_835, rW_law_836, rW_law_837, rW_law_838, rW_law_839, rW_law_840, rW_law_841, rW_law_842, rW_law_843, rW_law_844, rW_law_845, Bool.false_eq_true, true_implies, false_implies, implies_true, true_and, and_true, not_true_eq_false, not_false_eq_true, zPush_I, zPush_L, zPush_R, zPush_U, Int.reduceLT, Int.reduceLE, Int.reduceEq, Int.reduceNe, Int.reduceAdd, Int.reduceSub, Int.reduceMul, Int.reduceNeg, Int.reduceToNat, Nat.reduceAdd, Nat.reduceMul, Nat.reduceEqDiff, zw32_id, zw64_id, zupd_eq, zupd_na, zupd_ni, zupp_eq, zupp_na, zupp_ni, x1]
  refine mSee h1 m1k v.1 (fun m2 mm2 fc => ?_)
  have x2 : m2 1 = mm 1 := (fc 1 (by decide)).trans x1
  have q := hz _ _ m2 ⟨_, _, _, _, _, iv_see v, cOk_fc c1 fc, mm2, ⟨kk1, ll1⟩, fun j => by rw [x2]; exact hx j⟩
  simp (disch := first | assumption | omega) only [rW_law_848, rW_law_851, rW_law_852, Bool.false_eq_true, true_implies, false_implies, implies_true, true_and, and_true, not_true_eq_false, not_false_eq_true, zPush_I, zPush_L, zPush_R, zPush_U, Int.reduceLT, Int.reduceLE, Int.reduceEq, Int.reduceNe, Int.reduceAdd, Int.reduceSub, Int.reduceMul, Int.reduceNeg, Int.reduceToNat, Nat.reduceAdd, Nat.reduceMul, Nat.reduceEqDiff, zw32_id, zw64_id, zupd_eq, zupd_na, zupd_ni, zupp_eq, zupp_na, zupp_ni]
  exact q
theorem law_odds (i0 : 0 ≤ i) (i4 : i + 4 < (L : Int)) (iL : (L : Int) ≤ 2560) (hI : lwI L xs sh pp mm) (hz : ∀ sh pp mm, lwI L xs sh pp mm → zS 273 1160 [zR 1, zR 13, zR 122, zI i] [] sh pp mm Q) : zS 273 853 [zR 1, zR 13, zR 122, zI i] [] sh pp mm Q := by
  obtain ⟨f, G, cn, N, D, v, c, m, ⟨k1, l1⟩, hx⟩ := hI
  have h := c.1
  have k13 := k_13 h
  have kb : zKd sh 1 = 20 ∨ zKd sh 1 = 30 := Or.inr k1
  simp (disch := first | assumption | omega) only [rW_law_853, rW_law_854, rW_law_855, rW_law_856, rW_law_857, rW_law_858, rW_law_859, Bool.false_eq_true, true_implies, false_implies, implies_true, true_and, and_true, not_true_eq_false, not_false_eq_true, zPush_I, zPush_L, zPush_R, zPush_U, Int.reduceLT, Int.reduceLE, Int.reduceEq, Int.reduceNe, Int.reduceAdd, Int.reduceSub, Int.reduceMul, Int.reduceNeg, Int.reduceToNat, Nat.reduceAdd, Nat.reduceMul, Nat.reduceEqDiff, zw32_id, zw64_id, zupd_eq, zupd_na, zupd_ni, zupp_eq, zupp_na, zupp_ni]
  refine cOdds c v.1 v.2 (fun pp1 m1 c1 fx => ?_)
  have h1 := c1.1
  have k122 := k_122 h1
  have x1 : m1 1 = mm 1 := fx.1 1 (Or.inl (by decide))
  have kk1 : zKd sh 1 = 30 := by rw [(fx.2 1 (by decide)).1]; exact k1
  have ll1 : zLn sh 1 = (L : Int) := by rw [(fx.2 1 (by decide)).2]; exact l1
  have kb1 : zKd sh 1 = 20 ∨ zKd sh 1 = 30 := Or.inr kk1
  have m1k := mOk_fx m (fun a a1 a2 => fx.1 a (Or.inr ⟨a1, a2⟩))
  simp (disch := first | assumption | omega) only [rW_law_862, rW_law_863, rW_law_864, rW_law_865, rW_law_866, rW_law_867, rW_law_868, Bool.false_eq_true, true_implies, false_implies, implies_true, true_and, and_true, not_true_eq_false, not_false_eq_true, zPush_I, zPush_L, zPush_R, zPush_U, Int.reduceLT, Int.reduceLE, Int.reduceEq, Int.reduceNe, Int.reduceAdd, Int.reduceSub, Int.reduceMul, Int.reduceNeg, Int.reduceToNat, Nat.reduceAdd, Nat.reduceMul, Nat.reduceEqDiff, zw32_id, zw64_id, zupd_eq, zupd_na, zupd_ni, zupp_eq, zupp_na, zupp_ni, x1]
  refine mOdds h1 m1k v.1 v.2 (fun m2 mm2 fc => ?_)
  have x2 : m2 1 = mm 1 := (fc 1 (by decide)).trans x1
  have q := hz _ _ m2 ⟨_, _, _, _, _, v, cOk_fc c1 fc, mm2, ⟨kk1, ll1⟩, fun j => by rw [x2]; exact hx j⟩
  simp (disch := first | assumption | omega) only [rW_law_871, rW_law_874, rW_law_875, Bool.false_eq_true, true_implies, false_implies, implies_true, true_and, and_true, not_true_eq_false, not_false_eq_true, zPush_I, zPush_L, zPush_R, zPush_U, Int.reduceLT, Int.reduceLE, Int.reduceEq, Int.reduceNe, Int.reduceAdd, Int.reduceSub, Int.reduceMul, Int.reduceNeg, Int.reduceToNat, Nat.reduceAdd, Nat.reduceMul, Nat.reduceEqDiff, zw32_id, zw64_id, zupd_eq, zupd_na, zupd_ni, zupp_eq, zupp_na, zupp_ni]
  exact q
theorem law_shaken (i0 : 0 ≤ i) (i4 : i + 4 < (L : Int)) (iL : (L : Int) ≤ 2560) (hI : lwI L xs sh pp mm) (hz : ∀ sh pp mm, lwI L xs sh pp mm → zS 273 1160 [zR 1, zR 13, zR 122, zI i] [] sh pp mm Q) : zS 273 876 [zR 1, zR 13, zR 122, zI i] [] sh pp mm Q := by
  obtain ⟨f, G, cn, N, D, v, c, m, ⟨k1, l1⟩, hx⟩ := hI
  have h := c.1
  have k13 := k_13 h
  have kb : zKd sh 1 = 20 ∨ zKd sh 1 = 30 := Or.inr k1
  simp (disch := first | assumption | omega) only [rW_law_876, rW_law_877, Bool.false_eq_true, true_implies, false_implies, implies_true, true_and, and_true, not_true_eq_false, not_false_eq_true, zPush_I, zPush_L, zPush_R, zPush_U, Int.reduceLT, Int.reduceLE, Int.reduceEq, Int.reduceNe, Int.reduceAdd, Int.reduceSub, Int.reduceMul, Int.reduceNeg, Int.reduceToNat, Nat.reduceAdd, Nat.reduceMul, Nat.reduceEqDiff, zw32_id, zw64_id, zupd_eq, zupd_na, zupd_ni, zupp_eq, zupp_na, zupp_ni]
  refine cShaken c v.1 v.2 (fun pp1 m1 c1 fx => ?_)
  have h1 := c1.1
  have k122 := k_122 h1
  have x1 : m1 1 = mm 1 := fx.1 1 (Or.inl (by decide))
  have kk1 : zKd sh 1 = 30 := by rw [(fx.2 1 (by decide)).1]; exact k1
  have ll1 : zLn sh 1 = (L : Int) := by rw [(fx.2 1 (by decide)).2]; exact l1
  have kb1 : zKd sh 1 = 20 ∨ zKd sh 1 = 30 := Or.inr kk1
  have m1k := mOk_fx m (fun a a1 a2 => fx.1 a (Or.inr ⟨a1, a2⟩))
  simp (disch := first | assumption | omega) only [rW_law_880, rW_law_881, Bool.false_eq_true, true_implies, false_implies, implies_true, true_and, and_true, not_true_eq_false, not_false_eq_true, zPush_I, zPush_L, zPush_R, zPush_U, Int.reduceLT, Int.reduceLE, Int.reduceEq, Int.reduceNe, Int.reduceAdd, Int.reduceSub, Int.reduceMul, Int.reduceNeg, Int.reduceToNat, Nat.reduceAdd, Nat.reduceMul, Nat.reduceEqDiff, zw32_id, zw64_id, zupd_eq, zupd_na, zupd_ni, zupp_eq, zupp_na, zupp_ni, x1]
  refine mShaken h1 m1k v.1 v.2 (fun m2 mm2 fc => ?_)
  have x2 : m2 1 = mm 1 := (fc 1 (by decide)).trans x1
  have q := hz _ _ m2 ⟨_, _, _, _, _, v, cOk_fc c1 fc, mm2, ⟨kk1, ll1⟩, fun j => by rw [x2]; exact hx j⟩
  simp (disch := first | assumption | omega) only [rW_law_884, rW_law_887, rW_law_888, Bool.false_eq_true, true_implies, false_implies, implies_true, true_and, and_true, not_true_eq_false, not_false_eq_true, zPush_I, zPush_L, zPush_R, zPush_U, Int.reduceLT, Int.reduceLE, Int.reduceEq, Int.reduceNe, Int.reduceAdd, Int.reduceSub, Int.reduceMul, Int.reduceNeg, Int.reduceToNat, Nat.reduceAdd, Nat.reduceMul, Nat.reduceEqDiff, zw32_id, zw64_id, zupd_eq, zupd_na, zupd_ni, zupp_eq, zupp_na, zupp_ni]
  exact q
theorem law_before (i0 : 0 ≤ i) (i4 : i + 4 < (L : Int)) (iL : (L : Int) ≤ 2560) (hI : lwI L xs sh pp mm) (hz : ∀ sh pp mm, lwI L xs sh pp mm → zS 273 1160 [zR 1, zR 13, zR 122, zI i] [] sh pp mm Q) : zS 273 889 [zR 1, zR 13, zR 122, zI i] [] sh pp mm Q := by
  obtain ⟨f, G, cn, N, D, v, c, m, ⟨k1, l1⟩, hx⟩ := hI
  have h := c.1
  have k13 := k_13 h
  have kb : zKd sh 1 = 20 ∨ zKd sh 1 = 30 := Or.inr k1
  simp (disch := first | assumption | omega) only [rW_law_889, rW_law_890, rW_law_891, rW_law_892, rW_law_893, rW_law_894, rW_law_895, rW_law_896, rW_law_897, rW_law_898, rW_law_899, rW_law_900, Bool.false_eq_true, true_implies, false_implies, implies_true, true_and, and_true, not_true_eq_false, not_false_eq_true, zPush_I, zPush_L, zPush_R, zPush_U, Int.reduceLT, Int.reduceLE, Int.reduceEq, Int.reduceNe, Int.reduceAdd, Int.reduceSub, Int.reduceMul, Int.reduceNeg, Int.reduceToNat, Nat.reduceAdd, Nat.reduceMul, Nat.reduceEqDiff, zw32_id, zw64_id, zupd_eq, zupd_na, zupd_ni, zupp_eq, zupp_na, zupp_ni]
  refine cBefore c v.1 v.2 (fun pp1 m1 c1 fx => ?_)
  have h1 := c1.1
  have k122 := k_122 h1
  have x1 : m1 1 = mm 1 := fx.1 1 (Or.inl (by decide))
  have kk1 : zKd sh 1 = 30 := by rw [(fx.2 1 (by decide)).1]; exact k1
  have ll1 : zLn sh 1 = (L : Int) := by rw [(fx.2 1 (by decide)).2]; exact l1
  have kb1 : zKd sh 1 = 20 ∨ zKd sh 1 = 30 := Or.inr kk1
  have m1k := mOk_fx m (fun a a1 a2 => fx.1 a (Or.inr ⟨a1, a2⟩))
  simp (disch := first | assumption | omega) only [rW_law_903, rW_law_904, rW_law_905, rW_law_906, rW_law_907, rW_law_908, rW_law_909, rW_law_910, rW_law_911, rW_law_912, rW_law_913, rW_law_914, Bool.false_eq_true, true_implies, false_implies, implies_true, true_and, and_true, not_true_eq_false, not_false_eq_true, zPush_I, zPush_L, zPush_R, zPush_U, Int.reduceLT, Int.reduceLE, Int.reduceEq, Int.reduceNe, Int.reduceAdd, Int.reduceSub, Int.reduceMul, Int.reduceNeg, Int.reduceToNat, Nat.reduceAdd, Nat.reduceMul, Nat.reduceEqDiff, zw32_id, zw64_id, zupd_eq, zupd_na, zupd_ni, zupp_eq, zupp_na, zupp_ni, x1]
  refine mBefore h1 m1k v.1 v.2 (fun m2 mm2 fc => ?_)
  have x2 : m2 1 = mm 1 := (fc 1 (by decide)).trans x1
  have q := hz _ _ m2 ⟨_, _, _, _, _, v, cOk_fc c1 fc, mm2, ⟨kk1, ll1⟩, fun j => by rw [x2]; exact hx j⟩
  simp (disch := first | assumption | omega) only [rW_law_917, rW_law_920, rW_law_921, Bool.false_eq_true, true_implies, false_implies, implies_true, true_and, and_true, not_true_eq_false, not_false_eq_true, zPush_I, zPush_L, zPush_R, zPush_U, Int.reduceLT, Int.reduceLE, Int.reduceEq, Int.reduceNe, Int.reduceAdd, Int.reduceSub, Int.reduceMul, Int.reduceNeg, Int.reduceToNat, Nat.reduceAdd, Nat.reduceMul, Nat.reduceEqDiff, zw32_id, zw64_id, zupd_eq, zupd_na, zupd_ni, zupp_eq, zupp_na, zupp_ni]
  exact q
theorem law_test (i0 : 0 ≤ i) (i4 : i + 4 < (L : Int)) (iL : (L : Int) ≤ 2560) (hI : lwI L xs sh pp mm) (hz : ∀ sh pp mm, lwI L xs sh pp mm → zS 273 1160 [zR 1, zR 13, zR 122, zI i] [] sh pp mm Q) : zS 273 922 [zR 1, zR 13, zR 122, zI i] [] sh pp mm Q := by
  obtain ⟨f, G, cn, N, D, v, c, m, ⟨k1, l1⟩, hx⟩ := hI
  have h := c.1
  have k13 := k_13 h
  have kb : zKd sh 1 = 20 ∨ zKd sh 1 = 30 := Or.inr k1
  simp (disch := first | assumption | omega) only [rW_law_922, rW_law_923, rW_law_924, rW_law_925, rW_law_926, rW_law_927, rW_law_928, rW_law_929, rW_law_930, rW_law_931, rW_law_932, rW_law_933, rW_law_934, rW_law_935, rW_law_936, rW_law_937, rW_law_938, Bool.false_eq_true, true_implies, false_implies, implies_true, true_and, and_true, not_true_eq_false, not_false_eq_true, zPush_I, zPush_L, zPush_R, zPush_U, Int.reduceLT, Int.reduceLE, Int.reduceEq, Int.reduceNe, Int.reduceAdd, Int.reduceSub, Int.reduceMul, Int.reduceNeg, Int.reduceToNat, Nat.reduceAdd, Nat.reduceMul, Nat.reduceEqDiff, zw32_id, zw64_id, zupd_eq, zupd_na, zupd_ni, zupp_eq, zupp_na, zupp_ni]
  refine cTest c v.1 (fun m1 c1 fx => ?_)
  have h1 := c1.1
  have k122 := k_122 h1
  have x1 : m1 1 = mm 1 := fx.1 1 (Or.inl (by decide))
  have kk1 : zKd sh 1 = 30 := by rw [(fx.2 1 (by decide)).1]; exact k1
  have ll1 : zLn sh 1 = (L : Int) := by rw [(fx.2 1 (by decide)).2]; exact l1
  have kb1 : zKd sh 1 = 20 ∨ zKd sh 1 = 30 := Or.inr kk1
  have m1k := mOk_fx m (fun a a1 a2 => fx.1 a (Or.inr ⟨a1, a2⟩))
  simp (disch := first | assumption | omega) only [rW_law_941, rW_law_942, rW_law_943, rW_law_944, rW_law_945, rW_law_946, rW_law_947, rW_law_948, rW_law_949, rW_law_950, rW_law_951, rW_law_952, rW_law_953, rW_law_954, rW_law_955, rW_law_956, rW_law_957, Bool.false_eq_true, true_implies, false_implies, implies_true, true_and, and_true, not_true_eq_false, not_false_eq_true, zPush_I, zPush_L, zPush_R, zPush_U, Int.reduceLT, Int.reduceLE, Int.reduceEq, Int.reduceNe, Int.reduceAdd, Int.reduceSub, Int.reduceMul, Int.reduceNeg, Int.reduceToNat, Nat.reduceAdd, Nat.reduceMul, Nat.reduceEqDiff, zw32_id, zw64_id, zupd_eq, zupd_na, zupd_ni, zupp_eq, zupp_na, zupp_ni, x1]
  refine mTest h1 m1k v.1 (fun m2 mm2 fc => ?_)
  have x2 : m2 1 = mm 1 := (fc 1 (by decide)).trans x1
  have q := hz _ _ m2 ⟨_, _, _, _, _, iv_test v, cOk_fc c1 fc, mm2, ⟨kk1, ll1⟩, fun j => by rw [x2]; exact hx j⟩
  simp (disch := first | assumption | omega) only [rW_law_960, rW_law_963, rW_law_964, Bool.false_eq_true, true_implies, false_implies, implies_true, true_and, and_true, not_true_eq_false, not_false_eq_true, zPush_I, zPush_L, zPush_R, zPush_U, Int.reduceLT, Int.reduceLE, Int.reduceEq, Int.reduceNe, Int.reduceAdd, Int.reduceSub, Int.reduceMul, Int.reduceNeg, Int.reduceToNat, Nat.reduceAdd, Nat.reduceMul, Nat.reduceEqDiff, zw32_id, zw64_id, zupd_eq, zupd_na, zupd_ni, zupp_eq, zupp_na, zupp_ni]
  exact q
end
