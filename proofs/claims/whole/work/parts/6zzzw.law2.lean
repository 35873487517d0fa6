/-! ===== the law: calls, 2 ===== -/
section
variable {sh : zSh} {pp : zPp} {mm : zMm} {Q : zV → zSh → zPp → zMm → Prop} {L : Nat} {xs : Nat → Int32} {i : Int}
theorem law_wish (i0 : 0 ≤ i) (i4 : i + 4 < (L : Int)) (iL : (L : Int) ≤ 2560) (hI : lwI L xs sh pp mm) (hz : ∀ sh pp mm, lwI L xs sh pp mm → zS 273 1160 [zR 1, zR 13, zR 122, zI i] [] sh pp mm Q) : zS 273 505 [zR 1, zR 13, zR 122, zI i] [] sh pp mm Q := by
  obtain ⟨f, G, cn, N, D, v, c, m, ⟨k1, l1⟩, hx⟩ := hI
  have h := c.1
  have k13 := k_13 h
  have kb : zKd sh 1 = 20 ∨ zKd sh 1 = 30 := Or.inr k1
  simp (disch := first | assumption | omega) only [rW_law_505, rW_law_506, rW_law_507, rW_law_508, rW_law_509, rW_law_510, rW_law_511, rW_law_512, rW_law_513, rW_law_514, rW_law_515, rW_law_516, Bool.false_eq_true, true_implies, false_implies, implies_true, true_and, and_true, not_true_eq_false, not_false_eq_true, zPush_I, zPush_L, zPush_R, zPush_U, Int.reduceLT, Int.reduceLE, Int.reduceEq, Int.reduceNe, Int.reduceAdd, Int.reduceSub, Int.reduceMul, Int.reduceNeg, Int.reduceToNat, Nat.reduceAdd, Nat.reduceMul, Nat.reduceEqDiff, zw32_id, zw64_id, zupd_eq, zupd_na, zupd_ni, zupp_eq, zupp_na, zupp_ni]
  refine cWish c v.1 (fun m1 c1 fx => ?_)
  have h1 := c1.1
  have k122 := k_122 h1
  have x1 : m1 1 = mm 1 := fx.1 1 (Or.inl (by decide))
  have kk1 : zKd sh 1 = 30 := by rw [(fx.2 1 (by decide)).1]; exact k1
  have ll1 : zLn sh 1 = (L : Int) := by rw [(fx.2 1 (by decide)).2]; exact l1
  have kb1 : zKd sh 1 = 20 ∨ zKd sh 1 = 30 := Or.inr kk1
  have m1k := mOk_fx m (fun a a1 a2 => fx.1 a (Or.inr ⟨a1, a2⟩))
  simp (disch := first | assumption | omega) only [rW_law_519, rW_law_520, rW_law_521, rW_law_522, rW_law_523, rW_law_524, rW_law_525, rW_law_526, rW_law_527, rW_law_528, rW_law_529, rW_law_530, Bool.false_eq_true, true_implies, false_implies, implies_true, true_and, and_true, not_true_eq_false, not_false_eq_true, zPush_I, zPush_L, zPush_R, zPush_U, Int.reduceLT, Int.reduceLE, Int.reduceEq, Int.reduceNe, Int.reduceAdd, Int.reduceSub, Int.reduceMul, Int.reduceNeg, Int.reduceToNat, Nat.reduceAdd, Nat.reduceMul, Nat.reduceEqDiff, zw32_id, zw64_id, zupd_eq, zupd_na, zupd_ni, zupp_eq, zupp_na, zupp_ni, x1]
  refine mWish h1 m1k v.1 (fun m2 mm2 fc => ?_)
  have x2 : m2 1 = mm 1 := (fc 1 (by decide)).trans x1
  have q := hz _ _ m2 ⟨_, _, _, _, _, iv_wish v, cOk_fc c1 fc, mm2, ⟨kk1, ll1⟩, fun j => by rw [x2]; exact hx j⟩
  simp (disch := first | assumption | omega) only [rW_law_533, rW_law_536, rW_law_537, Bool.false_eq_true, true_implies, false_implies, implies_true, true_and, and_true, not_true_eq_false, not_false_eq_true, zPush_I, zPush_L, zPush_R, zPush_U, Int.reduceLT, Int.reduceLE, Int.reduceEq, Int.reduceNe, Int.reduceAdd, Int.reduceSub, Int.reduceMul, Int.reduceNeg, Int.reduceToNat, Nat.reduceAdd, Nat.reduceMul, Nat.reduceEqDiff, zw32_id, zw64_id, zupd_eq, zupd_na, zupd_ni, zupp_eq, zupp_na, zupp_ni]
  exact q
theorem law_forget (i0 : 0 ≤ i) (i4 : i + 4 < (L : Int)) (iL : (L : Int) ≤ 2560) (hI : lwI L xs sh pp mm) (hz : ∀ sh pp mm, lwI L xs sh pp mm → zS 273 1160 [zR 1, zR 13, zR 122, zI i] [] sh pp mm Q) : zS 273 538 [zR 1, zR 13, zR 122, zI i] [] sh pp mm Q := by
  obtain ⟨f, G, cn, N, D, v, c, m, ⟨k1, l1⟩, hx⟩ := hI
  have h := c.1
  have k13 := k_13 h
  have kb : zKd sh 1 = 20 ∨ zKd sh 1 = 30 := Or.inr k1
  simp (disch := first | assumption | omega) only [rW_law_538, rW_law_539, Bool.false_eq_true, true_implies, false_implies, implies_true, true_and, and_true, not_true_eq_false, not_false_eq_true, zPush_I, zPush_L, zPush_R, zPush_U, Int.reduceLT, Int.reduceLE, Int.reduceEq, Int.reduceNe, Int.reduceAdd, Int.reduceSub, Int.reduceMul, Int.reduceNeg, Int.reduceToNat, Nat.reduceAdd, Nat.reduceMul, Nat.reduceEqDiff, zw32_id, zw64_id, zupd_eq, zupd_na, zupd_ni, zupp_eq, zupp_na, zupp_ni]
  refine cForget c v.1 (fun m1 c1 fx => ?_)
  have h1 := c1.1
  have k122 := k_122 h1
  have x1 : m1 1 = mm 1 := fx.1 1 (Or.inl (by decide))
  have kk1 : zKd sh 1 = 30 := by rw [(fx.2 1 (by decide)).1]; exact k1
  have ll1 : zLn sh 1 = (L : Int) := by rw [(fx.2 1 (by decide)).2]; exact l1
  have kb1 : zKd sh 1 = 20 ∨ zKd sh 1 = 30 := Or.inr kk1
  have m1k := mOk_fx m (fun a a1 a2 => fx.1 a (Or.inr ⟨a1, a2⟩))
  simp (disch := first | assumption | omega) only [rW_law_542, rW_law_543, Bool.false_eq_true, true_implies, false_implies, implies_true, true_and, and_true, not_true_eq_false, not_false_eq_true, zPush_I, zPush_L, zPush_R, zPush_U, Int.reduceLT, Int.reduceLE, Int.reduceEq, Int.reduceNe, Int.reduceAdd, Int.reduceSub, Int.reduceMul, Int.reduceNeg, Int.reduceToNat, Nat.reduceAdd, Nat.reduceMul, Nat.reduceEqDiff, zw32_id, zw64_id, zupd_eq, zupd_na, zupd_ni, zupp_eq, zupp_na, zupp_ni, x1]
  refine mForget h1 m1k (fun m2 mm2 fc => ?_)
  have x2 : m2 1 = mm 1 := (fc 1 (by decide)).trans x1
  have q := hz _ _ m2 ⟨_, _, _, _, _, iv_forget v, cOk_fc c1 fc, mm2, ⟨kk1, ll1⟩, fun j => by rw [x2]; exact hx j⟩
  simp (disch := first | assumption | omega) only [rW_law_546, rW_law_549, rW_law_550, Bool.false_eq_true, true_implies, false_implies, implies_true, true_and, and_true, not_true_eq_false, not_false_eq_true, zPush_I, zPush_L, zPush_R, zPush_U, Int.reduceLT, Int.reduceLE, Int.reduceEq, Int.reduceNe, Int.reduceAdd, Int.reduceSub, Int.reduceMul, Int.reduceNeg, Int.reduceToNat, Nat.reduceAdd, Nat.reduceMul, Nat.reduceEqDiff, zw32_id, zw64_id, zupd_eq, zupd_na, zupd_ni, zupp_eq, zupp_na, zupp_ni]
  exact q
theorem law_right (i0 : 0 ≤ i) (i4 : i + 4 < (L : Int)) (iL : (L : Int) ≤ 2560) (hI : lwI L xs sh pp mm) (hz : ∀ sh pp mm, lwI L xs sh pp mm → zS 273 1160 [zR 1, zR 13, zR 122, zI i] [] sh pp mm Q) : zS 273 551 [zR 1, zR 13, zR 122, zI i] [] sh pp mm Q := by
  obtain ⟨f, G, cn, N, D, v, c, m, ⟨k1, l1⟩, hx⟩ := hI
  have h := c.1
  have k13 := k_13 h
  have kb : zKd sh 1 = 20 ∨ zKd sh 1 = 30 := Or.inr k1
  simp (disch := first | assumption | omega) only [rW_law_551, rW_law_552, rW_law_553, rW_law_554, rW_law_555, rW_law_556, rW_law_557, rW_law_558, rW_law_559, rW_law_560, rW_law_561, rW_law_562, Bool.false_eq_true, true_implies, false_implies, implies_true, true_and, and_true, not_true_eq_false, not_false_eq_true, zPush_I, zPush_L, zPush_R, zPush_U, Int.reduceLT, Int.reduceLE, Int.reduceEq, Int.reduceNe, Int.reduceAdd, Int.reduceSub, Int.reduceMul, Int.reduceNeg, Int.reduceToNat, Nat.reduceAdd, Nat.reduceMul, Nat.reduceEqDiff, zw32_id, zw64_id, zupd_eq, zupd_na, zupd_ni, zupp_eq, zupp_na, zupp_ni]
  refine cRight c v.1 (fun m1 c1 fx => ?_)
  have h1 := c1.1
  have k122 := k_122 h1
  have x1 : m1 1 = mm 1 := fx.1 1 (Or.inl (by decide))
  have kk1 : zKd sh 1 = 30 := by rw [(fx.2 1 (by decide)).1]; exact k1
  have ll1 : zLn sh 1 = (L : Int) := by rw [(fx.2 1 (by decide)).2]; exact l1
  have kb1 : zKd sh 1 = 20 ∨ zKd sh 1 = 30 := Or.inr kk1
  have m1k := mOk_fx m (fun a a1 a2 => fx.1 a (Or.inr ⟨a1, a2⟩))
  simp (disch := first | assumption | omega) only [rW_law_565, rW_law_566, rW_law_567, rW_law_568, rW_law_569, rW_law_570, rW_law_571, rW_law_572, rW_law_573, rW_law_574, rW_law_575, rW_law_576, Bool.false_eq_true, true_implies, false_implies, implies_true, true_and, and_true, not_true_eq_false, not_false_eq_true, zPush_I, zPush_L, zPush_R, zPush_U, Int.reduceLT, Int.reduceLE, Int.reduceEq, Int.reduceNe, Int.reduceAdd, Int.reduceSub, Int.reduceMul, Int.reduceNeg, Int.reduceToNat, Nat.reduceAdd, Nat.reduceMul, Nat.reduceEqDiff, zw32_id, zw64_id, zupd_eq, zupd_na, zupd_ni, zupp_eq, zupp_na, zupp_ni, x1]
  refine mRight h1 m1k v.1 (fun m2 mm2 fc => ?_)
  have x2 : m2 1 = mm 1 := (fc 1 (by decide)).trans x1
  have q := hz _ _ m2 ⟨_, _, _, _, _, v, cOk_fc c1 fc, mm2, ⟨kk1, ll1⟩, fun j => by rw [x2]; exact hx j⟩
  simp (disch := first | assumption | omega) only [rW_law_579, rW_law_582, rW_law_583, Bool.false_eq_true, true_implies, false_implies, implies_true, true_and, and_true, not_true_eq_false, not_false_eq_true, zPush_I, zPush_L, zPush_R, zPush_U, Int.reduceLT, Int.reduceLE, Int.reduceEq, Int.reduceNe, Int.reduceAdd, Int.reduceSub, Int.reduceMul, Int.reduceNeg, Int.reduceToNat, Nat.reduceAdd, Nat.reduceMul, Nat.reduceEqDiff, zw32_id, zw64_id, zupd_eq, zupd_na, zupd_ni, zupp_eq, zupp_na, zupp_ni]
  exact q
theorem law_corner (i0 : 0 ≤ i) (i4 : i + 4 < (L : Int)) (iL : (L : Int) ≤ 2560) (hI : lwI L xs sh pp mm) (hz : ∀ sh pp mm, lwI L xs sh pp mm → zS 273 1160 [zR 1, zR 13, zR 122, zI i] [] sh pp mm Q) : zS 273 584 [zR 1, zR 13, zR 122, zI i] [] sh pp mm Q := by
  obtain ⟨f, G, cn, N, D, v, c, m, ⟨k1, l1⟩, hx⟩ := hI
  have h := c.1
  have k13 := k_13 h
  have kb : zKd sh 1 = 20 ∨ zKd sh 1 = 30 := Or.inr k1
  simp (disch := first | assumption | omega) only [rW_law_584, rW_law_585, rW_law_586, rW_law_587, rW_law_588, rW_law_589, rW_law_590, rW_law_591, rW_law_592, rW_law_593, rW_law_594, rW_law_595, Bool.false_eq_true, true_implies, false_implies, implies_true, true_and, and_true, not_true_eq_false, not_false_eq_true, zPush_I, zPush_L, zPush_R, zPush_U, Int.reduceLT, Int.reduceLE, Int.reduceEq, Int.reduceNe, Int.reduceAdd, Int.reduceSub, Int.reduceMul, Int.reduceNeg, Int.reduceToNat, Nat.reduceAdd, Nat.reduceMul, Nat.reduceEqDiff, zw32_id, zw64_id, zupd_eq, zupd_na, zupd_ni, zupp_eq, zupp_na, zupp_ni]
  refine cCorner c v.1 (fun m1 c1 fx => ?_)
  have h1 := c1.1
  have k122 := k_122 h1
  have x1 : m1 1 = mm 1 := fx.1 1 (Or.inl (by decide))
  have kk1 : zKd sh 1 = 30 := by rw [(fx.2 1 (by decide)).1]; exact k1
  have ll1 : zLn sh 1 = (L : Int) := by rw [(fx.2 1 (by decide)).2]; exact l1
  have kb1 : zKd sh 1 = 20 ∨ zKd sh 1 = 30 := Or.inr kk1
  have m1k := mOk_fx m (fun a a1 a2 => fx.1 a (Or.inr ⟨a1, a2⟩))
  simp (disch := first | assumption | omega) only [rW_law_598, rW_law_599, rW_law_600, rW_law_601, rW_law_602, rW_law_603, rW_law_604, rW_law_605, rW_law_606, rW_law_607, rW_law_608, rW_law_609, Bool.false_eq_true, true_implies, false_implies, implies_true, true_and, and_true, not_true_eq_false, not_false_eq_true, zPush_I, zPush_L, zPush_R, zPush_U, Int.reduceLT, Int.reduceLE, Int.reduceEq, Int.reduceNe, Int.reduceAdd, Int.reduceSub, Int.reduceMul, Int.reduceNeg, Int.reduceToNat, Nat.reduceAdd, Nat.reduceMul, Nat.reduceEqDiff, zw32_id, zw64_id, zupd_eq, zupd_na, zupd_ni, zupp_eq, zupp_na, zupp_ni, x1]
  refine mCorner h1 m1k v.1 (fun m2 mm2 fc => ?_)
  have x2 : m2 1 = mm 1 := (fc 1 (by decide)).trans x1
  have q := hz _ _ m2 ⟨_, _, _, _, _, iv_corner v, cOk_fc c1 fc, mm2, ⟨kk1, ll1⟩, fun j => by rw [x2]; exact hx j⟩
  simp (disch := first | assumption | omega) only [rW_law_612, rW_law_615, rW_law_616, Bool.false_eq_true, true_implies, false_implies, implies_true, true_and, and_true, not_true_eq_false, not_false_eq_true, zPush_I, zPush_L, zPush_R, zPush_U, Int.reduceLT, Int.reduceLE, Int.reduceEq, Int.reduceNe, Int.reduceAdd, Int.reduceSub, Int.reduceMul, Int.reduceNeg, Int.reduceToNat, Nat.reduceAdd, Nat.reduceMul, Nat.reduceEqDiff, zw32_id, zw64_id, zupd_eq, zupd_na, zupd_ni, zupp_eq, zupp_na, zupp_ni]
  exact q
theorem law_edge (i0 : 0 ≤ i) (i4 : i + 4 < (L : Int)) (iL : (L : Int) ≤ 2560) (hI : lwI L xs sh pp mm) (hz : ∀ sh pp mm, lwI L xs sh pp mm → zS 273 1160 [zR 1, zR 13, zR 122, zI i] [] sh pp mm Q) : zS 273 617 [zR 1, zR 13, zR 122, zI i] [] sh pp mm Q := by
  obtain ⟨f, G, cn, N, D, v, c, m, ⟨k1, l1⟩, hx⟩ := hI
  have h := c.1
  have k13 := k_13 h
  have kb : zKd sh 1 = 20 ∨ zKd sh 1 = 30 := Or.inr k1
  by_cases e3 : mm 1 (i + 3) = 0
  · have wq : (0 : Int) = 0 ∨ (0 : Int) = 1 := by decide
    simp (disch := first | assumption | omega) only [rW_law_617, rW_law_618, rW_law_619, rW_law_620, rW_law_621, rW_law_622, rW_law_623, rW_law_624, rW_law_625, rW_law_626, rW_law_627, rW_law_628, rW_law_629, rW_law_630, rW_law_631, rW_law_632, rW_law_633, rW_law_636, rW_law_637, rW_law_640, rW_law_641, Bool.false_eq_true, true_implies, false_implies, implies_true, true_and, and_true, not_true_eq_false, not_false_eq_true, zPush_I, zPush_L, zPush_R, zPush_U, Int.reduceLT, Int.reduceLE, Int.reduceEq, Int.reduceNe, Int.reduceAdd, Int.reduceSub, Int.reduceMul, Int.reduceNeg, Int.reduceToNat, Nat.reduceAdd, Nat.reduceMul, Nat.reduceEqDiff, zw32_id, zw64_id, zupd_eq, zupd_na, zupd_ni, zupp_eq, zupp_na, zupp_ni, eq_true e3]
    refine cEdge c v.1 wq (fun m1 c1 fx => ?_)
    have h1 := c1.1
    have k122 := k_122 h1
    have x1 : m1 1 = mm 1 := fx.1 1 (Or.inl (by decide))
    have kk1 : zKd sh 1 = 30 := by rw [(fx.2 1 (by decide)).1]; exact k1
    have ll1 : zLn sh 1 = (L : Int) := by rw [(fx.2 1 (by decide)).2]; exact l1
    have kb1 : zKd sh 1 = 20 ∨ zKd sh 1 = 30 := Or.inr kk1
    have m1k := mOk_fx m (fun a a1 a2 => fx.1 a (Or.inr ⟨a1, a2⟩))
    simp (disch := first | assumption | omega) only [rW_law_644, rW_law_645, rW_law_646, rW_law_647, rW_law_648, rW_law_649, rW_law_650, rW_law_651, rW_law_652, rW_law_653, rW_law_654, rW_law_655, rW_law_656, rW_law_657, rW_law_658, rW_law_659, rW_law_660, rW_law_663, rW_law_664, rW_law_667, rW_law_668, Bool.false_eq_true, true_implies, false_implies, implies_true, true_and, and_true, not_true_eq_false, not_false_eq_true, zPush_I, zPush_L, zPush_R, zPush_U, Int.reduceLT, Int.reduceLE, Int.reduceEq, Int.reduceNe, Int.reduceAdd, Int.reduceSub, Int.reduceMul, Int.reduceNeg, Int.reduceToNat, Nat.reduceAdd, Nat.reduceMul, Nat.reduceEqDiff, zw32_id, zw64_id, zupd_eq, zupd_na, zupd_ni, zupp_eq, zupp_na, zupp_ni, x1, eq_true e3]
    refine mEdge h1 m1k v.1 wq (fun m2 mm2 fc => ?_)
    have x2 : m2 1 = mm 1 := (fc 1 (by decide)).trans x1
    have q := hz _ _ m2 ⟨_, _, _, _, _, iv_edge v wq, cOk_fc c1 fc, mm2, ⟨kk1, ll1⟩, fun j => by rw [x2]; exact hx j⟩
    simp (disch := first | assumption | omega) only [rW_law_671, rW_law_674, rW_law_675, Bool.false_eq_true, true_implies, false_implies, implies_true, true_and, and_true, not_true_eq_false, not_false_eq_true, zPush_I, zPush_L, zPush_R, zPush_U, Int.reduceLT, Int.reduceLE, Int.reduceEq, Int.reduceNe, Int.reduceAdd, Int.reduceSub, Int.reduceMul, Int.reduceNeg, Int.reduceToNat, Nat.reduceAdd, Nat.reduceMul, Nat.reduceEqDiff, zw32_id, zw64_id, zupd_eq, zupd_na, zupd_ni, zupp_eq, zupp_na, zupp_ni]
    exact q
  · have wq : (1 : Int) = 0 ∨ (1 : Int) = 1 := by decide
    simp (disch := first | assumption | omega) only [rW_law_617, rW_law_618, rW_law_619, rW_law_620, rW_law_621, rW_law_622, rW_law_623, rW_law_624, rW_law_625, rW_law_626, rW_law_627, rW_law_628, rW_law_629, rW_law_630, rW_law_631, rW_law_632, rW_law_633, rW_law_636, rW_law_637, rW_law_640, rW_law_641, Bool.false_eq_true, true_implies, false_implies, implies_true, true_and, and_true, not_true_eq_false, not_false_eq_true, zPush_I, zPush_L, zPush_R, zPush_U, Int.reduceLT, Int.reduceLE, Int.reduceEq, Int.reduceNe, Int.reduceAdd, Int.reduceSub, Int.reduceMul, Int.reduceNeg, Int.reduceToNat, Nat.reduceAdd, Nat.reduceMul, Nat.reduceEqDiff, zw32_id, zw64_id, zupd_eq, zupd_na, zupd_ni, zupp_eq, zupp_na, zupp_ni, eq_false e3]
    refine cEdge c v.1 wq (fun m1 c1 fx => ?_)
    have h1 := c1.1
    have k122 := k_122 h1
    have x1 : m1 1 = mm 1 := fx.1 1 (Or.inl (by decide))
    have kk1 : zKd sh 1 = 30 := by rw [(fx.2 1 (by decide)).1]; exact k1
    have ll1 : zLn sh 1 = (L : Int) := by rw [(fx.2 1 (by decide)).2]; exact l1
    have kb1 : zKd sh 1 = 20 ∨ zKd sh 1 = 30 := Or.inr kk1
    have m1k := mOk_fx m (fun a a1 a2 => fx.1 a (Or.inr ⟨a1, a2⟩))
    simp (disch := first | assumption | omega) only [rW_law_644, rW_law_645, rW_law_646, rW_law_647, rW_law_648, rW_law_649, rW_law_650, rW_law_651, rW_law_652, rW_law_653, rW_law_654, rW_law_655, rW_law_656, rW_law_657, rW_law_658, rW_law_659, rW_law_660, rW_law_663, rW_law_664, rW_law_667, rW_law_668, Bool.false_eq_true, true_implies, false_implies, implies_true, true_and, and_true, not_true_eq_false, not_false_eq_true, zPush_I, zPush_L, zPush_R, zPush_U, Int.reduceLT, Int.reduceLE, Int.reduceEq, Int.reduceNe, Int.reduceAdd, Int.reduceSub, Int.reduceMul, Int.reduceNeg, Int.reduceToNat, Nat.reduceAdd, Nat.reduceMul, Nat.reduceEqDiff, zw32_id, zw64_id, zupd_eq, zupd_na, zupd_ni, zupp_eq, zupp_na, zupp_ni, x1, eq_false e3]
    refine mEdge h1 m1k v.1 wq (fun m2 mm2 fc => ?_)
    have x2 : m2 1 = mm 1 := (fc 1 (by decide)).trans x1
    have q := hz _ _ m2 ⟨_, _, _, _, _, iv_edge v wq, cOk_fc c1 fc, mm2, ⟨kk1, ll1⟩, fun j => by rw [x2]; exact hx j⟩
    simp (disch := first | assumption | omega) only [rW_law_671, rW_law_674, rW_law_675, Bool.false_eq_true, true_implies, false_implies, implies_true, true_and, and_true, not_true_eq_false, not_false_eq_true, zPush_I, zPush_L, zPush_R, zPush_U, Int.reduceLT, Int.reduceLE, Int.reduceEq, Int.reduceNe, Int.reduceAdd, Int.reduceSub, Int.reduceMul, Int.reduceNeg, Int.reduceToNat, Nat.reduceAdd, Nat.reduceMul, Nat.reduceEqDiff, zw32_id, zw64_id, zupd_eq, zupd_na, zupd_ni, zupp_eq, zupp_na, zupp_ni]
    exact q
theorem law_unnet (i0 : 0 ≤ i) (i4 : i + 4 < (L : Int)) (iL : (L : Int) ≤ 2560) (hI : lwI L xs sh pp mm) (hz : ∀ sh pp mm, lwI L xs sh pp mm → zS 273 1160 [zR 1, zR 13, zR 122, zI i] [] sh pp mm Q) : zS 273 676 [zR 1, zR 13, zR 122, zI i] [] sh pp mm Q := by
  obtain ⟨f, G, cn, N, D, v, c, m, ⟨k1, l1⟩, hx⟩ := hI
  have h := c.1
  have k13 := k_13 h
  have kb : zKd sh 1 = 20 ∨ zKd sh 1 = 30 := Or.inr k1
  simp (disch := first | assumption | omega) only [rW_law_676, rW_law_677, Bool.false_eq_true, true_implies, false_implies, implies_true, true_and, and_true, not_true_eq_false, not_false_eq_true, zPush_I, zPush_L, zPush_R, zPush_U, Int.reduceLT, Int.reduceLE, Int.reduceEq, Int.reduceNe, Int.reduceAdd, Int.reduceSub, Int.reduceMul, Int.reduceNeg, Int.reduceToNat, Nat.reduceAdd, Nat.reduceMul, Nat.reduceEqDiff, zw32_id, zw64_id, zupd_eq, zupd_na, zupd_ni, zupp_eq, zupp_na, zupp_ni]
  refine cUnnet c v.1 (fun m1 c1 fx => ?_)
  have h1 := c1.1
  have k122 := k_122 h1
  have x1 : m1 1 = mm 1 := fx.1 1 (Or.inl (by decide))
  have kk1 : zKd sh 1 = 30 := by rw [(fx.2 1 (by decide)).1]; exact k1
  have ll1 : zLn sh 1 = (L : Int) := by rw [(fx.2 1 (by decide)).2]; exact l1
  have kb1 : zKd sh 1 = 20 ∨ zKd sh 1 = 30 := Or.inr kk1
  have m1k := mOk_fx m (fun a a1 a2 => fx.1 a (Or.inr ⟨a1, a2⟩))
  simp (disch := first | assumption | omega) only [rW_law_680, rW_law_681, Bool.false_eq_true, true_implies, false_implies, implies_true, true_and, and_true, not_true_eq_false, not_false_eq_true, zPush_I, zPush_L, zPush_R, zPush_U, Int.reduceLT, Int.reduceLE, Int.reduceEq, Int.reduceNe, Int.reduceAdd, Int.reduceSub, Int.reduceMul, Int.reduceNeg, Int.reduceToNat, Nat.reduceAdd, Nat.reduceMul, Nat.reduceEqDiff, zw32_id, zw64_id, zupd_eq, zupd_na, zupd_ni, zupp_eq, zupp_na, zupp_ni, x1]
  refine mUnnet h1 m1k (fun m2 mm2 fc => ?_)
  have x2 : m2 1 = mm 1 := (fc 1 (by decide)).trans x1
  have q := hz _ _ m2 ⟨_, _, _, _, _, iv_unnet v, cOk_fc c1 fc, mm2, ⟨kk1, ll1⟩, fun j => by rw [x2]; exact hx j⟩
  simp (disch := first | assumption | omega) only [rW_law_684, rW_law_687, rW_law_688, Bool.false_eq_true, true_implies, false_implies, implies_true, true_and, and_true, not_true_eq_false, not_false_eq_true, zPush_I, zPush_L, zPush_R, zPush_U, Int.reduceLT, Int.reduceLE, Int.reduceEq, Int.reduceNe, Int.reduceAdd, Int.reduceSub, Int.reduceMul, Int.reduceNeg, Int.reduceToNat, Nat.reduceAdd, Nat.reduceMul, Nat.reduceEqDiff, zw32_id, zw64_id, zupd_eq, zupd_na, zupd_ni, zupp_eq, zupp_na, zupp_ni]
  exact q
theorem law_odd (i0 : 0 ≤ i) (i4 : i + 4 < (L : Int)) (iL : (L : Int) ≤ 2560) (hI : lwI L xs sh pp mm) (hz : ∀ sh pp mm, lwI L xs sh pp mm → zS 273 1160 [zR 1, zR 13, zR 122, zI i] [] sh pp mm Q) : zS 273 689 [zR 1, zR 13, zR 122, zI i] [] sh pp mm Q := by
  obtain ⟨f, G, cn, N, D, v, c, m, ⟨k1, l1⟩, hx⟩ := hI
  have h := c.1
  have k13 := k_13 h
  have kb : zKd sh 1 = 20 ∨ zKd sh 1 = 30 := Or.inr k1
  simp (disch := first | assumption | omega) only [rW_law_689, rW_law_690, Bool.false_eq_true, true_implies, false_implies, implies_true, true_and, and_true, not_true_eq_false, not_false_eq_true, zPush_I, zPush_L, zPush_R, zPush_U, Int.reduceLT, Int.reduceLE, Int.reduceEq, Int.reduceNe, Int.reduceAdd, Int.reduceSub, Int.reduceMul, Int.reduceNeg, Int.reduceToNat, Nat.reduceAdd, Nat.reduceMul, Nat.reduceEqDiff, zw32_id, zw64_id, zupd_eq, zupd_na, zupd_ni, zupp_eq, zupp_na, zupp_ni]
  refine cOdd c v.1 (fun m1 c1 fx => ?_)
  have h1 := c1.1
  have k122 := k_122 h1
  have x1 : m1 1 = mm 1 := fx.1 1 (Or.inl (by decide))
  have kk1 : zKd sh 1 = 30 := by rw [(fx.2 1 (by decide)).1]; exact k1
  have ll1 : zLn sh 1 = (L : Int) := by rw [(fx.2 1 (by decide)).2]; exact l1
  have kb1 : zKd sh 1 = 20 ∨ zKd sh 1 = 30 := Or.inr kk1
  have m1k := mOk_fx m (fun a a1 a2 => fx.1 a (Or.inr ⟨a1, a2⟩))
  simp (disch := first | assumption | omega) only [rW_law_693, rW_law_694, Bool.false_eq_true, true_implies, false_implies, implies_true, true_and, and_true, not_true_eq_false, not_false_eq_true, zPush_I, zPush_L, zPush_R, zPush_U, Int.reduceLT, Int.reduceLE, Int.reduceEq, Int.reduceNe, Int.reduceAdd, Int.reduceSub, Int.reduceMul, Int.reduceNeg, Int.reduceToNat, Nat.reduceAdd, Nat.reduceMul, Nat.reduceEqDiff, zw32_id, zw64_id, zupd_eq, zupd_na, zupd_ni, zupp_eq, zupp_na, zupp_ni, x1]
  refine mOdd h1 m1k v.1 ?_
  have q := hz _ _ m1 ⟨_, _, _, _, _, v, c1, m1k, ⟨kk1, ll1⟩, fun j => by rw [x1]; exact hx j⟩
  simp (disch := first | assumption | omega) only [rW_law_697, rW_law_700, rW_law_701, Bool.false_eq_true, true_implies, false_implies, implies_true, true_and, and_true, not_true_eq_false, not_false_eq_true, zPush_I, zPush_L, zPush_R, zPush_U, Int.reduceLT, Int.reduceLE, Int.reduceEq, Int.reduceNe, Int.reduceAdd, Int.reduceSub, Int.reduceMul, Int.reduceNeg, Int.reduceToNat, Nat.reduceAdd, Nat.reduceMul, Nat.reduceEqDiff, zw32_id, zw64_id, zupd_eq, zupd_na, zupd_ni, zupp_eq, zupp_na, zupp_ni]
  exact q
theorem law_once (i0 : 0 ≤ i) (i4 : i + 4 < (L : Int)) (iL : (L : Int) ≤ 2560) (hI : lwI L xs sh pp mm) (hz : ∀ sh pp mm, lwI L xs sh pp mm → zS 273 1160 [zR 1, zR 13, zR 122, zI i] [] sh pp mm Q) : zS 273 702 [zR 1, zR 13, zR 122, zI i] [] sh pp mm Q := by
  obtain ⟨f, G, cn, N, D, v, c, m, ⟨k1, l1⟩, hx⟩ := hI
  have h := c.1
  have k13 := k_13 h
  have kb : zKd sh 1 = 20 ∨ zKd sh 1 = 30 := Or.inr k1
  simp (disch := first | assumption | omega) only [rW_law_702, rW_law_703, Bool.false_eq_true, true_implies, false_implies, implies_true, true_and, and_true, not_true_eq_false, not_false_eq_true, zPush_I, zPush_L, zPush_R, zPush_U, Int.reduceLT, Int.reduceLE, Int.reduceEq, Int.reduceNe, Int.reduceAdd, Int.reduceSub, Int.reduceMul, Int.reduceNeg, Int.reduceToNat, Nat.reduceAdd, Nat.reduceMul, Nat.reduceEqDiff, zw32_id, zw64_id, zupd_eq, zupd_na, zupd_ni, zupp_eq, zupp_na, zupp_ni]
  refine cOnce c v.1 (fun m1 c1 fx => ?_)
  have h1 := c1.1
  have k122 := k_122 h1
  have x1 : m1 1 = mm 1 := fx.1 1 (Or.inl (by decide))
  have kk1 : zKd sh 1 = 30 := by rw [(fx.2 1 (by decide)).1]; exact k1
  have ll1 : zLn sh 1 = (L : Int) := by rw [(fx.2 1 (by decide)).2]; exact l1
  have kb1 : zKd sh 1 = 20 ∨ zKd sh 1 = 30 := Or.inr kk1
  have m1k := mOk_fx m (fun a a1 a2 => fx.1 a (Or.inr ⟨a1, a2⟩))
  simp (disch := first | assumption | omega) only [rW_law_706, rW_law_707, Bool.false_eq_true, true_implies, false_implies, implies_true, true_and, and_true, not_true_eq_false, not_false_eq_true, zPush_I, zPush_L, zPush_R, zPush_U, Int.reduceLT, Int.reduceLE, Int.reduceEq, Int.reduceNe, Int.reduceAdd, Int.reduceSub, Int.reduceMul, Int.reduceNeg, Int.reduceToNat, Nat.reduceAdd, Nat.reduceMul, Nat.reduceEqDiff, zw32_id, zw64_id, zupd_eq, zupd_na, zupd_ni, zupp_eq, zupp_na, zupp_ni, x1]
  refine mOnce h1 m1k v.1 ?_
  have q := hz _ _ m1 ⟨_, _, _, _, _, v, c1, m1k, ⟨kk1, ll1⟩, fun j => by rw [x1]; exact hx j⟩
  simp (disch := first | assumption | omega) only [rW_law_710, rW_law_713, rW_law_714, Bool.false_eq_true, true_implies, false_implies, implies_true, true_and, and_true, not_true_eq_false, not_false_eq_true, zPush_I, zPush_L, zPush_R, zPush_U, Int.reduceLT, Int.reduceLE, Int.reduceEq, Int.reduceNe, Int.reduceAdd, Int.reduceSub, Int.reduceMul, Int.reduceNeg, Int.reduceToNat, Nat.reduceAdd, Nat.reduceMul, Nat.reduceEqDiff, zw32_id, zw64_id, zupd_eq, zupd_na, zupd_ni, zupp_eq, zupp_na, zupp_ni]
  exact q
theorem law_trail (i0 : 0 ≤ i) (i4 : i + 4 < (L : Int)) (iL : (L : Int) ≤ 2560) (hI : lwI L xs sh pp mm) (hz : ∀ sh pp mm, lwI L xs sh pp mm → zS 273 1160 [zR 1, zR 13, zR 122, zI i] [] sh pp mm Q) : zS 273 715 [zR 1, zR 13, zR 122, zI i] [] sh pp mm Q := by
  obtain ⟨f, G, cn, N, D, v, c, m, ⟨k1, l1⟩, hx⟩ := hI
  have h := c.1
  have k13 := k_13 h
  have kb : zKd sh 1 = 20 ∨ zKd sh 1 = 30 := Or.inr k1
  simp (disch := first | assumption | omega) only [rW_law_715, rW_law_716, rW_law_717, rW_law_718, rW_law_719, rW_law_720, rW_law_721, Bool.false_eq_true, true_implies, false_implies, implies_true, true_and, and_true, not_true_eq_false, not_false_eq_true, zPush_I, zPush_L, zPush_R, zPush_U, Int.reduceLT, Int.reduceLE, Int.reduceEq, Int.reduceNe, Int.reduceAdd, Int.reduceSub, Int.reduceMul, Int.reduceNeg, Int.reduceToNat, Nat.reduceAdd, Nat.reduceMul, Nat.reduceEqDiff, zw32_id, zw64_id, zupd_eq, zupd_na, zupd_ni, zupp_eq, zupp_na, zupp_ni]
  refine cTrail c v.1 (fun e1 m1 c1 fx => ?_) (fun e1 hb m1 c1 fx => ?_) (fun e1 hb hn m1 w1 c1 fx a1 => ?_)
  · have h1 := c1.1
    have k122 := k_122 h1
    have x1 : m1 1 = mm 1 := fx.1 1 (Or.inl (by decide))
    have kk1 : zKd sh 1 = 30 := by rw [(fx.2 1 (by decide)).1]; exact k1
    have ll1 : zLn sh 1 = (L : Int) := by rw [(fx.2 1 (by decide)).2]; exact l1
    have kb1 : zKd sh 1 = 20 ∨ zKd sh 1 = 30 := Or.inr kk1
    have m1k := mOk_fx m (fun a a1 a2 => fx.1 a (Or.inr ⟨a1, a2⟩))
    simp (disch := first | assumption | omega) only [rW_law_724, rW_law_725, rW_law_726, rW_law_727, rW_law_728, rW_law_729, rW_law_730, Bool.false_eq_true, true_implies, false_implies, implies_true, true_and, and_true, not_true_eq_false, not_false_eq_true, zPush_I, zPush_L, zPush_R, zPush_U, Int.reduceLT, Int.reduceLE, Int.reduceEq, Int.reduceNe, Int.reduceAdd, Int.reduceSub, Int.reduceMul, Int.reduceNeg, Int.reduceToNat, Nat.reduceAdd, Nat.reduceMul, Nat.reduceEqDiff, zw32_id, zw64_id, zupd_eq, zupd_na, zupd_ni, zupp_eq, zupp_na, zupp_ni, x1]
    refine mTrail h1 m1k v.1 (fun _ m2 mm2 fc => ?_) (fun e2 => absurd e2 (by omega)) (fun e2 => absurd e2 (by omega))
    have x2 : m2 1 = mm 1 := (fc 1 (by decide)).trans x1
    have q := hz _ _ m2 ⟨_, _, _, _, _, v, cOk_fc c1 fc, mm2, ⟨kk1, ll1⟩, fun j => by rw [x2]; exact hx j⟩
    simp (disch := first | assumption | omega) only [rW_law_733, rW_law_736, rW_law_737, Bool.false_eq_true, true_implies, false_implies, implies_true, true_and, and_true, not_true_eq_false, not_false_eq_true, zPush_I, zPush_L, zPush_R, zPush_U, Int.reduceLT, Int.reduceLE, Int.reduceEq, Int.reduceNe, Int.reduceAdd, Int.reduceSub, Int.reduceMul, Int.reduceNeg, Int.reduceToNat, Nat.reduceAdd, Nat.reduceMul, Nat.reduceEqDiff, zw32_id, zw64_id, zupd_eq, zupd_na, zupd_ni, zupp_eq, zupp_na, zupp_ni]
    exact q
  · have h1 := c1.1
    have k122 := k_122 h1
    have x1 : m1 1 = mm 1 := fx.1 1 (Or.inl (by decide))
    have kk1 : zKd sh 1 = 30 := by rw [(fx.2 1 (by decide)).1]; exact k1
    have ll1 : zLn sh 1 = (L : Int) := by rw [(fx.2 1 (by decide)).2]; exact l1
    have kb1 : zKd sh 1 = 20 ∨ zKd sh 1 = 30 := Or.inr kk1
    have m1k := mOk_fx m (fun a a1 a2 => fx.1 a (Or.inr ⟨a1, a2⟩))
    simp (disch := first | assumption | omega) only [rW_law_724, rW_law_725, rW_law_726, rW_law_727, rW_law_728, rW_law_729, rW_law_730, Bool.false_eq_true, true_implies, false_implies, implies_true, true_and, and_true, not_true_eq_false, not_false_eq_true, zPush_I, zPush_L, zPush_R, zPush_U, Int.reduceLT, Int.reduceLE, Int.reduceEq, Int.reduceNe, Int.reduceAdd, Int.reduceSub, Int.reduceMul, Int.reduceNeg, Int.reduceToNat, Nat.reduceAdd, Nat.reduceMul, Nat.reduceEqDiff, zw32_id, zw64_id, zupd_eq, zupd_na, zupd_ni, zupp_eq, zupp_na, zupp_ni, x1]
    refine mTrail h1 m1k v.1 (fun e2 => absurd e2 (by omega)) (fun _ _ m2 mm2 fc => ?_) (fun _ x y => absurd ⟨x, y⟩ hb)
    have x2 : m2 1 = mm 1 := (fc 1 (by decide)).trans x1
    have q := hz _ _ m2 ⟨_, _, _, _, _, v, cOk_fc c1 fc, mm2, ⟨kk1, ll1⟩, fun j => by rw [x2]; exact hx j⟩
    simp (disch := first | assumption | omega) only [rW_law_733, rW_law_736, rW_law_737, Bool.false_eq_true, true_implies, false_implies, implies_true, true_and, and_true, not_true_eq_false, not_false_eq_true, zPush_I, zPush_L, zPush_R, zPush_U, Int.reduceLT, Int.reduceLE, Int.reduceEq, Int.reduceNe, Int.reduceAdd, Int.reduceSub, Int.reduceMul, Int.reduceNeg, Int.reduceToNat, Nat.reduceAdd, Nat.reduceMul, Nat.reduceEqDiff, zw32_id, zw64_id, zupd_eq, zupd_na, zupd_ni, zupp_eq, zupp_na, zupp_ni]
    exact q
  · have h1 := c1.1
    have k122 := k_122 h1
    have x1 : m1 1 = mm 1 := fx.1 1 (Or.inl (by decide))
    have kk1 : zKd sh 1 = 30 := by rw [(fx.2 1 (by decide)).1]; exact k1
    have ll1 : zLn sh 1 = (L : Int) := by rw [(fx.2 1 (by decide)).2]; exact l1
    have kb1 : zKd sh 1 = 20 ∨ zKd sh 1 = 30 := Or.inr kk1
    have m1k := mOk_fx m (fun a a1 a2 => fx.1 a (Or.inr ⟨a1, a2⟩))
    simp (disch := first | assumption | omega) only [rW_law_724, rW_law_725, rW_law_726, rW_law_727, rW_law_728, rW_law_729, rW_law_730, Bool.false_eq_true, true_implies, false_implies, implies_true, true_and, and_true, not_true_eq_false, not_false_eq_true, zPush_I, zPush_L, zPush_R, zPush_U, Int.reduceLT, Int.reduceLE, Int.reduceEq, Int.reduceNe, Int.reduceAdd, Int.reduceSub, Int.reduceMul, Int.reduceNeg, Int.reduceToNat, Nat.reduceAdd, Nat.reduceMul, Nat.reduceEqDiff, zw32_id, zw64_id, zupd_eq, zupd_na, zupd_ni, zupp_eq, zupp_na, zupp_ni, x1]
    refine mTrail h1 m1k v.1 (fun e2 => absurd e2 (by omega)) (fun _ x => absurd ⟨hb, hn⟩ x) (fun _ _ _ m2 w2 mm2 fc a2 => ?_)
    have ew : w1 = w2 := trA_uq e1 (cP_ex v.1 ⟨hb, hn⟩) a1 a2
    subst ew
    have x2 : m2 1 = mm 1 := (fc 1 (by decide)).trans x1
    have q := hz _ _ m2 ⟨_, _, _, _, _, v, cOk_fc c1 fc, mm2, ⟨kk1, ll1⟩, fun j => by rw [x2]; exact hx j⟩
    simp (disch := first | assumption | omega) only [rW_law_733, rW_law_736, rW_law_737, Bool.false_eq_true, true_implies, false_implies, implies_true, true_and, and_true, not_true_eq_false, not_false_eq_true, zPush_I, zPush_L, zPush_R, zPush_U, Int.reduceLT, Int.reduceLE, Int.reduceEq, Int.reduceNe, Int.reduceAdd, Int.reduceSub, Int.reduceMul, Int.reduceNeg, Int.reduceToNat, Nat.reduceAdd, Nat.reduceMul, Nat.reduceEqDiff, zw32_id, zw64_id, zupd_eq, zupd_na, zupd_ni, zupp_eq, zupp_na, zupp_ni]
    exact q
end
