/-! ===== the law: calls, 4 ===== -/
section
variable {sh : zSh} {pp : zPp} {mm : zMm} {Q : zV → zSh → zPp → zMm → Prop} {L : Nat} {xs : Nat → Int32} {i : Int}
theorem law_span (i0 : 0 ≤ i) (i4 : i + 4 < (L : Int)) (iL : (L : Int) ≤ 2560) (hI : lwI L xs sh pp mm) (hz : ∀ sh pp mm, lwI L xs sh pp mm → zS 273 1160 [zR 1, zR 13, zR 122, zI i] [] sh pp mm Q) : zS 273 965 [zR 1, zR 13, zR 122, zI i] [] sh pp mm Q := by
  obtain ⟨f, G, cn, N, D, v, c, m, ⟨k1, l1⟩, hx⟩ := hI
  have h := c.1
  have k13 := k_13 h
  have kb : zKd sh 1 = 20 ∨ zKd sh 1 = 30 := Or.inr k1
  simp (disch := first | assumption | omega) only [rW_law_965, rW_law_966, rW_law_967, rW_law_968, rW_law_969, rW_law_970, rW_law_971, rW_law_972, rW_law_973, rW_law_974, rW_law_975, rW_law_976, Bool.false_eq_true, true_implies, false_implies, implies_true, true_and, and_true, not_true_eq_false, not_false_eq_true, zPush_I, zPush_L, zPush_R, zPush_U, Int.reduceLT, Int.reduceLE, Int.reduceEq, Int.reduceNe, Int.reduceAdd, Int.reduceSub, Int.reduceMul, Int.reduceNeg, Int.reduceToNat, Nat.reduceAdd, Nat.reduceMul, Nat.reduceEqDiff, zw32_id, zw64_id, zupd_eq, zupd_na, zupd_ni, zupp_eq, zupp_na, zupp_ni]
  refine cSpan c v.1 (fun m1 c1 fx => ?_)
  have h1 := c1.1
  have k122 := k_122 h1
  have x1 : m1 1 = mm 1 := fx.1 1 (Or.inl (by decide))
  have kk1 : zKd sh 1 = 30 := by rw [(fx.2 1 (by decide)).1]; exact k1
  have ll1 : zLn sh 1 = (L : Int) := by rw [(fx.2 1 (by decide)).2]; exact l1
  have kb1 : zKd sh 1 = 20 ∨ zKd sh 1 = 30 := Or.inr kk1
  have m1k := mOk_fx m (fun a a1 a2 => fx.1 a (Or.inr ⟨a1, a2⟩))
  simp (disch := first | assumption | omega) only [rW_law_979, rW_law_980, rW_law_981, rW_law_982, rW_law_983, rW_law_984, rW_law_985, rW_law_986, rW_law_987, rW_law_988, rW_law_989, rW_law_990, Bool.false_eq_true, true_implies, false_implies, implies_true, true_and, and_true, not_true_eq_false, not_false_eq_true, zPush_I, zPush_L, zPush_R, zPush_U, Int.reduceLT, Int.reduceLE, Int.reduceEq, Int.reduceNe, Int.reduceAdd, Int.reduceSub, Int.reduceMul, Int.reduceNeg, Int.reduceToNat, Nat.reduceAdd, Nat.reduceMul, Nat.reduceEqDiff, zw32_id, zw64_id, zupd_eq, zupd_na, zupd_ni, zupp_eq, zupp_na, zupp_ni, x1]
  refine mSpan h1 m1k v.1 (fun m2 mm2 fc => ?_)
  have x2 : m2 1 = mm 1 := (fc 1 (by decide)).trans x1
  have q := hz _ _ m2 ⟨_, _, _, _, _, v, cOk_fc c1 fc, mm2, ⟨kk1, ll1⟩, fun j => by rw [x2]; exact hx j⟩
  simp (disch := first | assumption | omega) only [rW_law_993, rW_law_996, rW_law_997, Bool.false_eq_true, true_implies, false_implies, implies_true, true_and, and_true, not_true_eq_false, not_false_eq_true, zPush_I, zPush_L, zPush_R, zPush_U, Int.reduceLT, Int.reduceLE, Int.reduceEq, Int.reduceNe, Int.reduceAdd, Int.reduceSub, Int.reduceMul, Int.reduceNeg, Int.reduceToNat, Nat.reduceAdd, Nat.reduceMul, Nat.reduceEqDiff, zw32_id, zw64_id, zupd_eq, zupd_na, zupd_ni, zupp_eq, zupp_na, zupp_ni]
  exact q
theorem law_sign (i0 : 0 ≤ i) (i4 : i + 4 < (L : Int)) (iL : (L : Int) ≤ 2560) (hI : lwI L xs sh pp mm) (hz : ∀ sh pp mm, lwI L xs sh pp mm → zS 273 1160 [zR 1, zR 13, zR 122, zI i] [] sh pp mm Q) : zS 273 998 [zR 1, zR 13, zR 122, zI i] [] sh pp mm Q := by
  obtain ⟨f, G, cn, N, D, v, c, m, ⟨k1, l1⟩, hx⟩ := hI
  have h := c.1
  have k13 := k_13 h
  have kb : zKd sh 1 = 20 ∨ zKd sh 1 = 30 := Or.inr k1
  simp (disch := first | assumption | omega) only [rW_law_998, rW_law_999, rW_law_1000, rW_law_1001, rW_law_1002, rW_law_1003, rW_law_1004, Bool.false_eq_true, true_implies, false_implies, implies_true, true_and, and_true, not_true_eq_false, not_false_eq_true, zPush_I, zPush_L, zPush_R, zPush_U, Int.reduceLT, Int.reduceLE, Int.reduceEq, Int.reduceNe, Int.reduceAdd, Int.reduceSub, Int.reduceMul, Int.reduceNeg, Int.reduceToNat, Nat.reduceAdd, Nat.reduceMul, Nat.reduceEqDiff, zw32_id, zw64_id, zupd_eq, zupd_na, zupd_ni, zupp_eq, zupp_na, zupp_ni]
  refine cSign c (fun m1 c1 fx => ?_)
  have h1 := c1.1
  have k122 := k_122 h1
  have x1 : m1 1 = mm 1 := fx.1 1 (Or.inl (by decide))
  have kk1 : zKd sh 1 = 30 := by rw [(fx.2 1 (by decide)).1]; exact k1
  have ll1 : zLn sh 1 = (L : Int) := by rw [(fx.2 1 (by decide)).2]; exact l1
  have kb1 : zKd sh 1 = 20 ∨ zKd sh 1 = 30 := Or.inr kk1
  have m1k := mOk_fx m (fun a a1 a2 => fx.1 a (Or.inr ⟨a1, a2⟩))
  simp (disch := first | assumption | omega) only [rW_law_1007, rW_law_1008, rW_law_1009, rW_law_1010, rW_law_1011, rW_law_1012, rW_law_1013, Bool.false_eq_true, true_implies, false_implies, implies_true, true_and, and_true, not_true_eq_false, not_false_eq_true, zPush_I, zPush_L, zPush_R, zPush_U, Int.reduceLT, Int.reduceLE, Int.reduceEq, Int.reduceNe, Int.reduceAdd, Int.reduceSub, Int.reduceMul, Int.reduceNeg, Int.reduceToNat, Nat.reduceAdd, Nat.reduceMul, Nat.reduceEqDiff, zw32_id, zw64_id, zupd_eq, zupd_na, zupd_ni, zupp_eq, zupp_na, zupp_ni, x1]
  refine mSign h1 m1k (fun m2 mm2 fc => ?_)
  have x2 : m2 1 = mm 1 := (fc 1 (by decide)).trans x1
  have q := hz _ _ m2 ⟨_, _, _, _, _, v, cOk_fc c1 fc, mm2, ⟨kk1, ll1⟩, fun j => by rw [x2]; exact hx j⟩
  simp (disch := first | assumption | omega) only [rW_law_1016, rW_law_1019, rW_law_1020, Bool.false_eq_true, true_implies, false_implies, implies_true, true_and, and_true, not_true_eq_false, not_false_eq_true, zPush_I, zPush_L, zPush_R, zPush_U, Int.reduceLT, Int.reduceLE, Int.reduceEq, Int.reduceNe, Int.reduceAdd, Int.reduceSub, Int.reduceMul, Int.reduceNeg, Int.reduceToNat, Nat.reduceAdd, Nat.reduceMul, Nat.reduceEqDiff, zw32_id, zw64_id, zupd_eq, zupd_na, zupd_ni, zupp_eq, zupp_na, zupp_ni]
  exact q
theorem law_limb (i0 : 0 ≤ i) (i4 : i + 4 < (L : Int)) (iL : (L : Int) ≤ 2560) (hI : lwI L xs sh pp mm) (hz : ∀ sh pp mm, lwI L xs sh pp mm → zS 273 1160 [zR 1, zR 13, zR 122, zI i] [] sh pp mm Q) : zS 273 1021 [zR 1, zR 13, zR 122, zI i] [] sh pp mm Q := by
  obtain ⟨f, G, cn, N, D, v, c, m, ⟨k1, l1⟩, hx⟩ := hI
  have h := c.1
  have k13 := k_13 h
  have kb : zKd sh 1 = 20 ∨ zKd sh 1 = 30 := Or.inr k1
  simp (disch := first | assumption | omega) only [rW_law_1021, rW_law_1022, rW_law_1023, rW_law_1024, rW_law_1025, rW_law_1026, rW_law_1027, rW_law_1028, rW_law_1029, rW_law_1030, rW_law_1031, rW_law_1032, Bool.false_eq_true, true_implies, false_implies, implies_true, true_and, and_true, not_true_eq_false, not_false_eq_true, zPush_I, zPush_L, zPush_R, zPush_U, Int.reduceLT, Int.reduceLE, Int.reduceEq, Int.reduceNe, Int.reduceAdd, Int.reduceSub, Int.reduceMul, Int.reduceNeg, Int.reduceToNat, Nat.reduceAdd, Nat.reduceMul, Nat.reduceEqDiff, zw32_id, zw64_id, zupd_eq, zupd_na, zupd_ni, zupp_eq, zupp_na, zupp_ni]
  refine cLimb c (fun m1 c1 fx => ?_)
  have h1 := c1.1
  have k122 := k_122 h1
  have x1 : m1 1 = mm 1 := fx.1 1 (Or.inl (by decide))
  have kk1 : zKd sh 1 = 30 := by rw [(fx.2 1 (by decide)).1]; exact k1
  have ll1 : zLn sh 1 = (L : Int) := by rw [(fx.2 1 (by decide)).2]; exact l1
  have kb1 : zKd sh 1 = 20 ∨ zKd sh 1 = 30 := Or.inr kk1
  have m1k := mOk_fx m (fun a a1 a2 => fx.1 a (Or.inr ⟨a1, a2⟩))
  simp (disch := first | assumption | omega) only [rW_law_1035, rW_law_1036, rW_law_1037, rW_law_1038, rW_law_1039, rW_law_1040, rW_law_1041, rW_law_1042, rW_law_1043, rW_law_1044, rW_law_1045, rW_law_1046, Bool.false_eq_true, true_implies, false_implies, implies_true, true_and, and_true, not_true_eq_false, not_false_eq_true, zPush_I, zPush_L, zPush_R, zPush_U, Int.reduceLT, Int.reduceLE, Int.reduceEq, Int.reduceNe, Int.reduceAdd, Int.reduceSub, Int.reduceMul, Int.reduceNeg, Int.reduceToNat, Nat.reduceAdd, Nat.reduceMul, Nat.reduceEqDiff, zw32_id, zw64_id, zupd_eq, zupd_na, zupd_ni, zupp_eq, zupp_na, zupp_ni, x1]
  refine mLimb h1 m1k (fun m2 mm2 fc => ?_)
  have x2 : m2 1 = mm 1 := (fc 1 (by decide)).trans x1
  have q := hz _ _ m2 ⟨_, _, _, _, _, v, cOk_fc c1 fc, mm2, ⟨kk1, ll1⟩, fun j => by rw [x2]; exact hx j⟩
  simp (disch := first | assumption | omega) only [rW_law_1049, rW_law_1052, rW_law_1053, Bool.false_eq_true, true_implies, false_implies, implies_true, true_and, and_true, not_true_eq_false, not_false_eq_true, zPush_I, zPush_L, zPush_R, zPush_U, Int.reduceLT, Int.reduceLE, Int.reduceEq, Int.reduceNe, Int.reduceAdd, Int.reduceSub, Int.reduceMul, Int.reduceNeg, Int.reduceToNat, Nat.reduceAdd, Nat.reduceMul, Nat.reduceEqDiff, zw32_id, zw64_id, zupd_eq, zupd_na, zupd_ni, zupp_eq, zupp_na, zupp_ni]
  exact q
theorem law_image (i0 : 0 ≤ i) (i4 : i + 4 < (L : Int)) (iL : (L : Int) ≤ 2560) (hI : lwI L xs sh pp mm) (hz : ∀ sh pp mm, lwI L xs sh pp mm → zS 273 1160 [zR 1, zR 13, zR 122, zI i] [] sh pp mm Q) : zS 273 1054 [zR 1, zR 13, zR 122, zI i] [] sh pp mm Q := by
  obtain ⟨f, G, cn, N, D, v, c, m, ⟨k1, l1⟩, hx⟩ := hI
  have h := c.1
  have k13 := k_13 h
  have kb : zKd sh 1 = 20 ∨ zKd sh 1 = 30 := Or.inr k1
  simp (disch := first | assumption | omega) only [rW_law_1054, rW_law_1055, rW_law_1056, rW_law_1057, rW_law_1058, rW_law_1059, rW_law_1060, Bool.false_eq_true, true_implies, false_implies, implies_true, true_and, and_true, not_true_eq_false, not_false_eq_true, zPush_I, zPush_L, zPush_R, zPush_U, Int.reduceLT, Int.reduceLE, Int.reduceEq, Int.reduceNe, Int.reduceAdd, Int.reduceSub, Int.reduceMul, Int.reduceNeg, Int.reduceToNat, Nat.reduceAdd, Nat.reduceMul, Nat.reduceEqDiff, zw32_id, zw64_id, zupd_eq, zupd_na, zupd_ni, zupp_eq, zupp_na, zupp_ni]
  refine cImage c v.1 v.2 (fun sh1 pp1 m1 c1 fx _ => ?_)
  have h1 := c1.1
  have k122 := k_122 h1
  have x1 : m1 1 = mm 1 := fx.1 1 (Or.inl (by decide))
  have kk1 : zKd sh1 1 = 30 := by rw [(fx.2 1 (by decide)).1]; exact k1
  have ll1 : zLn sh1 1 = (L : Int) := by rw [(fx.2 1 (by decide)).2]; exact l1
  have kb1 : zKd sh1 1 = 20 ∨ zKd sh1 1 = 30 := Or.inr kk1
  have m1k := mOk_fx m (fun a a1 a2 => fx.1 a (Or.inr ⟨a1, a2⟩))
  simp (disch := first | assumption | omega) only [rW_law_1063, rW_law_1064, rW_law_1065, rW_law_1066, rW_law_1067, rW_law_1068, rW_law_1069, Bool.false_eq_true, true_implies, false_implies, implies_true, true_and, and_true, not_true_eq_false, not_false_eq_true, zPush_I, zPush_L, zPush_R, zPush_U, Int.reduceLT, Int.reduceLE, Int.reduceEq, Int.reduceNe, Int.reduceAdd, Int.reduceSub, Int.reduceMul, Int.reduceNeg, Int.reduceToNat, Nat.reduceAdd, Nat.reduceMul, Nat.reduceEqDiff, zw32_id, zw64_id, zupd_eq, zupd_na, zupd_ni, zupp_eq, zupp_na, zupp_ni, x1]
  refine mImage h1 m1k (fun m2 mm2 fc => ?_)
  have x2 : m2 1 = mm 1 := (fc 1 (by decide)).trans x1
  have q := hz _ _ m2 ⟨_, _, _, _, _, v, cOk_fc c1 fc, mm2, ⟨kk1, ll1⟩, fun j => by rw [x2]; exact hx j⟩
  simp (disch := first | assumption | omega) only [rW_law_1072, rW_law_1075, rW_law_1076, Bool.false_eq_true, true_implies, false_implies, implies_true, true_and, and_true, not_true_eq_false, not_false_eq_true, zPush_I, zPush_L, zPush_R, zPush_U, Int.reduceLT, Int.reduceLE, Int.reduceEq, Int.reduceNe, Int.reduceAdd, Int.reduceSub, Int.reduceMul, Int.reduceNeg, Int.reduceToNat, Nat.reduceAdd, Nat.reduceMul, Nat.reduceEqDiff, zw32_id, zw64_id, zupd_eq, zupd_na, zupd_ni, zupp_eq, zupp_na, zupp_ni]
  exact q
theorem law_from (i0 : 0 ≤ i) (i4 : i + 4 < (L : Int)) (iL : (L : Int) ≤ 2560) (hI : lwI L xs sh pp mm) (hz : ∀ sh pp mm, lwI L xs sh pp mm → zS 273 1160 [zR 1, zR 13, zR 122, zI i] [] sh pp mm Q) : zS 273 1077 [zR 1, zR 13, zR 122, zI i] [] sh pp mm Q := by
  obtain ⟨f, G, cn, N, D, v, c, m, ⟨k1, l1⟩, hx⟩ := hI
  have h := c.1
  have k13 := k_13 h
  have kb : zKd sh 1 = 20 ∨ zKd sh 1 = 30 := Or.inr k1
  simp (disch := first | assumption | omega) only [rW_law_1077, rW_law_1078, rW_law_1079, rW_law_1080, rW_law_1081, rW_law_1082, rW_law_1083, Bool.false_eq_true, true_implies, false_implies, implies_true, true_and, and_true, not_true_eq_false, not_false_eq_true, zPush_I, zPush_L, zPush_R, zPush_U, Int.reduceLT, Int.reduceLE, Int.reduceEq, Int.reduceNe, Int.reduceAdd, Int.reduceSub, Int.reduceMul, Int.reduceNeg, Int.reduceToNat, Nat.reduceAdd, Nat.reduceMul, Nat.reduceEqDiff, zw32_id, zw64_id, zupd_eq, zupd_na, zupd_ni, zupp_eq, zupp_na, zupp_ni]
  refine cFrom c (fun m1 c1 fx => ?_)
  have h1 := c1.1
  have k122 := k_122 h1
  have x1 : m1 1 = mm 1 := fx.1 1 (Or.inl (by decide))
  have kk1 : zKd sh 1 = 30 := by rw [(fx.2 1 (by decide)).1]; exact k1
  have ll1 : zLn sh 1 = (L : Int) := by rw [(fx.2 1 (by decide)).2]; exact l1
  have kb1 : zKd sh 1 = 20 ∨ zKd sh 1 = 30 := Or.inr kk1
  have m1k := mOk_fx m (fun a a1 a2 => fx.1 a (Or.inr ⟨a1, a2⟩))
  simp (disch := first | assumption | omega) only [rW_law_1086, rW_law_1087, rW_law_1088, rW_law_1089, rW_law_1090, rW_law_1091, rW_law_1092, Bool.false_eq_true, true_implies, false_implies, implies_true, true_and, and_true, not_true_eq_false, not_false_eq_true, zPush_I, zPush_L, zPush_R, zPush_U, Int.reduceLT, Int.reduceLE, Int.reduceEq, Int.reduceNe, Int.reduceAdd, Int.reduceSub, Int.reduceMul, Int.reduceNeg, Int.reduceToNat, Nat.reduceAdd, Nat.reduceMul, Nat.reduceEqDiff, zw32_id, zw64_id, zupd_eq, zupd_na, zupd_ni, zupp_eq, zupp_na, zupp_ni, x1]
  refine mFrom h1 m1k (fun m2 mm2 fc => ?_)
  have x2 : m2 1 = mm 1 := (fc 1 (by decide)).trans x1
  have q := hz _ _ m2 ⟨_, _, _, _, _, iv_from v c, cOk_fc c1 fc, mm2, ⟨kk1, ll1⟩, fun j => by rw [x2]; exact hx j⟩
  simp (disch := first | assumption | omega) only [rW_law_1095, rW_law_1098, rW_law_1099, Bool.false_eq_true, true_implies, false_implies, implies_true, true_and, and_true, not_true_eq_false, not_false_eq_true, zPush_I, zPush_L, zPush_R, zPush_U, Int.reduceLT, Int.reduceLE, Int.reduceEq, Int.reduceNe, Int.reduceAdd, Int.reduceSub, Int.reduceMul, Int.reduceNeg, Int.reduceToNat, Nat.reduceAdd, Nat.reduceMul, Nat.reduceEqDiff, zw32_id, zw64_id, zupd_eq, zupd_na, zupd_ni, zupp_eq, zupp_na, zupp_ni]
  exact q
theorem law_status (i0 : 0 ≤ i) (i4 : i + 4 < (L : Int)) (iL : (L : Int) ≤ 2560) (hI : lwI L xs sh pp mm) (hz : ∀ sh pp mm, lwI L xs sh pp mm → zS 273 1160 [zR 1, zR 13, zR 122, zI i] [] sh pp mm Q) : zS 273 1100 [zR 1, zR 13, zR 122, zI i] [] sh pp mm Q := by
  obtain ⟨f, G, cn, N, D, v, c, m, ⟨k1, l1⟩, hx⟩ := hI
  have h := c.1
  have k13 := k_13 h
  have kb : zKd sh 1 = 20 ∨ zKd sh 1 = 30 := Or.inr k1
  simp (disch := first | assumption | omega) only [rW_law_1100, rW_law_1101, rW_law_1102, rW_law_1103, rW_law_1104, rW_law_1105, rW_law_1106, Bool.false_eq_true, true_implies, false_implies, implies_true, true_and, and_true, not_true_eq_false, not_false_eq_true, zPush_I, zPush_L, zPush_R, zPush_U, Int.reduceLT, Int.reduceLE, Int.reduceEq, Int.reduceNe, Int.reduceAdd, Int.reduceSub, Int.reduceMul, Int.reduceNeg, Int.reduceToNat, Nat.reduceAdd, Nat.reduceMul, Nat.reduceEqDiff, zw32_id, zw64_id, zupd_eq, zupd_na, zupd_ni, zupp_eq, zupp_na, zupp_ni]
  refine cStatus c (fun m1 c1 fx => ?_)
  have h1 := c1.1
  have k122 := k_122 h1
  have x1 : m1 1 = mm 1 := fx.1 1 (Or.inl (by decide))
  have kk1 : zKd sh 1 = 30 := by rw [(fx.2 1 (by decide)).1]; exact k1
  have ll1 : zLn sh 1 = (L : Int) := by rw [(fx.2 1 (by decide)).2]; exact l1
  have kb1 : zKd sh 1 = 20 ∨ zKd sh 1 = 30 := Or.inr kk1
  have m1k := mOk_fx m (fun a a1 a2 => fx.1 a (Or.inr ⟨a1, a2⟩))
  simp (disch := first | assumption | omega) only [rW_law_1109, rW_law_1110, rW_law_1111, rW_law_1112, rW_law_1113, rW_law_1114, rW_law_1115, Bool.false_eq_true, true_implies, false_implies, implies_true, true_and, and_true, not_true_eq_false, not_false_eq_true, zPush_I, zPush_L, zPush_R, zPush_U, Int.reduceLT, Int.reduceLE, Int.reduceEq, Int.reduceNe, Int.reduceAdd, Int.reduceSub, Int.reduceMul, Int.reduceNeg, Int.reduceToNat, Nat.reduceAdd, Nat.reduceMul, Nat.reduceEqDiff, zw32_id, zw64_id, zupd_eq, zupd_na, zupd_ni, zupp_eq, zupp_na, zupp_ni, x1]
  refine mStatus h1 m1k (fun m2 mm2 fc => ?_)
  have x2 : m2 1 = mm 1 := (fc 1 (by decide)).trans x1
  have q := hz _ _ m2 ⟨_, _, _, _, _, v, cOk_fc c1 fc, mm2, ⟨kk1, ll1⟩, fun j => by rw [x2]; exact hx j⟩
  simp (disch := first | assumption | omega) only [rW_law_1118, rW_law_1121, rW_law_1122, Bool.false_eq_true, true_implies, false_implies, implies_true, true_and, and_true, not_true_eq_false, not_false_eq_true, zPush_I, zPush_L, zPush_R, zPush_U, Int.reduceLT, Int.reduceLE, Int.reduceEq, Int.reduceNe, Int.reduceAdd, Int.reduceSub, Int.reduceMul, Int.reduceNeg, Int.reduceToNat, Nat.reduceAdd, Nat.reduceMul, Nat.reduceEqDiff, zw32_id, zw64_id, zupd_eq, zupd_na, zupd_ni, zupp_eq, zupp_na, zupp_ni]
  exact q
theorem law_count (i0 : 0 ≤ i) (i4 : i + 4 < (L : Int)) (iL : (L : Int) ≤ 2560) (hI : lwI L xs sh pp mm) (hz : ∀ sh pp mm, lwI L xs sh pp mm → zS 273 1160 [zR 1, zR 13, zR 122, zI i] [] sh pp mm Q) : zS 273 1123 [zR 1, zR 13, zR 122, zI i] [] sh pp mm Q := by
  obtain ⟨f, G, cn, N, D, v, c, m, ⟨k1, l1⟩, hx⟩ := hI
  have h := c.1
  have k13 := k_13 h
  have kb : zKd sh 1 = 20 ∨ zKd sh 1 = 30 := Or.inr k1
  simp (disch := first | assumption | omega) only [rW_law_1123, rW_law_1124, rW_law_1125, rW_law_1126, rW_law_1127, rW_law_1128, rW_law_1129, Bool.false_eq_true, true_implies, false_implies, implies_true, true_and, and_true, not_true_eq_false, not_false_eq_true, zPush_I, zPush_L, zPush_R, zPush_U, Int.reduceLT, Int.reduceLE, Int.reduceEq, Int.reduceNe, Int.reduceAdd, Int.reduceSub, Int.reduceMul, Int.reduceNeg, Int.reduceToNat, Nat.reduceAdd, Nat.reduceMul, Nat.reduceEqDiff, zw32_id, zw64_id, zupd_eq, zupd_na, zupd_ni, zupp_eq, zupp_na, zupp_ni]
  refine cCount c (fun m1 c1 fx => ?_)
  have h1 := c1.1
  have k122 := k_122 h1
  have x1 : m1 1 = mm 1 := fx.1 1 (Or.inl (by decide))
  have kk1 : zKd sh 1 = 30 := by rw [(fx.2 1 (by decide)).1]; exact k1
  have ll1 : zLn sh 1 = (L : Int) := by rw [(fx.2 1 (by decide)).2]; exact l1
  have kb1 : zKd sh 1 = 20 ∨ zKd sh 1 = 30 := Or.inr kk1
  have m1k := mOk_fx m (fun a a1 a2 => fx.1 a (Or.inr ⟨a1, a2⟩))
  simp (disch := first | assumption | omega) only [rW_law_1132, rW_law_1133, rW_law_1134, rW_law_1135, rW_law_1136, rW_law_1137, rW_law_1138, Bool.false_eq_true, true_implies, false_implies, implies_true, true_and, and_true, not_true_eq_false, not_false_eq_true, zPush_I, zPush_L, zPush_R, zPush_U, Int.reduceLT, Int.reduceLE, Int.reduceEq, Int.reduceNe, Int.reduceAdd, Int.reduceSub, Int.reduceMul, Int.reduceNeg, Int.reduceToNat, Nat.reduceAdd, Nat.reduceMul, Nat.reduceEqDiff, zw32_id, zw64_id, zupd_eq, zupd_na, zupd_ni, zupp_eq, zupp_na, zupp_ni, x1]
  refine mCount h1 m1k (fun m2 mm2 fc => ?_)
  have x2 : m2 1 = mm 1 := (fc 1 (by decide)).trans x1
  have q := hz _ _ m2 ⟨_, _, _, _, _, v, cOk_fc c1 fc, mm2, ⟨kk1, ll1⟩, fun j => by rw [x2]; exact hx j⟩
  simp (disch := first | assumption | omega) only [rW_law_1141, rW_law_1144, rW_law_1145, Bool.false_eq_true, true_implies, false_implies, implies_true, true_and, and_true, not_true_eq_false, not_false_eq_true, zPush_I, zPush_L, zPush_R, zPush_U, Int.reduceLT, Int.reduceLE, Int.reduceEq, Int.reduceNe, Int.reduceAdd, Int.reduceSub, Int.reduceMul, Int.reduceNeg, Int.reduceToNat, Nat.reduceAdd, Nat.reduceMul, Nat.reduceEqDiff, zw32_id, zw64_id, zupd_eq, zupd_na, zupd_ni, zupp_eq, zupp_na, zupp_ni]
  exact q
theorem law_digest (i0 : 0 ≤ i) (i4 : i + 4 < (L : Int)) (iL : (L : Int) ≤ 2560) (hI : lwI L xs sh pp mm) (hz : ∀ sh pp mm, lwI L xs sh pp mm → zS 273 1160 [zR 1, zR 13, zR 122, zI i] [] sh pp mm Q) : zS 273 1146 [zR 1, zR 13, zR 122, zI i] [] sh pp mm Q := by
  obtain ⟨f, G, cn, N, D, v, c, m, ⟨k1, l1⟩, hx⟩ := hI
  have h := c.1
  have k13 := k_13 h
  have kb : zKd sh 1 = 20 ∨ zKd sh 1 = 30 := Or.inr k1
  simp (disch := first | assumption | omega) only [rW_law_1146, rW_law_1147, Bool.false_eq_true, true_implies, false_implies, implies_true, true_and, and_true, not_true_eq_false, not_false_eq_true, zPush_I, zPush_L, zPush_R, zPush_U, Int.reduceLT, Int.reduceLE, Int.reduceEq, Int.reduceNe, Int.reduceAdd, Int.reduceSub, Int.reduceMul, Int.reduceNeg, Int.reduceToNat, Nat.reduceAdd, Nat.reduceMul, Nat.reduceEqDiff, zw32_id, zw64_id, zupd_eq, zupd_na, zupd_ni, zupp_eq, zupp_na, zupp_ni]
  refine cDigest c v.1 ?_
  have k122 := k_122 h
  simp (disch := first | assumption | omega) only [rW_law_1150, rW_law_1151, Bool.false_eq_true, true_implies, false_implies, implies_true, true_and, and_true, not_true_eq_false, not_false_eq_true, zPush_I, zPush_L, zPush_R, zPush_U, Int.reduceLT, Int.reduceLE, Int.reduceEq, Int.reduceNe, Int.reduceAdd, Int.reduceSub, Int.reduceMul, Int.reduceNeg, Int.reduceToNat, Nat.reduceAdd, Nat.reduceMul, Nat.reduceEqDiff, zw32_id, zw64_id, zupd_eq, zupd_na, zupd_ni, zupp_eq, zupp_na, zupp_ni]
  refine mDigest h m v.1 ?_
  have q := hz _ _ mm ⟨_, _, _, _, _, v, c, m, ⟨k1, l1⟩, hx⟩
  simp (disch := first | assumption | omega) only [rW_law_1154, rW_law_1155, rW_law_1158, rW_law_1159, Bool.false_eq_true, true_implies, false_implies, implies_true, true_and, and_true, not_true_eq_false, not_false_eq_true, zPush_I, zPush_L, zPush_R, zPush_U, Int.reduceLT, Int.reduceLE, Int.reduceEq, Int.reduceNe, Int.reduceAdd, Int.reduceSub, Int.reduceMul, Int.reduceNeg, Int.reduceToNat, Nat.reduceAdd, Nat.reduceMul, Nat.reduceEqDiff, zw32_id, zw64_id, zupd_eq, zupd_na, zupd_ni, zupp_eq, zupp_na, zupp_ni, zcmp_s]
  exact q
end
