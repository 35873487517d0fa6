/-! ===== the law: calls, 1 ===== -/
section
variable {sh : zSh} {pp : zPp} {mm : zMm} {Q : zV → zSh → zPp → zMm → Prop} {L : Nat} {xs : Nat → Int32} {i : Int}
theorem law_put (i0 : 0 ≤ i) (i4 : i + 4 < (L : Int)) (iL : (L : Int) ≤ 2560) (hI : lwI L xs sh pp mm) (hz : ∀ sh pp mm, lwI L xs sh pp mm → zS 273 1160 [zR 1, zR 13, zR 122, zI i] [] sh pp mm Q) : zS 273 188 [zR 1, zR 13, zR 122, zI i] [] sh pp mm Q := by
  obtain ⟨f, G, cn, N, D, v, c, m, ⟨k1, l1⟩, hx⟩ := hI
  have h := c.1
  have k13 := k_13 h
  have kb : zKd sh 1 = 20 ∨ zKd sh 1 = 30 := Or.inr k1
  simp (disch := first | assumption | omega) only [rW_law_188, rW_law_189, rW_law_190, rW_law_191, rW_law_192, rW_law_193, rW_law_194, rW_law_195, rW_law_196, rW_law_197, rW_law_198, rW_law_199, Bool.false_eq_true, true_implies, false_implies, implies_true, true_and, and_true, not_true_eq_false, not_false_eq_true, zPush_I, zPush_L, zPush_R, zPush_U, Int.reduceLT, Int.reduceLE, Int.reduceEq, Int.reduceNe, Int.reduceAdd, Int.reduceSub, Int.reduceMul, Int.reduceNeg, Int.reduceToNat, Nat.reduceAdd, Nat.reduceMul, Nat.reduceEqDiff, zw32_id, zw64_id, zupd_eq, zupd_na, zupd_ni, zupp_eq, zupp_na, zupp_ni]
  refine cPut c v.1 (fun m1 c1 fx => ?_)
  have h1 := c1.1
  have k122 := k_122 h1
  have x1 : m1 1 = mm 1 := fx.1 1 (Or.inl (by decide))
  have kk1 : zKd sh 1 = 30 := by rw [(fx.2 1 (by decide)).1]; exact k1
  have ll1 : zLn sh 1 = (L : Int) := by rw [(fx.2 1 (by decide)).2]; exact l1
  have kb1 : zKd sh 1 = 20 ∨ zKd sh 1 = 30 := Or.inr kk1
  have m1k := mOk_fx m (fun a a1 a2 => fx.1 a (Or.inr ⟨a1, a2⟩))
  simp (disch := first | assumption | omega) only [rW_law_202, rW_law_203, rW_law_204, rW_law_205, rW_law_206, rW_law_207, rW_law_208, rW_law_209, rW_law_210, rW_law_211, rW_law_212, rW_law_213, Bool.false_eq_true, true_implies, false_implies, implies_true, true_and, and_true, not_true_eq_false, not_false_eq_true, zPush_I, zPush_L, zPush_R, zPush_U, Int.reduceLT, Int.reduceLE, Int.reduceEq, Int.reduceNe, Int.reduceAdd, Int.reduceSub, Int.reduceMul, Int.reduceNeg, Int.reduceToNat, Nat.reduceAdd, Nat.reduceMul, Nat.reduceEqDiff, zw32_id, zw64_id, zupd_eq, zupd_na, zupd_ni, zupp_eq, zupp_na, zupp_ni, x1]
  refine mPut h1 m1k (fun m2 mm2 fc => ?_)
  have x2 : m2 1 = mm 1 := (fc 1 (by decide)).trans x1
  have q := hz _ _ m2 ⟨_, _, _, _, _, iv_put v, cOk_fc c1 fc, mm2, ⟨kk1, ll1⟩, fun j => by rw [x2]; exact hx j⟩
  simp (disch := first | assumption | omega) only [rW_law_216, rW_law_219, rW_law_220, Bool.false_eq_true, true_implies, false_implies, implies_true, true_and, and_true, not_true_eq_false, not_false_eq_true, zPush_I, zPush_L, zPush_R, zPush_U, Int.reduceLT, Int.reduceLE, Int.reduceEq, Int.reduceNe, Int.reduceAdd, Int.reduceSub, Int.reduceMul, Int.reduceNeg, Int.reduceToNat, Nat.reduceAdd, Nat.reduceMul, Nat.reduceEqDiff, zw32_id, zw64_id, zupd_eq, zupd_na, zupd_ni, zupp_eq, zupp_na, zupp_ni]
  exact q
theorem law_type (i0 : 0 ≤ i) (i4 : i + 4 < (L : Int)) (iL : (L : Int) ≤ 2560) (hI : lwI L xs sh pp mm) (hz : ∀ sh pp mm, lwI L xs sh pp mm → zS 273 1160 [zR 1, zR 13, zR 122, zI i] [] sh pp mm Q) : zS 273 221 [zR 1, zR 13, zR 122, zI i] [] sh pp mm Q := by
  obtain ⟨f, G, cn, N, D, v, c, m, ⟨k1, l1⟩, hx⟩ := hI
  have h := c.1
  have k13 := k_13 h
  have kb : zKd sh 1 = 20 ∨ zKd sh 1 = 30 := Or.inr k1
  simp (disch := first | assumption | omega) only [rW_law_221, rW_law_222, rW_law_223, rW_law_224, rW_law_225, rW_law_226, rW_law_227, rW_law_228, rW_law_229, rW_law_230, rW_law_231, rW_law_232, rW_law_233, rW_law_235, rW_law_236, rW_law_237, rW_law_238, rW_law_239, rW_law_240, rW_law_241, rW_law_242, rW_law_245, rW_law_246, rW_law_247, rW_law_248, rW_law_249, rW_law_250, rW_law_251, rW_law_252, Bool.false_eq_true, true_implies, false_implies, implies_true, true_and, and_true, not_true_eq_false, not_false_eq_true, zPush_I, zPush_L, zPush_R, zPush_U, Int.reduceLT, Int.reduceLE, Int.reduceEq, Int.reduceNe, Int.reduceAdd, Int.reduceSub, Int.reduceMul, Int.reduceNeg, Int.reduceToNat, Nat.reduceAdd, Nat.reduceMul, Nat.reduceEqDiff, zw32_id, zw64_id, zupd_eq, zupd_na, zupd_ni, zupp_eq, zupp_na, zupp_ni]
  refine cType c v.1 (zlor_bd _ _) (fun m1 c1 fx => ?_)
  have h1 := c1.1
  have k122 := k_122 h1
  have x1 : m1 1 = mm 1 := fx.1 1 (Or.inl (by decide))
  have kk1 : zKd sh 1 = 30 := by rw [(fx.2 1 (by decide)).1]; exact k1
  have ll1 : zLn sh 1 = (L : Int) := by rw [(fx.2 1 (by decide)).2]; exact l1
  have kb1 : zKd sh 1 = 20 ∨ zKd sh 1 = 30 := Or.inr kk1
  have m1k := mOk_fx m (fun a a1 a2 => fx.1 a (Or.inr ⟨a1, a2⟩))
  simp (disch := first | assumption | omega) only [rW_law_255, rW_law_256, rW_law_257, rW_law_258, rW_law_259, rW_law_260, rW_law_261, rW_law_262, rW_law_263, rW_law_264, rW_law_265, rW_law_266, rW_law_267, rW_law_269, rW_law_270, rW_law_271, rW_law_272, rW_law_273, rW_law_274, rW_law_275, rW_law_276, rW_law_279, rW_law_280, rW_law_281, rW_law_282, rW_law_283, rW_law_284, rW_law_285, rW_law_286, Bool.false_eq_true, true_implies, false_implies, implies_true, true_and, and_true, not_true_eq_false, not_false_eq_true, zPush_I, zPush_L, zPush_R, zPush_U, Int.reduceLT, Int.reduceLE, Int.reduceEq, Int.reduceNe, Int.reduceAdd, Int.reduceSub, Int.reduceMul, Int.reduceNeg, Int.reduceToNat, Nat.reduceAdd, Nat.reduceMul, Nat.reduceEqDiff, zw32_id, zw64_id, zupd_eq, zupd_na, zupd_ni, zupp_eq, zupp_na, zupp_ni, x1]
  refine mType h1 m1k v.1 (fun m2 mm2 fc => ?_)
  have x2 : m2 1 = mm 1 := (fc 1 (by decide)).trans x1
  have q := hz _ _ m2 ⟨_, _, _, _, _, iv_type v, cOk_fc c1 fc, mm2, ⟨kk1, ll1⟩, fun j => by rw [x2]; exact hx j⟩
  simp (disch := first | assumption | omega) only [rW_law_289, rW_law_292, rW_law_293, Bool.false_eq_true, true_implies, false_implies, implies_true, true_and, and_true, not_true_eq_false, not_false_eq_true, zPush_I, zPush_L, zPush_R, zPush_U, Int.reduceLT, Int.reduceLE, Int.reduceEq, Int.reduceNe, Int.reduceAdd, Int.reduceSub, Int.reduceMul, Int.reduceNeg, Int.reduceToNat, Nat.reduceAdd, Nat.reduceMul, Nat.reduceEqDiff, zw32_id, zw64_id, zupd_eq, zupd_na, zupd_ni, zupp_eq, zupp_na, zupp_ni]
  exact q
theorem law_clear (i0 : 0 ≤ i) (i4 : i + 4 < (L : Int)) (iL : (L : Int) ≤ 2560) (hI : lwI L xs sh pp mm) (hz : ∀ sh pp mm, lwI L xs sh pp mm → zS 273 1160 [zR 1, zR 13, zR 122, zI i] [] sh pp mm Q) : zS 273 294 [zR 1, zR 13, zR 122, zI i] [] sh pp mm Q := by
  obtain ⟨f, G, cn, N, D, v, c, m, ⟨k1, l1⟩, hx⟩ := hI
  have h := c.1
  have k13 := k_13 h
  have kb : zKd sh 1 = 20 ∨ zKd sh 1 = 30 := Or.inr k1
  simp (disch := first | assumption | omega) only [rW_law_294, rW_law_295, rW_law_296, rW_law_297, rW_law_298, rW_law_299, rW_law_300, Bool.false_eq_true, true_implies, false_implies, implies_true, true_and, and_true, not_true_eq_false, not_false_eq_true, zPush_I, zPush_L, zPush_R, zPush_U, Int.reduceLT, Int.reduceLE, Int.reduceEq, Int.reduceNe, Int.reduceAdd, Int.reduceSub, Int.reduceMul, Int.reduceNeg, Int.reduceToNat, Nat.reduceAdd, Nat.reduceMul, Nat.reduceEqDiff, zw32_id, zw64_id, zupd_eq, zupd_na, zupd_ni, zupp_eq, zupp_na, zupp_ni]
  refine cClear c v.1 (fun m1 c1 fx => ?_)
  have h1 := c1.1
  have k122 := k_122 h1
  have x1 : m1 1 = mm 1 := fx.1 1 (Or.inl (by decide))
  have kk1 : zKd sh 1 = 30 := by rw [(fx.2 1 (by decide)).1]; exact k1
  have ll1 : zLn sh 1 = (L : Int) := by rw [(fx.2 1 (by decide)).2]; exact l1
  have kb1 : zKd sh 1 = 20 ∨ zKd sh 1 = 30 := Or.inr kk1
  have m1k := mOk_fx m (fun a a1 a2 => fx.1 a (Or.inr ⟨a1, a2⟩))
  simp (disch := first | assumption | omega) only [rW_law_303, rW_law_304, rW_law_305, rW_law_306, rW_law_307, rW_law_308, rW_law_309, Bool.false_eq_true, true_implies, false_implies, implies_true, true_and, and_true, not_true_eq_false, not_false_eq_true, zPush_I, zPush_L, zPush_R, zPush_U, Int.reduceLT, Int.reduceLE, Int.reduceEq, Int.reduceNe, Int.reduceAdd, Int.reduceSub, Int.reduceMul, Int.reduceNeg, Int.reduceToNat, Nat.reduceAdd, Nat.reduceMul, Nat.reduceEqDiff, zw32_id, zw64_id, zupd_eq, zupd_na, zupd_ni, zupp_eq, zupp_na, zupp_ni, x1]
  refine mClear h1 m1k (fun m2 mm2 fc => ?_)
  have x2 : m2 1 = mm 1 := (fc 1 (by decide)).trans x1
  have q := hz _ _ m2 ⟨_, _, _, _, _, iv_clear v, cOk_fc c1 fc, mm2, ⟨kk1, ll1⟩, fun j => by rw [x2]; exact hx j⟩
  simp (disch := first | assumption | omega) only [rW_law_312, rW_law_315, rW_law_316, Bool.false_eq_true, true_implies, false_implies, implies_true, true_and, and_true, not_true_eq_false, not_false_eq_true, zPush_I, zPush_L, zPush_R, zPush_U, Int.reduceLT, Int.reduceLE, Int.reduceEq, Int.reduceNe, Int.reduceAdd, Int.reduceSub, Int.reduceMul, Int.reduceNeg, Int.reduceToNat, Nat.reduceAdd, Nat.reduceMul, Nat.reduceEqDiff, zw32_id, zw64_id, zupd_eq, zupd_na, zupd_ni, zupp_eq, zupp_na, zupp_ni]
  exact q
theorem law_fault (i0 : 0 ≤ i) (i4 : i + 4 < (L : Int)) (iL : (L : Int) ≤ 2560) (hI : lwI L xs sh pp mm) (hz : ∀ sh pp mm, lwI L xs sh pp mm → zS 273 1160 [zR 1, zR 13, zR 122, zI i] [] sh pp mm Q) : zS 273 317 [zR 1, zR 13, zR 122, zI i] [] sh pp mm Q := by
  obtain ⟨f, G, cn, N, D, v, c, m, ⟨k1, l1⟩, hx⟩ := hI
  have h := c.1
  have k13 := k_13 h
  have kb : zKd sh 1 = 20 ∨ zKd sh 1 = 30 := Or.inr k1
  simp (disch := first | assumption | omega) only [rW_law_317, rW_law_318, rW_law_319, rW_law_320, rW_law_321, rW_law_322, rW_law_323, Bool.false_eq_true, true_implies, false_implies, implies_true, true_and, and_true, not_true_eq_false, not_false_eq_true, zPush_I, zPush_L, zPush_R, zPush_U, Int.reduceLT, Int.reduceLE, Int.reduceEq, Int.reduceNe, Int.reduceAdd, Int.reduceSub, Int.reduceMul, Int.reduceNeg, Int.reduceToNat, Nat.reduceAdd, Nat.reduceMul, Nat.reduceEqDiff, zw32_id, zw64_id, zupd_eq, zupd_na, zupd_ni, zupp_eq, zupp_na, zupp_ni]
  refine cFault c v.1 (fun pp1 m1 c1 fx => ?_)
  have h1 := c1.1
  have k122 := k_122 h1
  have x1 : m1 1 = mm 1 := fx.1 1 (Or.inl (by decide))
  have kk1 : zKd sh 1 = 30 := by rw [(fx.2 1 (by decide)).1]; exact k1
  have ll1 : zLn sh 1 = (L : Int) := by rw [(fx.2 1 (by decide)).2]; exact l1
  have kb1 : zKd sh 1 = 20 ∨ zKd sh 1 = 30 := Or.inr kk1
  have m1k := mOk_fx m (fun a a1 a2 => fx.1 a (Or.inr ⟨a1, a2⟩))
  simp (disch := first | assumption | omega) only [rW_law_326, rW_law_327, rW_law_328, rW_law_329, rW_law_330, rW_law_331, rW_law_332, Bool.false_eq_true, true_implies, false_implies, implies_true, true_and, and_true, not_true_eq_false, not_false_eq_true, zPush_I, zPush_L, zPush_R, zPush_U, Int.reduceLT, Int.reduceLE, Int.reduceEq, Int.reduceNe, Int.reduceAdd, Int.reduceSub, Int.reduceMul, Int.reduceNeg, Int.reduceToNat, Nat.reduceAdd, Nat.reduceMul, Nat.reduceEqDiff, zw32_id, zw64_id, zupd_eq, zupd_na, zupd_ni, zupp_eq, zupp_na, zupp_ni, x1]
  refine mFault h1 m1k v.1 (fun m2 mm2 fc => ?_)
  have x2 : m2 1 = mm 1 := (fc 1 (by decide)).trans x1
  have q := hz _ _ m2 ⟨_, _, _, _, _, v, cOk_fc c1 fc, mm2, ⟨kk1, ll1⟩, fun j => by rw [x2]; exact hx j⟩
  simp (disch := first | assumption | omega) only [rW_law_335, rW_law_338, rW_law_339, Bool.false_eq_true, true_implies, false_implies, implies_true, true_and, and_true, not_true_eq_false, not_false_eq_true, zPush_I, zPush_L, zPush_R, zPush_U, Int.reduceLT, Int.reduceLE, Int.reduceEq, Int.reduceNe, Int.reduceAdd, Int.reduceSub, Int.reduceMul, Int.reduceNeg, Int.reduceToNat, Nat.reduceAdd, Nat.reduceMul, Nat.reduceEqDiff, zw32_id, zw64_id, zupd_eq, zupd_na, zupd_ni, zupp_eq, zupp_na, zupp_ni]
  exact q
theorem law_draws (i0 : 0 ≤ i) (i4 : i + 4 < (L : Int)) (iL : (L : Int) ≤ 2560) (hI : lwI L xs sh pp mm) (hz : ∀ sh pp mm, lwI L xs sh pp mm → zS 273 1160 [zR 1, zR 13, zR 122, zI i] [] sh pp mm Q) : zS 273 340 [zR 1, zR 13, zR 122, zI i] [] sh pp mm Q := by
  obtain ⟨f, G, cn, N, D, v, c, m, ⟨k1, l1⟩, hx⟩ := hI
  have h := c.1
  have k13 := k_13 h
  have kb : zKd sh 1 = 20 ∨ zKd sh 1 = 30 := Or.inr k1
  simp (disch := first | assumption | omega) only [rW_law_340, rW_law_341, rW_law_342, rW_law_343, rW_law_344, rW_law_345, rW_law_346, rW_law_347, rW_law_348, rW_law_349, rW_law_350, rW_law_351, Bool.false_eq_true, true_implies, false_implies, implies_true, true_and, and_true, not_true_eq_false, not_false_eq_true, zPush_I, zPush_L, zPush_R, zPush_U, Int.reduceLT, Int.reduceLE, Int.reduceEq, Int.reduceNe, Int.reduceAdd, Int.reduceSub, Int.reduceMul, Int.reduceNeg, Int.reduceToNat, Nat.reduceAdd, Nat.reduceMul, Nat.reduceEqDiff, zw32_id, zw64_id, zupd_eq, zupd_na, zupd_ni, zupp_eq, zupp_na, zupp_ni]
  refine cDraws c v.1 (fun pp1 m1 c1 fx => ?_)
  have h1 := c1.1
  have k122 := k_122 h1
  have x1 : m1 1 = mm 1 := fx.1 1 (Or.inl (by decide))
  have kk1 : zKd sh 1 = 30 := by rw [(fx.2 1 (by decide)).1]; exact k1
  have ll1 : zLn sh 1 = (L : Int) := by rw [(fx.2 1 (by decide)).2]; exact l1
  have kb1 : zKd sh 1 = 20 ∨ zKd sh 1 = 30 := Or.inr kk1
  have m1k := mOk_fx m (fun a a1 a2 => fx.1 a (Or.inr ⟨a1, a2⟩))
  simp (disch := first | assumption | omega) only [rW_law_354, rW_law_355, rW_law_356, rW_law_357, rW_law_358, rW_law_359, rW_law_360, rW_law_361, rW_law_362, rW_law_363, rW_law_364, rW_law_365, Bool.false_eq_true, true_implies, false_implies, implies_true, true_and, and_true, not_true_eq_false, not_false_eq_true, zPush_I, zPush_L, zPush_R, zPush_U, Int.reduceLT, Int.reduceLE, Int.reduceEq, Int.reduceNe, Int.reduceAdd, Int.reduceSub, Int.reduceMul, Int.reduceNeg, Int.reduceToNat, Nat.reduceAdd, Nat.reduceMul, Nat.reduceEqDiff, zw32_id, zw64_id, zupd_eq, zupd_na, zupd_ni, zupp_eq, zupp_na, zupp_ni, x1]
  refine mDraws h1 m1k v.1 (fun m2 mm2 fc => ?_)
  have x2 : m2 1 = mm 1 := (fc 1 (by decide)).trans x1
  have q := hz _ _ m2 ⟨_, _, _, _, _, v, cOk_fc c1 fc, mm2, ⟨kk1, ll1⟩, fun j => by rw [x2]; exact hx j⟩
  simp (disch := first | assumption | omega) only [rW_law_368, rW_law_371, rW_law_372, Bool.false_eq_true, true_implies, false_implies, implies_true, true_and, and_true, not_true_eq_false, not_false_eq_true, zPush_I, zPush_L, zPush_R, zPush_U, Int.reduceLT, Int.reduceLE, Int.reduceEq, Int.reduceNe, Int.reduceAdd, Int.reduceSub, Int.reduceMul, Int.reduceNeg, Int.reduceToNat, Nat.reduceAdd, Nat.reduceMul, Nat.reduceEqDiff, zw32_id, zw64_id, zupd_eq, zupd_na, zupd_ni, zupp_eq, zupp_na, zupp_ni]
  exact q
theorem law_cell (i0 : 0 ≤ i) (i4 : i + 4 < (L : Int)) (iL : (L : Int) ≤ 2560) (hI : lwI L xs sh pp mm) (hz : ∀ sh pp mm, lwI L xs sh pp mm → zS 273 1160 [zR 1, zR 13, zR 122, zI i] [] sh pp mm Q) : zS 273 373 [zR 1, zR 13, zR 122, zI i] [] sh pp mm Q := by
  obtain ⟨f, G, cn, N, D, v, c, m, ⟨k1, l1⟩, hx⟩ := hI
  have h := c.1
  have k13 := k_13 h
  have kb : zKd sh 1 = 20 ∨ zKd sh 1 = 30 := Or.inr k1
  simp (disch := first | assumption | omega) only [rW_law_373, rW_law_374, rW_law_375, rW_law_376, rW_law_377, rW_law_378, rW_law_379, rW_law_380, rW_law_381, rW_law_382, rW_law_383, rW_law_384, rW_law_385, rW_law_386, rW_law_387, rW_law_388, rW_law_389, Bool.false_eq_true, true_implies, false_implies, implies_true, true_and, and_true, not_true_eq_false, not_false_eq_true, zPush_I, zPush_L, zPush_R, zPush_U, Int.reduceLT, Int.reduceLE, Int.reduceEq, Int.reduceNe, Int.reduceAdd, Int.reduceSub, Int.reduceMul, Int.reduceNeg, Int.reduceToNat, Nat.reduceAdd, Nat.reduceMul, Nat.reduceEqDiff, zw32_id, zw64_id, zupd_eq, zupd_na, zupd_ni, zupp_eq, zupp_na, zupp_ni]
  refine cCell c v.1 (fun pp1 m1 c1 fx => ?_)
  have h1 := c1.1
  have k122 := k_122 h1
  have x1 : m1 1 = mm 1 := fx.1 1 (Or.inl (by decide))
  have kk1 : zKd sh 1 = 30 := by rw [(fx.2 1 (by decide)).1]; exact k1
  have ll1 : zLn sh 1 = (L : Int) := by rw [(fx.2 1 (by decide)).2]; exact l1
  have kb1 : zKd sh 1 = 20 ∨ zKd sh 1 = 30 := Or.inr kk1
  have m1k := mOk_fx m (fun a a1 a2 => fx.1 a (Or.inr ⟨a1, a2⟩))
  simp (disch := first | assumption | omega) only [rW_law_392, rW_law_393, rW_law_394, rW_law_395, rW_law_396, rW_law_397, rW_law_398, rW_law_399, rW_law_400, rW_law_401, rW_law_402, rW_law_403, rW_law_404, rW_law_405, rW_law_406, rW_law_407, rW_law_408, Bool.false_eq_true, true_implies, false_implies, implies_true, true_and, and_true, not_true_eq_false, not_false_eq_true, zPush_I, zPush_L, zPush_R, zPush_U, Int.reduceLT, Int.reduceLE, Int.reduceEq, Int.reduceNe, Int.reduceAdd, Int.reduceSub, Int.reduceMul, Int.reduceNeg, Int.reduceToNat, Nat.reduceAdd, Nat.reduceMul, Nat.reduceEqDiff, zw32_id, zw64_id, zupd_eq, zupd_na, zupd_ni, zupp_eq, zupp_na, zupp_ni, x1]
  refine mCell h1 m1k v.1 (fun m2 mm2 fc => ?_)
  have x2 : m2 1 = mm 1 := (fc 1 (by decide)).trans x1
  have q := hz _ _ m2 ⟨_, _, _, _, _, v, cOk_fc c1 fc, mm2, ⟨kk1, ll1⟩, fun j => by rw [x2]; exact hx j⟩
  simp (disch := first | assumption | omega) only [rW_law_411, rW_law_414, rW_law_415, Bool.false_eq_true, true_implies, false_implies, implies_true, true_and, and_true, not_true_eq_false, not_false_eq_true, zPush_I, zPush_L, zPush_R, zPush_U, Int.reduceLT, Int.reduceLE, Int.reduceEq, Int.reduceNe, Int.reduceAdd, Int.reduceSub, Int.reduceMul, Int.reduceNeg, Int.reduceToNat, Nat.reduceAdd, Nat.reduceMul, Nat.reduceEqDiff, zw32_id, zw64_id, zupd_eq, zupd_na, zupd_ni, zupp_eq, zupp_na, zupp_ni]
  exact q
theorem law_point (i0 : 0 ≤ i) (i4 : i + 4 < (L : Int)) (iL : (L : Int) ≤ 2560) (hI : lwI L xs sh pp mm) (hz : ∀ sh pp mm, lwI L xs sh pp mm → zS 273 1160 [zR 1, zR 13, zR 122, zI i] [] sh pp mm Q) : zS 273 416 [zR 1, zR 13, zR 122, zI i] [] sh pp mm Q := by
  obtain ⟨f, G, cn, N, D, v, c, m, ⟨k1, l1⟩, hx⟩ := hI
  have h := c.1
  have k13 := k_13 h
  have kb : zKd sh 1 = 20 ∨ zKd sh 1 = 30 := Or.inr k1
  simp (disch := first | assumption | omega) only [rW_law_416, rW_law_417, rW_law_418, rW_law_419, rW_law_420, rW_law_421, rW_law_422, rW_law_423, rW_law_424, rW_law_425, rW_law_426, rW_law_427, Bool.false_eq_true, true_implies, false_implies, implies_true, true_and, and_true, not_true_eq_false, not_false_eq_true, zPush_I, zPush_L, zPush_R, zPush_U, Int.reduceLT, Int.reduceLE, Int.reduceEq, Int.reduceNe, Int.reduceAdd, Int.reduceSub, Int.reduceMul, Int.reduceNeg, Int.reduceToNat, Nat.reduceAdd, Nat.reduceMul, Nat.reduceEqDiff, zw32_id, zw64_id, zupd_eq, zupd_na, zupd_ni, zupp_eq, zupp_na, zupp_ni]
  refine cPoint c v.1 (fun pp1 m1 c1 fx => ?_)
  have h1 := c1.1
  have k122 := k_122 h1
  have x1 : m1 1 = mm 1 := fx.1 1 (Or.inl (by decide))
  have kk1 : zKd sh 1 = 30 := by rw [(fx.2 1 (by decide)).1]; exact k1
  have ll1 : zLn sh 1 = (L : Int) := by rw [(fx.2 1 (by decide)).2]; exact l1
  have kb1 : zKd sh 1 = 20 ∨ zKd sh 1 = 30 := Or.inr kk1
  have m1k := mOk_fx m (fun a a1 a2 => fx.1 a (Or.inr ⟨a1, a2⟩))
  simp (disch := first | assumption | omega) only [rW_law_430, rW_law_431, rW_law_432, rW_law_433, rW_law_434, rW_law_435, rW_law_436, rW_law_437, rW_law_438, rW_law_439, rW_law_440, rW_law_441, Bool.false_eq_true, true_implies, false_implies, implies_true, true_and, and_true, not_true_eq_false, not_false_eq_true, zPush_I, zPush_L, zPush_R, zPush_U, Int.reduceLT, Int.reduceLE, Int.reduceEq, Int.reduceNe, Int.reduceAdd, Int.reduceSub, Int.reduceMul, Int.reduceNeg, Int.reduceToNat, Nat.reduceAdd, Nat.reduceMul, Nat.reduceEqDiff, zw32_id, zw64_id, zupd_eq, zupd_na, zupd_ni, zupp_eq, zupp_na, zupp_ni, x1]
  refine mPoint h1 m1k v.1 (fun m2 mm2 fc => ?_)
  have x2 : m2 1 = mm 1 := (fc 1 (by decide)).trans x1
  have q := hz _ _ m2 ⟨_, _, _, _, _, v, cOk_fc c1 fc, mm2, ⟨kk1, ll1⟩, fun j => by rw [x2]; exact hx j⟩
  simp (disch := first | assumption | omega) only [rW_law_444, rW_law_447, rW_law_448, Bool.false_eq_true, true_implies, false_implies, implies_true, true_and, and_true, not_true_eq_false, not_false_eq_true, zPush_I, zPush_L, zPush_R, zPush_U, Int.reduceLT, Int.reduceLE, Int.reduceEq, Int.reduceNe, Int.reduceAdd, Int.reduceSub, Int.reduceMul, Int.reduceNeg, Int.reduceToNat, Nat.reduceAdd, Nat.reduceMul, Nat.reduceEqDiff, zw32_id, zw64_id, zupd_eq, zupd_na, zupd_ni, zupp_eq, zupp_na, zupp_ni]
  exact q
theorem law_same (i0 : 0 ≤ i) (i4 : i + 4 < (L : Int)) (iL : (L : Int) ≤ 2560) (hI : lwI L xs sh pp mm) (hz : ∀ sh pp mm, lwI L xs sh pp mm → zS 273 1160 [zR 1, zR 13, zR 122, zI i] [] sh pp mm Q) : zS 273 449 [zR 1, zR 13, zR 122, zI i] [] sh pp mm Q := by
  obtain ⟨f, G, cn, N, D, v, c, m, ⟨k1, l1⟩, hx⟩ := hI
  have h := c.1
  have k13 := k_13 h
  have kb : zKd sh 1 = 20 ∨ zKd sh 1 = 30 := Or.inr k1
  simp (disch := first | assumption | omega) only [rW_law_449, rW_law_450, rW_law_451, rW_law_452, rW_law_453, rW_law_454, rW_law_455, rW_law_456, rW_law_457, rW_law_458, rW_law_459, rW_law_460, Bool.false_eq_true, true_implies, false_implies, implies_true, true_and, and_true, not_true_eq_false, not_false_eq_true, zPush_I, zPush_L, zPush_R, zPush_U, Int.reduceLT, Int.reduceLE, Int.reduceEq, Int.reduceNe, Int.reduceAdd, Int.reduceSub, Int.reduceMul, Int.reduceNeg, Int.reduceToNat, Nat.reduceAdd, Nat.reduceMul, Nat.reduceEqDiff, zw32_id, zw64_id, zupd_eq, zupd_na, zupd_ni, zupp_eq, zupp_na, zupp_ni]
  refine cSame c v.1 (fun pp1 m1 c1 fx => ?_)
  have h1 := c1.1
  have k122 := k_122 h1
  have x1 : m1 1 = mm 1 := fx.1 1 (Or.inl (by decide))
  have kk1 : zKd sh 1 = 30 := by rw [(fx.2 1 (by decide)).1]; exact k1
  have ll1 : zLn sh 1 = (L : Int) := by rw [(fx.2 1 (by decide)).2]; exact l1
  have kb1 : zKd sh 1 = 20 ∨ zKd sh 1 = 30 := Or.inr kk1
  have m1k := mOk_fx m (fun a a1 a2 => fx.1 a (Or.inr ⟨a1, a2⟩))
  simp (disch := first | assumption | omega) only [rW_law_463, rW_law_464, rW_law_465, rW_law_466, rW_law_467, rW_law_468, rW_law_469, rW_law_470, rW_law_471, rW_law_472, rW_law_473, rW_law_474, Bool.false_eq_true, true_implies, false_implies, implies_true, true_and, and_true, not_true_eq_false, not_false_eq_true, zPush_I, zPush_L, zPush_R, zPush_U, Int.reduceLT, Int.reduceLE, Int.reduceEq, Int.reduceNe, Int.reduceAdd, Int.reduceSub, Int.reduceMul, Int.reduceNeg, Int.reduceToNat, Nat.reduceAdd, Nat.reduceMul, Nat.reduceEqDiff, zw32_id, zw64_id, zupd_eq, zupd_na, zupd_ni, zupp_eq, zupp_na, zupp_ni, x1]
  refine mSame h1 m1k v.1 (fun m2 mm2 fc => ?_)
  have x2 : m2 1 = mm 1 := (fc 1 (by decide)).trans x1
  have q := hz _ _ m2 ⟨_, _, _, _, _, v, cOk_fc c1 fc, mm2, ⟨kk1, ll1⟩, fun j => by rw [x2]; exact hx j⟩
  simp (disch := first | assumption | omega) only [rW_law_477, rW_law_480, rW_law_481, Bool.false_eq_true, true_implies, false_implies, implies_true, true_and, and_true, not_true_eq_false, not_false_eq_true, zPush_I, zPush_L, zPush_R, zPush_U, Int.reduceLT, Int.reduceLE, Int.reduceEq, Int.reduceNe, Int.reduceAdd, Int.reduceSub, Int.reduceMul, Int.reduceNeg, Int.reduceToNat, Nat.reduceAdd, Nat.reduceMul, Nat.reduceEqDiff, zw32_id, zw64_id, zupd_eq, zupd_na, zupd_ni, zupp_eq, zupp_na, zupp_ni]
  exact q
theorem law_quickest (i0 : 0 ≤ i) (i4 : i + 4 < (L : Int)) (iL : (L : Int) ≤ 2560) (hI : lwI L xs sh pp mm) (hz : ∀ sh pp mm, lwI L xs sh pp mm → zS 273 1160 [zR 1, zR 13, zR 122, zI i] [] sh pp mm Q) : zS 273 482 [zR 1, zR 13, zR 122, zI i] [] sh pp mm Q := by
  obtain ⟨f, G, cn, N, D, v, c, m, ⟨k1, l1⟩, hx⟩ := hI
  have h := c.1
  have k13 := k_13 h
  have kb : zKd sh 1 = 20 ∨ zKd sh 1 = 30 := Or.inr k1
  simp (disch := first | assumption | omega) only [rW_law_482, rW_law_483, rW_law_484, rW_law_485, rW_law_486, rW_law_487, rW_law_488, Bool.false_eq_true, true_implies, false_implies, implies_true, true_and, and_true, not_true_eq_false, not_false_eq_true, zPush_I, zPush_L, zPush_R, zPush_U, Int.reduceLT, Int.reduceLE, Int.reduceEq, Int.reduceNe, Int.reduceAdd, Int.reduceSub, Int.reduceMul, Int.reduceNeg, Int.reduceToNat, Nat.reduceAdd, Nat.reduceMul, Nat.reduceEqDiff, zw32_id, zw64_id, zupd_eq, zupd_na, zupd_ni, zupp_eq, zupp_na, zupp_ni]
  refine cQuick c v.1 (fun pp1 m1 c1 fx => ?_)
  have h1 := c1.1
  have k122 := k_122 h1
  have x1 : m1 1 = mm 1 := fx.1 1 (Or.inl (by decide))
  have kk1 : zKd sh 1 = 30 := by rw [(fx.2 1 (by decide)).1]; exact k1
  have ll1 : zLn sh 1 = (L : Int) := by rw [(fx.2 1 (by decide)).2]; exact l1
  have kb1 : zKd sh 1 = 20 ∨ zKd sh 1 = 30 := Or.inr kk1
  have m1k := mOk_fx m (fun a a1 a2 => fx.1 a (Or.inr ⟨a1, a2⟩))
  simp (disch := first | assumption | omega) only [rW_law_491, rW_law_492, rW_law_493, rW_law_494, rW_law_495, rW_law_496, rW_law_497, Bool.false_eq_true, true_implies, false_implies, implies_true, true_and, and_true, not_true_eq_false, not_false_eq_true, zPush_I, zPush_L, zPush_R, zPush_U, Int.reduceLT, Int.reduceLE, Int.reduceEq, Int.reduceNe, Int.reduceAdd, Int.reduceSub, Int.reduceMul, Int.reduceNeg, Int.reduceToNat, Nat.reduceAdd, Nat.reduceMul, Nat.reduceEqDiff, zw32_id, zw64_id, zupd_eq, zupd_na, zupd_ni, zupp_eq, zupp_na, zupp_ni, x1]
  refine mQuick h1 m1k v.1 (fun m2 mm2 fc => ?_)
  have x2 : m2 1 = mm 1 := (fc 1 (by decide)).trans x1
  have q := hz _ _ m2 ⟨_, _, _, _, _, v, cOk_fc c1 fc, mm2, ⟨kk1, ll1⟩, fun j => by rw [x2]; exact hx j⟩
  simp (disch := first | assumption | omega) only [rW_law_500, rW_law_503, rW_law_504, Bool.false_eq_true, true_implies, false_implies, implies_true, true_and, and_true, not_true_eq_false, not_false_eq_true, zPush_I, zPush_L, zPush_R, zPush_U, Int.reduceLT, Int.reduceLE, Int.reduceEq, Int.reduceNe, Int.reduceAdd, Int.reduceSub, Int.reduceMul, Int.reduceNeg, Int.reduceToNat, Nat.reduceAdd, Nat.reduceMul, Nat.reduceEqDiff, zw32_id, zw64_id, zupd_eq, zupd_na, zupd_ni, zupp_eq, zupp_na, zupp_ni]
  exact q
end
