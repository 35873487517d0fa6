/-! ===== bends of the reference: one step of a line ===== -/
theorem w3d {hx hy : Int} (vx : hV hx) (vy : hV hy) : zw32 ((3 * (hx + 1) + hy + 1).tdiv 3) = hx + 1 := by
  rcases vx with rfl | rfl | rfl <;> rcases vy with rfl | rfl | rfl <;> decide +kernel
theorem w3m {hx hy : Int} (vx : hV hx) (vy : hV hy) : (3 * (hx + 1) + hy + 1).tmod 3 = hy + 1 := by
  rcases vx with rfl | rfl | rfl <;> rcases vy with rfl | rfl | rfl <;> decide +kernel
theorem w9 {W : Nat} (h : W < 9) : ∃ hx hy : Int, hV hx ∧ hV hy ∧ (W : Int) = 3 * (hx + 1) + hy + 1 := by
  refine ⟨((W / 3 : Nat) : Int) - 1, ((W % 3 : Nat) : Int) - 1, ?_, ?_, ?_⟩
  · unfold hV; omega
  · unfold hV; omega
  · omega
def rb (mm : zMm) (T : Nat) (hx hy : Int) : Int := mm 141 (9 * (T : Int) + (3 * (hx + 1) + hy + 1))
section
variable {sh : zSh} {pp : zPp} {mm : zMm} {Q : zV → zSh → zPp → zMm → Prop} {f : Int → Int} {G : Int → Option (Int → Int)} {cn : Int → Int} {N D : Nat}
theorem kM_bOne {S W e b t k h g : Int} (vh : hV h) (vg : hV g) (b0 : 0 ≤ b) (b1 : b ≤ 1000001) (t0 : 0 ≤ t) (t1 : t ≤ 10) : zS 228 63 [zR 122, zI S, zI W, zI e, zI b, zI t, zI k, zI h, zI g] [] sh pp mm Q ↔ zS 228 111 [zR 122, zI S, zI W, zI e, zI (b + tB h g), zI (3 * t + hA h g + 1), zI k, zU, zU] [] sh pp mm Q := by
  unfold hV at vh vg
  unfold tB hA
  by_cases g0 : g = 0
  · rw [if_neg (fun x => x.1 g0), if_pos g0]
    simp (disch := first | assumption | omega) only [rM_bendsOn_63, rM_bendsOn_65, rM_bendsOn_67, rM_bendsOn_70, rM_bendsOn_72, rM_bendsOn_75, rM_bendsOn_77, rM_bendsOn_79, rM_bendsOn_82, rM_bendsOn_83, rM_bendsOn_86, rM_bendsOn_87, rM_bendsOn_88, rM_bendsOn_90, rM_bendsOn_91, rM_bendsOn_93, rM_bendsOn_94, rM_bendsOn_96, rM_bendsOn_99, rM_bendsOn_101, rM_bendsOn_104, rM_bendsOn_106, rM_bendsOn_107, rM_bendsOn_108, rM_bendsOn_109, Bool.false_eq_true, true_implies, false_implies, implies_true, true_and, and_true, not_true_eq_false, not_false_eq_true, zPush_I, zPush_L, zPush_R, zPush_U, Int.reduceLT, Int.reduceLE, Int.reduceEq, Int.reduceNe, Int.reduceAdd, Int.reduceSub, Int.reduceMul, Int.reduceNeg, Int.reduceToNat, Nat.reduceAdd, Nat.reduceMul, Nat.reduceEqDiff, zw32_id, zw64_id, zupd_eq, zupd_na, zupd_ni, zupp_eq, zupp_na, zupp_ni, eq_true g0]
  · rw [if_neg g0]
    by_cases h0 : h = 0
    · rw [if_neg (fun x => x.2.1 h0)]
      simp (disch := first | assumption | omega) only [rM_bendsOn_63, rM_bendsOn_65, rM_bendsOn_67, rM_bendsOn_70, rM_bendsOn_72, rM_bendsOn_75, rM_bendsOn_77, rM_bendsOn_79, rM_bendsOn_82, rM_bendsOn_83, rM_bendsOn_86, rM_bendsOn_87, rM_bendsOn_88, rM_bendsOn_90, rM_bendsOn_91, rM_bendsOn_93, rM_bendsOn_94, rM_bendsOn_96, rM_bendsOn_99, rM_bendsOn_101, rM_bendsOn_104, rM_bendsOn_106, rM_bendsOn_107, rM_bendsOn_108, rM_bendsOn_109, Bool.false_eq_true, true_implies, false_implies, implies_true, true_and, and_true, not_true_eq_false, not_false_eq_true, zPush_I, zPush_L, zPush_R, zPush_U, Int.reduceLT, Int.reduceLE, Int.reduceEq, Int.reduceNe, Int.reduceAdd, Int.reduceSub, Int.reduceMul, Int.reduceNeg, Int.reduceToNat, Nat.reduceAdd, Nat.reduceMul, Nat.reduceEqDiff, zw32_id, zw64_id, zupd_eq, zupd_na, zupd_ni, zupp_eq, zupp_na, zupp_ni, eq_false g0, eq_true h0]
    · by_cases gh : g = h
      · rw [if_neg (fun x => x.2.2 gh)]
        simp (disch := first | assumption | omega) only [rM_bendsOn_63, rM_bendsOn_65, rM_bendsOn_67, rM_bendsOn_70, rM_bendsOn_72, rM_bendsOn_75, rM_bendsOn_77, rM_bendsOn_79, rM_bendsOn_82, rM_bendsOn_83, rM_bendsOn_86, rM_bendsOn_87, rM_bendsOn_88, rM_bendsOn_90, rM_bendsOn_91, rM_bendsOn_93, rM_bendsOn_94, rM_bendsOn_96, rM_bendsOn_99, rM_bendsOn_101, rM_bendsOn_104, rM_bendsOn_106, rM_bendsOn_107, rM_bendsOn_108, rM_bendsOn_109, Bool.false_eq_true, true_implies, false_implies, implies_true, true_and, and_true, not_true_eq_false, not_false_eq_true, zPush_I, zPush_L, zPush_R, zPush_U, Int.reduceLT, Int.reduceLE, Int.reduceEq, Int.reduceNe, Int.reduceAdd, Int.reduceSub, Int.reduceMul, Int.reduceNeg, Int.reduceToNat, Nat.reduceAdd, Nat.reduceMul, Nat.reduceEqDiff, zw32_id, zw64_id, zupd_eq, zupd_na, zupd_ni, zupp_eq, zupp_na, zupp_ni, eq_false g0, eq_false h0, eq_true gh]
      · rw [if_pos ⟨g0, h0, gh⟩]
        simp (disch := first | assumption | omega) only [rM_bendsOn_63, rM_bendsOn_65, rM_bendsOn_67, rM_bendsOn_70, rM_bendsOn_72, rM_bendsOn_75, rM_bendsOn_77, rM_bendsOn_79, rM_bendsOn_82, rM_bendsOn_83, rM_bendsOn_86, rM_bendsOn_87, rM_bendsOn_88, rM_bendsOn_90, rM_bendsOn_91, rM_bendsOn_93, rM_bendsOn_94, rM_bendsOn_96, rM_bendsOn_99, rM_bendsOn_101, rM_bendsOn_104, rM_bendsOn_106, rM_bendsOn_107, rM_bendsOn_108, rM_bendsOn_109, Bool.false_eq_true, true_implies, false_implies, implies_true, true_and, and_true, not_true_eq_false, not_false_eq_true, zPush_I, zPush_L, zPush_R, zPush_U, Int.reduceLT, Int.reduceLE, Int.reduceEq, Int.reduceNe, Int.reduceAdd, Int.reduceSub, Int.reduceMul, Int.reduceNeg, Int.reduceToNat, Nat.reduceAdd, Nat.reduceMul, Nat.reduceEqDiff, zw32_id, zw64_id, zupd_eq, zupd_na, zupd_ni, zupp_eq, zupp_na, zupp_ni, eq_false g0, eq_false h0, eq_false gh]
theorem bIx {S : Nat} {hx hy : Int} (vx : hV hx) (vy : hV hy) (hS : S < 4096) : (0 ≤ 9 * (S : Int) + (3 * (hx + 1) + hy + 1) ∧ 9 * (S : Int) + (3 * (hx + 1) + hy + 1) < 36864) ∧ (zw32 (9 * (S : Int)) = 9 * (S : Int) ∧ zw32 (9 * (S : Int) + (3 * (hx + 1) + hy + 1)) = 9 * (S : Int) + (3 * (hx + 1) + hy + 1)) ∧ zw32 (hx + 1 - 1) = hx ∧ zw32 (hy + 1 - 1) = hy := by
  unfold hV at vx vy
  refine ⟨⟨by omega, by omega⟩, ⟨zw32_id (by omega) (by omega), zw32_id (by omega) (by omega)⟩, ?_, ?_⟩
  · rw [Int.add_sub_cancel]; exact zw32_id (by omega) (by omega)
  · rw [Int.add_sub_cancel]; exact zw32_id (by omega) (by omega)
theorem bOnA (h : zLy sh pp) {S : Nat} {e hx hy : Int} (hS : S < 4096) (vx : hV hx) (vy : hV hy) : zS 228 0 [zR 122, zI S, zI (3 * (hx + 1) + hy + 1), zI e, zU, zU, zU, zU, zU] [] sh pp mm Q ↔ zS 228 45 [zR 122, zI S, zI (3 * (hx + 1) + hy + 1), zI e, zI (rb mm S hx hy), zI 0, zI 0, zI hx, zU] [] sh pp mm Q := by
  have k122 := k_122 h
  have k141 := k_141 h
  have l141 := l_141 h
  have p141 := p_122_34 h
  have dz : (3 : Int) ≠ 0 := by decide
  obtain ⟨⟨i0, i1⟩, ⟨ws, wi⟩, ew, -⟩ := bIx vx vy hS
  have i1' : 9 * (S : Int) + (3 * (hx + 1) + hy + 1) < zLn sh 141 := by rw [l141]; exact i1
  have kb : zKd sh 141 = 20 ∨ zKd sh 141 = 30 := Or.inl k141
  unfold rb
  simp (disch := assumption) only [rM_bendsOn_0, rM_bendsOn_1, rM_bendsOn_4, rM_bendsOn_6, rM_bendsOn_7, rM_bendsOn_8, rM_bendsOn_9, rM_bendsOn_10, rM_bendsOn_11, rM_bendsOn_13, rM_bendsOn_14, rM_bendsOn_16, rM_bendsOn_17, rM_bendsOn_19, rM_bendsOn_21, rM_bendsOn_22, rM_bendsOn_25, rM_bendsOn_27, rM_bendsOn_30, rM_bendsOn_31, rM_bendsOn_32, rM_bendsOn_33, rM_bendsOn_34, rM_bendsOn_35, rM_bendsOn_38, rM_bendsOn_39, rM_bendsOn_40, rM_bendsOn_41, rM_bendsOn_42, rM_bendsOn_43, p141, wi, ws, w3d vx vy, ew, true_implies, false_implies, Int.reduceLT, Int.reduceEq, not_true_eq_false, not_false_eq_true, and_true, true_and]
theorem bOnC {S b t e hx hy : Int} (vx : hV hx) (vy : hV hy) : zS 228 19 [zR 122, zI S, zI (3 * (hx + 1) + hy + 1), zI e, zI b, zI t, zI 1, zU, zU] [] sh pp mm Q ↔ zS 228 45 [zR 122, zI S, zI (3 * (hx + 1) + hy + 1), zI e, zI b, zI t, zI 1, zI hy, zU] [] sh pp mm Q := by
  have dz : (3 : Int) ≠ 0 := by decide
  obtain ⟨-, -, -, ew2⟩ := bIx (S := 0) vx vy (by decide)
  simp (disch := assumption) only [rM_bendsOn_19, rM_bendsOn_21, rM_bendsOn_22, rM_bendsOn_25, rM_bendsOn_27, rM_bendsOn_30, rM_bendsOn_31, rM_bendsOn_32, rM_bendsOn_33, rM_bendsOn_34, rM_bendsOn_35, rM_bendsOn_38, rM_bendsOn_39, rM_bendsOn_40, rM_bendsOn_41, rM_bendsOn_42, rM_bendsOn_43, w3m vx vy, ew2, true_implies, false_implies, Int.reduceLT, Int.reduceEq, not_true_eq_false, not_false_eq_true, and_true, true_and]
theorem bOnB0 (h : zLy sh pp) (hm : ∀ k, 0 ≤ k → k < 986 → mm 123 k = f k) (ok : fOk f) {S e w : Nat} {W b t u : Int} (hS : S < 4096) (he : e < nE f) (hmt : mts (nA f) (nC f) e w) (hw : mm 137 S = (w : Int)) : zS 228 45 [zR 122, zI S, zI W, zI e, zI b, zI t, zI 0, zI u, zU] [] sh pp mm Q ↔ zS 228 63 [zR 122, zI S, zI W, zI e, zI b, zI t, zI 0, zI u, zI (sg (nX f (oth (nA f) (nC f) e w) - nX f w))] [] sh pp mm Q := by
  have k122 := k_122 h
  have k123 := k_123 h
  have l123 := l_123 h
  have p123 := p_122_0 h
  have k137 := k_137 h
  have l137 := l_137 h
  have p137 := p_122_30 h
  obtain ⟨eA, eC, hA1, hC1, hne, hA9, hC9⟩ := nAC ok he
  have hwc : (w : Int) < f 982 ∧ ((oth (nA f) (nC f) e w : Nat) : Int) < f 982 := by
    rcases oth_m hmt with ⟨q1, q2⟩ | ⟨q1, q2⟩ <;> omega
  obtain ⟨xw, -, bw, -⟩ := nXY_bd ok (c := w) hwc.1
  obtain ⟨xo, -, bo, -⟩ := nXY_bd ok (c := oth (nA f) (nC f) e w) hwc.2
  have c1 := ok.2.2.2.1.2.1
  have rXw : mm 123 (517 + 2 * (w : Int) + 0) = nX f w := by rw [Int.add_zero, hm _ (by omega) (by omega)]; exact xw
  have rXo : mm 123 (517 + 2 * ((oth (nA f) (nC f) e w : Nat) : Int) + 0) = nX f (oth (nA f) (nC f) e w) := by rw [Int.add_zero, hm _ (by omega) (by omega)]; exact xo
  have ac := fun (Q : zV → zSh → zPp → zMm → Prop) => kM_across (Q := Q) h hm ok he (w := w)
  have S4 : (S : Int) < 4096 := by omega
  clear eA eC hA1 hC1 hne hA9 hC9 he hS xw xo
  simp (disch := first | assumption | omega) only [rM_bendsOn_45, rM_bendsOn_46, rM_bendsOn_47, rM_bendsOn_48, rM_bendsOn_51, rM_bendsOn_52, rM_bendsOn_53, rM_bendsOn_55, rM_bendsOn_58, rM_bendsOn_61, rM_along_0, rM_along_1, rM_along_4, rM_along_7, rM_along_8, rM_along_9, rM_along_10, rM_along_11, rM_along_14, rM_along_15, rM_along_16, rM_along_17, rM_along_18, rM_along_19, rM_along_20, rM_along_23, rM_along_26, rM_along_27, rM_along_28, rM_along_29, rM_along_30, rM_along_31, rM_along_32, rM_along_33, rM_along_34, ac, kM_sign1, Bool.false_eq_true, true_implies, false_implies, implies_true, true_and, and_true, not_true_eq_false, not_false_eq_true, zPush_I, zPush_L, zPush_R, zPush_U, Int.reduceLT, Int.reduceLE, Int.reduceEq, Int.reduceNe, Int.reduceAdd, Int.reduceSub, Int.reduceMul, Int.reduceNeg, Int.reduceToNat, Nat.reduceAdd, Nat.reduceMul, Nat.reduceEqDiff, zw32_id, zw64_id, zupd_eq, zupd_na, zupd_ni, zupp_eq, zupp_na, zupp_ni, p123, p137, hw, eq_true hmt, rXw, rXo]
theorem bOnB1 (h : zLy sh pp) (hm : ∀ k, 0 ≤ k → k < 986 → mm 123 k = f k) (ok : fOk f) {S e w : Nat} {W b t u : Int} (hS : S < 4096) (he : e < nE f) (hmt : mts (nA f) (nC f) e w) (hw : mm 137 S = (w : Int)) : zS 228 45 [zR 122, zI S, zI W, zI e, zI b, zI t, zI 1, zI u, zU] [] sh pp mm Q ↔ zS 228 63 [zR 122, zI S, zI W, zI e, zI b, zI t, zI 1, zI u, zI (sg (nY f (oth (nA f) (nC f) e w) - nY f w))] [] sh pp mm Q := by
  have k122 := k_122 h
  have k123 := k_123 h
  have l123 := l_123 h
  have p123 := p_122_0 h
  have k137 := k_137 h
  have l137 := l_137 h
  have p137 := p_122_30 h
  obtain ⟨eA, eC, hA1, hC1, hne, hA9, hC9⟩ := nAC ok he
  have hwc : (w : Int) < f 982 ∧ ((oth (nA f) (nC f) e w : Nat) : Int) < f 982 := by
    rcases oth_m hmt with ⟨q1, q2⟩ | ⟨q1, q2⟩ <;> omega
  obtain ⟨-, xw, -, bw⟩ := nXY_bd ok (c := w) hwc.1
  obtain ⟨-, xo, -, bo⟩ := nXY_bd ok (c := oth (nA f) (nC f) e w) hwc.2
  have c1 := ok.2.2.2.1.2.1
  have rXw : mm 123 (517 + 2 * (w : Int) + 1) = nY f w := by rw [hm _ (by omega) (by omega)]; exact xw
  have rXo : mm 123 (517 + 2 * ((oth (nA f) (nC f) e w : Nat) : Int) + 1) = nY f (oth (nA f) (nC f) e w) := by rw [hm _ (by omega) (by omega)]; exact xo
  have ac := fun (Q : zV → zSh → zPp → zMm → Prop) => kM_across (Q := Q) h hm ok he (w := w)
  have S4 : (S : Int) < 4096 := by omega
  clear eA eC hA1 hC1 hne hA9 hC9 he hS xw xo
  simp (disch := first | assumption | omega) only [rM_bendsOn_45, rM_bendsOn_46, rM_bendsOn_47, rM_bendsOn_48, rM_bendsOn_51, rM_bendsOn_52, rM_bendsOn_53, rM_bendsOn_55, rM_bendsOn_58, rM_bendsOn_61, rM_along_0, rM_along_1, rM_along_4, rM_along_7, rM_along_8, rM_along_9, rM_along_10, rM_along_11, rM_along_14, rM_along_15, rM_along_16, rM_along_17, rM_along_18, rM_along_19, rM_along_20, rM_along_23, rM_along_26, rM_along_27, rM_along_28, rM_along_29, rM_along_30, rM_along_31, rM_along_32, rM_along_33, rM_along_34, ac, kM_sign1, Bool.false_eq_true, true_implies, false_implies, implies_true, true_and, and_true, not_true_eq_false, not_false_eq_true, zPush_I, zPush_L, zPush_R, zPush_U, Int.reduceLT, Int.reduceLE, Int.reduceEq, Int.reduceNe, Int.reduceAdd, Int.reduceSub, Int.reduceMul, Int.reduceNeg, Int.reduceToNat, Nat.reduceAdd, Nat.reduceMul, Nat.reduceEqDiff, zw32_id, zw64_id, zupd_eq, zupd_na, zupd_ni, zupp_eq, zupp_na, zupp_ni, p123, p137, hw, eq_true hmt, rXw, rXo]
theorem bOnD (h : zLy sh pp) {S T e : Nat} {W b ax ay : Int} (hx : zor (S : Int) ((2 ^ e : Nat) : Int) = (T : Int)) (he : e < 31) (hT : T < 4096) (vx : hV ax) (vy : hV ay) : zS 228 19 [zR 122, zI S, zI W, zI e, zI b, zI (3 * (ax + 1) + ay + 1), zI 2, zU, zU] [] sh pp mm Q ↔ Q zU sh pp (zupd mm 141 (9 * (T : Int) + (3 * (ax + 1) + ay + 1)) (min b (rb mm T ax ay))) := by
  have k122 := k_122 h
  have k141 := k_141 h
  have l141 := l_141 h
  have p141 := p_122_34 h
  obtain ⟨⟨i0, i1⟩, ⟨ws, wi⟩, -, -⟩ := bIx vx vy hT
  have i1' : 9 * (T : Int) + (3 * (ax + 1) + ay + 1) < zLn sh 141 := by rw [l141]; exact i1
  have kb : zKd sh 141 = 20 ∨ zKd sh 141 = 30 := Or.inl k141
  have x1 := zshl1 e he
  unfold rb
  by_cases hl : b < mm 141 (9 * (T : Int) + (3 * (ax + 1) + ay + 1))
  · rw [Int.min_eq_left (Int.le_of_lt hl)]
    simp (disch := assumption) only [rM_bendsOn_19, rM_bendsOn_21, rM_bendsOn_22, rM_bendsOn_117, rM_bendsOn_119, rM_bendsOn_120, rM_bendsOn_121, rM_bendsOn_122, rM_bendsOn_123, rM_bendsOn_124, rM_bendsOn_125, rM_bendsOn_127, rM_bendsOn_128, rM_bendsOn_130, rM_bendsOn_131, rM_bendsOn_134, rM_bendsOn_136, rM_bendsOn_138, rM_bendsOn_139, rM_bendsOn_142, rM_bendsOn_144, rM_bendsOn_145, rM_bendsOn_148, rM_bendsOn_150, rM_bendsOn_153, rM_bendsOn_154, rM_bendsOn_157, rM_bendsOn_159, rM_bendsOn_160, rM_bendsOn_161, p141, ws, wi, hx, x1, eq_true hl, true_implies, false_implies, Int.reduceLT, Int.reduceEq, not_true_eq_false, not_false_eq_true, and_true, true_and]
  · rw [Int.min_eq_right (Int.not_lt.mp hl)]
    simp (disch := assumption) only [rM_bendsOn_19, rM_bendsOn_21, rM_bendsOn_22, rM_bendsOn_117, rM_bendsOn_119, rM_bendsOn_120, rM_bendsOn_121, rM_bendsOn_122, rM_bendsOn_123, rM_bendsOn_124, rM_bendsOn_125, rM_bendsOn_127, rM_bendsOn_128, rM_bendsOn_130, rM_bendsOn_131, rM_bendsOn_134, rM_bendsOn_136, rM_bendsOn_138, rM_bendsOn_139, rM_bendsOn_142, rM_bendsOn_144, rM_bendsOn_145, rM_bendsOn_148, rM_bendsOn_150, rM_bendsOn_153, rM_bendsOn_154, rM_bendsOn_157, rM_bendsOn_159, rM_bendsOn_160, rM_bendsOn_161, p141, ws, wi, hx, x1, eq_false hl, true_implies, false_implies, Int.reduceLT, Int.reduceEq, not_true_eq_false, not_false_eq_true, and_true, true_and]
theorem bOnN {S W e b t k : Int} (hk : k = 0 ∨ k = 1) : zS 228 111 [zR 122, zI S, zI W, zI e, zI b, zI t, zI k, zU, zU] [] sh pp mm Q ↔ zS 228 19 [zR 122, zI S, zI W, zI e, zI b, zI t, zI (k + 1), zU, zU] [] sh pp mm Q := by
  simp (disch := first | assumption | omega) only [rM_bendsOn_111, rM_bendsOn_114, Bool.false_eq_true, true_implies, false_implies, implies_true, true_and, and_true, not_true_eq_false, not_false_eq_true, zPush_I, zPush_L, zPush_R, zPush_U, Int.reduceLT, Int.reduceLE, Int.reduceEq, Int.reduceNe, Int.reduceAdd, Int.reduceSub, Int.reduceMul, Int.reduceNeg, Int.reduceToNat, Nat.reduceAdd, Nat.reduceMul, Nat.reduceEqDiff, zw32_id, zw64_id, zupd_eq, zupd_na, zupd_ni, zupp_eq, zupp_na, zupp_ni]
theorem kM_bendsOn (h : zLy sh pp) (hm : ∀ k, 0 ≤ k → k < 986 → mm 123 k = f k) (ok : fOk f) {S e w : Nat} {hx hy : Int} (hS : S < 2 ^ nE f) (he : e < nE f) (hmt : mts (nA f) (nC f) e w) (hw : mm 137 S = (w : Int)) (vx : hV hx) (vy : hV hy) (v0 : 0 ≤ rb mm S hx hy) (v1 : rb mm S hx hy < 1000000) : zS 228 0 [zR 122, zI S, zI (3 * (hx + 1) + hy + 1), zI e, zU, zU, zU, zU, zU] [] sh pp mm Q ↔ Q zU sh pp (zupd mm 141 (9 * ((S ||| 2 ^ e : Nat) : Int) + (3 * (hA hx (sg (nX f (oth (nA f) (nC f) e w) - nX f w)) + 1) + hA hy (sg (nY f (oth (nA f) (nC f) e w) - nY f w)) + 1)) (min (rb mm S hx hy + tB hx (sg (nX f (oth (nA f) (nC f) e w) - nX f w)) + tB hy (sg (nY f (oth (nA f) (nC f) e w) - nY f w))) (rb mm (S ||| 2 ^ e) (hA hx (sg (nX f (oth (nA f) (nC f) e w) - nX f w))) (hA hy (sg (nY f (oth (nA f) (nC f) e w) - nY f w)))))) := by
  have l := nE_le ok
  have t : 2 ^ nE f ≤ 4096 := by simpa using Nat.pow_le_pow_right (n := 2) (by omega) l
  have i2 : 2 ^ e < 2 ^ nE f := Nat.pow_lt_pow_right (by omega) he
  have lt : S ||| 2 ^ e < 2 ^ nE f := Nat.or_lt_two_pow hS i2
  have u1 : hV (hA hx (sg (nX f (oth (nA f) (nC f) e w) - nX f w))) := hA_r vx (nX f (oth (nA f) (nC f) e w) - nX f w)
  have u2 : hV (hA hy (sg (nY f (oth (nA f) (nC f) e w) - nY f w))) := hA_r vy (nY f (oth (nA f) (nC f) e w) - nY f w)
  have k1 := tB_r hx (sg (nX f (oth (nA f) (nC f) e w) - nX f w))
  have b0 : 0 ≤ rb mm S hx hy + tB hx (sg (nX f (oth (nA f) (nC f) e w) - nX f w)) ∧ rb mm S hx hy + tB hx (sg (nX f (oth (nA f) (nC f) e w) - nX f w)) ≤ 1000001 := by omega
  have a0 : 0 ≤ 3 * 0 + hA hx (sg (nX f (oth (nA f) (nC f) e w) - nX f w)) + 1 ∧ 3 * 0 + hA hx (sg (nX f (oth (nA f) (nC f) e w) - nX f w)) + 1 ≤ 10 := by
    unfold hV at u1
    omega
  rw [bOnA h (by omega) vx vy, bOnB0 h hm ok (by omega) he hmt hw, kM_bOne vx (sg_r _) v0 (by omega) (by decide) (by decide), bOnN (Or.inl rfl)]
  rw [show (0 : Int) + 1 = 1 by decide, bOnC vx vy, bOnB1 h hm ok (by omega) he hmt hw, kM_bOne vy (sg_r _) b0.1 b0.2 a0.1 a0.2, bOnN (Or.inr rfl)]
  rw [show (1 : Int) + 1 = 2 by decide, show 3 * 0 + hA hx (sg (nX f (oth (nA f) (nC f) e w) - nX f w)) + 1 = hA hx (sg (nX f (oth (nA f) (nC f) e w) - nX f w)) + 1 by omega]
  exact bOnD h (zorN (by omega) (by omega)) (by omega) (by omega) u1 u2
end
