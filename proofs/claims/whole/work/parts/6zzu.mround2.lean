/-! ===== round of the reference: the call ===== -/
section
variable {sh : zSh} {pp : zPp} {mm : zMm} {Q : zV → zSh → zPp → zMm → Prop} {f : Int → Int} {G : Int → Option (Int → Int)} {cn : Int → Int} {N D : Nat}
theorem rPlace (h : zLy sh pp) {r n : Int} {s : Nat} (r0 : 0 ≤ r) (r7 : r ≤ 7) (hs : s < 6) (hz : ∀ m', frP ofF mm m' → rI r s 64 0 m' → zS 235 262 [zR 122, zI r, zI n, zI (s : Int), zU, zU, zU, zU, zU, zU] [] sh pp m' Q) : ∀ (d p : Nat) (m1 : zMm), p + d = 64 → frP ofF mm m1 → rI r s p 0 m1 → zS 235 88 [zR 122, zI r, zI n, zI (s : Int), zI (p : Int), zU, zU, zU, zU, zU] [] sh pp m1 Q := by
  intro d
  induction d with
  | zero =>
    intro p m1 hp hf hI
    have hp : p = 64 := by omega
    subst hp
    rw [rM_round_88]
    simp (disch := first | assumption | omega) only [rM_round_90, rM_round_92, Bool.false_eq_true, true_implies, false_implies, implies_true, true_and, and_true, not_true_eq_false, not_false_eq_true, zPush_I, zPush_L, zPush_R, zPush_U, Int.reduceLT, Int.reduceLE, Int.reduceEq, Int.reduceNe, Int.reduceAdd, Int.reduceSub, Int.reduceMul, Int.reduceNeg, Int.reduceToNat, Nat.reduceAdd, Nat.reduceMul, Nat.reduceEqDiff, zw32_id, zw64_id, zupd_eq, zupd_na, zupd_ni, zupp_eq, zupp_na, zupp_ni, Int.cast_ofNat_Int, Int.lt_irrefl]
    exact hz m1 hf hI
  | succ d ih =>
    intro p m1 hp hf hI
    have hp4 : p < 64 := by omega
    have dz : (8 : Int) ≠ 0 := by decide
    have c1 : (p : Int) < 64 := by omega
    rw [rM_round_88]
    simp (disch := assumption) only [rM_round_90, rM_round_92, rM_round_95, rM_round_97, rM_round_99, rM_round_100, rM_round_102, rM_round_104, rM_round_106, rM_round_107, rM_round_109, rM_round_110, d8m p hp4, d8d p hp4, eq_true c1, true_implies, not_true_eq_false, false_implies, and_true]
    refine rTo h r0 r7 hs hp4 (fun m2 a1 a2 => ?_) 64 0 m1 (by omega) (frP_rf _ _) hI
    have n := ih (p + 1) m2 (by omega) (frP_tr hf a1) a2
    rw [show ((p + 1 : Nat) : Int) = (p : Int) + 1 by omega] at n
    simp (disch := first | assumption | omega) only [rM_round_256, rM_round_259, Bool.false_eq_true, true_implies, false_implies, implies_true, true_and, and_true, not_true_eq_false, not_false_eq_true, zPush_I, zPush_L, zPush_R, zPush_U, Int.reduceLT, Int.reduceLE, Int.reduceEq, Int.reduceNe, Int.reduceAdd, Int.reduceSub, Int.reduceMul, Int.reduceNeg, Int.reduceToNat, Nat.reduceAdd, Nat.reduceMul, Nat.reduceEqDiff, zw32_id, zw64_id, zupd_eq, zupd_na, zupd_ni, zupp_eq, zupp_na, zupp_ni]
    exact n
def rJ (r : Int) (s : Nat) (m : zMm) : Prop := (∀ s' t : Nat, s' ≤ s → t < 64 → m 142 (64 * (s' : Int) + (t : Int)) = rT r s' t) ∧ ∀ s' t : Nat, s < s' → s' ≤ 6 → t < 64 → m 142 (64 * (s' : Int) + (t : Int)) = 1000000
theorem rStrokes (h : zLy sh pp) {r : Int} {n : Nat} (r0 : 0 ≤ r) (r7 : r ≤ 7) (hn : n ≤ 6) (hz : ∀ m', frP ofF mm m' → rJ r n m' → zS 235 268 [zR 122, zI r, zI (n : Int), zU, zU, zU, zU, zU, zU, zU] [] sh pp m' Q) : ∀ (d s : Nat) (m1 : zMm), s + d = n → frP ofF mm m1 → rJ r s m1 → zS 235 80 [zR 122, zI r, zI (n : Int), zI (s : Int), zU, zU, zU, zU, zU, zU] [] sh pp m1 Q := by
  intro d
  induction d with
  | zero =>
    intro s m1 hs hf hI
    have hs : s = n := by omega
    subst hs
    rw [rM_round_80]
    simp (disch := first | assumption | omega) only [rM_round_81, rM_round_82, Bool.false_eq_true, true_implies, false_implies, implies_true, true_and, and_true, not_true_eq_false, not_false_eq_true, zPush_I, zPush_L, zPush_R, zPush_U, Int.reduceLT, Int.reduceLE, Int.reduceEq, Int.reduceNe, Int.reduceAdd, Int.reduceSub, Int.reduceMul, Int.reduceNeg, Int.reduceToNat, Nat.reduceAdd, Nat.reduceMul, Nat.reduceEqDiff, zw32_id, zw64_id, zupd_eq, zupd_na, zupd_ni, zupp_eq, zupp_na, zupp_ni, Int.lt_irrefl]
    exact hz m1 hf hI
  | succ d ih =>
    intro s m1 hs hf hI
    rw [rM_round_80]
    simp (disch := first | assumption | omega) only [rM_round_81, rM_round_82, rM_round_85, rM_round_86, Bool.false_eq_true, true_implies, false_implies, implies_true, true_and, and_true, not_true_eq_false, not_false_eq_true, zPush_I, zPush_L, zPush_R, zPush_U, Int.reduceLT, Int.reduceLE, Int.reduceEq, Int.reduceNe, Int.reduceAdd, Int.reduceSub, Int.reduceMul, Int.reduceNeg, Int.reduceToNat, Nat.reduceAdd, Nat.reduceMul, Nat.reduceEqDiff, zw32_id, zw64_id, zupd_eq, zupd_na, zupd_ni, zupp_eq, zupp_na, zupp_ni, eq_true (show (s : Int) < (n : Int) by omega)]
    refine rPlace h r0 r7 (by omega) (fun m2 a1 a2 => ?_) 64 0 m1 (by omega) (frP_rf _ _) ⟨hI.1, fun t ht => ?_, fun s' t a b c => hI.2 s' t (by omega) b c⟩
    · have n := ih (s + 1) m2 (by omega) (frP_tr hf a1) ⟨fun s' t a b => ?_, fun s' t a b c => a2.2.2 s' t a b c⟩
      · rw [show ((s + 1 : Nat) : Int) = (s : Int) + 1 by omega] at n
        simp (disch := first | assumption | omega) only [rM_round_262, rM_round_265, Bool.false_eq_true, true_implies, false_implies, implies_true, true_and, and_true, not_true_eq_false, not_false_eq_true, zPush_I, zPush_L, zPush_R, zPush_U, Int.reduceLT, Int.reduceLE, Int.reduceEq, Int.reduceNe, Int.reduceAdd, Int.reduceSub, Int.reduceMul, Int.reduceNeg, Int.reduceToNat, Nat.reduceAdd, Nat.reduceMul, Nat.reduceEqDiff, zw32_id, zw64_id, zupd_eq, zupd_na, zupd_ni, zupp_eq, zupp_na, zupp_ni]
        exact n
      · by_cases e : s' = s + 1
        · subst e
          have z := a2.2.1 t b
          rw [if_neg (by omega)] at z
          rw [rT_s, ← z, show ((s + 1 : Nat) : Int) = (s : Int) + 1 by omega]
        · exact a2.1 s' t (by omega) b
    · have z := hI.2 (s + 1) t (by omega) (by omega) ht
      rw [show ((s + 1 : Nat) : Int) = (s : Int) + 1 by omega] at z
      rw [z, if_neg (by omega)]
      rfl
theorem rFill (h : zLy sh pp) {r n : Int} (hz : ∀ m', frP ofF mm m' → (∀ k : Nat, k < 448 → m' 142 (k : Int) = if (k : Int) = r then 0 else 1000000) → zS 235 78 [zR 122, zI r, zI n, zU, zU, zU, zU, zU, zU, zU] [] sh pp m' Q) : ∀ (d i : Nat) (m1 : zMm), i + d = 448 → frP ofF mm m1 → (∀ k : Nat, k < i → m1 142 (k : Int) = if (k : Int) = r then 0 else 1000000) → zS 235 47 [zR 122, zI r, zI n, zI (i : Int), zU, zU, zU, zU, zU, zU] [] sh pp m1 Q := by
  have k122 := k_122 h
  have k142 := k_142 h
  have l142 := l_142 h
  have p142 := p_122_35 h
  intro d
  induction d with
  | zero =>
    intro i m1 hi hf hk
    have q := hz m1 hf (fun k hk2 => hk k (by omega))
    rw [rM_round_47]
    simp (disch := first | assumption | omega) only [rM_round_48, rM_round_51, Bool.false_eq_true, true_implies, false_implies, implies_true, true_and, and_true, not_true_eq_false, not_false_eq_true, zPush_I, zPush_L, zPush_R, zPush_U, Int.reduceLT, Int.reduceLE, Int.reduceEq, Int.reduceNe, Int.reduceAdd, Int.reduceSub, Int.reduceMul, Int.reduceNeg, Int.reduceToNat, Nat.reduceAdd, Nat.reduceMul, Nat.reduceEqDiff, zw32_id, zw64_id, zupd_eq, zupd_na, zupd_ni, zupp_eq, zupp_na, zupp_ni, eq_false (show ¬ (i : Int) < 448 by omega)]
    exact q
  | succ d ih =>
    intro i m1 hi hf hk
    have n := ih (i + 1) (zupd m1 142 (i : Int) (if (i : Int) = r then 0 else 1000000)) (by omega) (frP_up hf rfl) (fun k hk2 => by
      by_cases e : k = i
      · subst e; rw [zupd_eq]
      · rw [zupd_ni (by omega)]; exact hk k (by omega))
    rw [show ((i + 1 : Nat) : Int) = (i : Int) + 1 by omega] at n
    rw [rM_round_47]
    by_cases i4 : (i : Int) = r
    · rw [if_pos i4] at n
      simp (disch := first | assumption | omega) only [rM_round_48, rM_round_51, rM_round_54, rM_round_55, rM_round_58, rM_round_59, rM_round_60, rM_round_61, rM_round_64, rM_round_65, rM_round_68, rM_round_71, rM_round_72, rM_round_75, Bool.false_eq_true, true_implies, false_implies, implies_true, true_and, and_true, not_true_eq_false, not_false_eq_true, zPush_I, zPush_L, zPush_R, zPush_U, Int.reduceLT, Int.reduceLE, Int.reduceEq, Int.reduceNe, Int.reduceAdd, Int.reduceSub, Int.reduceMul, Int.reduceNeg, Int.reduceToNat, Nat.reduceAdd, Nat.reduceMul, Nat.reduceEqDiff, zw32_id, zw64_id, zupd_eq, zupd_na, zupd_ni, zupp_eq, zupp_na, zupp_ni, p142, eq_true (show (i : Int) < 448 by omega), eq_true i4]
      exact n
    · rw [if_neg i4] at n
      simp (disch := first | assumption | omega) only [rM_round_48, rM_round_51, rM_round_54, rM_round_55, rM_round_58, rM_round_59, rM_round_60, rM_round_61, rM_round_64, rM_round_65, rM_round_68, rM_round_71, rM_round_72, rM_round_75, Bool.false_eq_true, true_implies, false_implies, implies_true, true_and, and_true, not_true_eq_false, not_false_eq_true, zPush_I, zPush_L, zPush_R, zPush_U, Int.reduceLT, Int.reduceLE, Int.reduceEq, Int.reduceNe, Int.reduceAdd, Int.reduceSub, Int.reduceMul, Int.reduceNeg, Int.reduceToNat, Nat.reduceAdd, Nat.reduceMul, Nat.reduceEqDiff, zw32_id, zw64_id, zupd_eq, zupd_na, zupd_ni, zupp_eq, zupp_na, zupp_ni, p142, eq_true (show (i : Int) < 448 by omega), eq_false i4]
      exact n
/-- what round answers -/
def oRound (cn : Int → Int) (r n : Int) : (Int → Int) × Int := if (1 ≤ r ∧ r ≤ 7) ∧ (1 ≤ n ∧ n ≤ 6) then if 2 * r < n then (bump cn 1, -3) else (cn, rT r n.toNat (8 * r.toNat)) else (bump cn 0, -2)
theorem ofF_sc {m m' : zMm} (h : frP ofF m m') : frP pSc m m' := frP_wd h (fun x j hj => by unfold ofF at hj; unfold pSc; omega)
theorem mRound (h : zLy sh pp) (hm : mOk f G cn N D mm) {r n : Int} (hr : -2147483648 ≤ r ∧ r ≤ 2147483647) (hn : -2147483648 ≤ n ∧ n ≤ 2147483647) (hQ : ∀ m, mOk f G (oRound cn r n).1 N D m → frC mm m → Q (zI (oRound cn r n).2) sh pp m) : zS 235 0 [zR 122, zI r, zI n, zU, zU, zU, zU, zU, zU, zU] [] sh pp mm Q := by
  have k122 := k_122 h
  have k126 := k_126 h
  have l126 := l_126 h
  have p126 := p_122_3 h
  have k142 := k_142 h
  have l142 := l_142 h
  have p142 := p_122_35 h
  unfold oRound at hQ
  have bad : ∀ x, zS 235 24 [zR 122, x, zU, zU, zU, zU, zU, zU, zU, zU] [] sh pp mm Q ↔ Q (zI (-2)) sh pp (zupd mm 126 0 (zw32 (mm 126 0 + 1))) := fun x => by
    simp (disch := first | assumption | omega) only [rM_round_24, rM_round_25, rM_round_27, rM_round_30, rM_bad_0, rM_bad_1, rM_bad_4, rM_bad_5, rM_bad_6, rM_bad_7, rM_bad_8, rM_bad_9, rM_bad_10, rM_bad_11, Bool.false_eq_true, true_implies, false_implies, implies_true, true_and, and_true, not_true_eq_false, not_false_eq_true, zPush_I, zPush_L, zPush_R, zPush_U, Int.reduceLT, Int.reduceLE, Int.reduceEq, Int.reduceNe, Int.reduceAdd, Int.reduceSub, Int.reduceMul, Int.reduceNeg, Int.reduceToNat, Nat.reduceAdd, Nat.reduceMul, Nat.reduceEqDiff, zw32_id, zw64_id, zupd_eq, zupd_na, zupd_ni, zupp_eq, zupp_na, zupp_ni, p126]
  by_cases g1 : 1 ≤ r ∧ r ≤ 7
  · by_cases g2 : 1 ≤ n ∧ n ≤ 6
    · rw [if_pos ⟨g1, g2⟩] at hQ
      by_cases g3 : 2 * r < n
      · rw [if_pos g3] at hQ
        have q := hQ _ (mOk_ref hm (i := 1) (by decide) (by decide)) (frC_up (frC_rf mm) (by decide) (by decide))
        simp (disch := first | assumption | omega) only [rM_round_0, rM_round_1, rM_round_2, rM_round_3, rM_round_6, rM_round_9, rM_round_12, rM_round_13, rM_round_14, rM_round_15, rM_round_18, rM_round_21, rM_round_24, rM_round_25, rM_round_27, rM_round_30, rM_round_31, rM_round_32, rM_round_33, rM_round_34, rM_round_35, rM_round_38, rM_round_39, rM_round_41, rM_round_44, rM_no_0, rM_no_1, rM_no_4, rM_no_5, rM_no_6, rM_no_7, rM_no_8, rM_no_9, rM_no_10, rM_no_11, kM_in, Bool.false_eq_true, true_implies, false_implies, implies_true, true_and, and_true, not_true_eq_false, not_false_eq_true, zPush_I, zPush_L, zPush_R, zPush_U, Int.reduceLT, Int.reduceLE, Int.reduceEq, Int.reduceNe, Int.reduceAdd, Int.reduceSub, Int.reduceMul, Int.reduceNeg, Int.reduceToNat, Nat.reduceAdd, Nat.reduceMul, Nat.reduceEqDiff, zw32_id, zw64_id, zupd_eq, zupd_na, zupd_ni, zupp_eq, zupp_na, zupp_ni, p126, eq_true g1, eq_true g2, eq_true g3]
        exact q
      · rw [if_neg g3] at hQ
        simp (disch := first | assumption | omega) only [rM_round_0, rM_round_1, rM_round_2, rM_round_3, rM_round_6, rM_round_9, rM_round_12, rM_round_13, rM_round_14, rM_round_15, rM_round_18, rM_round_21, rM_round_24, rM_round_25, rM_round_27, rM_round_30, rM_round_31, rM_round_32, rM_round_33, rM_round_34, rM_round_35, rM_round_38, rM_round_39, rM_round_41, rM_round_44, rM_round_45, rM_round_46, kM_in, Bool.false_eq_true, true_implies, false_implies, implies_true, true_and, and_true, not_true_eq_false, not_false_eq_true, zPush_I, zPush_L, zPush_R, zPush_U, Int.reduceLT, Int.reduceLE, Int.reduceEq, Int.reduceNe, Int.reduceAdd, Int.reduceSub, Int.reduceMul, Int.reduceNeg, Int.reduceToNat, Nat.reduceAdd, Nat.reduceMul, Nat.reduceEqDiff, zw32_id, zw64_id, zupd_eq, zupd_na, zupd_ni, zupp_eq, zupp_na, zupp_ni, eq_true g1, eq_true g2, eq_false g3]
        obtain ⟨n', hn'⟩ : ∃ k : Nat, n = (k : Int) := ⟨n.toNat, by omega⟩
        obtain ⟨r', hr'⟩ : ∃ k : Nat, r = (k : Int) := ⟨r.toNat, by omega⟩
        refine rFill h (fun m1 f1 e1 => ?_) 448 0 mm (by omega) (frP_rf _ _) (fun k hk => by omega)
        simp (disch := first | assumption | omega) only [rM_round_78, rM_round_79, Bool.false_eq_true, true_implies, false_implies, implies_true, true_and, and_true, not_true_eq_false, not_false_eq_true, zPush_I, zPush_L, zPush_R, zPush_U, Int.reduceLT, Int.reduceLE, Int.reduceEq, Int.reduceNe, Int.reduceAdd, Int.reduceSub, Int.reduceMul, Int.reduceNeg, Int.reduceToNat, Nat.reduceAdd, Nat.reduceMul, Nat.reduceEqDiff, zw32_id, zw64_id, zupd_eq, zupd_na, zupd_ni, zupp_eq, zupp_na, zupp_ni]
        rw [hn']
        refine rStrokes h (by omega) (by omega) (by omega) (fun m2 f2 hI => ?_) n' 0 m1 (by omega) (frP_rf _ _) ⟨fun s' t a b => ?_, fun s' t a b c => ?_⟩
        · have ff := frP_tr f1 f2
          have q := hQ m2 (mOk_sc hm (ofF_sc ff)) (pSc_C (ofF_sc ff))
          have z := hI.1 n' (8 * r') (Nat.le_refl _) (by omega)
          rw [hn', hr', Int.toNat_natCast, Int.toNat_natCast, ← hr'] at q
          rw [← z, show ((8 * r' : Nat) : Int) = 8 * (r' : Int) by omega, ← hr'] at q
          simp (disch := first | assumption | omega) only [rM_round_268, rM_round_269, rM_round_272, rM_round_274, rM_round_275, rM_round_276, rM_round_278, rM_round_279, rM_round_280, rM_round_281, rM_round_282, Bool.false_eq_true, true_implies, false_implies, implies_true, true_and, and_true, not_true_eq_false, not_false_eq_true, zPush_I, zPush_L, zPush_R, zPush_U, Int.reduceLT, Int.reduceLE, Int.reduceEq, Int.reduceNe, Int.reduceAdd, Int.reduceSub, Int.reduceMul, Int.reduceNeg, Int.reduceToNat, Nat.reduceAdd, Nat.reduceMul, Nat.reduceEqDiff, zw32_id, zw64_id, zupd_eq, zupd_na, zupd_ni, zupp_eq, zupp_na, zupp_ni, p142]
          exact q
        · have hs : s' = 0 := by omega
          subst hs
          rw [show (64 * ((0 : Nat) : Int) + (t : Int)) = (t : Int) by omega, e1 t (by omega)]
          rfl
        · have z := e1 (64 * s' + t) (by omega)
          rw [show ((64 * s' + t : Nat) : Int) = 64 * (s' : Int) + (t : Int) by omega] at z
          rw [z, if_neg (by omega)]
    · rw [if_neg (fun x => g2 x.2)] at hQ
      have q := hQ _ (mOk_ref hm (i := 0) (by decide) (by decide)) (frC_up (frC_rf mm) (by decide) (by decide))
      simp (disch := first | assumption | omega) only [rM_round_0, rM_round_1, rM_round_2, rM_round_3, rM_round_6, rM_round_9, rM_round_12, rM_round_13, rM_round_14, rM_round_15, rM_round_18, rM_round_21, kM_in, Bool.false_eq_true, true_implies, false_implies, implies_true, true_and, and_true, not_true_eq_false, not_false_eq_true, zPush_I, zPush_L, zPush_R, zPush_U, Int.reduceLT, Int.reduceLE, Int.reduceEq, Int.reduceNe, Int.reduceAdd, Int.reduceSub, Int.reduceMul, Int.reduceNeg, Int.reduceToNat, Nat.reduceAdd, Nat.reduceMul, Nat.reduceEqDiff, zw32_id, zw64_id, zupd_eq, zupd_na, zupd_ni, zupp_eq, zupp_na, zupp_ni, eq_true g1, eq_false g2, bad]
      exact q
  · rw [if_neg (fun x => g1 x.1)] at hQ
    have q := hQ _ (mOk_ref hm (i := 0) (by decide) (by decide)) (frC_up (frC_rf mm) (by decide) (by decide))
    simp (disch := first | assumption | omega) only [rM_round_0, rM_round_1, rM_round_2, rM_round_3, rM_round_6, rM_round_9, kM_in, Bool.false_eq_true, true_implies, false_implies, implies_true, true_and, and_true, not_true_eq_false, not_false_eq_true, zPush_I, zPush_L, zPush_R, zPush_U, Int.reduceLT, Int.reduceLE, Int.reduceEq, Int.reduceNe, Int.reduceAdd, Int.reduceSub, Int.reduceMul, Int.reduceNeg, Int.reduceToNat, Nat.reduceAdd, Nat.reduceMul, Nat.reduceEqDiff, zw32_id, zw64_id, zupd_eq, zupd_na, zupd_ni, zupp_eq, zupp_na, zupp_ni, eq_false g1, bad]
    exact q
end
