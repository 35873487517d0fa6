/-! ===== right, span, type, digest of the reference ===== -/
/-- the slack behind n wishes -/
def rtH (f : Int → Int) (k : Int) : Nat → Int
  | 0 => 0
  | n + 1 => if 0 < f (493 + 2 * (n : Int) + k) then f k else if f (493 + 2 * (n : Int) + k) < 0 then 0 else rtH f k n
def oRight (f cn : Int → Int) (w k : Int) : (Int → Int) × Int := if (0 ≤ w ∧ w ≤ f 981 - 1) ∧ (0 ≤ k ∧ k ≤ 1) then (cn, sz (rtH f k (w.toNat + 1) - rtH f k w.toNat)) else (bump cn 0, -2)
/-- may the play be so, by n tests -/
def mpl (f : Int → Int) (k y : Int) : Nat → Bool
  | 0 => true
  | n + 1 => mpl f k y n && decide (f (957 + 3 * (n : Int)) ≠ k ∨ (if 0 < f (957 + 3 * (n : Int) + 2) then y = f (957 + 3 * (n : Int) + 1) - f (957 + 3 * (n : Int) + 2) else f (957 + 3 * (n : Int) + 1) ≤ y))
def spF (f : Int → Int) (k w : Int) : Nat → Int
  | 0 => -1
  | n + 1 => if mpl f k (n : Int) (f 984).toNat = true ∧ (w = 1 ∨ spF f k w n = -1) then (n : Int) else spF f k w n
def oSpan (f cn : Int → Int) (k w : Int) : (Int → Int) × Int := if (0 ≤ k ∧ k ≤ 1) ∧ (0 ≤ w ∧ w ≤ 1) then (if spF f k w 10 = -1 then (bump cn 1, -3) else (cn, spF f k w 10)) else (bump cn 0, -2)
section
variable {sh : zSh} {pp : zPp} {mm : zMm} {Q : zV → zSh → zPp → zMm → Prop} {f : Int → Int} {G : Int → Option (Int → Int)} {cn : Int → Int} {N D : Nat}
theorem rtH_bd (hf : fOk f) {k : Int} (k0 : 0 ≤ k) (k1 : k ≤ 1) : ∀ n, 0 ≤ rtH f k n ∧ rtH f k n ≤ 9
  | 0 => by show (0 : Int) ≤ 0 ∧ (0 : Int) ≤ 9; decide
  | n + 1 => by
    have ih := rtH_bd hf k0 k1 n
    have hk := hf.1 k k0 (by omega)
    have hl : loN k = 0 := by unfold loN; rw [if_neg (by omega)]
    have hh : hiN k = 9 := by unfold hiN; rw [if_neg (by omega), if_neg (by omega), if_neg (by omega)]
    rw [hl, hh] at hk
    unfold rtH
    repeat' (first | omega | split)
theorem mRight (h : zLy sh pp) (hm : mOk f G cn N D mm) (hf : fOk f) {w k : Int} (hQ : ∀ m, mOk f G (oRight f cn w k).1 N D m → frC mm m → Q (zI (oRight f cn w k).2) sh pp m) : zS 207 0 [zR 122, zI w, zI k, zU, zU, zU, zU, zU] [] sh pp mm Q := by
  have k122 := k_122 h
  have k123 := k_123 h
  have l123 := l_123 h
  have p123 := p_122_0 h
  have e81 := hm.1 981 (by decide) (by decide)
  have b81 := hf.2.2.1
  unfold oRight at hQ
  by_cases c : 0 ≤ w ∧ w ≤ f 981 - 1
  · by_cases ck : 0 ≤ k ∧ k ≤ 1
    · rw [if_pos ⟨c, ck⟩] at hQ
      have ek : mm 123 k = f k := hm.1 k ck.1 (by omega)
      obtain ⟨W, hW⟩ : ∃ W : Nat, w = (W : Int) := ⟨w.toNat, by omega⟩
      subst hW
      rw [Int.toNat_natCast] at hQ
      have key : ∀ (d n : Nat) (t : Int), n + d = W + 1 → (n = W + 1 → t = sz (rtH f k (W + 1) - rtH f k W)) → zS 207 42 [zR 122, zI W, zI k, zI (rtH f k n), zI t, zI n, zU, zU] [] sh pp mm Q := by
        intro d
        induction d with
        | zero =>
          intro n t hn ht
          have hn : n = W + 1 := by omega
          subst hn
          rw [rM_right_42]
          simp (disch := first | assumption | omega) only [rM_right_44, rM_right_45, rM_right_110, rM_right_112, Bool.false_eq_true, true_implies, false_implies, implies_true, true_and, and_true, not_true_eq_false, not_false_eq_true, zPush_I, zPush_L, zPush_R, zPush_U, Int.reduceLT, Int.reduceLE, Int.reduceEq, Int.reduceNe, Int.reduceAdd, Int.reduceSub, Int.reduceMul, Int.reduceNeg, Int.reduceToNat, Nat.reduceAdd, Nat.reduceMul, Nat.reduceEqDiff, zw32_id, zw64_id, zupd_eq, zupd_na, zupd_ni, zupp_eq, zupp_na, zupp_ni, show (W : Int) < ((W + 1 : Nat) : Int) by push_cast; omega]
          rw [ht rfl]
          exact hQ mm hm (frC_rf mm)
        | succ d ih =>
          intro n t hn ht
          have hb := rtH_bd hf ck.1 ck.2 n
          have hb2 := rtH_bd hf ck.1 ck.2 (n + 1)
          have ed : mm 123 (493 + 2 * (n : Int) + k) = f (493 + 2 * (n : Int) + k) := hm.1 _ (by omega) (by omega)
          have er : rtH f k (n + 1) = if 0 < f (493 + 2 * (n : Int) + k) then f k else if f (493 + 2 * (n : Int) + k) < 0 then 0 else rtH f k n := rfl
          have nx := ih (n + 1) (sz (rtH f k (n + 1) - rtH f k n)) (by omega) (fun he => by rw [show n = W by omega])
          push_cast at nx
          rw [rM_right_42]
          by_cases c1 : 0 < f (493 + 2 * (n : Int) + k)
          · rw [if_pos c1] at er
            rw [er] at nx hb2
            unfold sz at nx
            simp (disch := first | assumption | omega) only [rM_right_44, rM_right_45, rM_right_48, rM_right_49, rM_right_52, rM_right_55, rM_right_56, rM_right_58, rM_right_59, rM_right_60, rM_right_61, rM_right_62, rM_right_63, rM_right_65, rM_right_67, rM_right_70, rM_right_71, rM_right_72, rM_right_73, rM_right_74, rM_right_77, rM_right_80, rM_right_82, rM_right_85, rM_right_86, rM_right_89, rM_right_90, rM_right_92, rM_right_94, rM_right_95, rM_right_96, rM_right_99, rM_right_101, rM_right_103, rM_right_104, rM_right_107, rM_of_0, rM_of_1, rM_of_4, rM_of_5, rM_of_6, rM_of_7, rM_of_8, kM_size, Bool.false_eq_true, true_implies, false_implies, implies_true, true_and, and_true, not_true_eq_false, not_false_eq_true, zPush_I, zPush_L, zPush_R, zPush_U, Int.reduceLT, Int.reduceLE, Int.reduceEq, Int.reduceNe, Int.reduceAdd, Int.reduceSub, Int.reduceMul, Int.reduceNeg, Int.reduceToNat, Nat.reduceAdd, Nat.reduceMul, Nat.reduceEqDiff, zw32_id, zw64_id, zupd_eq, zupd_na, zupd_ni, zupp_eq, zupp_na, zupp_ni, show ¬ (W : Int) < (n : Int) by omega, p123, ed, c1, Int.zero_add, ek]
            exact nx
          · rw [if_neg c1] at er
            by_cases c2 : f (493 + 2 * (n : Int) + k) < 0
            · rw [if_pos c2] at er
              rw [er] at nx hb2
              unfold sz at nx
              simp (disch := first | assumption | omega) only [rM_right_44, rM_right_45, rM_right_48, rM_right_49, rM_right_52, rM_right_55, rM_right_56, rM_right_58, rM_right_59, rM_right_60, rM_right_61, rM_right_62, rM_right_63, rM_right_65, rM_right_67, rM_right_70, rM_right_71, rM_right_72, rM_right_73, rM_right_74, rM_right_77, rM_right_80, rM_right_82, rM_right_85, rM_right_86, rM_right_89, rM_right_90, rM_right_92, rM_right_94, rM_right_95, rM_right_96, rM_right_99, rM_right_101, rM_right_103, rM_right_104, rM_right_107, rM_of_0, rM_of_1, rM_of_4, rM_of_5, rM_of_6, rM_of_7, rM_of_8, kM_size, Bool.false_eq_true, true_implies, false_implies, implies_true, true_and, and_true, not_true_eq_false, not_false_eq_true, zPush_I, zPush_L, zPush_R, zPush_U, Int.reduceLT, Int.reduceLE, Int.reduceEq, Int.reduceNe, Int.reduceAdd, Int.reduceSub, Int.reduceMul, Int.reduceNeg, Int.reduceToNat, Nat.reduceAdd, Nat.reduceMul, Nat.reduceEqDiff, zw32_id, zw64_id, zupd_eq, zupd_na, zupd_ni, zupp_eq, zupp_na, zupp_ni, show ¬ (W : Int) < (n : Int) by omega, p123, ed, c1, c2]
              exact nx
            · rw [if_neg c2] at er
              rw [er] at nx hb2
              unfold sz at nx
              simp (disch := first | assumption | omega) only [rM_right_44, rM_right_45, rM_right_48, rM_right_49, rM_right_52, rM_right_55, rM_right_56, rM_right_58, rM_right_59, rM_right_60, rM_right_61, rM_right_62, rM_right_63, rM_right_65, rM_right_67, rM_right_70, rM_right_71, rM_right_72, rM_right_73, rM_right_74, rM_right_77, rM_right_80, rM_right_82, rM_right_85, rM_right_86, rM_right_89, rM_right_90, rM_right_92, rM_right_94, rM_right_95, rM_right_96, rM_right_99, rM_right_101, rM_right_103, rM_right_104, rM_right_107, rM_of_0, rM_of_1, rM_of_4, rM_of_5, rM_of_6, rM_of_7, rM_of_8, kM_size, Bool.false_eq_true, true_implies, false_implies, implies_true, true_and, and_true, not_true_eq_false, not_false_eq_true, zPush_I, zPush_L, zPush_R, zPush_U, Int.reduceLT, Int.reduceLE, Int.reduceEq, Int.reduceNe, Int.reduceAdd, Int.reduceSub, Int.reduceMul, Int.reduceNeg, Int.reduceToNat, Nat.reduceAdd, Nat.reduceMul, Nat.reduceEqDiff, zw32_id, zw64_id, zupd_eq, zupd_na, zupd_ni, zupp_eq, zupp_na, zupp_ni, show ¬ (W : Int) < (n : Int) by omega, p123, ed, c1, c2]
              exact nx
      simp (disch := first | assumption | omega) only [rM_right_0, rM_right_1, rM_right_2, rM_right_3, rM_right_4, rM_right_5, rM_right_8, rM_right_9, rM_right_10, rM_right_11, rM_right_14, rM_right_17, rM_right_18, rM_right_19, rM_right_20, rM_right_21, rM_right_24, rM_right_27, rM_right_28, rM_right_30, rM_right_33, rM_right_34, rM_right_35, rM_right_36, rM_right_37, rM_right_39, rM_right_40, rM_many_0, rM_many_1, rM_many_4, rM_many_7, rM_many_8, rM_many_9, rM_many_10, kM_in, Bool.false_eq_true, true_implies, false_implies, implies_true, true_and, and_true, not_true_eq_false, not_false_eq_true, zPush_I, zPush_L, zPush_R, zPush_U, Int.reduceLT, Int.reduceLE, Int.reduceEq, Int.reduceNe, Int.reduceAdd, Int.reduceSub, Int.reduceMul, Int.reduceNeg, Int.reduceToNat, Nat.reduceAdd, Nat.reduceMul, Nat.reduceEqDiff, zw32_id, zw64_id, zupd_eq, zupd_na, zupd_ni, zupp_eq, zupp_na, zupp_ni, p123, e81, c, ck]
      exact key (W + 1) 0 0 (by omega) (fun he => by omega)
    · rw [if_neg (fun hc => ck hc.2)] at hQ
      simp (disch := first | assumption | omega) only [rM_right_0, rM_right_1, rM_right_2, rM_right_3, rM_right_4, rM_right_5, rM_right_8, rM_right_9, rM_right_10, rM_right_11, rM_right_14, rM_right_17, rM_right_18, rM_right_19, rM_right_20, rM_right_21, rM_right_24, rM_right_27, rM_right_28, rM_right_30, rM_many_0, rM_many_1, rM_many_4, rM_many_7, rM_many_8, rM_many_9, rM_many_10, kM_in, Bool.false_eq_true, true_implies, false_implies, implies_true, true_and, and_true, not_true_eq_false, not_false_eq_true, zPush_I, zPush_L, zPush_R, zPush_U, Int.reduceLT, Int.reduceLE, Int.reduceEq, Int.reduceNe, Int.reduceAdd, Int.reduceSub, Int.reduceMul, Int.reduceNeg, Int.reduceToNat, Nat.reduceAdd, Nat.reduceMul, Nat.reduceEqDiff, zw32_id, zw64_id, zupd_eq, zupd_na, zupd_ni, zupp_eq, zupp_na, zupp_ni, p123, e81, c, ck]
      refine mBadP h hm (fun m1 c1 f1 => ?_)
      simp (disch := first | assumption | omega) only [rM_right_33, Bool.false_eq_true, true_implies, false_implies, implies_true, true_and, and_true, not_true_eq_false, not_false_eq_true, zPush_I, zPush_L, zPush_R, zPush_U, Int.reduceLT, Int.reduceLE, Int.reduceEq, Int.reduceNe, Int.reduceAdd, Int.reduceSub, Int.reduceMul, Int.reduceNeg, Int.reduceToNat, Nat.reduceAdd, Nat.reduceMul, Nat.reduceEqDiff, zw32_id, zw64_id, zupd_eq, zupd_na, zupd_ni, zupp_eq, zupp_na, zupp_ni]
      exact hQ m1 c1 f1
  · rw [if_neg (fun hc => c hc.1)] at hQ
    simp (disch := first | assumption | omega) only [rM_right_0, rM_right_1, rM_right_2, rM_right_3, rM_right_4, rM_right_5, rM_right_8, rM_right_9, rM_right_10, rM_right_11, rM_right_14, rM_right_17, rM_right_18, rM_right_19, rM_right_20, rM_right_21, rM_right_24, rM_right_27, rM_right_28, rM_right_30, rM_many_0, rM_many_1, rM_many_4, rM_many_7, rM_many_8, rM_many_9, rM_many_10, kM_in, Bool.false_eq_true, true_implies, false_implies, implies_true, true_and, and_true, not_true_eq_false, not_false_eq_true, zPush_I, zPush_L, zPush_R, zPush_U, Int.reduceLT, Int.reduceLE, Int.reduceEq, Int.reduceNe, Int.reduceAdd, Int.reduceSub, Int.reduceMul, Int.reduceNeg, Int.reduceToNat, Nat.reduceAdd, Nat.reduceMul, Nat.reduceEqDiff, zw32_id, zw64_id, zupd_eq, zupd_na, zupd_ni, zupp_eq, zupp_na, zupp_ni, p123, e81, c]
    refine mBadP h hm (fun m1 c1 f1 => ?_)
    simp (disch := first | assumption | omega) only [rM_right_33, Bool.false_eq_true, true_implies, false_implies, implies_true, true_and, and_true, not_true_eq_false, not_false_eq_true, zPush_I, zPush_L, zPush_R, zPush_U, Int.reduceLT, Int.reduceLE, Int.reduceEq, Int.reduceNe, Int.reduceAdd, Int.reduceSub, Int.reduceMul, Int.reduceNeg, Int.reduceToNat, Nat.reduceAdd, Nat.reduceMul, Nat.reduceEqDiff, zw32_id, zw64_id, zupd_eq, zupd_na, zupd_ni, zupp_eq, zupp_na, zupp_ni]
    exact hQ m1 c1 f1
theorem mMayPlay (h : zLy sh pp) (hm : ∀ k, 0 ≤ k → k < 986 → mm 123 k = f k) (hf : fOk f) {k y : Int} (hQ : Q (zI (if mpl f k y (f 984).toNat = true then 1 else 0)) sh pp mm) : zS 244 0 [zR 122, zI k, zI y, zU, zU, zU, zU] [] sh pp mm Q := by
  have k122 := k_122 h
  have k123 := k_123 h
  have l123 := l_123 h
  have p123 := p_122_0 h
  have e84 := hm 984 (by decide) (by decide)
  have b84 := hf.2.2.2.2.2.1
  obtain ⟨T, hT⟩ : ∃ T : Nat, f 984 = (T : Int) := ⟨(f 984).toNat, by omega⟩
  rw [hT, Int.toNat_natCast] at hQ
  rw [hT] at e84 b84
  have key : ∀ (d n : Nat), n + d = T → zS 244 5 [zR 122, zI k, zI y, zI (if mpl f k y n = true then 1 else 0), zI n, zU, zU] [] sh pp mm Q := by
    intro d
    induction d with
    | zero =>
      intro n hn
      have hn : n = T := by omega
      subst hn
      have hz : (if mpl f k y n = true then (1 : Int) else 0) = 0 ∨ (if mpl f k y n = true then (1 : Int) else 0) = 1 := by split <;> simp
      rw [rM_mayPlay_5]
      simp (disch := first | assumption | omega) only [rM_mayPlay_7, rM_mayPlay_8, rM_mayPlay_9, rM_mayPlay_12, rM_mayPlay_105, rM_mayPlay_106, rM_many_0, rM_many_1, rM_many_4, rM_many_7, rM_many_8, rM_many_9, rM_many_10, Bool.false_eq_true, true_implies, false_implies, implies_true, true_and, and_true, not_true_eq_false, not_false_eq_true, zPush_I, zPush_L, zPush_R, zPush_U, Int.reduceLT, Int.reduceLE, Int.reduceEq, Int.reduceNe, Int.reduceAdd, Int.reduceSub, Int.reduceMul, Int.reduceNeg, Int.reduceToNat, Nat.reduceAdd, Nat.reduceMul, Nat.reduceEqDiff, zw32_id, zw64_id, zupd_eq, zupd_na, zupd_ni, zupp_eq, zupp_na, zupp_ni, p123, e84, Int.lt_irrefl]
      exact hQ
    | succ d ih =>
      intro n hn
      have r := b84.2.2 (n : Int) (by omega) (by omega)
      have e0 := hm (957 + 3 * (n : Int)) (by omega) (by omega)
      have e1 := hm (957 + 3 * (n : Int) + 1) (by omega) (by omega)
      have e2 := hm (957 + 3 * (n : Int) + 2) (by omega) (by omega)
      have nx := ih (n + 1) (by omega)
      have es : mpl f k y (n + 1) = (mpl f k y n && decide (f (957 + 3 * (n : Int)) ≠ k ∨ (if 0 < f (957 + 3 * (n : Int) + 2) then y = f (957 + 3 * (n : Int) + 1) - f (957 + 3 * (n : Int) + 2) else f (957 + 3 * (n : Int) + 1) ≤ y))) := rfl
      rw [es] at nx
      push_cast at nx
      rw [rM_mayPlay_5]
      cases hl : mpl f k y n with
      | false =>
        rw [hl] at nx
        simp (disch := first | assumption | omega) only [rM_mayPlay_7, rM_mayPlay_8, rM_mayPlay_9, rM_mayPlay_12, rM_mayPlay_15, rM_mayPlay_16, rM_mayPlay_19, rM_mayPlay_22, rM_mayPlay_23, rM_mayPlay_25, rM_mayPlay_26, rM_mayPlay_27, rM_mayPlay_28, rM_mayPlay_29, rM_mayPlay_30, rM_mayPlay_32, rM_mayPlay_33, rM_mayPlay_36, rM_mayPlay_39, rM_mayPlay_40, rM_mayPlay_42, rM_mayPlay_43, rM_mayPlay_44, rM_mayPlay_45, rM_mayPlay_46, rM_mayPlay_47, rM_mayPlay_49, rM_mayPlay_50, rM_mayPlay_53, rM_mayPlay_54, rM_mayPlay_57, rM_mayPlay_60, rM_mayPlay_61, rM_mayPlay_63, rM_mayPlay_64, rM_mayPlay_65, rM_mayPlay_66, rM_mayPlay_67, rM_mayPlay_70, rM_mayPlay_72, rM_mayPlay_75, rM_mayPlay_76, rM_mayPlay_78, rM_mayPlay_80, rM_mayPlay_81, rM_mayPlay_84, rM_mayPlay_87, rM_mayPlay_88, rM_mayPlay_90, rM_mayPlay_93, rM_mayPlay_94, rM_mayPlay_97, rM_mayPlay_98, rM_mayPlay_99, rM_mayPlay_102, rM_many_0, rM_many_1, rM_many_4, rM_many_7, rM_many_8, rM_many_9, rM_many_10, Bool.false_eq_true, true_implies, false_implies, implies_true, true_and, and_true, not_true_eq_false, not_false_eq_true, zPush_I, zPush_L, zPush_R, zPush_U, Int.reduceLT, Int.reduceLE, Int.reduceEq, Int.reduceNe, Int.reduceAdd, Int.reduceSub, Int.reduceMul, Int.reduceNeg, Int.reduceToNat, Nat.reduceAdd, Nat.reduceMul, Nat.reduceEqDiff, zw32_id, zw64_id, zupd_eq, zupd_na, zupd_ni, zupp_eq, zupp_na, zupp_ni, p123, e84, show (n : Int) < (T : Int) by omega, e0, e1, e2, if_false]
        simpa using nx
      | true =>
        rw [hl] at nx
        by_cases c0 : f (957 + 3 * (n : Int)) = k
        · by_cases c1 : 0 < f (957 + 3 * (n : Int) + 2)
          · by_cases c2 : y = f (957 + 3 * (n : Int) + 1) - f (957 + 3 * (n : Int) + 2)
            · simp (disch := first | assumption | omega) only [rM_mayPlay_7, rM_mayPlay_8, rM_mayPlay_9, rM_mayPlay_12, rM_mayPlay_15, rM_mayPlay_16, rM_mayPlay_19, rM_mayPlay_22, rM_mayPlay_23, rM_mayPlay_25, rM_mayPlay_26, rM_mayPlay_27, rM_mayPlay_28, rM_mayPlay_29, rM_mayPlay_30, rM_mayPlay_32, rM_mayPlay_33, rM_mayPlay_36, rM_mayPlay_39, rM_mayPlay_40, rM_mayPlay_42, rM_mayPlay_43, rM_mayPlay_44, rM_mayPlay_45, rM_mayPlay_46, rM_mayPlay_47, rM_mayPlay_49, rM_mayPlay_50, rM_mayPlay_53, rM_mayPlay_54, rM_mayPlay_57, rM_mayPlay_60, rM_mayPlay_61, rM_mayPlay_63, rM_mayPlay_64, rM_mayPlay_65, rM_mayPlay_66, rM_mayPlay_67, rM_mayPlay_70, rM_mayPlay_72, rM_mayPlay_75, rM_mayPlay_76, rM_mayPlay_78, rM_mayPlay_80, rM_mayPlay_81, rM_mayPlay_84, rM_mayPlay_87, rM_mayPlay_88, rM_mayPlay_90, rM_mayPlay_93, rM_mayPlay_94, rM_mayPlay_97, rM_mayPlay_98, rM_mayPlay_99, rM_mayPlay_102, rM_many_0, rM_many_1, rM_many_4, rM_many_7, rM_many_8, rM_many_9, rM_many_10, Bool.false_eq_true, true_implies, false_implies, implies_true, true_and, and_true, not_true_eq_false, not_false_eq_true, zPush_I, zPush_L, zPush_R, zPush_U, Int.reduceLT, Int.reduceLE, Int.reduceEq, Int.reduceNe, Int.reduceAdd, Int.reduceSub, Int.reduceMul, Int.reduceNeg, Int.reduceToNat, Nat.reduceAdd, Nat.reduceMul, Nat.reduceEqDiff, zw32_id, zw64_id, zupd_eq, zupd_na, zupd_ni, zupp_eq, zupp_na, zupp_ni, p123, e84, show (n : Int) < (T : Int) by omega, e0, e1, e2, if_true, eq_true c0, c1, eq_true c2]
              simpa [c0, c1, c2] using nx
            · simp (disch := first | assumption | omega) only [rM_mayPlay_7, rM_mayPlay_8, rM_mayPlay_9, rM_mayPlay_12, rM_mayPlay_15, rM_mayPlay_16, rM_mayPlay_19, rM_mayPlay_22, rM_mayPlay_23, rM_mayPlay_25, rM_mayPlay_26, rM_mayPlay_27, rM_mayPlay_28, rM_mayPlay_29, rM_mayPlay_30, rM_mayPlay_32, rM_mayPlay_33, rM_mayPlay_36, rM_mayPlay_39, rM_mayPlay_40, rM_mayPlay_42, rM_mayPlay_43, rM_mayPlay_44, rM_mayPlay_45, rM_mayPlay_46, rM_mayPlay_47, rM_mayPlay_49, rM_mayPlay_50, rM_mayPlay_53, rM_mayPlay_54, rM_mayPlay_57, rM_mayPlay_60, rM_mayPlay_61, rM_mayPlay_63, rM_mayPlay_64, rM_mayPlay_65, rM_mayPlay_66, rM_mayPlay_67, rM_mayPlay_70, rM_mayPlay_72, rM_mayPlay_75, rM_mayPlay_76, rM_mayPlay_78, rM_mayPlay_80, rM_mayPlay_81, rM_mayPlay_84, rM_mayPlay_87, rM_mayPlay_88, rM_mayPlay_90, rM_mayPlay_93, rM_mayPlay_94, rM_mayPlay_97, rM_mayPlay_98, rM_mayPlay_99, rM_mayPlay_102, rM_many_0, rM_many_1, rM_many_4, rM_many_7, rM_many_8, rM_many_9, rM_many_10, Bool.false_eq_true, true_implies, false_implies, implies_true, true_and, and_true, not_true_eq_false, not_false_eq_true, zPush_I, zPush_L, zPush_R, zPush_U, Int.reduceLT, Int.reduceLE, Int.reduceEq, Int.reduceNe, Int.reduceAdd, Int.reduceSub, Int.reduceMul, Int.reduceNeg, Int.reduceToNat, Nat.reduceAdd, Nat.reduceMul, Nat.reduceEqDiff, zw32_id, zw64_id, zupd_eq, zupd_na, zupd_ni, zupp_eq, zupp_na, zupp_ni, p123, e84, show (n : Int) < (T : Int) by omega, e0, e1, e2, if_true, eq_true c0, c1, c2]
              simpa [c0, c1, c2] using nx
          · by_cases c2 : y < f (957 + 3 * (n : Int) + 1)
            · have c3 : ¬ f (957 + 3 * (n : Int) + 1) ≤ y := by omega
              simp (disch := first | assumption | omega) only [rM_mayPlay_7, rM_mayPlay_8, rM_mayPlay_9, rM_mayPlay_12, rM_mayPlay_15, rM_mayPlay_16, rM_mayPlay_19, rM_mayPlay_22, rM_mayPlay_23, rM_mayPlay_25, rM_mayPlay_26, rM_mayPlay_27, rM_mayPlay_28, rM_mayPlay_29, rM_mayPlay_30, rM_mayPlay_32, rM_mayPlay_33, rM_mayPlay_36, rM_mayPlay_39, rM_mayPlay_40, rM_mayPlay_42, rM_mayPlay_43, rM_mayPlay_44, rM_mayPlay_45, rM_mayPlay_46, rM_mayPlay_47, rM_mayPlay_49, rM_mayPlay_50, rM_mayPlay_53, rM_mayPlay_54, rM_mayPlay_57, rM_mayPlay_60, rM_mayPlay_61, rM_mayPlay_63, rM_mayPlay_64, rM_mayPlay_65, rM_mayPlay_66, rM_mayPlay_67, rM_mayPlay_70, rM_mayPlay_72, rM_mayPlay_75, rM_mayPlay_76, rM_mayPlay_78, rM_mayPlay_80, rM_mayPlay_81, rM_mayPlay_84, rM_mayPlay_87, rM_mayPlay_88, rM_mayPlay_90, rM_mayPlay_93, rM_mayPlay_94, rM_mayPlay_97, rM_mayPlay_98, rM_mayPlay_99, rM_mayPlay_102, rM_many_0, rM_many_1, rM_many_4, rM_many_7, rM_many_8, rM_many_9, rM_many_10, Bool.false_eq_true, true_implies, false_implies, implies_true, true_and, and_true, not_true_eq_false, not_false_eq_true, zPush_I, zPush_L, zPush_R, zPush_U, Int.reduceLT, Int.reduceLE, Int.reduceEq, Int.reduceNe, Int.reduceAdd, Int.reduceSub, Int.reduceMul, Int.reduceNeg, Int.reduceToNat, Nat.reduceAdd, Nat.reduceMul, Nat.reduceEqDiff, zw32_id, zw64_id, zupd_eq, zupd_na, zupd_ni, zupp_eq, zupp_na, zupp_ni, p123, e84, show (n : Int) < (T : Int) by omega, e0, e1, e2, if_true, eq_true c0, c1, c2]
              simpa only [c0, c1, c3, ne_eq, not_true_eq_false, false_or, if_false, decide_false, Bool.and_false, Bool.false_eq_true] using nx
            · have c3 : f (957 + 3 * (n : Int) + 1) ≤ y := by omega
              simp (disch := first | assumption | omega) only [rM_mayPlay_7, rM_mayPlay_8, rM_mayPlay_9, rM_mayPlay_12, rM_mayPlay_15, rM_mayPlay_16, rM_mayPlay_19, rM_mayPlay_22, rM_mayPlay_23, rM_mayPlay_25, rM_mayPlay_26, rM_mayPlay_27, rM_mayPlay_28, rM_mayPlay_29, rM_mayPlay_30, rM_mayPlay_32, rM_mayPlay_33, rM_mayPlay_36, rM_mayPlay_39, rM_mayPlay_40, rM_mayPlay_42, rM_mayPlay_43, rM_mayPlay_44, rM_mayPlay_45, rM_mayPlay_46, rM_mayPlay_47, rM_mayPlay_49, rM_mayPlay_50, rM_mayPlay_53, rM_mayPlay_54, rM_mayPlay_57, rM_mayPlay_60, rM_mayPlay_61, rM_mayPlay_63, rM_mayPlay_64, rM_mayPlay_65, rM_mayPlay_66, rM_mayPlay_67, rM_mayPlay_70, rM_mayPlay_72, rM_mayPlay_75, rM_mayPlay_76, rM_mayPlay_78, rM_mayPlay_80, rM_mayPlay_81, rM_mayPlay_84, rM_mayPlay_87, rM_mayPlay_88, rM_mayPlay_90, rM_mayPlay_93, rM_mayPlay_94, rM_mayPlay_97, rM_mayPlay_98, rM_mayPlay_99, rM_mayPlay_102, rM_many_0, rM_many_1, rM_many_4, rM_many_7, rM_many_8, rM_many_9, rM_many_10, Bool.false_eq_true, true_implies, false_implies, implies_true, true_and, and_true, not_true_eq_false, not_false_eq_true, zPush_I, zPush_L, zPush_R, zPush_U, Int.reduceLT, Int.reduceLE, Int.reduceEq, Int.reduceNe, Int.reduceAdd, Int.reduceSub, Int.reduceMul, Int.reduceNeg, Int.reduceToNat, Nat.reduceAdd, Nat.reduceMul, Nat.reduceEqDiff, zw32_id, zw64_id, zupd_eq, zupd_na, zupd_ni, zupp_eq, zupp_na, zupp_ni, p123, e84, show (n : Int) < (T : Int) by omega, e0, e1, e2, if_true, eq_true c0, c1, c2]
              simpa only [c0, c1, c3, ne_eq, not_true_eq_false, false_or, if_false, decide_true, Bool.and_true, if_true] using nx
        · simp (disch := first | assumption | omega) only [rM_mayPlay_7, rM_mayPlay_8, rM_mayPlay_9, rM_mayPlay_12, rM_mayPlay_15, rM_mayPlay_16, rM_mayPlay_19, rM_mayPlay_22, rM_mayPlay_23, rM_mayPlay_25, rM_mayPlay_26, rM_mayPlay_27, rM_mayPlay_28, rM_mayPlay_29, rM_mayPlay_30, rM_mayPlay_32, rM_mayPlay_33, rM_mayPlay_36, rM_mayPlay_39, rM_mayPlay_40, rM_mayPlay_42, rM_mayPlay_43, rM_mayPlay_44, rM_mayPlay_45, rM_mayPlay_46, rM_mayPlay_47, rM_mayPlay_49, rM_mayPlay_50, rM_mayPlay_53, rM_mayPlay_54, rM_mayPlay_57, rM_mayPlay_60, rM_mayPlay_61, rM_mayPlay_63, rM_mayPlay_64, rM_mayPlay_65, rM_mayPlay_66, rM_mayPlay_67, rM_mayPlay_70, rM_mayPlay_72, rM_mayPlay_75, rM_mayPlay_76, rM_mayPlay_78, rM_mayPlay_80, rM_mayPlay_81, rM_mayPlay_84, rM_mayPlay_87, rM_mayPlay_88, rM_mayPlay_90, rM_mayPlay_93, rM_mayPlay_94, rM_mayPlay_97, rM_mayPlay_98, rM_mayPlay_99, rM_mayPlay_102, rM_many_0, rM_many_1, rM_many_4, rM_many_7, rM_many_8, rM_many_9, rM_many_10, Bool.false_eq_true, true_implies, false_implies, implies_true, true_and, and_true, not_true_eq_false, not_false_eq_true, zPush_I, zPush_L, zPush_R, zPush_U, Int.reduceLT, Int.reduceLE, Int.reduceEq, Int.reduceNe, Int.reduceAdd, Int.reduceSub, Int.reduceMul, Int.reduceNeg, Int.reduceToNat, Nat.reduceAdd, Nat.reduceMul, Nat.reduceEqDiff, zw32_id, zw64_id, zupd_eq, zupd_na, zupd_ni, zupp_eq, zupp_na, zupp_ni, p123, e84, show (n : Int) < (T : Int) by omega, e0, e1, e2, if_true, c0]
          simpa [c0] using nx
  simp (disch := first | assumption | omega) only [rM_mayPlay_0, rM_mayPlay_1, rM_mayPlay_2, rM_mayPlay_3, Bool.false_eq_true, true_implies, false_implies, implies_true, true_and, and_true, not_true_eq_false, not_false_eq_true, zPush_I, zPush_L, zPush_R, zPush_U, Int.reduceLT, Int.reduceLE, Int.reduceEq, Int.reduceNe, Int.reduceAdd, Int.reduceSub, Int.reduceMul, Int.reduceNeg, Int.reduceToNat, Nat.reduceAdd, Nat.reduceMul, Nat.reduceEqDiff, zw32_id, zw64_id, zupd_eq, zupd_na, zupd_ni, zupp_eq, zupp_na, zupp_ni]
  exact key T 0 (by omega)
theorem mSpan (h : zLy sh pp) (hm : mOk f G cn N D mm) (hf : fOk f) {k w : Int} (hQ : ∀ m, mOk f G (oSpan f cn k w).1 N D m → frC mm m → Q (zI (oSpan f cn k w).2) sh pp m) : zS 245 0 [zR 122, zI k, zI w, zU, zU] [] sh pp mm Q := by
  have k122 := k_122 h
  unfold oSpan at hQ
  by_cases c : 0 ≤ k ∧ k ≤ 1
  · by_cases cw : 0 ≤ w ∧ w ≤ 1
    · rw [if_pos ⟨c, cw⟩] at hQ
      have key : ∀ (d n : Nat), n + d = 10 → zS 245 32 [zR 122, zI k, zI w, zI (spF f k w n), zI n] [] sh pp mm Q := by
        intro d
        induction d with
        | zero =>
          intro n hn
          have hn : n = 10 := by omega
          subst hn
          rw [rM_span_32]
          by_cases e : spF f k w 10 = -1
          · rw [if_pos e] at hQ
            simp (disch := first | assumption | omega) only [rM_span_34, rM_span_36, rM_span_72, rM_span_73, rM_span_74, rM_span_77, rM_span_78, rM_span_80, Bool.false_eq_true, true_implies, false_implies, implies_true, true_and, and_true, not_true_eq_false, not_false_eq_true, zPush_I, zPush_L, zPush_R, zPush_U, Int.reduceLT, Int.reduceLE, Int.reduceEq, Int.reduceNe, Int.reduceAdd, Int.reduceSub, Int.reduceMul, Int.reduceNeg, Int.reduceToNat, Nat.reduceAdd, Nat.reduceMul, Nat.reduceEqDiff, zw32_id, zw64_id, zupd_eq, zupd_na, zupd_ni, zupp_eq, zupp_na, zupp_ni, show ¬ ((10 : Nat) : Int) < 10 by omega, eq_true e]
            refine mNoP h hm (fun m1 c1 f1 => ?_)
            simp (disch := first | assumption | omega) only [rM_span_83, rM_span_86, rM_span_87, Bool.false_eq_true, true_implies, false_implies, implies_true, true_and, and_true, not_true_eq_false, not_false_eq_true, zPush_I, zPush_L, zPush_R, zPush_U, Int.reduceLT, Int.reduceLE, Int.reduceEq, Int.reduceNe, Int.reduceAdd, Int.reduceSub, Int.reduceMul, Int.reduceNeg, Int.reduceToNat, Nat.reduceAdd, Nat.reduceMul, Nat.reduceEqDiff, zw32_id, zw64_id, zupd_eq, zupd_na, zupd_ni, zupp_eq, zupp_na, zupp_ni]
            exact hQ m1 c1 f1
          · rw [if_neg e] at hQ
            simp (disch := first | assumption | omega) only [rM_span_34, rM_span_36, rM_span_72, rM_span_73, rM_span_74, rM_span_77, rM_span_78, rM_span_80, rM_span_83, rM_span_86, rM_span_87, Bool.false_eq_true, true_implies, false_implies, implies_true, true_and, and_true, not_true_eq_false, not_false_eq_true, zPush_I, zPush_L, zPush_R, zPush_U, Int.reduceLT, Int.reduceLE, Int.reduceEq, Int.reduceNe, Int.reduceAdd, Int.reduceSub, Int.reduceMul, Int.reduceNeg, Int.reduceToNat, Nat.reduceAdd, Nat.reduceMul, Nat.reduceEqDiff, zw32_id, zw64_id, zupd_eq, zupd_na, zupd_ni, zupp_eq, zupp_na, zupp_ni, show ¬ ((10 : Nat) : Int) < 10 by omega, e]
            exact hQ mm hm (frC_rf mm)
        | succ d ih =>
          intro n hn
          have nx := ih (n + 1) (by omega)
          have es : spF f k w (n + 1) = if mpl f k (n : Int) (f 984).toNat = true ∧ (w = 1 ∨ spF f k w n = -1) then (n : Int) else spF f k w n := rfl
          rw [es] at nx
          push_cast at nx
          rw [rM_span_32]
          simp (disch := first | assumption | omega) only [rM_span_34, rM_span_36, rM_span_39, rM_span_40, rM_span_41, rM_span_43, Bool.false_eq_true, true_implies, false_implies, implies_true, true_and, and_true, not_true_eq_false, not_false_eq_true, zPush_I, zPush_L, zPush_R, zPush_U, Int.reduceLT, Int.reduceLE, Int.reduceEq, Int.reduceNe, Int.reduceAdd, Int.reduceSub, Int.reduceMul, Int.reduceNeg, Int.reduceToNat, Nat.reduceAdd, Nat.reduceMul, Nat.reduceEqDiff, zw32_id, zw64_id, zupd_eq, zupd_na, zupd_ni, zupp_eq, zupp_na, zupp_ni, show (n : Int) < 10 by omega]
          refine mMayPlay h hm.1 hf ?_
          cases hl : mpl f k (n : Int) (f 984).toNat with
          | false =>
            rw [hl, if_neg (by simp)] at nx
            simp (disch := first | assumption | omega) only [rM_span_46, rM_span_49, rM_span_50, rM_span_51, rM_span_54, rM_span_55, rM_span_56, rM_span_59, rM_span_61, rM_span_64, rM_span_65, rM_span_66, rM_span_69, Bool.false_eq_true, true_implies, false_implies, implies_true, true_and, and_true, not_true_eq_false, not_false_eq_true, zPush_I, zPush_L, zPush_R, zPush_U, Int.reduceLT, Int.reduceLE, Int.reduceEq, Int.reduceNe, Int.reduceAdd, Int.reduceSub, Int.reduceMul, Int.reduceNeg, Int.reduceToNat, Nat.reduceAdd, Nat.reduceMul, Nat.reduceEqDiff, zw32_id, zw64_id, zupd_eq, zupd_na, zupd_ni, zupp_eq, zupp_na, zupp_ni, if_false]
            exact nx
          | true =>
            rw [hl] at nx
            by_cases c1 : w = 1
            · rw [if_pos ⟨rfl, Or.inl c1⟩] at nx
              simp (disch := first | assumption | omega) only [rM_span_46, rM_span_49, rM_span_50, rM_span_51, rM_span_54, rM_span_55, rM_span_56, rM_span_59, rM_span_61, rM_span_64, rM_span_65, rM_span_66, rM_span_69, Bool.false_eq_true, true_implies, false_implies, implies_true, true_and, and_true, not_true_eq_false, not_false_eq_true, zPush_I, zPush_L, zPush_R, zPush_U, Int.reduceLT, Int.reduceLE, Int.reduceEq, Int.reduceNe, Int.reduceAdd, Int.reduceSub, Int.reduceMul, Int.reduceNeg, Int.reduceToNat, Nat.reduceAdd, Nat.reduceMul, Nat.reduceEqDiff, zw32_id, zw64_id, zupd_eq, zupd_na, zupd_ni, zupp_eq, zupp_na, zupp_ni, if_true, eq_true c1]
              exact nx
            · by_cases c2 : spF f k w n = -1
              · rw [if_pos ⟨rfl, Or.inr c2⟩] at nx
                simp (disch := first | assumption | omega) only [rM_span_46, rM_span_49, rM_span_50, rM_span_51, rM_span_54, rM_span_55, rM_span_56, rM_span_59, rM_span_61, rM_span_64, rM_span_65, rM_span_66, rM_span_69, Bool.false_eq_true, true_implies, false_implies, implies_true, true_and, and_true, not_true_eq_false, not_false_eq_true, zPush_I, zPush_L, zPush_R, zPush_U, Int.reduceLT, Int.reduceLE, Int.reduceEq, Int.reduceNe, Int.reduceAdd, Int.reduceSub, Int.reduceMul, Int.reduceNeg, Int.reduceToNat, Nat.reduceAdd, Nat.reduceMul, Nat.reduceEqDiff, zw32_id, zw64_id, zupd_eq, zupd_na, zupd_ni, zupp_eq, zupp_na, zupp_ni, if_true, c1, eq_true c2]
                exact nx
              · rw [if_neg (fun hc => hc.2.elim c1 c2)] at nx
                simp (disch := first | assumption | omega) only [rM_span_46, rM_span_49, rM_span_50, rM_span_51, rM_span_54, rM_span_55, rM_span_56, rM_span_59, rM_span_61, rM_span_64, rM_span_65, rM_span_66, rM_span_69, Bool.false_eq_true, true_implies, false_implies, implies_true, true_and, and_true, not_true_eq_false, not_false_eq_true, zPush_I, zPush_L, zPush_R, zPush_U, Int.reduceLT, Int.reduceLE, Int.reduceEq, Int.reduceNe, Int.reduceAdd, Int.reduceSub, Int.reduceMul, Int.reduceNeg, Int.reduceToNat, Nat.reduceAdd, Nat.reduceMul, Nat.reduceEqDiff, zw32_id, zw64_id, zupd_eq, zupd_na, zupd_ni, zupp_eq, zupp_na, zupp_ni, if_true, c1, c2]
                exact nx
      simp (disch := first | assumption | omega) only [rM_span_0, rM_span_1, rM_span_2, rM_span_3, rM_span_4, rM_span_7, rM_span_10, rM_span_11, rM_span_12, rM_span_13, rM_span_14, rM_span_17, rM_span_20, rM_span_21, rM_span_23, rM_span_26, rM_span_27, rM_span_28, rM_span_29, rM_span_30, kM_in, Bool.false_eq_true, true_implies, false_implies, implies_true, true_and, and_true, not_true_eq_false, not_false_eq_true, zPush_I, zPush_L, zPush_R, zPush_U, Int.reduceLT, Int.reduceLE, Int.reduceEq, Int.reduceNe, Int.reduceAdd, Int.reduceSub, Int.reduceMul, Int.reduceNeg, Int.reduceToNat, Nat.reduceAdd, Nat.reduceMul, Nat.reduceEqDiff, zw32_id, zw64_id, zupd_eq, zupd_na, zupd_ni, zupp_eq, zupp_na, zupp_ni, c, cw]
      exact key 10 0 rfl
    · rw [if_neg (fun hc => cw hc.2)] at hQ
      simp (disch := first | assumption | omega) only [rM_span_0, rM_span_1, rM_span_2, rM_span_3, rM_span_4, rM_span_7, rM_span_10, rM_span_11, rM_span_12, rM_span_13, rM_span_14, rM_span_17, rM_span_20, rM_span_21, rM_span_23, kM_in, Bool.false_eq_true, true_implies, false_implies, implies_true, true_and, and_true, not_true_eq_false, not_false_eq_true, zPush_I, zPush_L, zPush_R, zPush_U, Int.reduceLT, Int.reduceLE, Int.reduceEq, Int.reduceNe, Int.reduceAdd, Int.reduceSub, Int.reduceMul, Int.reduceNeg, Int.reduceToNat, Nat.reduceAdd, Nat.reduceMul, Nat.reduceEqDiff, zw32_id, zw64_id, zupd_eq, zupd_na, zupd_ni, zupp_eq, zupp_na, zupp_ni, c, cw]
      refine mBadP h hm (fun m1 c1 f1 => ?_)
      simp (disch := first | assumption | omega) only [rM_span_26, Bool.false_eq_true, true_implies, false_implies, implies_true, true_and, and_true, not_true_eq_false, not_false_eq_true, zPush_I, zPush_L, zPush_R, zPush_U, Int.reduceLT, Int.reduceLE, Int.reduceEq, Int.reduceNe, Int.reduceAdd, Int.reduceSub, Int.reduceMul, Int.reduceNeg, Int.reduceToNat, Nat.reduceAdd, Nat.reduceMul, Nat.reduceEqDiff, zw32_id, zw64_id, zupd_eq, zupd_na, zupd_ni, zupp_eq, zupp_na, zupp_ni]
      exact hQ m1 c1 f1
  · rw [if_neg (fun hc => c hc.1)] at hQ
    simp (disch := first | assumption | omega) only [rM_span_0, rM_span_1, rM_span_2, rM_span_3, rM_span_4, rM_span_7, rM_span_10, rM_span_11, rM_span_12, rM_span_13, rM_span_14, rM_span_17, rM_span_20, rM_span_21, rM_span_23, kM_in, Bool.false_eq_true, true_implies, false_implies, implies_true, true_and, and_true, not_true_eq_false, not_false_eq_true, zPush_I, zPush_L, zPush_R, zPush_U, Int.reduceLT, Int.reduceLE, Int.reduceEq, Int.reduceNe, Int.reduceAdd, Int.reduceSub, Int.reduceMul, Int.reduceNeg, Int.reduceToNat, Nat.reduceAdd, Nat.reduceMul, Nat.reduceEqDiff, zw32_id, zw64_id, zupd_eq, zupd_na, zupd_ni, zupp_eq, zupp_na, zupp_ni, c]
    refine mBadP h hm (fun m1 c1 f1 => ?_)
    simp (disch := first | assumption | omega) only [rM_span_26, Bool.false_eq_true, true_implies, false_implies, implies_true, true_and, and_true, not_true_eq_false, not_false_eq_true, zPush_I, zPush_L, zPush_R, zPush_U, Int.reduceLT, Int.reduceLE, Int.reduceEq, Int.reduceNe, Int.reduceAdd, Int.reduceSub, Int.reduceMul, Int.reduceNeg, Int.reduceToNat, Nat.reduceAdd, Nat.reduceMul, Nat.reduceEqDiff, zw32_id, zw64_id, zupd_eq, zupd_na, zupd_ni, zupp_eq, zupp_na, zupp_ni]
    exact hQ m1 c1 f1
end
