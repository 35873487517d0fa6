/-! ===== the reference's shares ===== -/
section
variable {sh : zSh} {pp : zPp} {mm : zMm} {Q : zV → zSh → zPp → zMm → Prop} {f : Int → Int} {q a : Int}
theorem mSumsUp (h : zLy sh pp) (hf : fOk f) (hsn : fSn f) (hm : ∀ k, 0 ≤ k → k < 986 → mm 123 k = f k) (q0 : 0 ≤ q) (q2 : q ≤ 2) (a0 : 0 ≤ a) (a1 : a < 384) (hQ : ∀ m, mB 3 (gT q a f 4).1 m → mB 4 (gT q a f 4).2 m → frP pSu mm m → Q (zI (if gAny f 4 = true then 1 else 0)) sh pp m) : zS 238 0 [zR 122, zI q, zI a, zU, zU, zU, zU] [] sh pp mm Q := by
  have k122 := k_122 h
  have hbig := big9
  have key : ∀ (d n : Nat) (m : zMm), n + d = 4 → mB 3 (gT q a f n).1 m → mB 4 (gT q a f n).2 m → frP pSu mm m → zS 238 17 [zR 122, zI q, zI a, zI (if gAny f n = true then 1 else 0), zI n, zU, zU] [] sh pp m Q := by
    intro d
    induction d with
    | zero =>
      intro n m hn b3 b4 hfr
      have hn : n = 4 := by omega
      subst hn
      rw [rM_sumsUp_17]
      have hb : (if gAny f 4 = true then (1 : Int) else 0) = 0 ∨ (if gAny f 4 = true then (1 : Int) else 0) = 1 := by split <;> simp
      simp (disch := first | assumption | omega) only [rM_sumsUp_19, rM_sumsUp_20, rM_sumsUp_193, rM_sumsUp_194, Bool.false_eq_true, true_implies, false_implies, implies_true, true_and, and_true, not_true_eq_false, not_false_eq_true, zPush_I, zPush_L, zPush_R, zPush_U, Int.reduceLT, Int.reduceLE, Int.reduceEq, Int.reduceNe, Int.reduceAdd, Int.reduceSub, Int.reduceMul, Int.reduceNeg, Int.reduceToNat, Nat.reduceAdd, Nat.reduceMul, Nat.reduceEqDiff, zw32_id, zw64_id, zupd_eq, zupd_na, zupd_ni, zupp_eq, zupp_na, zupp_ni, show ¬ ((4 : Nat) : Int) < 4 by omega]
      exact hQ m b3 b4 hfr
    | succ d ih =>
      intro n m hn b3 b4 hfr
      have tle := gT_le (q := q) (a := a) hf hsn n
      have tle4 : (gT q a f n).1 ≤ 4 * (4 * (3 * 9 ^ 60)) := Nat.le_trans tle.1 (Nat.mul_le_mul_right _ (by omega))
      have hnow : ∀ k, 0 ≤ k → k < 986 → m 123 k = f k := fun k k0 k1 => by rw [hfr _ _ (by unfold pSu; omega)]; exact hm k k0 k1
      have eT : gT q a f (n + 1) = if gOk f (n : Int) = true then ((gT q a f n).1 + (gP q a f (n : Int) 4).1, (gT q a f n).2 + (gP q a f (n : Int) 4).2) else gT q a f n := rfl
      have eA : gAny f (n + 1) = (gAny f n || gOk f (n : Int)) := rfl
      have nxt : ∀ m5 (any : Int), mB 3 (gT q a f (n + 1)).1 m5 → mB 4 (gT q a f (n + 1)).2 m5 → any = (if gAny f (n + 1) = true then 1 else 0) → frP pSu mm m5 → zS 238 187 [zR 122, zI q, zI a, zI any, zI n, zU, zU] [] sh pp m5 Q := by
        intro m5 any d3 d4 ha df
        subst ha
        simp (disch := first | assumption | omega) only [rM_sumsUp_187, rM_sumsUp_190, Bool.false_eq_true, true_implies, false_implies, implies_true, true_and, and_true, not_true_eq_false, not_false_eq_true, zPush_I, zPush_L, zPush_R, zPush_U, Int.reduceLT, Int.reduceLE, Int.reduceEq, Int.reduceNe, Int.reduceAdd, Int.reduceSub, Int.reduceMul, Int.reduceNeg, Int.reduceToNat, Nat.reduceAdd, Nat.reduceMul, Nat.reduceEqDiff, zw32_id, zw64_id, zupd_eq, zupd_na, zupd_ni, zupp_eq, zupp_na, zupp_ni]
        have := ih (n + 1) m5 (by omega) d3 d4 df
        push_cast at this
        exact this
      rw [rM_sumsUp_17]
      simp (disch := first | assumption | omega) only [rM_sumsUp_19, rM_sumsUp_20, rM_sumsUp_23, rM_sumsUp_24, rM_sumsUp_26, Bool.false_eq_true, true_implies, false_implies, implies_true, true_and, and_true, not_true_eq_false, not_false_eq_true, zPush_I, zPush_L, zPush_R, zPush_U, Int.reduceLT, Int.reduceLE, Int.reduceEq, Int.reduceNe, Int.reduceAdd, Int.reduceSub, Int.reduceMul, Int.reduceNeg, Int.reduceToNat, Nat.reduceAdd, Nat.reduceMul, Nat.reduceEqDiff, zw32_id, zw64_id, zupd_eq, zupd_na, zupd_ni, zupp_eq, zupp_na, zupp_ni, show (n : Int) < 4 by omega]
      refine mReads h hf hnow (by omega) (by omega) (fun m1 c1 f1 hr => ?_) (fun m1 c1 f1 hr => ?_)
      · have f1' : frP (fun x j => x = 122 ∧ 7 ≤ j ∧ j ≤ 14) m m1 := f1
        have hok := dOf_ok hf (p := (n : Int)) (by omega) (by omega) hr
        simp (disch := first | assumption | omega) only [rM_sumsUp_29, rM_sumsUp_32, rM_sumsUp_33, rM_sumsUp_35, Bool.false_eq_true, true_implies, false_implies, implies_true, true_and, and_true, not_true_eq_false, not_false_eq_true, zPush_I, zPush_L, zPush_R, zPush_U, Int.reduceLT, Int.reduceLE, Int.reduceEq, Int.reduceNe, Int.reduceAdd, Int.reduceSub, Int.reduceMul, Int.reduceNeg, Int.reduceToNat, Nat.reduceAdd, Nat.reduceMul, Nat.reduceEqDiff, zw32_id, zw64_id, zupd_eq, zupd_na, zupd_ni, zupp_eq, zupp_na, zupp_ni]
        refine mDoes h hf (fun k k0 k1 => by rw [f1' _ _ (by omega)]; exact hnow k k0 k1) (by omega) (by omega) hr (fun m2 c2 s2 t2 f2 => ?_)
        have fr2 : frP pSu mm m2 := frP_tr (frP_tr hfr (frP_wd f1' (fun x j hj => by unfold pSu; omega))) (frP_wd f2 (fun x j hj => by unfold pDo at hj; unfold pSu; omega))
        have b3' : mB 3 (gT q a f n).1 m2 := mB_gen (mB_gen b3 f1' (fun j _ _ => by omega) (by omega) (by omega)) f2 (fun j _ _ => by unfold pDo; omega) (by unfold pDo; omega) (by omega)
        have b4' : mB 4 (gT q a f n).2 m2 := mB_gen (mB_gen b4 f1' (fun j _ _ => by omega) (by omega) (by omega)) f2 (fun j _ _ => by unfold pDo; omega) (by unfold pDo; omega) (by omega)
        have rest : ∀ any : Int, any = (if gAny f (n + 1) = true then 1 else 0) → zS 201 0 [zR 122, zU] [] sh pp m2 (fun v sh pp mm => zS 238 59 [zR 122, zI q, zI a, zI any, zI n, zU, zU] (zPush v []) sh pp mm Q) := by
          intro any hany
          refine mKeep h (fun i i0 i1 => by rw [c2.2.2.2.1 i i0 i1]; exact hok.2.2.2.1 i) (fun m3 c3 f3 => ?_)
          have k3 : ∀ x j, x ≠ 136 → m3 x j = m2 x j := fun x j hx => f3 x j (by omega)
          have fr3 : frP pSu mm m3 := frP_tr fr2 (frP_wd f3 (fun x j hj => by unfold pSu; omega))
          have b3'' : mB 3 (gT q a f n).1 m3 := mB_gen b3' f3 (fun j _ _ => by omega) (by omega) (by omega)
          have b4'' : mB 4 (gT q a f n).2 m3 := mB_gen b4' f3 (fun j _ _ => by omega) (by omega) (by omega)
          have n3 : ∀ k, 0 ≤ k → k < 986 → m3 123 k = f k := fun k k0 k1 => by rw [k3 _ _ (by decide), f2 _ _ (by unfold pDo; omega), f1' _ _ (by omega)]; exact hnow k k0 k1
          simp (disch := first | assumption | omega) only [rM_sumsUp_59, rM_sumsUp_60, Bool.false_eq_true, true_implies, false_implies, implies_true, true_and, and_true, not_true_eq_false, not_false_eq_true, zPush_I, zPush_L, zPush_R, zPush_U, Int.reduceLT, Int.reduceLE, Int.reduceEq, Int.reduceNe, Int.reduceAdd, Int.reduceSub, Int.reduceMul, Int.reduceNeg, Int.reduceToNat, Nat.reduceAdd, Nat.reduceMul, Nat.reduceEqDiff, zw32_id, zw64_id, zupd_eq, zupd_na, zupd_ni, zupp_eq, zupp_na, zupp_ni]
          cases hsp : (dOf f (n : Int)).2.2.2.2.2.1 with
          | true =>
            have h26 : m3 122 26 = 1 := by rw [k3 _ _ (by decide), t2, hsp]; rfl
            have hg : gOk f (n : Int) = false := by unfold gOk; rw [hsp]; simp
            rw [hg] at eT
            rw [rM_sumsUp_62]
            simp (disch := first | assumption | omega) only [rM_sumsUp_64, rM_sumsUp_65, rM_sumsUp_68, rM_sumsUp_69, rM_sumsUp_72, Bool.false_eq_true, true_implies, false_implies, implies_true, true_and, and_true, not_true_eq_false, not_false_eq_true, zPush_I, zPush_L, zPush_R, zPush_U, Int.reduceLT, Int.reduceLE, Int.reduceEq, Int.reduceNe, Int.reduceAdd, Int.reduceSub, Int.reduceMul, Int.reduceNeg, Int.reduceToNat, Nat.reduceAdd, Nat.reduceMul, Nat.reduceEqDiff, zw32_id, zw64_id, zupd_eq, zupd_na, zupd_ni, zupp_eq, zupp_na, zupp_ni, h26]
            exact nxt m3 any (by rw [eT]; exact b3'') (by rw [eT]; exact b4'') hany fr3
          | false =>
            have h26 : m3 122 26 = 0 := by rw [k3 _ _ (by decide), t2, hsp]; rfl
            have hg : gOk f (n : Int) = true := by unfold gOk; rw [hsp]; simp [hr]
            rw [hg] at eT
            have := mSu1 (Q := Q) (mm := mm) (any := any) h hf hsn q0 q2 a0 a1 (p := (n : Int)) (by omega) (by omega) hr (S := (gT q a f n).1) (S' := (gT q a f n).2) tle4 (by omega) (fun m5 d5 df => nxt m5 any (by rw [eT]; exact d5.1) (by rw [eT]; exact d5.2.1) hany df) 4 0 m3 rfl ⟨by show mB 3 ((gT q a f n).1 + 0) m3; exact b3'', by show mB 4 ((gT q a f n).2 + 0) m3; exact b4'', h26, fun i i0 i1 => by rw [c3 i i0 i1]; exact c2.2.2.2.1 i i0 i1, ⟨_, mPk_fr c2 f3 (by omega)⟩, n3⟩ fr3
            exact this
        cases hA : gAny f n with
        | true =>
          simp (disch := first | assumption | omega) only [rM_sumsUp_38, rM_sumsUp_39, rM_sumsUp_42, rM_sumsUp_43, rM_sumsUp_46, rM_sumsUp_49, rM_sumsUp_50, rM_sumsUp_53, rM_sumsUp_54, rM_sumsUp_55, rM_sumsUp_56, Bool.false_eq_true, true_implies, false_implies, implies_true, true_and, and_true, not_true_eq_false, not_false_eq_true, zPush_I, zPush_L, zPush_R, zPush_U, Int.reduceLT, Int.reduceLE, Int.reduceEq, Int.reduceNe, Int.reduceAdd, Int.reduceSub, Int.reduceMul, Int.reduceNeg, Int.reduceToNat, Nat.reduceAdd, Nat.reduceMul, Nat.reduceEqDiff, zw32_id, zw64_id, zupd_eq, zupd_na, zupd_ni, zupp_eq, zupp_na, zupp_ni, if_true]
          exact rest 1 (by rw [eA, hA]; rfl)
        | false =>
          cases hsp : (dOf f (n : Int)).2.2.2.2.2.1 with
          | true =>
            have h26 : m2 122 26 = 1 := by rw [t2, hsp]; rfl
            have hg : gOk f (n : Int) = false := by unfold gOk; rw [hsp]; simp
            simp (disch := first | assumption | omega) only [rM_sumsUp_38, rM_sumsUp_39, rM_sumsUp_42, rM_sumsUp_43, rM_sumsUp_46, rM_sumsUp_49, rM_sumsUp_50, rM_sumsUp_53, rM_sumsUp_54, rM_sumsUp_55, rM_sumsUp_56, Bool.false_eq_true, true_implies, false_implies, implies_true, true_and, and_true, not_true_eq_false, not_false_eq_true, zPush_I, zPush_L, zPush_R, zPush_U, Int.reduceLT, Int.reduceLE, Int.reduceEq, Int.reduceNe, Int.reduceAdd, Int.reduceSub, Int.reduceMul, Int.reduceNeg, Int.reduceToNat, Nat.reduceAdd, Nat.reduceMul, Nat.reduceEqDiff, zw32_id, zw64_id, zupd_eq, zupd_na, zupd_ni, zupp_eq, zupp_na, zupp_ni, if_false, h26]
            exact rest 0 (by rw [eA, hA, hg]; rfl)
          | false =>
            have h26 : m2 122 26 = 0 := by rw [t2, hsp]; rfl
            have hg : gOk f (n : Int) = true := by unfold gOk; rw [hsp]; simp [hr]
            simp (disch := first | assumption | omega) only [rM_sumsUp_38, rM_sumsUp_39, rM_sumsUp_42, rM_sumsUp_43, rM_sumsUp_46, rM_sumsUp_49, rM_sumsUp_50, rM_sumsUp_53, rM_sumsUp_54, rM_sumsUp_55, rM_sumsUp_56, Bool.false_eq_true, true_implies, false_implies, implies_true, true_and, and_true, not_true_eq_false, not_false_eq_true, zPush_I, zPush_L, zPush_R, zPush_U, Int.reduceLT, Int.reduceLE, Int.reduceEq, Int.reduceNe, Int.reduceAdd, Int.reduceSub, Int.reduceMul, Int.reduceNeg, Int.reduceToNat, Nat.reduceAdd, Nat.reduceMul, Nat.reduceEqDiff, zw32_id, zw64_id, zupd_eq, zupd_na, zupd_ni, zupp_eq, zupp_na, zupp_ni, if_false, h26]
            exact rest 1 (by rw [eA, hA, hg]; rfl)
      · have f1' : frP (fun x j => x = 122 ∧ 7 ≤ j ∧ j ≤ 14) m m1 := f1
        have hg : gOk f (n : Int) = false := by unfold gOk; simp [hr]
        rw [hg, if_neg (by decide)] at eT
        simp (disch := first | assumption | omega) only [rM_sumsUp_29, Bool.false_eq_true, true_implies, false_implies, implies_true, true_and, and_true, not_true_eq_false, not_false_eq_true, zPush_I, zPush_L, zPush_R, zPush_U, Int.reduceLT, Int.reduceLE, Int.reduceEq, Int.reduceNe, Int.reduceAdd, Int.reduceSub, Int.reduceMul, Int.reduceNeg, Int.reduceToNat, Nat.reduceAdd, Nat.reduceMul, Nat.reduceEqDiff, zw32_id, zw64_id, zupd_eq, zupd_na, zupd_ni, zupp_eq, zupp_na, zupp_ni]
        exact nxt m1 _ (by rw [eT]; exact mB_gen b3 f1' (fun j _ _ => by omega) (by omega) (by omega)) (by rw [eT]; exact mB_gen b4 f1' (fun j _ _ => by omega) (by omega) (by omega)) (by rw [eA, hg, Bool.or_false]) (frP_tr hfr (frP_wd f1' (fun x j hj => by unfold pSu; omega)))
  simp (disch := first | assumption | omega) only [rM_sumsUp_0, rM_sumsUp_1, rM_sumsUp_2, rM_sumsUp_3, Bool.false_eq_true, true_implies, false_implies, implies_true, true_and, and_true, not_true_eq_false, not_false_eq_true, zPush_I, zPush_L, zPush_R, zPush_U, Int.reduceLT, Int.reduceLE, Int.reduceEq, Int.reduceNe, Int.reduceAdd, Int.reduceSub, Int.reduceMul, Int.reduceNeg, Int.reduceToNat, Nat.reduceAdd, Nat.reduceMul, Nat.reduceEqDiff, zw32_id, zw64_id, zupd_eq, zupd_na, zupd_ni, zupp_eq, zupp_na, zupp_ni]
  refine mSet (t := 0) h (by decide) (by decide) (Or.inl rfl) (fun m1 c1 f1 => ?_)
  simp (disch := first | assumption | omega) only [rM_sumsUp_6, rM_sumsUp_7, rM_sumsUp_8, rM_sumsUp_9, Bool.false_eq_true, true_implies, false_implies, implies_true, true_and, and_true, not_true_eq_false, not_false_eq_true, zPush_I, zPush_L, zPush_R, zPush_U, Int.reduceLT, Int.reduceLE, Int.reduceEq, Int.reduceNe, Int.reduceAdd, Int.reduceSub, Int.reduceMul, Int.reduceNeg, Int.reduceToNat, Nat.reduceAdd, Nat.reduceMul, Nat.reduceEqDiff, zw32_id, zw64_id, zupd_eq, zupd_na, zupd_ni, zupp_eq, zupp_na, zupp_ni]
  refine mSet (t := 0) h (by decide) (by decide) (Or.inl rfl) (fun m2 c2 f2 => ?_)
  simp (disch := first | assumption | omega) only [rM_sumsUp_12, rM_sumsUp_13, rM_sumsUp_14, rM_sumsUp_15, Bool.false_eq_true, true_implies, false_implies, implies_true, true_and, and_true, not_true_eq_false, not_false_eq_true, zPush_I, zPush_L, zPush_R, zPush_U, Int.reduceLT, Int.reduceLE, Int.reduceEq, Int.reduceNe, Int.reduceAdd, Int.reduceSub, Int.reduceMul, Int.reduceNeg, Int.reduceToNat, Nat.reduceAdd, Nat.reduceMul, Nat.reduceEqDiff, zw32_id, zw64_id, zupd_eq, zupd_na, zupd_ni, zupp_eq, zupp_na, zupp_ni]
  have := key 4 0 m2 rfl (mB_fr (v := 0) c1 f2 (by decide) (by decide)) c2 (frP_tr (frP_wd f1 (fun x j hj => by unfold pMb at hj; unfold pSu; omega)) (frP_wd f2 (fun x j hj => by unfold pMb at hj; unfold pSu; omega)))
  exact this
end
