/-! ===== calls of the class: from ===== -/
section
variable {sh : zSh} {pp : zPp} {mm m' : zMm} {Q : zV → zSh → zPp → zMm → Prop} {f f' g : Int → Int} {G : Int → Option (Int → Int)} {cn cn' : Int → Int} {N D N' D' : Nat}
theorem cFrom (hc : cOk f G cn N D sh pp mm) {i : Int} (hQ : ∀ m, cOk (oFrom f cn G i).1 G (oFrom f cn G i).2.1 N D sh pp m → frX sh mm sh m → Q (zI (oFrom f cn G i).2.2) sh pp m) : zS 134 0 [zR 13, zI i, zU, zU] [] sh pp mm Q := by
  have h := hc.1
  have k13 := k_13 h
  have k14 := k_14 h
  have p14 := p_13_0 h
  have k34 := k_34 h
  have l34 := l_34 h
  have p34 := p_13_1 h
  have k38 := k_38 h
  have p38 := p_13_5 h
  by_cases hg : 0 ≤ i ∧ i ≤ 1
  · rcases hc.2.2.2.1.1 i (by omega) (by omega) with ⟨h0, h1⟩ | ⟨h0, h1, h2, g, h3, h4, h5, h6⟩
    · have ze : oFrom f cn G i = (f, bump cn 1, -3) := by unfold oFrom; rw [if_pos hg, h1]
      rw [ze] at hQ
      dsimp only at hQ
      have zq := cBadP hc (i := 1) (by decide) (by decide) hQ
      simp (disch := first | assumption | omega) only [rX_from_0, rX_from_1, rX_from_2, rX_from_3, rX_from_6, rX_from_9, rX_from_10, rX_from_11, rX_from_13, rX_from_16, rX_from_17, rX_from_18, rX_from_21, rX_from_22, rX_from_23, rX_from_24, rX_from_25, rX_from_28, rX_from_29, rX_from_30, rX_from_32, rX_from_35, kX_isWithin, kX_refuse h, Bool.false_eq_true, true_implies, false_implies, implies_true, true_and, and_true, not_true_eq_false, not_false_eq_true, zPush_I, zPush_L, zPush_R, zPush_U, Int.reduceLT, Int.reduceLE, Int.reduceEq, Int.reduceNe, Int.reduceAdd, Int.reduceSub, Int.reduceMul, Int.reduceNeg, Int.reduceToNat, Nat.reduceAdd, Nat.reduceMul, Nat.reduceEqDiff, zw32_id, zw64_id, zupd_eq, zupd_na, zupd_ni, zupp_eq, zupp_na, zupp_ni, p34, eq_true hg, h0]
      exact zq
    · have ze : oFrom f cn G i = (g, cn, 1) := by unfold oFrom; rw [if_pos hg, h3]
      rw [ze] at hQ
      dsimp only at hQ
      simp (disch := first | assumption | omega) only [rX_from_0, rX_from_1, rX_from_2, rX_from_3, rX_from_6, rX_from_9, rX_from_10, rX_from_11, rX_from_13, rX_from_16, rX_from_17, rX_from_18, rX_from_21, rX_from_22, rX_from_23, rX_from_24, rX_from_25, rX_from_36, rX_from_37, rX_from_40, rX_from_41, kX_isWithin, kX_refuse h, Bool.false_eq_true, true_implies, false_implies, implies_true, true_and, and_true, not_true_eq_false, not_false_eq_true, zPush_I, zPush_L, zPush_R, zPush_U, Int.reduceLT, Int.reduceLE, Int.reduceEq, Int.reduceNe, Int.reduceAdd, Int.reduceSub, Int.reduceMul, Int.reduceNeg, Int.reduceToNat, Nat.reduceAdd, Nat.reduceMul, Nat.reduceEqDiff, zw32_id, zw64_id, zupd_eq, zupd_na, zupd_ni, zupp_eq, zupp_na, zupp_ni, p14, p34, eq_true hg, eq_false (show ¬ pp 34 i = 0 by omega)]
      refine cTakeS (stL_14 h) h2 (by omega) h4 h6 (hdr_of hc.2.2.1) (fun m1 a1 a2 => ?_)
      have o0 : ∀ (m : zMm) (Q : zV → zSh → zPp → zMm → Prop), zS 146 0 [zR 13, zI 0] [] sh pp m Q ↔ Q zU sh pp (zupd (zupd m 66 5 0) 73 5 0) := fun m Q => kX_outP h (q := 0) (by decide)
      have o1 : ∀ (m : zMm) (Q : zV → zSh → zPp → zMm → Prop), zS 146 0 [zR 13, zI 1] [] sh pp m Q ↔ Q zU sh pp (zupd (zupd m 80 5 0) 87 5 0) := fun m Q => kX_outP h (q := 1) (by decide)
      have o2 : ∀ (m : zMm) (Q : zV → zSh → zPp → zMm → Prop), zS 146 0 [zR 13, zI 2] [] sh pp m Q ↔ Q zU sh pp (zupd (zupd m 94 5 0) 101 5 0) := fun m Q => kX_outP h (q := 2) (by decide)
      have o3 : ∀ (m : zMm) (Q : zV → zSh → zPp → zMm → Prop), zS 146 0 [zR 13, zI 3] [] sh pp m Q ↔ Q zU sh pp (zupd (zupd m 108 5 0) 115 5 0) := fun m Q => kX_outP h (q := 3) (by decide)
      simp (disch := first | assumption | omega) only [rX_from_44, rX_from_45, rX_from_47, rX_from_48, rX_from_51, rX_from_52, rX_from_53, rX_from_56, rX_from_59, rX_from_62, rX_from_63, rX_from_66, rX_from_69, rX_from_70, rX_from_46, Bool.false_eq_true, true_implies, false_implies, implies_true, true_and, and_true, not_true_eq_false, not_false_eq_true, zPush_I, zPush_L, zPush_R, zPush_U, Int.reduceLT, Int.reduceLE, Int.reduceEq, Int.reduceNe, Int.reduceAdd, Int.reduceSub, Int.reduceMul, Int.reduceNeg, Int.reduceToNat, Nat.reduceAdd, Nat.reduceMul, Nat.reduceEqDiff, zw32_id, zw64_id, zupd_eq, zupd_na, zupd_ni, zupp_eq, zupp_na, zupp_ni, o0, o1, o2, o3, kN_out h, p38]
      obtain ⟨m9, hm9⟩ : ∃ m9, m9 = zupd (zupd (zupd (zupd (zupd (zupd (zupd (zupd (zupd m1 66 5 0) 73 5 0) 80 5 0) 87 5 0) 94 5 0) 101 5 0) 108 5 0) 115 5 0) 38 10 0 := ⟨_, rfl⟩
      rw [← hm9]
      have r1 : frP (fun x _ => x = 38 ∨ (66 ≤ x ∧ x ≤ 121)) m1 m9 := by
        rw [hm9]
        exact frP_up (frP_up (frP_up (frP_up (frP_up (frP_up (frP_up (frP_up (frP_up (frP_rf _ _) (by omega)) (by omega)) (by omega)) (by omega)) (by omega)) (by omega)) (by omega)) (by omega)) (by omega)
      have r2 : frP (fun x _ => (14 ≤ x ∧ x ≤ 33) ∨ x = 38 ∨ (66 ≤ x ∧ x ≤ 121)) mm m9 := frP_tr (frP_wd a2 (fun x j hj => by omega)) (frP_wd r1 (fun x j hj => by omega))
      obtain ⟨c1, c2, c3, c4, c5, c6, c7, c8, c9, c10, c11⟩ := id hc
      refine hQ m9 (cOk_mk hc (sm_fr r2 (by omega)) (stI_sm a1 (sm_fr r1 (by omega))) (fun j j0 j1 => by rw [r2 _ _ (by omega)]; exact c5 j j0 j1) (fun p hp => ?_) (Or.inl (by rw [hm9, zupd_eq])) (cQu_sm c8 (sm_fr r2 (by omega))) ⟨bG_sm c9.1 (sm_fr r2 (by omega)), bG_sm c9.2 (sm_fr r2 (by omega))⟩ (fun x hx => by funext j; exact r2 x j (by omega))) (frX_P r2 (by omega))
      rw [hm9]
      rcases (show p = 0 ∨ p = 1 ∨ p = 2 ∨ p = 3 by omega) with rfl | rfl | rfl | rfl <;> exact ⟨Or.inl (by simp [zupd]), Or.inl (by simp [zupd])⟩
  · have ze : oFrom f cn G i = (f, bump cn 0, -2) := by unfold oFrom; rw [if_neg hg]
    rw [ze] at hQ
    dsimp only at hQ
    have zq := cBadP hc (i := 0) (by decide) (by decide) hQ
    simp (disch := first | assumption | omega) only [rX_from_0, rX_from_1, rX_from_2, rX_from_3, rX_from_6, rX_from_9, rX_from_10, rX_from_11, rX_from_13, rX_from_16, kX_isWithin, kX_refuse h, Bool.false_eq_true, true_implies, false_implies, implies_true, true_and, and_true, not_true_eq_false, not_false_eq_true, zPush_I, zPush_L, zPush_R, zPush_U, Int.reduceLT, Int.reduceLE, Int.reduceEq, Int.reduceNe, Int.reduceAdd, Int.reduceSub, Int.reduceMul, Int.reduceNeg, Int.reduceToNat, Nat.reduceAdd, Nat.reduceMul, Nat.reduceEqDiff, zw32_id, zw64_id, zupd_eq, zupd_na, zupd_ni, zupp_eq, zupp_na, zupp_ni, eq_false hg]
    exact zq
end
