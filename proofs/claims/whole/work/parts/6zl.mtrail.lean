/-! ===== nets of the reference: trail ===== -/
def trR (f : Int → Int) (K : Nat) (b : Int) (g : Int → Int) : Prop := (b = -1 ∧ ∀ c, c < K → ¬ cP f c 0) ∨ ∃ c : Nat, b = (c : Int) ∧ c < K ∧ cP f c 0 ∧ (∃ S, lnR f c g (nE f) S) ∧ ∀ c', c' < K → cP f c' 0 → ∀ (g' : Int → Int) (S' : Nat), lnR f c' g' (nE f) S' → ¬ lxL g' g (nE f) ∧ (c' < c → lxL g g' (nE f))
theorem trR_skip {f : Int → Int} {K : Nat} {b : Int} {g : Int → Int} (h : trR f K b g) (hn : ¬ cP f K 0) : trR f (K + 1) b g := by
  rcases h with ⟨h1, h2⟩ | ⟨c, h1, h2, h3, h4, h5⟩
  · refine Or.inl ⟨h1, fun c hc => ?_⟩
    by_cases e : c = K
    · subst e; exact hn
    · exact h2 c (by omega)
  · refine Or.inr ⟨c, h1, by omega, h3, h4, fun c' hc' hp => ?_⟩
    by_cases e : c' = K
    · subst e; exact absurd hp hn
    · exact h5 c' (by omega) hp
theorem trR_keep {f : Int → Int} {K c S1 : Nat} {g g1 : Int → Int} (h : trR f K (c : Int) g) (h1 : lnR f K g1 (nE f) S1) (hn : ¬ lxL g1 g (nE f)) : trR f (K + 1) (c : Int) g := by
  rcases h with ⟨h1, h2⟩ | ⟨c2, hc, h2, h3, h4, h5⟩
  · omega
  · refine Or.inr ⟨c2, hc, by omega, h3, h4, fun c' hc' hp g' S' hl => ?_⟩
    by_cases e : c' = K
    · subst e
      obtain ⟨-, u⟩ := lnR_uq hl h1
      exact ⟨fun x => hn (lx_el (lxE_sym u) x), fun x => by omega⟩
    · exact h5 c' (by omega) hp g' S' hl
theorem trR_new {f : Int → Int} {K S1 : Nat} {b : Int} {g g1 : Int → Int} (h : trR f K b g) (hp : cP f K 0) (h1 : lnR f K g1 (nE f) S1) (hn : b = -1 ∨ lxL g1 g (nE f)) : trR f (K + 1) (K : Int) g1 := by
  refine Or.inr ⟨K, rfl, by omega, hp, ⟨S1, h1⟩, fun c' hc' hp' g' S' hl => ?_⟩
  by_cases e : c' = K
  · subst e
    obtain ⟨-, u⟩ := lnR_uq hl h1
    exact ⟨lx_irr u, fun x => by omega⟩
  · rcases h with ⟨h1, h2⟩ | ⟨c2, hc, h2, h3, h4, h5⟩
    · exact absurd hp' (h2 c' (by omega))
    · have l : lxL g1 g (nE f) := by
        rcases hn with x | x
        · omega
        · exact x
      have q := lx_le l (h5 c' (by omega) hp' g' S' hl).1
      exact ⟨lx_asym q, fun _ => q⟩
theorem trR_ext {f : Int → Int} {K : Nat} {b : Int} {g g1 : Int → Int} (h : trR f K b g) (he : lxE g1 g (nE f)) : trR f K b g1 := by
  rcases h with h | ⟨c, h1, h2, h3, ⟨S, h4⟩, h5⟩
  · exact Or.inl h
  · refine Or.inr ⟨c, h1, h2, h3, ⟨S, lnR_ext he h4⟩, fun c' hc' hp g' S' hl => ?_⟩
    have q := h5 c' hc' hp g' S' hl
    exact ⟨fun x => q.1 (lx_er x he), fun x => lx_el he (q.2 x)⟩
def trF (x : Nat) (_ : Int) : Prop := x = 137 ∨ x = 138 ∨ x = 139 ∨ x = 140
def blF (x : Nat) (_ : Int) : Prop := x = 140
section
variable {sh : zSh} {pp : zPp} {mm : zMm} {Q : zV → zSh → zPp → zMm → Prop} {f : Int → Int} {G : Int → Option (Int → Int)} {cn : Int → Int} {N D : Nat}
theorem tCopy (h : zLy sh pp) {a b c : Int} (hQ : ∀ mm', frP blF mm mm' → (∀ k : Nat, k < 12 → mm' 140 k = mm 139 k) → zS 226 109 [zR 122, zI a, zI b, zI c, zU] [] sh pp mm' Q) : zS 226 82 [zR 122, zI a, zI b, zI c, zI 0] [] sh pp mm Q := by
  have k122 := k_122 h
  have k139 := k_139 h
  have l139 := l_139 h
  have p139 := p_122_32 h
  have k140 := k_140 h
  have l140 := l_140 h
  have p140 := p_122_33 h
  have key : ∀ (d i : Nat) (m1 : zMm), i + d = 12 → frP blF mm m1 → (∀ k : Nat, k < i → m1 140 k = mm 139 k) → zS 226 82 [zR 122, zI a, zI b, zI c, zI i] [] sh pp m1 Q := by
    intro d
    induction d with
    | zero =>
      intro i m1 hi hf hk
      have hi : i = 12 := by omega
      subst hi
      rw [rM_trail_82]
      simp (disch := first | assumption | omega) only [rM_trail_84, rM_trail_86, Bool.false_eq_true, true_implies, false_implies, implies_true, true_and, and_true, not_true_eq_false, not_false_eq_true, zPush_I, zPush_L, zPush_R, zPush_U, Int.reduceLT, Int.reduceLE, Int.reduceEq, Int.reduceNe, Int.reduceAdd, Int.reduceSub, Int.reduceMul, Int.reduceNeg, Int.reduceToNat, Nat.reduceAdd, Nat.reduceMul, Nat.reduceEqDiff, zw32_id, zw64_id, zupd_eq, zupd_na, zupd_ni, zupp_eq, zupp_na, zupp_ni, Int.cast_ofNat_Int, Int.lt_irrefl]
      exact hQ m1 hf hk
    | succ d ih =>
      intro i m1 hi hf hk
      have el : m1 139 i = mm 139 i := hf 139 i (by unfold blF; omega)
      have n := ih (i + 1) (zupd m1 140 i (m1 139 i)) (by omega) (frP_up hf rfl) (fun k hk2 => by
        by_cases e : k = i
        · subst e; rw [zupd_eq, el]
        · rw [zupd_ni (by omega)]; exact hk k (by omega))
      rw [show ((i + 1 : Nat) : Int) = (i : Int) + 1 by omega] at n
      rw [rM_trail_82]
      simp (disch := first | assumption | omega) only [rM_trail_84, rM_trail_86, rM_trail_89, rM_trail_90, rM_trail_93, rM_trail_95, rM_trail_96, rM_trail_99, rM_trail_101, rM_trail_102, rM_trail_103, rM_trail_106, Bool.false_eq_true, true_implies, false_implies, implies_true, true_and, and_true, not_true_eq_false, not_false_eq_true, zPush_I, zPush_L, zPush_R, zPush_U, Int.reduceLT, Int.reduceLE, Int.reduceEq, Int.reduceNe, Int.reduceAdd, Int.reduceSub, Int.reduceMul, Int.reduceNeg, Int.reduceToNat, Nat.reduceAdd, Nat.reduceMul, Nat.reduceEqDiff, zw32_id, zw64_id, zupd_eq, zupd_na, zupd_ni, zupp_eq, zupp_na, zupp_ni, p139, p140, eq_true (show (i : Int) < 12 by omega)]
      exact n
  exact key 12 0 mm (by omega) (frP_rf _ mm) (fun k hk => by omega)
theorem tLoop (h : zLy sh pp) (hm : ∀ k, 0 ≤ k → k < 986 → mm 123 k = f k) (ok : fOk f) {a : Int} (hQ : ∀ mm' b, frP trF mm mm' → trR f (f 982).toNat b (fun k => mm' 140 k) → zS 226 115 [zR 122, zI a, zI b, zU, zU] [] sh pp mm' Q) : zS 226 38 [zR 122, zI a, zI (-1), zI 0, zU] [] sh pp mm Q := by
  have k122 := k_122 h
  have k123 := k_123 h
  have l123 := l_123 h
  have p123 := p_122_0 h
  have k138 := k_138 h
  have l138 := l_138 h
  have p138 := p_122_31 h
  have l := nE_le ok
  have t0 : 0 < 2 ^ nE f := Nat.pow_pos (by omega)
  have c0 := ok.2.2.2.1.1
  have c1 := ok.2.2.2.1.2.1
  obtain ⟨K, hK⟩ : ∃ K : Nat, f 982 = (K : Int) := ⟨(f 982).toNat, by omega⟩
  have key : ∀ (d i : Nat) (m1 : zMm) (b : Int), i + d = K → frP trF mm m1 → trR f i b (fun k => m1 140 k) → zS 226 38 [zR 122, zI a, zI b, zI i, zU] [] sh pp m1 Q := by
    intro d
    induction d with
    | zero =>
      intro i m1 b hi hf hr
      have hm1 : ∀ k, 0 ≤ k → k < 986 → m1 123 k = f k := fun k a b => by rw [hf 123 k (by unfold trF; omega)]; exact hm k a b
      have e8 := hm1 982 (by decide) (by decide)
      rw [hK] at e8
      have hi : i = K := by omega
      subst hi
      have q := hQ m1 b hf (by rw [hK, Int.toNat_natCast]; exact hr)
      rw [rM_trail_38]
      simp (disch := first | assumption | omega) only [rM_trail_39, rM_trail_40, rM_trail_41, rM_trail_44, rM_many_0, rM_many_1, rM_many_4, rM_many_7, rM_many_8, rM_many_9, rM_many_10, Bool.false_eq_true, true_implies, false_implies, implies_true, true_and, and_true, not_true_eq_false, not_false_eq_true, zPush_I, zPush_L, zPush_R, zPush_U, Int.reduceLT, Int.reduceLE, Int.reduceEq, Int.reduceNe, Int.reduceAdd, Int.reduceSub, Int.reduceMul, Int.reduceNeg, Int.reduceToNat, Nat.reduceAdd, Nat.reduceMul, Nat.reduceEqDiff, zw32_id, zw64_id, zupd_eq, zupd_na, zupd_ni, zupp_eq, zupp_na, zupp_ni, p123, e8, Int.lt_irrefl]
      exact q
    | succ d ih =>
      intro i m1 b hi hf hr
      have hm1 : ∀ k, 0 ≤ k → k < 986 → m1 123 k = f k := fun k a b => by rw [hf 123 k (by unfold trF; omega)]; exact hm k a b
      have e8 := hm1 982 (by decide) (by decide)
      rw [hK] at e8
      have lt : (i : Int) < (K : Int) := by omega
      have i10 : i < 10 := by omega
      have back : ∀ m2 b', frP trF mm m2 → trR f (i + 1) b' (fun k => m2 140 k) → zS 226 109 [zR 122, zI a, zI b', zI i, zU] [] sh pp m2 Q := by
        intro m2 b' a1 a2
        have n := ih (i + 1) m2 b' (by omega) a1 a2
        rw [show ((i + 1 : Nat) : Int) = (i : Int) + 1 by omega] at n
        simp (disch := first | assumption | omega) only [rM_trail_109, rM_trail_112, Bool.false_eq_true, true_implies, false_implies, implies_true, true_and, and_true, not_true_eq_false, not_false_eq_true, zPush_I, zPush_L, zPush_R, zPush_U, Int.reduceLT, Int.reduceLE, Int.reduceEq, Int.reduceNe, Int.reduceAdd, Int.reduceSub, Int.reduceMul, Int.reduceNeg, Int.reduceToNat, Nat.reduceAdd, Nat.reduceMul, Nat.reduceEqDiff, zw32_id, zw64_id, zupd_eq, zupd_na, zupd_ni, zupp_eq, zupp_na, zupp_ni]
        exact n
      rw [rM_trail_38]
      simp (disch := first | assumption | omega) only [rM_trail_39, rM_trail_40, rM_trail_41, rM_trail_44, rM_trail_47, rM_trail_48, rM_trail_49, rM_many_0, rM_many_1, rM_many_4, rM_many_7, rM_many_8, rM_many_9, rM_many_10, Bool.false_eq_true, true_implies, false_implies, implies_true, true_and, and_true, not_true_eq_false, not_false_eq_true, zPush_I, zPush_L, zPush_R, zPush_U, Int.reduceLT, Int.reduceLE, Int.reduceEq, Int.reduceNe, Int.reduceAdd, Int.reduceSub, Int.reduceMul, Int.reduceNeg, Int.reduceToNat, Nat.reduceAdd, Nat.reduceMul, Nat.reduceEqDiff, zw32_id, zw64_id, zupd_eq, zupd_na, zupd_ni, zupp_eq, zupp_na, zupp_ni, p123, e8, eq_true lt]
      apply mFindEnds h hm1 ok i10
      intro m2 hf2 he
      have hf2' : frP trF mm m2 := frP_tr hf (frP_wd hf2 (fun x j y => by unfold enF at y; unfold trF; omega))
      have hm2 : ∀ k, 0 ≤ k → k < 986 → m2 123 k = f k := fun k a b => by rw [hf2' 123 k (by unfold trF; omega)]; exact hm k a b
      have eb2 : ∀ k, m2 140 k = m1 140 k := fun k => hf2 140 k (by unfold enF; omega)
      have hr2 : trR f i b (fun k => m2 140 k) := trR_ext hr (fun k _ => eb2 k)
      obtain ⟨-, u1, u2⟩ := he 0 (Nat.le_refl 0) t0
      simp only [Int.cast_ofNat_Int] at u1 u2
      rcases u1 with u | u
      · have nc : ¬ cP f i 0 := by rw [← u2, u]; decide
        simp (disch := first | assumption | omega) only [rM_trail_52, rM_trail_53, rM_trail_56, rM_trail_57, rM_trail_58, Bool.false_eq_true, true_implies, false_implies, implies_true, true_and, and_true, not_true_eq_false, not_false_eq_true, zPush_I, zPush_L, zPush_R, zPush_U, Int.reduceLT, Int.reduceLE, Int.reduceEq, Int.reduceNe, Int.reduceAdd, Int.reduceSub, Int.reduceMul, Int.reduceNeg, Int.reduceToNat, Nat.reduceAdd, Nat.reduceMul, Nat.reduceEqDiff, zw32_id, zw64_id, zupd_eq, zupd_na, zupd_ni, zupp_eq, zupp_na, zupp_ni, p138, u]
        exact back m2 b hf2' (trR_skip hr2 nc)
      · have nc : cP f i 0 := u2.mp u
        simp (disch := first | assumption | omega) only [rM_trail_52, rM_trail_53, rM_trail_56, rM_trail_57, rM_trail_58, rM_trail_61, rM_trail_62, Bool.false_eq_true, true_implies, false_implies, implies_true, true_and, and_true, not_true_eq_false, not_false_eq_true, zPush_I, zPush_L, zPush_R, zPush_U, Int.reduceLT, Int.reduceLE, Int.reduceEq, Int.reduceNe, Int.reduceAdd, Int.reduceSub, Int.reduceMul, Int.reduceNeg, Int.reduceToNat, Nat.reduceAdd, Nat.reduceMul, Nat.reduceEqDiff, zw32_id, zw64_id, zupd_eq, zupd_na, zupd_ni, zupp_eq, zupp_na, zupp_ni, p138, u]
        apply mLayLine h hm2 ok i10 he nc
        intro m3 hf3 ⟨S, hl⟩
        have hf3' : frP trF mm m3 := frP_tr hf2' (frP_wd hf3 (fun x j y => by unfold lnF at y; unfold trF; omega))
        have hm3 : ∀ k, 0 ≤ k → k < 986 → m3 123 k = f k := fun k a b => by rw [hf3' 123 k (by unfold trF; omega)]; exact hm k a b
        have hr3 : trR f i b (fun k => m3 140 k) := trR_ext hr2 (fun k _ => hf3 140 k (by unfold lnF; omega))
        have take : (b = -1 ∨ lxL (fun k => m3 139 k) (fun k => m3 140 k) (nE f)) → zS 226 77 [zR 122, zI a, zU, zI i, zU] [] sh pp m3 Q := by
          intro hn
          have r := trR_new hr3 nc hl hn
          simp (disch := first | assumption | omega) only [rM_trail_77, rM_trail_78, rM_trail_79, rM_trail_80, Bool.false_eq_true, true_implies, false_implies, implies_true, true_and, and_true, not_true_eq_false, not_false_eq_true, zPush_I, zPush_L, zPush_R, zPush_U, Int.reduceLT, Int.reduceLE, Int.reduceEq, Int.reduceNe, Int.reduceAdd, Int.reduceSub, Int.reduceMul, Int.reduceNeg, Int.reduceToNat, Nat.reduceAdd, Nat.reduceMul, Nat.reduceEqDiff, zw32_id, zw64_id, zupd_eq, zupd_na, zupd_ni, zupp_eq, zupp_na, zupp_ni]
          apply tCopy h
          intro m4 hf4 hk
          exact back m4 i (frP_tr hf3' (frP_wd hf4 (fun x j y => by unfold blF at y; unfold trF; omega))) (trR_ext r (fun k hk2 => hk k (by omega)))
        by_cases b1 : b = -1
        · simp (disch := first | assumption | omega) only [rM_trail_65, rM_trail_66, rM_trail_67, Bool.false_eq_true, true_implies, false_implies, implies_true, true_and, and_true, not_true_eq_false, not_false_eq_true, zPush_I, zPush_L, zPush_R, zPush_U, Int.reduceLT, Int.reduceLE, Int.reduceEq, Int.reduceNe, Int.reduceAdd, Int.reduceSub, Int.reduceMul, Int.reduceNeg, Int.reduceToNat, Nat.reduceAdd, Nat.reduceMul, Nat.reduceEqDiff, zw32_id, zw64_id, zupd_eq, zupd_na, zupd_ni, zupp_eq, zupp_na, zupp_ni, eq_true b1]
          exact take (Or.inl b1)
        · simp (disch := first | assumption | omega) only [rM_trail_65, rM_trail_66, rM_trail_67, rM_trail_70, rM_trail_71, Bool.false_eq_true, true_implies, false_implies, implies_true, true_and, and_true, not_true_eq_false, not_false_eq_true, zPush_I, zPush_L, zPush_R, zPush_U, Int.reduceLT, Int.reduceLE, Int.reduceEq, Int.reduceNe, Int.reduceAdd, Int.reduceSub, Int.reduceMul, Int.reduceNeg, Int.reduceToNat, Nat.reduceAdd, Nat.reduceMul, Nat.reduceEqDiff, zw32_id, zw64_id, zupd_eq, zupd_na, zupd_ni, zupp_eq, zupp_na, zupp_ni, eq_false b1]
          apply mLess h hm3 ok
          · intro x
            simp (disch := first | assumption | omega) only [rM_trail_74, Bool.false_eq_true, true_implies, false_implies, implies_true, true_and, and_true, not_true_eq_false, not_false_eq_true, zPush_I, zPush_L, zPush_R, zPush_U, Int.reduceLT, Int.reduceLE, Int.reduceEq, Int.reduceNe, Int.reduceAdd, Int.reduceSub, Int.reduceMul, Int.reduceNeg, Int.reduceToNat, Nat.reduceAdd, Nat.reduceMul, Nat.reduceEqDiff, zw32_id, zw64_id, zupd_eq, zupd_na, zupd_ni, zupp_eq, zupp_na, zupp_ni]
            exact take (Or.inr x)
          · intro x
            simp (disch := first | assumption | omega) only [rM_trail_74, Bool.false_eq_true, true_implies, false_implies, implies_true, true_and, and_true, not_true_eq_false, not_false_eq_true, zPush_I, zPush_L, zPush_R, zPush_U, Int.reduceLT, Int.reduceLE, Int.reduceEq, Int.reduceNe, Int.reduceAdd, Int.reduceSub, Int.reduceMul, Int.reduceNeg, Int.reduceToNat, Nat.reduceAdd, Nat.reduceMul, Nat.reduceEqDiff, zw32_id, zw64_id, zupd_eq, zupd_na, zupd_ni, zupp_eq, zupp_na, zupp_ni]
            apply back m3 b hf3'
            rcases hr3 with y | ⟨c, hc, y⟩
            · exact absurd y.1 b1
            · rw [hc]
              exact trR_keep (Or.inr ⟨c, rfl, y⟩) hl x
  exact key K 0 mm (-1) (by omega) (frP_rf _ mm) (Or.inl ⟨rfl, fun c hc => by omega⟩)
end
