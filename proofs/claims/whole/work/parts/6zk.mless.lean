/-! ===== nets of the reference: which line is less ===== -/
def lxL (g g' : Int → Int) (n : Nat) : Prop := ∃ k : Nat, k < n ∧ g (k : Int) < g' (k : Int) ∧ ∀ j : Nat, j < k → g (j : Int) = g' (j : Int)
def lxE (g g' : Int → Int) (n : Nat) : Prop := ∀ k : Nat, k < n → g (k : Int) = g' (k : Int)
theorem lx_tri (a b : Int → Int) : ∀ n, lxL a b n ∨ lxL b a n ∨ lxE a b n
  | 0 => Or.inr (Or.inr (fun k hk => by omega))
  | n + 1 => by
    rcases lx_tri a b n with ⟨k, h1, h2, h3⟩ | ⟨k, h1, h2, h3⟩ | h
    · exact Or.inl ⟨k, by omega, h2, h3⟩
    · exact Or.inr (Or.inl ⟨k, by omega, h2, h3⟩)
    · by_cases e : a (n : Int) = b (n : Int)
      · refine Or.inr (Or.inr (fun k hk => ?_))
        by_cases ek : k = n
        · subst ek; exact e
        · exact h k (by omega)
      · by_cases l : a (n : Int) < b (n : Int)
        · exact Or.inl ⟨n, by omega, l, fun j hj => h j hj⟩
        · exact Or.inr (Or.inl ⟨n, by omega, by omega, fun j hj => (h j hj).symm⟩)
theorem lx_asym {a b : Int → Int} {n : Nat} (h : lxL a b n) : ¬ lxL b a n := by
  obtain ⟨k, h1, h2, h3⟩ := h
  intro ⟨m, m1, m2, m3⟩
  by_cases e : k = m
  · subst e; omega
  by_cases l : k < m
  · have := m3 k l; omega
  · have := h3 m (by omega); omega
theorem lx_irr {a b : Int → Int} {n : Nat} (h : lxE a b n) : ¬ lxL a b n := by
  intro ⟨k, h1, h2, _⟩
  have := h k h1
  omega
theorem lx_trans {a b c : Int → Int} {n : Nat} (h : lxL a b n) (h' : lxL b c n) : lxL a c n := by
  obtain ⟨k, h1, h2, h3⟩ := h
  obtain ⟨m, m1, m2, m3⟩ := h'
  by_cases l : k ≤ m
  · refine ⟨k, h1, ?_, fun j hj => (h3 j hj).trans (m3 j (by omega))⟩
    by_cases e : k = m
    · subst e; omega
    · have := m3 k (by omega); omega
  · refine ⟨m, m1, ?_, fun j hj => (h3 j (by omega)).trans (m3 j hj)⟩
    have := h3 m (by omega)
    omega
theorem lx_er {a b c : Int → Int} {n : Nat} (h : lxL a b n) (h' : lxE b c n) : lxL a c n := by
  obtain ⟨k, h1, h2, h3⟩ := h
  exact ⟨k, h1, by rw [← h' k h1]; exact h2, fun j hj => (h3 j hj).trans (h' j (by omega))⟩
theorem lx_el {a b c : Int → Int} {n : Nat} (h' : lxE a b n) (h : lxL b c n) : lxL a c n := by
  obtain ⟨k, h1, h2, h3⟩ := h
  exact ⟨k, h1, by rw [h' k h1]; exact h2, fun j hj => (h' j (by omega)).trans (h3 j hj)⟩
theorem lx_le {a b c : Int → Int} {n : Nat} (h : lxL a b n) (h' : ¬ lxL c b n) : lxL a c n := by
  rcases lx_tri b c n with x | x | x
  · exact lx_trans h x
  · exact absurd x h'
  · exact lx_er h x
theorem lxE_sym {a b : Int → Int} {n : Nat} (h : lxE a b n) : lxE b a n := fun k hk => (h k hk).symm
theorem lsE_uq {f : Int → Int} {c S e e' : Nat} (h : lsE f c S e) (h' : lsE f c S e') : e = e' := by
  by_cases l : e < e'
  · exact absurd h.1 (h'.2 e l)
  · by_cases l2 : e' < e
    · exact absurd h'.1 (h.2 e' l2)
    · omega
theorem lnR_uq {f : Int → Int} {c : Nat} {g g' : Int → Int} : ∀ {n S S' : Nat}, lnR f c g n S → lnR f c g' n S' → S = S' ∧ lxE g g' n
  | 0, S, S', h, h' => by
    have h : S = 0 := h
    have h' : S' = 0 := h'
    exact ⟨by omega, fun k hk => by omega⟩
  | n + 1, S, S', ⟨T, e, h1, h2, h3, h4⟩, ⟨T', e', h1', h2', h3', h4'⟩ => by
    obtain ⟨i1, i2⟩ := lnR_uq h1 h1'
    subst i1
    have ee := lsE_uq h3 h3'
    subst ee
    refine ⟨by rw [h4, h4'], fun k hk => ?_⟩
    by_cases ek : k = n
    · subst ek; rw [h2, h2']
    · exact i2 k (by omega)
section
variable {sh : zSh} {pp : zPp} {mm : zMm} {Q : zV → zSh → zPp → zMm → Prop} {f : Int → Int} {G : Int → Option (Int → Int)} {cn : Int → Int} {N D : Nat}
theorem mLess (h : zLy sh pp) (hm : ∀ k, 0 ≤ k → k < 986 → mm 123 k = f k) (ok : fOk f) (hQ1 : lxL (fun k => mm 139 k) (fun k => mm 140 k) (nE f) → Q (zI 1) sh pp mm) (hQ0 : ¬ lxL (fun k => mm 139 k) (fun k => mm 140 k) (nE f) → Q (zI 0) sh pp mm) : zS 225 0 [zR 122, zU] [] sh pp mm Q := by
  have k122 := k_122 h
  have k123 := k_123 h
  have l123 := l_123 h
  have p123 := p_122_0 h
  have k139 := k_139 h
  have l139 := l_139 h
  have p139 := p_122_32 h
  have k140 := k_140 h
  have l140 := l_140 h
  have p140 := p_122_33 h
  have l := nE_le ok
  have e9 := hm 983 (by decide) (by decide)
  rw [nE_eq ok] at e9
  have key : ∀ (d i : Nat), i + d = nE f → lxE (fun k => mm 139 k) (fun k => mm 140 k) i → zS 225 2 [zR 122, zI i] [] sh pp mm Q := by
    intro d
    induction d with
    | zero =>
      intro i hi he
      have hi : i = nE f := by omega
      subst hi
      have q := hQ0 (lx_irr he)
      rw [rM_isLineLess_2]
      simp (disch := first | assumption | omega) only [rM_isLineLess_3, rM_isLineLess_4, rM_isLineLess_5, rM_isLineLess_8, rM_isLineLess_53, rM_isLineLess_54, rM_many_0, rM_many_1, rM_many_4, rM_many_7, rM_many_8, rM_many_9, rM_many_10, Bool.false_eq_true, true_implies, false_implies, implies_true, true_and, and_true, not_true_eq_false, not_false_eq_true, zPush_I, zPush_L, zPush_R, zPush_U, Int.reduceLT, Int.reduceLE, Int.reduceEq, Int.reduceNe, Int.reduceAdd, Int.reduceSub, Int.reduceMul, Int.reduceNeg, Int.reduceToNat, Nat.reduceAdd, Nat.reduceMul, Nat.reduceEqDiff, zw32_id, zw64_id, zupd_eq, zupd_na, zupd_ni, zupp_eq, zupp_na, zupp_ni, p123, e9, Int.lt_irrefl, true_or]
      exact q
    | succ d ih =>
      intro i hi he
      have lt : (i : Int) < (nE f : Int) := by omega
      rw [rM_isLineLess_2]
      by_cases e : mm 139 i = mm 140 i
      · have n := ih (i + 1) (by omega) (fun k hk => by
          by_cases ek : k = i
          · subst ek; exact e
          · exact he k (by omega))
        rw [show ((i + 1 : Nat) : Int) = (i : Int) + 1 by omega] at n
        simp (disch := first | assumption | omega) only [rM_isLineLess_3, rM_isLineLess_4, rM_isLineLess_5, rM_isLineLess_8, rM_isLineLess_11, rM_isLineLess_12, rM_isLineLess_15, rM_isLineLess_16, rM_isLineLess_17, rM_isLineLess_18, rM_isLineLess_21, rM_isLineLess_22, rM_isLineLess_23, rM_isLineLess_47, rM_isLineLess_50, rM_many_0, rM_many_1, rM_many_4, rM_many_7, rM_many_8, rM_many_9, rM_many_10, Bool.false_eq_true, true_implies, false_implies, implies_true, true_and, and_true, not_true_eq_false, not_false_eq_true, zPush_I, zPush_L, zPush_R, zPush_U, Int.reduceLT, Int.reduceLE, Int.reduceEq, Int.reduceNe, Int.reduceAdd, Int.reduceSub, Int.reduceMul, Int.reduceNeg, Int.reduceToNat, Nat.reduceAdd, Nat.reduceMul, Nat.reduceEqDiff, zw32_id, zw64_id, zupd_eq, zupd_na, zupd_ni, zupp_eq, zupp_na, zupp_ni, p123, p139, p140, e9, eq_true lt, eq_true e]
        exact n
      · by_cases x : mm 139 i < mm 140 i
        · have q := hQ1 ⟨i, by omega, x, he⟩
          simp (disch := first | assumption | omega) only [rM_isLineLess_3, rM_isLineLess_4, rM_isLineLess_5, rM_isLineLess_8, rM_isLineLess_11, rM_isLineLess_12, rM_isLineLess_15, rM_isLineLess_16, rM_isLineLess_17, rM_isLineLess_18, rM_isLineLess_21, rM_isLineLess_22, rM_isLineLess_23, rM_isLineLess_26, rM_isLineLess_27, rM_isLineLess_30, rM_isLineLess_31, rM_isLineLess_32, rM_isLineLess_33, rM_isLineLess_36, rM_isLineLess_37, rM_isLineLess_38, rM_isLineLess_41, rM_isLineLess_42, rM_isLineLess_45, rM_isLineLess_46, rM_many_0, rM_many_1, rM_many_4, rM_many_7, rM_many_8, rM_many_9, rM_many_10, Bool.false_eq_true, true_implies, false_implies, implies_true, true_and, and_true, not_true_eq_false, not_false_eq_true, zPush_I, zPush_L, zPush_R, zPush_U, Int.reduceLT, Int.reduceLE, Int.reduceEq, Int.reduceNe, Int.reduceAdd, Int.reduceSub, Int.reduceMul, Int.reduceNeg, Int.reduceToNat, Nat.reduceAdd, Nat.reduceMul, Nat.reduceEqDiff, zw32_id, zw64_id, zupd_eq, zupd_na, zupd_ni, zupp_eq, zupp_na, zupp_ni, p123, p139, p140, e9, eq_true lt, eq_false e, eq_true x, or_true]
          exact q
        · have q := hQ0 (lx_asym ⟨i, by omega, by show mm 140 i < mm 139 i; omega, fun j hj => (he j hj).symm⟩)
          simp (disch := first | assumption | omega) only [rM_isLineLess_3, rM_isLineLess_4, rM_isLineLess_5, rM_isLineLess_8, rM_isLineLess_11, rM_isLineLess_12, rM_isLineLess_15, rM_isLineLess_16, rM_isLineLess_17, rM_isLineLess_18, rM_isLineLess_21, rM_isLineLess_22, rM_isLineLess_23, rM_isLineLess_26, rM_isLineLess_27, rM_isLineLess_30, rM_isLineLess_31, rM_isLineLess_32, rM_isLineLess_33, rM_isLineLess_36, rM_isLineLess_37, rM_isLineLess_38, rM_isLineLess_41, rM_isLineLess_42, rM_isLineLess_45, rM_isLineLess_46, rM_many_0, rM_many_1, rM_many_4, rM_many_7, rM_many_8, rM_many_9, rM_many_10, Bool.false_eq_true, true_implies, false_implies, implies_true, true_and, and_true, not_true_eq_false, not_false_eq_true, zPush_I, zPush_L, zPush_R, zPush_U, Int.reduceLT, Int.reduceLE, Int.reduceEq, Int.reduceNe, Int.reduceAdd, Int.reduceSub, Int.reduceMul, Int.reduceNeg, Int.reduceToNat, Nat.reduceAdd, Nat.reduceMul, Nat.reduceEqDiff, zw32_id, zw64_id, zupd_eq, zupd_na, zupd_ni, zupp_eq, zupp_na, zupp_ni, p123, p139, p140, e9, eq_true lt, eq_false e, eq_false x, true_or]
          exact q
  simp (disch := first | assumption | omega) only [rM_isLineLess_0, rM_isLineLess_1, Bool.false_eq_true, true_implies, false_implies, implies_true, true_and, and_true, not_true_eq_false, not_false_eq_true, zPush_I, zPush_L, zPush_R, zPush_U, Int.reduceLT, Int.reduceLE, Int.reduceEq, Int.reduceNe, Int.reduceAdd, Int.reduceSub, Int.reduceMul, Int.reduceNeg, Int.reduceToNat, Nat.reduceAdd, Nat.reduceMul, Nat.reduceEqDiff, zw32_id, zw64_id, zupd_eq, zupd_na, zupd_ni, zupp_eq, zupp_na, zupp_ni]
  exact key (nE f) 0 (by omega) (fun k hk => by omega)
end
