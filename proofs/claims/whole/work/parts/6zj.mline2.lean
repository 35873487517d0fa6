/-! ===== nets of the reference: the first line, outer loop ===== -/
theorem lnR_ext {f : Int → Int} {c : Nat} {g g' : Int → Int} : ∀ {n S : Nat}, (∀ k : Nat, k < n → g' (k : Int) = g (k : Int)) → lnR f c g n S → lnR f c g' n S
  | 0, _, _, h => h
  | n + 1, S, hg, ⟨T, e, h1, h2, h3, h4⟩ => ⟨T, e, lnR_ext (fun k hk => hg k (by omega)) h1, by rw [hg n (by omega)]; exact h2, h3, h4⟩
theorem lnR_pc {f : Int → Int} {c : Nat} {g : Int → Int} : ∀ {n S : Nat}, lnR f c g n S → S < 2 ^ nE f ∧ pcN S (nE f) = n
  | 0, S, h => by
    have h : S = 0 := h
    subst h
    refine ⟨Nat.pow_pos (by omega), ?_⟩
    have : ∀ n, pcN 0 n = 0 := by
      intro n
      induction n with
      | zero => rfl
      | succ n ih => unfold pcN; rw [ih]; simp
    exact this _
  | n + 1, S, ⟨T, e, h1, h2, h3, h4⟩ => by
    have i := lnR_pc h1
    subst h4
    refine ⟨Nat.or_lt_two_pow i.1 (Nat.pow_lt_pow_right (by omega) h3.1.1), ?_⟩
    rw [pcN_or h3.1.2.1, i.2, if_pos h3.1.1]
theorem lnR_cP {f : Int → Int} {c : Nat} {g : Int → Int} (h0 : cP f c 0) : ∀ {n S : Nat}, lnR f c g n S → cP f c S
  | 0, S, h => by
    have h : S = 0 := h
    subst h
    exact h0
  | n + 1, S, ⟨T, e, h1, h2, h3, h4⟩ => by
    subst h4
    exact h3.1.2.2.2
section
variable {sh : zSh} {pp : zPp} {mm : zMm} {Q : zV → zSh → zPp → zMm → Prop} {f : Int → Int} {G : Int → Option (Int → Int)} {cn : Int → Int} {N D : Nat}
theorem mLayLine (h : zLy sh pp) (hm : ∀ k, 0 ≤ k → k < 986 → mm 123 k = f k) (ok : fOk f) {c : Nat} (hc : c < 10) (he : enOk f c 0 mm) (h0 : cP f c 0) (hQ : ∀ mm', frP lnF mm mm' → (∃ S, lnR f c (fun k => mm' 139 k) (nE f) S) → Q zU sh pp mm') : zS 224 0 [zR 122, zU, zU, zU] [] sh pp mm Q := by
  have k122 := k_122 h
  have k123 := k_123 h
  have l123 := l_123 h
  have p123 := p_122_0 h
  have k139 := k_139 h
  have l139 := l_139 h
  have p139 := p_122_32 h
  have l := nE_le ok
  have t : 2 ^ nE f ≤ 4096 := by simpa using Nat.pow_le_pow_right (n := 2) (by omega) l
  have key : ∀ (d i : Nat) (m1 : zMm) (S : Nat), i + d = nE f → frP lnF mm m1 → lnR f c (fun k => m1 139 k) i S → zS 224 4 [zR 122, zI S, zI i, zU] [] sh pp m1 Q := by
    intro d
    induction d with
    | zero =>
      intro i m1 S hi hf hr
      have hm1 : ∀ k, 0 ≤ k → k < 986 → m1 123 k = f k := fun k a b => by rw [hf 123 k (by unfold lnF; omega)]; exact hm k a b
      have e9 := hm1 983 (by decide) (by decide)
      rw [nE_eq ok] at e9
      have hi : i = nE f := by omega
      subst hi
      have q := hQ m1 hf ⟨S, hr⟩
      rw [rM_layLine_4]
      simp (disch := first | assumption | omega) only [rM_layLine_5, rM_layLine_6, rM_layLine_7, rM_layLine_10, rM_layLine_77, rM_many_0, rM_many_1, rM_many_4, rM_many_7, rM_many_8, rM_many_9, rM_many_10, Bool.false_eq_true, true_implies, false_implies, implies_true, true_and, and_true, not_true_eq_false, not_false_eq_true, zPush_I, zPush_L, zPush_R, zPush_U, Int.reduceLT, Int.reduceLE, Int.reduceEq, Int.reduceNe, Int.reduceAdd, Int.reduceSub, Int.reduceMul, Int.reduceNeg, Int.reduceToNat, Nat.reduceAdd, Nat.reduceMul, Nat.reduceEqDiff, zw32_id, zw64_id, zupd_eq, zupd_na, zupd_ni, zupp_eq, zupp_na, zupp_ni, p123, e9, Int.lt_irrefl]
      exact q
    | succ d ih =>
      intro i m1 S hi hf hr
      have hm1 : ∀ k, 0 ≤ k → k < 986 → m1 123 k = f k := fun k a b => by rw [hf 123 k (by unfold lnF; omega)]; exact hm k a b
      have he1 : enOk f c 0 m1 := fun T a b => by
        rw [hf 137 T (by unfold lnF; omega), hf 138 T (by unfold lnF; omega)]
        exact he T a b
      have e9 := hm1 983 (by decide) (by decide)
      rw [nE_eq ok] at e9
      have lt : (i : Int) < (nE f : Int) := by omega
      have pc := lnR_pc hr
      obtain ⟨e, hl⟩ := okE_ex ok hc pc.1 (by omega) (lnR_cP h0 hr)
      have ee := hl.1.1
      have p2 : 2 ^ e < 2 ^ nE f := Nat.pow_lt_pow_right (by omega) ee
      have x1 := zshl1 e (by omega)
      have x2 : zor (S : Int) ((2 ^ e : Nat) : Int) = ((S ||| 2 ^ e : Nat) : Int) := zorN (by omega) (by omega)
      have n := ih (i + 1) (zupd m1 139 i e) (S ||| 2 ^ e) (by omega) (frP_up hf rfl) ⟨S, e, lnR_ext (fun k hk => by
        show zupd m1 139 i e 139 k = m1 139 k
        rw [zupd_ni (by omega)]) hr, by
        show zupd m1 139 i e 139 i = e
        rw [zupd_eq], hl, rfl⟩
      rw [show ((i + 1 : Nat) : Int) = (i : Int) + 1 by omega] at n
      rw [rM_layLine_4]
      simp (disch := first | assumption | omega) only [rM_layLine_5, rM_layLine_6, rM_layLine_7, rM_layLine_10, rM_layLine_13, rM_layLine_14, rM_many_0, rM_many_1, rM_many_4, rM_many_7, rM_many_8, rM_many_9, rM_many_10, Bool.false_eq_true, true_implies, false_implies, implies_true, true_and, and_true, not_true_eq_false, not_false_eq_true, zPush_I, zPush_L, zPush_R, zPush_U, Int.reduceLT, Int.reduceLE, Int.reduceEq, Int.reduceNe, Int.reduceAdd, Int.reduceSub, Int.reduceMul, Int.reduceNeg, Int.reduceToNat, Nat.reduceAdd, Nat.reduceMul, Nat.reduceEqDiff, zw32_id, zw64_id, zupd_eq, zupd_na, zupd_ni, zupp_eq, zupp_na, zupp_ni, p123, e9, eq_true lt]
      refine lnIn h hm1 ok hc pc.1 he1 hl ?_ e 0 (by omega)
      simp (disch := first | assumption | omega) only [rM_layLine_58, rM_layLine_59, rM_layLine_62, rM_layLine_63, rM_layLine_64, rM_layLine_65, rM_layLine_66, rM_layLine_67, rM_layLine_68, rM_layLine_69, rM_layLine_70, rM_layLine_71, rM_layLine_74, Bool.false_eq_true, true_implies, false_implies, implies_true, true_and, and_true, not_true_eq_false, not_false_eq_true, zPush_I, zPush_L, zPush_R, zPush_U, Int.reduceLT, Int.reduceLE, Int.reduceEq, Int.reduceNe, Int.reduceAdd, Int.reduceSub, Int.reduceMul, Int.reduceNeg, Int.reduceToNat, Nat.reduceAdd, Nat.reduceMul, Nat.reduceEqDiff, zw32_id, zw64_id, zupd_eq, zupd_na, zupd_ni, zupp_eq, zupp_na, zupp_ni, p139, x1, x2]
      exact n
  simp (disch := first | assumption | omega) only [rM_layLine_0, rM_layLine_1, rM_layLine_2, rM_layLine_3, Bool.false_eq_true, true_implies, false_implies, implies_true, true_and, and_true, not_true_eq_false, not_false_eq_true, zPush_I, zPush_L, zPush_R, zPush_U, Int.reduceLT, Int.reduceLE, Int.reduceEq, Int.reduceNe, Int.reduceAdd, Int.reduceSub, Int.reduceMul, Int.reduceNeg, Int.reduceToNat, Nat.reduceAdd, Nat.reduceMul, Nat.reduceEqDiff, zw32_id, zw64_id, zupd_eq, zupd_na, zupd_ni, zupp_eq, zupp_na, zupp_ni]
  exact key (nE f) 0 mm 0 (by omega) (frP_rf _ mm) rfl
end
