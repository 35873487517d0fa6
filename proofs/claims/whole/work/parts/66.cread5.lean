/-! ===== the class reads a text ===== -/
def scrOk (s : Nat) (b : Int → Int) (len : Int) (mm : zMm) : Prop := mm s 4 = rd b len ∧ (rd b len = -1 → ∃ n : Nat, n ≤ 30 ∧ mm s 3 = (n : Int) ∧ tKd b len (ip b len n) = 0 ∧ dp b len n = 0 ∧ ∀ k : Nat, k < n → tKd b len (ip b len k) ≠ 0 ∧ iFt b len (ip b len k) (dp b len k) = -1 ∧ cItm s b len (ip b len k) (k : Int) mm)
def pRd (s : Nat) (x : Nat) (j : Int) : Prop := (x = s ∧ j = 8) ∨ x = s + 4 ∨ x = s + 5 ∨ x = s + 6
def pRw (s : Nat) (x : Nat) (_ : Int) : Prop := s ≤ x ∧ x ≤ s + 6
theorem iFt_bg {b : Int → Int} {len p o : Int} (h : iFt b len p o = -1) (hp : 0 ≤ p) : iBg (tKd b len p) o := by
  by_cases hb : iBg (tKd b len p) o
  · exact hb
  · rw [iFt_no hb] at h
    have := tAt_lo (b := b) (len := len) p
    omega
theorem dK_bg {k o : Int} (h : iBg k o) (h0 : 0 ≤ o) (h3 : o ≤ 3) : 0 ≤ o + dK k ∧ o + dK k ≤ 3 := by
  unfold iBg at h
  unfold dK
  split
  · omega
  · split <;> omega
section
variable {sh : zSh} {pp : zPp} {mm : zMm} {Q : zV → zSh → zPp → zMm → Prop} {s c t : Nat} {len : Int} {b : Int → Int}
theorem cTx_fr {mm' : zMm} {P : Nat → Int → Prop} (hx : cTx s c len b sh pp mm) (h : frP P mm mm') (h7 : ¬ P s 7) (hc : ∀ j, ¬ P c j) : cTx s c len b sh pp mm' := by
  obtain ⟨h1, h2, h3, h4, h5⟩ := hx
  exact ⟨h1, h2, by rw [h s 7 h7, h3], h4, fun k a d => by rw [h c k (hc k)]; exact h5 k a d⟩
theorem zCs_fr {mm' : zMm} {P : Nat → Int → Prop} (hcs : zCs sh pp mm) (h : frP P mm mm') (hP : ∀ x j, x < 13 → ¬ P x j) : zCs sh pp mm' := ⟨hcs.1, hcs.2.1, fun a h1 h2 i hi => by rw [h a i (hP a i (by omega))]; exact hcs.2.2 a h1 h2 i hi⟩
theorem cRd1 (hcs : zCs sh pp mm) (hL : scL sh pp s) (hx : cTx s c len b sh pp mm) (hz : ∀ (n : Nat) mm', n ≤ 120 → tKd b len (tp b len n) = 0 → (∀ j, j < n → tKd b len (tp b len j) ≠ 0) → cTks s b len (n + 1) mm' → frP (pRd s) mm mm' → zS 78 70 [zR s, zU, zU, zU] [] sh pp mm' Q) : ∀ (d i : Nat) (m : zMm), i + d = len.toNat → (i : Int) ≤ tp b len i → (∀ j, j < i → tKd b len (tp b len j) ≠ 0) → cTks s b len i m → m s 8 = tp b len i → frP (pRd s) mm m → zS 78 36 [zR s, zU, zI i, zU] [] sh pp m Q := by
  have hL' := hL
  obtain ⟨⟨ks, s13⟩, -, -, -, ⟨k4, l4, p4⟩, ⟨k5, l5, p5⟩, ⟨k6, l6, p6⟩⟩ := hL'
  have hlen : 0 ≤ len ∧ len ≤ 120 := hx.2.2.2.1
  have hcc := hx.2.1
  intro d
  induction d with
  | zero =>
    intro i m hid hit hne hT m8 hf
    have hx' := cTx_fr hx hf (by unfold pRd; omega) (by unfold pRd; omega)
    have hcs' := zCs_fr hcs hf (by unfold pRd; omega)
    have m7 := hx'.2.2.1
    have htp := tp_bd (b := b) hlen.1 i
    have h0 : tKd b len (tp b len i) = 0 := by
      rw [tKd_0]
      have := tAt_lo (b := b) (len := len) (tp b len i)
      omega
    have go : zS 79 0 [zR s, zI i, zU] [] sh pp m (fun v sh pp mm => zS 78 64 [zR s, zU, zI i, zU] (zPush v []) sh pp mm Q) := by
      refine cRt hcs' hL hx' (by omega) (by omega) htp.1 htp.2 m8 (fun m2 d8 d4 d5 d6 df => ?_)
      have hx2 := cTx_fr hx' df (by unfold pTk; omega) (by unfold pTk; omega)
      have m7' := hx2.2.2.1
      have f2 : frP (pRd s) mm m2 := frP_tr hf (frP_wd df (fun x j hj => by unfold pTk at hj; unfold pRd; omega))
      have z := hz i m2 (by omega) h0 hne (fun j hj => by
        by_cases e : j = i
        · subst e; exact ⟨d4, d5, d6⟩
        · have := hT j (by omega)
          rw [df (s + 4) j (by unfold pTk; omega), df (s + 5) j (by unfold pTk; omega), df (s + 6) j (by unfold pTk; omega)]
          exact this) f2
      simp (disch := first | assumption | omega) only [rC_read_64, rC_read_67, Bool.false_eq_true, true_implies, false_implies, implies_true, true_and, and_true, not_true_eq_false, not_false_eq_true, zPush_I, zPush_L, zPush_R, zPush_U, Int.reduceLT, Int.reduceLE, Int.reduceEq, Int.reduceNe, Int.reduceAdd, Int.reduceSub, Int.reduceMul, Int.reduceNeg, Int.reduceToNat, Nat.reduceAdd, Nat.reduceMul, Nat.reduceEqDiff, zw32_id, zw64_id, zupd_eq, zupd_na, zupd_ni, zupp_eq, zupp_na, zupp_ni]
      rw [rC_read_36]
      simp (disch := first | assumption | omega) only [rC_read_37, rC_read_38, rC_read_41, rC_read_44, rC_read_45, rC_read_48, rC_read_49, rC_read_52, rC_read_53, rC_read_54, rC_read_55, rC_read_56, Bool.false_eq_true, true_implies, false_implies, implies_true, true_and, and_true, not_true_eq_false, not_false_eq_true, zPush_I, zPush_L, zPush_R, zPush_U, Int.reduceLT, Int.reduceLE, Int.reduceEq, Int.reduceNe, Int.reduceAdd, Int.reduceSub, Int.reduceMul, Int.reduceNeg, Int.reduceToNat, Nat.reduceAdd, Nat.reduceMul, Nat.reduceEqDiff, zw32_id, zw64_id, zupd_eq, zupd_na, zupd_ni, zupp_eq, zupp_na, zupp_ni, m7', show len < (i : Int) + 1 by omega]
      exact z
    rw [rC_read_36]
    by_cases hi0 : i = 0
    · subst hi0
      simp only [Int.natCast_zero] at go ⊢
      simp (disch := first | assumption | omega) only [rC_read_37, rC_read_38, rC_read_41, rC_read_44, rC_read_45, rC_read_48, rC_read_49, rC_read_52, rC_read_53, rC_read_54, rC_read_55, rC_read_56, rC_read_59, rC_read_60, rC_read_61, Bool.false_eq_true, true_implies, false_implies, implies_true, true_and, and_true, not_true_eq_false, not_false_eq_true, zPush_I, zPush_L, zPush_R, zPush_U, Int.reduceLT, Int.reduceLE, Int.reduceEq, Int.reduceNe, Int.reduceAdd, Int.reduceSub, Int.reduceMul, Int.reduceNeg, Int.reduceToNat, Nat.reduceAdd, Nat.reduceMul, Nat.reduceEqDiff, zw32_id, zw64_id, zupd_eq, zupd_na, zupd_ni, zupp_eq, zupp_na, zupp_ni, m7, show ¬ len < 0 by omega]
      exact go
    · have ht := (hT (i - 1) (by omega)).1
      have hne' := hne (i - 1) (by omega)
      rw [show ((i - 1 : Nat) : Int) = (i : Int) - 1 by omega] at ht
      rw [← ht] at hne'
      simp (disch := first | assumption | omega) only [rC_read_37, rC_read_38, rC_read_41, rC_read_44, rC_read_45, rC_read_48, rC_read_49, rC_read_52, rC_read_53, rC_read_54, rC_read_55, rC_read_56, rC_read_59, rC_read_60, rC_read_61, Bool.false_eq_true, true_implies, false_implies, implies_true, true_and, and_true, not_true_eq_false, not_false_eq_true, zPush_I, zPush_L, zPush_R, zPush_U, Int.reduceLT, Int.reduceLE, Int.reduceEq, Int.reduceNe, Int.reduceAdd, Int.reduceSub, Int.reduceMul, Int.reduceNeg, Int.reduceToNat, Nat.reduceAdd, Nat.reduceMul, Nat.reduceEqDiff, zw32_id, zw64_id, zupd_eq, zupd_na, zupd_ni, zupp_eq, zupp_na, zupp_ni, m7, p4, show ¬ len < (i : Int) by omega, show ¬ (i : Int) = 0 by omega, hne']
      exact go
  | succ d ih =>
    intro i m hid hit hne hT m8 hf
    have hx' := cTx_fr hx hf (by unfold pRd; omega) (by unfold pRd; omega)
    have hcs' := zCs_fr hcs hf (by unfold pRd; omega)
    have m7 := hx'.2.2.1
    have htp := tp_bd (b := b) hlen.1 i
    have go : zS 79 0 [zR s, zI i, zU] [] sh pp m (fun v sh pp mm => zS 78 64 [zR s, zU, zI i, zU] (zPush v []) sh pp mm Q) := by
      refine cRt hcs' hL hx' (by omega) (by omega) htp.1 htp.2 m8 (fun m2 d8 d4 d5 d6 df => ?_)
      have hx2 := cTx_fr hx' df (by unfold pTk; omega) (by unfold pTk; omega)
      have m7' := hx2.2.2.1
      have f2 : frP (pRd s) mm m2 := frP_tr hf (frP_wd df (fun x j hj => by unfold pTk at hj; unfold pRd; omega))
      have T2 : cTks s b len (i + 1) m2 := fun j hj => by
        by_cases e : j = i
        · subst e; exact ⟨d4, d5, d6⟩
        · have := hT j (by omega)
          rw [df (s + 4) j (by unfold pTk; omega), df (s + 5) j (by unfold pTk; omega), df (s + 6) j (by unfold pTk; omega)]
          exact this
      simp (disch := first | assumption | omega) only [rC_read_64, rC_read_67, Bool.false_eq_true, true_implies, false_implies, implies_true, true_and, and_true, not_true_eq_false, not_false_eq_true, zPush_I, zPush_L, zPush_R, zPush_U, Int.reduceLT, Int.reduceLE, Int.reduceEq, Int.reduceNe, Int.reduceAdd, Int.reduceSub, Int.reduceMul, Int.reduceNeg, Int.reduceToNat, Nat.reduceAdd, Nat.reduceMul, Nat.reduceEqDiff, zw32_id, zw64_id, zupd_eq, zupd_na, zupd_ni, zupp_eq, zupp_na, zupp_ni]
      by_cases h0 : tKd b len (tp b len i) = 0
      · have z := hz i m2 (by omega) h0 hne T2 f2
        rw [rC_read_36]
        have ht := (T2 i (by omega)).1
        rw [h0] at ht
        simp (disch := first | assumption | omega) only [rC_read_37, rC_read_38, rC_read_41, rC_read_44, rC_read_45, rC_read_48, rC_read_49, rC_read_52, rC_read_53, rC_read_54, rC_read_55, rC_read_56, Bool.false_eq_true, true_implies, false_implies, implies_true, true_and, and_true, not_true_eq_false, not_false_eq_true, zPush_I, zPush_L, zPush_R, zPush_U, Int.reduceLT, Int.reduceLE, Int.reduceEq, Int.reduceNe, Int.reduceAdd, Int.reduceSub, Int.reduceMul, Int.reduceNeg, Int.reduceToNat, Nat.reduceAdd, Nat.reduceMul, Nat.reduceEqDiff, zw32_id, zw64_id, zupd_eq, zupd_na, zupd_ni, zupp_eq, zupp_na, zupp_ni, m7', p4, show ¬ len < (i : Int) + 1 by omega, show ¬ (i : Int) + 1 = 0 by omega, Int.add_sub_cancel, ht]
        exact z
      · have h1 := tEn_kd h0
        have h2 := tAt_lo (b := b) (len := len) (tp b len i)
        have h3 : tp b len (i + 1) = tEn b len (tp b len i) := rfl
        have := ih (i + 1) m2 (by omega) (by rw [h3]; push_cast; omega) (fun j hj => by
          by_cases e : j = i
          · subst e; exact h0
          · exact hne j (by omega)) T2 d8 f2
        push_cast at this
        exact this
    rw [rC_read_36]
    by_cases hi0 : i = 0
    · subst hi0
      simp only [Int.natCast_zero] at go ⊢
      simp (disch := first | assumption | omega) only [rC_read_37, rC_read_38, rC_read_41, rC_read_44, rC_read_45, rC_read_48, rC_read_49, rC_read_52, rC_read_53, rC_read_54, rC_read_55, rC_read_56, rC_read_59, rC_read_60, rC_read_61, Bool.false_eq_true, true_implies, false_implies, implies_true, true_and, and_true, not_true_eq_false, not_false_eq_true, zPush_I, zPush_L, zPush_R, zPush_U, Int.reduceLT, Int.reduceLE, Int.reduceEq, Int.reduceNe, Int.reduceAdd, Int.reduceSub, Int.reduceMul, Int.reduceNeg, Int.reduceToNat, Nat.reduceAdd, Nat.reduceMul, Nat.reduceEqDiff, zw32_id, zw64_id, zupd_eq, zupd_na, zupd_ni, zupp_eq, zupp_na, zupp_ni, m7, show ¬ len < 0 by omega]
      exact go
    · have ht := (hT (i - 1) (by omega)).1
      have hne' := hne (i - 1) (by omega)
      rw [show ((i - 1 : Nat) : Int) = (i : Int) - 1 by omega] at ht
      rw [← ht] at hne'
      simp (disch := first | assumption | omega) only [rC_read_37, rC_read_38, rC_read_41, rC_read_44, rC_read_45, rC_read_48, rC_read_49, rC_read_52, rC_read_53, rC_read_54, rC_read_55, rC_read_56, rC_read_59, rC_read_60, rC_read_61, Bool.false_eq_true, true_implies, false_implies, implies_true, true_and, and_true, not_true_eq_false, not_false_eq_true, zPush_I, zPush_L, zPush_R, zPush_U, Int.reduceLT, Int.reduceLE, Int.reduceEq, Int.reduceNe, Int.reduceAdd, Int.reduceSub, Int.reduceMul, Int.reduceNeg, Int.reduceToNat, Nat.reduceAdd, Nat.reduceMul, Nat.reduceEqDiff, zw32_id, zw64_id, zupd_eq, zupd_na, zupd_ni, zupp_eq, zupp_na, zupp_ni, m7, p4, show ¬ len < (i : Int) by omega, show ¬ (i : Int) = 0 by omega, hne']
      exact go
def rdI (s : Nat) (b : Int → Int) (len : Int) (n : Nat) (mm : zMm) (j i : Nat) (m : zMm) : Prop := i ≤ n ∧ tp b len i = ip b len j ∧ 4 * (j : Int) ≤ ip b len j ∧ m s 12 = (i : Int) ∧ m s 13 = dp b len j ∧ (0 ≤ dp b len j ∧ dp b len j ≤ 3) ∧ m s 3 = (j : Int) ∧ m s 4 = -1 ∧ rd b len = rdN b len (31 - j) (ip b len j) (dp b len j) ∧ (∀ k : Nat, k < j → tKd b len (ip b len k) ≠ 0 ∧ iFt b len (ip b len k) (dp b len k) = -1 ∧ cItm s b len (ip b len k) (k : Int) m) ∧ frP (fun x _ => s ≤ x ∧ x ≤ s + 3) mm m
theorem cRd2 (hL : scL sh pp s) {n : Nat} (hl : 0 ≤ len ∧ len ≤ 120) (hT : cTks s b len (n + 1) mm) (hn : tKd b len (tp b len n) = 0) (hne : ∀ j, j < n → tKd b len (tp b len j) ≠ 0) (n1 : n ≤ 120) (hQ : ∀ mm', scrOk s b len mm' → mm' s 5 = 1 → frP (pRw s) mm mm' → Q zU sh pp mm') : ∀ (d j i : Nat) (m : zMm), j + d = 31 → rdI s b len n mm j i m → zS 78 94 [zR s, zU, zI 1, zI j] [] sh pp m Q := by
  have ks := hL.1.1
  have fin : ∀ m (x : Int), scrOk s b len m → 0 ≤ x → x ≤ 31 → frP (fun x _ => s ≤ x ∧ x ≤ s + 3) mm m → zS 78 94 [zR s, zU, zI 0, zI x] [] sh pp m Q := by
    intro m x h1 h2 h3 h4
    have h5 : scrOk s b len (zupd m s 5 1) := by
      unfold scrOk cItm at *
      simp only [zupd_ni (show (4 : Int) ≠ 5 by decide), zupd_ni (show (3 : Int) ≠ 5 by decide), zupd_na (show s + 1 ≠ s by omega), zupd_na (show s + 2 ≠ s by omega), zupd_na (show s + 3 ≠ s by omega)]
      exact h1
    have h6 := hQ _ h5 (zupd_eq _ _ _ _) (frP_up (frP_wd h4 (fun x j hj => by unfold pRw; omega)) (by unfold pRw; omega))
    rw [rC_read_94]
    by_cases h7 : 30 < x
    · simp (disch := first | assumption | omega) only [rC_read_95, rC_read_97, rC_read_100, rC_read_101, rC_read_104, rC_read_105, rC_read_108, rC_read_109, rC_read_112, rC_read_115, rC_read_116, rC_read_117, rC_read_120, Bool.false_eq_true, true_implies, false_implies, implies_true, true_and, and_true, not_true_eq_false, not_false_eq_true, zPush_I, zPush_L, zPush_R, zPush_U, Int.reduceLT, Int.reduceLE, Int.reduceEq, Int.reduceNe, Int.reduceAdd, Int.reduceSub, Int.reduceMul, Int.reduceNeg, Int.reduceToNat, Nat.reduceAdd, Nat.reduceMul, Nat.reduceEqDiff, zw32_id, zw64_id, zupd_eq, zupd_na, zupd_ni, zupp_eq, zupp_na, zupp_ni, h7]
      exact h6
    · simp (disch := first | assumption | omega) only [rC_read_95, rC_read_97, rC_read_100, rC_read_101, rC_read_104, rC_read_105, rC_read_108, rC_read_109, rC_read_112, rC_read_115, rC_read_116, rC_read_117, rC_read_120, Bool.false_eq_true, true_implies, false_implies, implies_true, true_and, and_true, not_true_eq_false, not_false_eq_true, zPush_I, zPush_L, zPush_R, zPush_U, Int.reduceLT, Int.reduceLE, Int.reduceEq, Int.reduceNe, Int.reduceAdd, Int.reduceSub, Int.reduceMul, Int.reduceNeg, Int.reduceToNat, Nat.reduceAdd, Nat.reduceMul, Nat.reduceEqDiff, zw32_id, zw64_id, zupd_eq, zupd_na, zupd_ni, zupp_eq, zupp_na, zupp_ni, h7]
      exact h6
  intro d
  induction d with
  | zero =>
    intro j i m hj hI
    obtain ⟨h1, h2, h3, -⟩ := hI
    have := tp_bd (b := b) hl.1 i
    omega
  | succ d ih =>
    intro j i m hj hI
    obtain ⟨h1, h2, h3, h4, h5, h6, h7, h8, h9, h10, h11⟩ := hI
    have hb := tp_bd (b := b) hl.1 i
    have hr := rdN_s (b := b) (len := len) (30 - j) (ip b len j) (dp b len j)
    rw [show 30 - j + 1 = 31 - j by omega, ← h9] at hr
    have k30 : iFt b len (ip b len j) (dp b len j) = -1 → (j : Int) < 30 := fun hf => by
      have := iNx_4 hf (by omega)
      have := iNx_hi (b := b) (p := ip b len j) (len := len) (by omega)
      omega
    rw [rC_read_94]
    simp (disch := first | assumption | omega) only [rC_read_95, rC_read_97, rC_read_100, rC_read_101, rC_read_104, rC_read_105, Bool.false_eq_true, true_implies, false_implies, implies_true, true_and, and_true, not_true_eq_false, not_false_eq_true, zPush_I, zPush_L, zPush_R, zPush_U, Int.reduceLT, Int.reduceLE, Int.reduceEq, Int.reduceNe, Int.reduceAdd, Int.reduceSub, Int.reduceMul, Int.reduceNeg, Int.reduceToNat, Nat.reduceAdd, Nat.reduceMul, Nat.reduceEqDiff, zw32_id, zw64_id, zupd_eq, zupd_na, zupd_ni, zupp_eq, zupp_na, zupp_ni, show ¬ (30 : Int) < j by omega]
    refine cTakeItem hL (n := n) (i := i) (k := j) (o := dp b len j) (p := ip b len j) (cTks_fr hT (fun x hx jj => h11 x jj (by omega))) hn hne n1 h1 h2 (by omega) h4 h7 (by omega) k30 h5 h6.1 h6.2 (fun c1 c2 => ?_) (fun c1 c2 m2 c3 c4 => ?_) (fun c1 c2 m2 i2 c3 c4 c5 c6 c7 c8 c9 c10 => ?_)
    · rw [if_pos c1, if_pos c2] at hr
      simp (disch := first | assumption | omega) only [rC_read_108, rC_read_109, rC_read_112, Bool.false_eq_true, true_implies, false_implies, implies_true, true_and, and_true, not_true_eq_false, not_false_eq_true, zPush_I, zPush_L, zPush_R, zPush_U, Int.reduceLT, Int.reduceLE, Int.reduceEq, Int.reduceNe, Int.reduceAdd, Int.reduceSub, Int.reduceMul, Int.reduceNeg, Int.reduceToNat, Nat.reduceAdd, Nat.reduceMul, Nat.reduceEqDiff, zw32_id, zw64_id, zupd_eq, zupd_na, zupd_ni, zupp_eq, zupp_na, zupp_ni]
      refine fin m _ ⟨by rw [h8, hr], fun _ => ⟨j, by omega, h7, c1, c2, h10⟩⟩ (by omega) (by omega) h11
    · have hr2 : rd b len = iFt b len (ip b len j) (dp b len j) := by
        by_cases c5 : tKd b len (ip b len j) = 0
        · rw [if_pos c5, if_neg (by omega)] at hr
          rw [hr, iFt_no (by rw [c5]; unfold iBg; omega)]
        · rw [if_neg c5, if_pos c2] at hr
          exact hr
      simp (disch := first | assumption | omega) only [rC_read_108, rC_read_109, rC_read_112, Bool.false_eq_true, true_implies, false_implies, implies_true, true_and, and_true, not_true_eq_false, not_false_eq_true, zPush_I, zPush_L, zPush_R, zPush_U, Int.reduceLT, Int.reduceLE, Int.reduceEq, Int.reduceNe, Int.reduceAdd, Int.reduceSub, Int.reduceMul, Int.reduceNeg, Int.reduceToNat, Nat.reduceAdd, Nat.reduceMul, Nat.reduceEqDiff, zw32_id, zw64_id, zupd_eq, zupd_na, zupd_ni, zupp_eq, zupp_na, zupp_ni]
      refine fin m2 _ ⟨by rw [c3, hr2], fun hc => absurd hc (by rw [hr2]; exact c2)⟩ (by omega) (by omega) (frP_tr h11 (frP_wd c4 (fun x y hy => by unfold pIt at hy; omega)))
    · rw [if_neg c1, if_neg (fun hc => hc c2)] at hr
      have hbg := dK_bg (iFt_bg c2 (by omega)) h6.1 h6.2
      have h4n := iNx_4 c2 (by omega)
      simp (disch := first | assumption | omega) only [rC_read_108, rC_read_109, rC_read_112, Bool.false_eq_true, true_implies, false_implies, implies_true, true_and, and_true, not_true_eq_false, not_false_eq_true, zPush_I, zPush_L, zPush_R, zPush_U, Int.reduceLT, Int.reduceLE, Int.reduceEq, Int.reduceNe, Int.reduceAdd, Int.reduceSub, Int.reduceMul, Int.reduceNeg, Int.reduceToNat, Nat.reduceAdd, Nat.reduceMul, Nat.reduceEqDiff, zw32_id, zw64_id, zupd_eq, zupd_na, zupd_ni, zupp_eq, zupp_na, zupp_ni]
      have := ih (j + 1) i2 m2 (by omega) ⟨c3, c4, by show 4 * ((j + 1 : Nat) : Int) ≤ iNx b len (ip b len j); push_cast; omega, c5, c6, hbg, by rw [c7]; push_cast; rfl, by rw [c10, h8], by rw [show 31 - (j + 1) = 30 - j by omega]; exact hr, fun k hk => ?_, frP_tr h11 (frP_wd c9 (fun x y hy => by unfold pIt at hy; omega))⟩
      · push_cast at this
        exact this
      · by_cases e : k = j
        · subst e; exact ⟨c1, c2, c8⟩
        · obtain ⟨d1, d2, d3⟩ := h10 k (by omega)
          refine ⟨d1, d2, ?_⟩
          unfold cItm at *
          rw [c9 (s + 1) k (by unfold pIt; omega), c9 (s + 2) k (by unfold pIt; omega), c9 (s + 3) k (by unfold pIt; omega)]
          exact d3
theorem cRead (hcs : zCs sh pp mm) (hL : scL sh pp s) (kt : zKd sh t = 10) (pt : pp t 2 = c) (hc : zKd sh c = 20 ∧ zLn sh c = 120 ∧ c < s ∧ 13 ≤ c) (ts : t ≠ s) (mt : mm t 3 = len) (hl : 0 ≤ len ∧ len ≤ 120) (hb : ∀ k, 0 ≤ k → k < len → mm c k = b k ∧ 0 ≤ b k ∧ b k ≤ 255) (m5 : mm s 5 = 0) (hQ : ∀ mm', scrOk s b len mm' → mm' s 5 = 1 → frP (pRw s) mm mm' → Q zU sh (zupp pp s 6 c) mm') : zS 78 0 [zR s, zR t, zU, zU] [] sh pp mm Q := by
  have hL' : scL sh (zupp pp s 6 c) s := by
    unfold scL at *
    simp only [zupp_ni (show (0 : Int) ≠ 6 by decide), zupp_ni (show (1 : Int) ≠ 6 by decide), zupp_ni (show (2 : Int) ≠ 6 by decide), zupp_ni (show (9 : Int) ≠ 6 by decide), zupp_ni (show (10 : Int) ≠ 6 by decide), zupp_ni (show (11 : Int) ≠ 6 by decide)]
    exact hL
  have ks := hL.1.1
  have s13 := hL.1.2
  have hcs' : zCs sh (zupp pp s 6 c) (zupd (zupd mm s 7 len) s 8 0) := by
    refine zCs_u (zCs_u ⟨hcs.1, ?_, hcs.2.2⟩ s13) s13
    have := hcs.2.1
    rw [zupp_na (by omega), zupp_na (by omega), zupp_na (by omega), zupp_na (by omega)]
    exact this
  have hx : cTx s c len b sh (zupp pp s 6 c) (zupd (zupd mm s 7 len) s 8 0) := by
    refine (cTx_us (by decide)).mpr ⟨zupp_eq _ _ _ _, hc, zupd_eq _ _ _ _, hl, fun k h0 h1 => ?_⟩
    rw [zupd_na (by omega)]
    exact hb k h0 h1
  simp (disch := first | assumption | omega) only [rC_read_0, rC_read_1, rC_read_4, rC_read_7, rC_read_8, rC_read_9, rC_read_10, rC_read_13, rC_read_16, rC_read_17, rC_read_18, rC_read_21, rC_read_23, rC_read_26, rC_read_29, rC_read_30, rC_read_31, rC_read_34, rC_read_35, kJ_min, Bool.false_eq_true, true_implies, false_implies, implies_true, true_and, and_true, not_true_eq_false, not_false_eq_true, zPush_I, zPush_L, zPush_R, zPush_U, Int.reduceLT, Int.reduceLE, Int.reduceEq, Int.reduceNe, Int.reduceAdd, Int.reduceSub, Int.reduceMul, Int.reduceNeg, Int.reduceToNat, Nat.reduceAdd, Nat.reduceMul, Nat.reduceEqDiff, zw32_id, zw64_id, zupd_eq, zupd_na, zupd_ni, zupp_eq, zupp_na, zupp_ni, m5, pt, mt, show min len 120 = len by omega]
  refine cRd1 hcs' hL' hx (fun n m2 g1 g2 g3 g4 g5 => ?_) len.toNat 0 _ (by omega) (by simp [tp]) (fun j hj => by omega) (fun j hj => by omega) (zupd_eq _ _ _ _) (frP_rf _ _)
  simp (disch := first | assumption | omega) only [rC_read_70, rC_read_71, rC_read_72, rC_read_75, rC_read_76, rC_read_77, rC_read_80, rC_read_81, rC_read_82, rC_read_85, rC_read_86, rC_read_87, rC_read_90, rC_read_91, rC_read_92, rC_read_93, Bool.false_eq_true, true_implies, false_implies, implies_true, true_and, and_true, not_true_eq_false, not_false_eq_true, zPush_I, zPush_L, zPush_R, zPush_U, Int.reduceLT, Int.reduceLE, Int.reduceEq, Int.reduceNe, Int.reduceAdd, Int.reduceSub, Int.reduceMul, Int.reduceNeg, Int.reduceToNat, Nat.reduceAdd, Nat.reduceMul, Nat.reduceEqDiff, zw32_id, zw64_id, zupd_eq, zupd_na, zupd_ni, zupp_eq, zupp_na, zupp_ni]
  have fz : frP (pRw s) mm m2 := frP_tr (frP_up (frP_up (frP_rf _ _) (by unfold pRw; omega)) (by unfold pRw; omega)) (frP_wd g5 (fun x j hj => by unfold pRd at hj; unfold pRw; omega))
  refine cRd2 hL' (n := n) hl (mm := zupd (zupd (zupd (zupd m2 s 3 0) s 12 0) s 13 0) s 4 (-1)) (cTks_fr g4 (fun x hx j => by rw [zupd_na (by omega), zupd_na (by omega), zupd_na (by omega), zupd_na (by omega)])) g2 g3 g1 (fun m3 e1 e2 e3 => ?_) 31 0 0 _ rfl ⟨by omega, rfl, by simp [ip], ?_, ?_, by simp [dp], ?_, ?_, rfl, fun k hk => by omega, frP_rf _ _⟩
  · exact hQ m3 e1 e2 (frP_tr (frP_up (frP_up (frP_up (frP_up fz (by unfold pRw; omega)) (by unfold pRw; omega)) (by unfold pRw; omega)) (by unfold pRw; omega)) e3)
  · simp (disch := first | assumption | omega) only [Bool.false_eq_true, true_implies, false_implies, implies_true, true_and, and_true, not_true_eq_false, not_false_eq_true, zPush_I, zPush_L, zPush_R, zPush_U, Int.reduceLT, Int.reduceLE, Int.reduceEq, Int.reduceNe, Int.reduceAdd, Int.reduceSub, Int.reduceMul, Int.reduceNeg, Int.reduceToNat, Nat.reduceAdd, Nat.reduceMul, Nat.reduceEqDiff, zw32_id, zw64_id, zupd_eq, zupd_na, zupd_ni, zupp_eq, zupp_na, zupp_ni]; rfl
  · simp (disch := first | assumption | omega) only [Bool.false_eq_true, true_implies, false_implies, implies_true, true_and, and_true, not_true_eq_false, not_false_eq_true, zPush_I, zPush_L, zPush_R, zPush_U, Int.reduceLT, Int.reduceLE, Int.reduceEq, Int.reduceNe, Int.reduceAdd, Int.reduceSub, Int.reduceMul, Int.reduceNeg, Int.reduceToNat, Nat.reduceAdd, Nat.reduceMul, Nat.reduceEqDiff, zw32_id, zw64_id, zupd_eq, zupd_na, zupd_ni, zupp_eq, zupp_na, zupp_ni]; rfl
  · simp (disch := first | assumption | omega) only [Bool.false_eq_true, true_implies, false_implies, implies_true, true_and, and_true, not_true_eq_false, not_false_eq_true, zPush_I, zPush_L, zPush_R, zPush_U, Int.reduceLT, Int.reduceLE, Int.reduceEq, Int.reduceNe, Int.reduceAdd, Int.reduceSub, Int.reduceMul, Int.reduceNeg, Int.reduceToNat, Nat.reduceAdd, Nat.reduceMul, Nat.reduceEqDiff, zw32_id, zw64_id, zupd_eq, zupd_na, zupd_ni, zupp_eq, zupp_na, zupp_ni]; rfl
  · simp (disch := first | assumption | omega) only [Bool.false_eq_true, true_implies, false_implies, implies_true, true_and, and_true, not_true_eq_false, not_false_eq_true, zPush_I, zPush_L, zPush_R, zPush_U, Int.reduceLT, Int.reduceLE, Int.reduceEq, Int.reduceNe, Int.reduceAdd, Int.reduceSub, Int.reduceMul, Int.reduceNeg, Int.reduceToNat, Nat.reduceAdd, Nat.reduceMul, Nat.reduceEqDiff, zw32_id, zw64_id, zupd_eq, zupd_na, zupd_ni, zupp_eq, zupp_na, zupp_ni]
theorem cReadN (hL : scL sh pp s) (m5 : mm s 5 = 1) (hQ : Q zU sh pp mm) : zS 78 0 [zR s, zR t, zU, zU] [] sh pp mm Q := by
  have ks := hL.1.1
  simp (disch := first | assumption | omega) only [rC_read_0, rC_read_1, rC_read_4, rC_read_7, Bool.false_eq_true, true_implies, false_implies, implies_true, true_and, and_true, not_true_eq_false, not_false_eq_true, zPush_I, zPush_L, zPush_R, zPush_U, Int.reduceLT, Int.reduceLE, Int.reduceEq, Int.reduceNe, Int.reduceAdd, Int.reduceSub, Int.reduceMul, Int.reduceNeg, Int.reduceToNat, Nat.reduceAdd, Nat.reduceMul, Nat.reduceEqDiff, zw32_id, zw64_id, zupd_eq, zupd_na, zupd_ni, zupp_eq, zupp_na, zupp_ni, m5]
  exact hQ
end
