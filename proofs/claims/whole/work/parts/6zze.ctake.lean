/-! ===== the class: one State takes another; from ===== -/
section
variable {sh : zSh} {pp : zPp} {mm m' : zMm} {Q : zV → zSh → zPp → zMm → Prop} {f f' g : Int → Int} {G : Int → Option (Int → Int)} {cn cn' : Int → Int} {N D N' D' : Nat}
theorem kT_take {t u : Nat} {ln w lim n b : Int} (hT : tbL sh pp t ln) (hU : tbL sh pp u ln) (ne : t ≠ u ∧ t + 1 ≠ u ∧ t ≠ u + 1) (hI : tbI u w lim n b g mm) (ht : mm t 0 = w ∧ mm t 1 = lim) {K : Nat} (hK : n * w = (K : Int)) (hl : (K : Int) ≤ ln) (hl2 : ln ≤ 1000) (hQ : ∀ m1, tbI t w lim n b g m1 → frP (fun x _ => x = t ∨ x = t + 1) mm m1 → Q zU sh pp m1) : zS 100 0 [zR t, zR u] [] sh pp mm Q := by
  obtain ⟨k0, k1, l1, p1⟩ := hT
  obtain ⟨j0, j1, n1, q1⟩ := hU
  obtain ⟨m0, m1, m3, mk⟩ := hI
  obtain ⟨t0, t1⟩ := ht
  have ne1 := ne.1
  have ne2 := ne.2.1
  have ne3 := ne.2.2
  have nt : t + 1 ≠ t := by omega
  have nu : u + 1 ≠ t + 1 := by omega
  simp (disch := first | assumption | omega) only [rT_take_0, rT_take_1, rT_take_2, rT_take_5, rT_take_8, rT_take_9, rT_take_12, rT_take_13, rT_take_14, rT_take_17, rT_take_18, rT_take_19, rT_take_22, rT_take_23, rT_take_26, rT_take_27, rT_take_30, Bool.false_eq_true, true_implies, false_implies, implies_true, true_and, and_true, not_true_eq_false, not_false_eq_true, zPush_I, zPush_L, zPush_R, zPush_U, Int.reduceLT, Int.reduceLE, Int.reduceEq, Int.reduceNe, Int.reduceAdd, Int.reduceSub, Int.reduceMul, Int.reduceNeg, Int.reduceToNat, Nat.reduceAdd, Nat.reduceMul, Nat.reduceEqDiff, zw32_id, zw64_id, zupd_eq, zupd_na, zupd_ni, zupp_eq, zupp_na, zupp_ni, p1, q1, m3, t0, hK]
  refine hQ _ ⟨?_, ?_, ?_, fun k kl kh => ?_⟩ (fun x j hx => ?_)
  · rw [zcpy_na (by omega), zupd_ni (by decide)]; exact t0
  · rw [zcpy_na (by omega), zupd_ni (by decide)]; exact t1
  · rw [zcpy_na (by omega), zupd_eq]
  · have kh' : k < (K : Int) := by rw [← hK, Int.mul_comm]; exact kh
    rw [zcpy_in (by omega) (by omega), zupd_na (by omega), show (0 : Int) + (k - 0) = k by omega]
    exact mk k kl kh
  · rw [zcpy_na (by omega), zupd_na (by omega)]
theorem tbI_fr {t u : Nat} {w lim n b : Int} {m1 m2 : zMm} (h : tbI u w lim n b g m1) (hf : frP (fun x _ => x = t ∨ x = t + 1) m1 m2) (ne : t ≠ u ∧ t + 1 ≠ u ∧ t ≠ u + 1) : tbI u w lim n b g m2 := tbI_sm h (by funext j; exact hf _ j (by omega)) (by funext j; exact hf _ j (by omega))
def hdr (s : Nat) (m : zMm) : Prop := (m (s + 3) 0 = 2 ∧ m (s + 3) 1 = 12) ∧ (m (s + 5) 0 = 2 ∧ m (s + 5) 1 = 10) ∧ (m (s + 7) 0 = 3 ∧ m (s + 7) 1 = 12) ∧ (m (s + 9) 0 = 3 ∧ m (s + 9) 1 = 8) ∧ ∀ p : Nat, p < 4 → m (s + 12 + 2 * p) 0 = 1 ∧ m (s + 12 + 2 * p) 1 = 120
theorem hdr_of {s : Nat} (h : stI s f mm) : hdr s mm := ⟨⟨h.2.1.1, h.2.1.2.1⟩, ⟨h.2.2.1.1, h.2.2.1.2.1⟩, ⟨h.2.2.2.1.1, h.2.2.2.1.2.1⟩, ⟨h.2.2.2.2.1.1, h.2.2.2.2.1.2.1⟩, fun p hp => ⟨(h.2.2.2.2.2.2.2 p hp).1, (h.2.2.2.2.2.2.2 p hp).2.1⟩⟩
theorem cTakeT {s o : Nat} (hS : stL sh pp s) (hO : stL sh pp o) (hso : s + 20 ≤ o ∨ o + 20 ≤ s) (ok : fOk g) (hd : hdr s mm) (hz : ∀ m1, (∀ p : Nat, p < 4 → tbI (s + 12 + 2 * p) 1 120 (g (9 + 121 * (p : Int))) (10 + 121 * (p : Int)) g m1) → frP (fun x _ => s + 12 ≤ x ∧ x ≤ s + 19) mm m1 → zS 92 43 [zR s, zR o, zU] [] sh pp m1 Q) : ∀ (d i : Nat) (m1 : zMm), i + d = 4 → stI o g m1 → (∀ p : Nat, p < i → tbI (s + 12 + 2 * p) 1 120 (g (9 + 121 * (p : Int))) (10 + 121 * (p : Int)) g m1) → (∀ p : Nat, i ≤ p → p < 4 → m1 (s + 12 + 2 * p) 0 = 1 ∧ m1 (s + 12 + 2 * p) 1 = 120) → frP (fun x _ => s + 12 ≤ x ∧ x ≤ s + 19) mm m1 → zS 92 17 [zR s, zR o, zI (i : Int)] [] sh pp m1 Q := by
  obtain ⟨ks, -, ⟨k2, l2, p2⟩, -, -, -, -, -, hsp⟩ := hS
  obtain ⟨ko, -, ⟨j2, n2, q2⟩, -, -, -, -, -, hop⟩ := hO
  intro d
  induction d with
  | zero =>
    intro i m1 hi hI hT hH hfr
    rw [rS_take_17]
    simp (disch := first | assumption | omega) only [rS_take_18, rS_take_19, Bool.false_eq_true, true_implies, false_implies, implies_true, true_and, and_true, not_true_eq_false, not_false_eq_true, zPush_I, zPush_L, zPush_R, zPush_U, Int.reduceLT, Int.reduceLE, Int.reduceEq, Int.reduceNe, Int.reduceAdd, Int.reduceSub, Int.reduceMul, Int.reduceNeg, Int.reduceToNat, Nat.reduceAdd, Nat.reduceMul, Nat.reduceEqDiff, zw32_id, zw64_id, zupd_eq, zupd_na, zupd_ni, zupp_eq, zupp_na, zupp_ni, eq_false (show ¬ (i : Int) < 4 by omega)]
    exact hz m1 (fun p hp => hT p (by omega)) hfr
  | succ d ih =>
    intro i m1 hi hI hT hH hfr
    have hi4 : i < 4 := by omega
    obtain ⟨a1, a2⟩ := hsp i hi4
    obtain ⟨b1, b2⟩ := hop i hi4
    have ka := a1.1
    obtain ⟨c1, c2, c3⟩ := ok.2.1 (i : Int) (by omega) (by omega)
    rw [rS_take_17]
    simp (disch := first | assumption | omega) only [rS_take_18, rS_take_19, rS_take_22, rS_take_23, rS_take_26, rS_take_27, rS_take_28, rS_take_29, rS_take_32, rS_take_33, rS_take_34, Bool.false_eq_true, true_implies, false_implies, implies_true, true_and, and_true, not_true_eq_false, not_false_eq_true, zPush_I, zPush_L, zPush_R, zPush_U, Int.reduceLT, Int.reduceLE, Int.reduceEq, Int.reduceNe, Int.reduceAdd, Int.reduceSub, Int.reduceMul, Int.reduceNeg, Int.reduceToNat, Nat.reduceAdd, Nat.reduceMul, Nat.reduceEqDiff, zw32_id, zw64_id, zupd_eq, zupd_na, zupd_ni, zupp_eq, zupp_na, zupp_ni, eq_true (show (i : Int) < 4 by omega), p2, q2, a2, b2]
    refine kT_take a1 b1 (by omega) (hI.2.2.2.2.2.2.2 i hi4) (hH i (by omega) hi4) (K := (g (9 + 121 * (i : Int))).toNat) (by omega) (by omega) (by decide) (fun m2 d1 d2 => ?_)
    simp (disch := first | assumption | omega) only [rS_take_37, rS_take_40, Bool.false_eq_true, true_implies, false_implies, implies_true, true_and, and_true, not_true_eq_false, not_false_eq_true, zPush_I, zPush_L, zPush_R, zPush_U, Int.reduceLT, Int.reduceLE, Int.reduceEq, Int.reduceNe, Int.reduceAdd, Int.reduceSub, Int.reduceMul, Int.reduceNeg, Int.reduceToNat, Nat.reduceAdd, Nat.reduceMul, Nat.reduceEqDiff, zw32_id, zw64_id, zupd_eq, zupd_na, zupd_ni, zupp_eq, zupp_na, zupp_ni]
    have zi := ih (i + 1) m2 (by omega) (stI_sm hI (sm_fr d2 (by omega))) (fun p hp => ?_) (fun p hp hp4 => ?_) (frP_tr hfr (frP_wd d2 (fun x j hj => by omega)))
    · rw [show ((i + 1 : Nat) : Int) = (i : Int) + 1 by omega] at zi
      exact zi
    · by_cases hpi : p = i
      · subst hpi; exact d1
      · exact tbI_fr (hT p (by omega)) d2 (by omega)
    · rw [d2 _ _ (by omega), d2 _ _ (by omega)]
      exact hH p (by omega) hp4
theorem cTakeS {s o : Nat} (hS : stL sh pp s) (hO : stL sh pp o) (hso : s + 20 ≤ o ∨ o + 20 ≤ s) (ok : fOk g) (hI : stI o g mm) (hd : hdr s mm) (hQ : ∀ m1, stI s g m1 → frP (fun x _ => s ≤ x ∧ x ≤ s + 19) mm m1 → Q zU sh pp m1) : zS 92 0 [zR s, zR o, zU] [] sh pp mm Q := by
  have hS' := hS
  have hO' := hO
  obtain ⟨ks, ⟨k1, l1, p1⟩, ⟨k2, l2, p2⟩, ⟨w1, w2⟩, ⟨c1, c2⟩, ⟨e1, e2⟩, ⟨t1, t2⟩, ⟨s1, s2, s3⟩, hsp⟩ := hS'
  obtain ⟨ko, ⟨j1, n1, q1⟩, ⟨j2, n2, q2⟩, ⟨x1, x2⟩, ⟨y1, y2⟩, ⟨z1, z2⟩, ⟨v1, v2⟩, ⟨o1, o2, o3⟩, hop⟩ := hO'
  have kw := w1.1
  have kc := c1.1
  have ke := e1.1
  have kt := t1.1
  have ne1 : o + 1 ≠ s + 1 := by omega
  have ne2 : o + 11 ≠ s + 11 := by omega
  have g2 := ok.2.2.1.1
  have g2' := ok.2.2.1.2.1
  have g3 := ok.2.2.2.1.1
  have g3' := ok.2.2.2.1.2.1
  have g4 := ok.2.2.2.2.1.1
  have g4' := ok.2.2.2.2.1.2.1
  have g5 := ok.2.2.2.2.2.1.1
  have g5' := ok.2.2.2.2.2.1.2.1
  simp (disch := first | assumption | omega) only [rS_take_0, rS_take_1, rS_take_4, rS_take_5, rS_take_6, rS_take_9, rS_take_10, rS_take_12, rS_take_15, rS_take_16, Bool.false_eq_true, true_implies, false_implies, implies_true, true_and, and_true, not_true_eq_false, not_false_eq_true, zPush_I, zPush_L, zPush_R, zPush_U, Int.reduceLT, Int.reduceLE, Int.reduceEq, Int.reduceNe, Int.reduceAdd, Int.reduceSub, Int.reduceMul, Int.reduceNeg, Int.reduceToNat, Nat.reduceAdd, Nat.reduceMul, Nat.reduceEqDiff, zw32_id, zw64_id, zupd_eq, zupd_na, zupd_ni, zupp_eq, zupp_na, zupp_ni, p1, q1]
  obtain ⟨ma, hma⟩ : ∃ ma, ma = zcpy mm (o + 1) 0 (s + 1) 0 9 := ⟨_, rfl⟩
  rw [← hma]
  have fa : frP (fun x _ => x = s + 1) mm ma := fun x j hx => by rw [hma]; exact zcpy_na hx
  have na : ∀ i, 0 ≤ i → i ≤ 8 → ma (s + 1) i = g i := fun i i0 i8 => by
    rw [hma, zcpy_in (by omega) (by omega), show (0 : Int) + (i - 0) = i by omega]
    exact hI.1 i i0 i8
  have Ia : stI o g ma := stI_sm hI (sm_fr fa (by omega))
  have da : hdr s ma := by
    obtain ⟨⟨u1, u2⟩, ⟨u3, u4⟩, ⟨u5, u6⟩, ⟨u7, u8⟩, u9⟩ := hd
    refine ⟨⟨?_, ?_⟩, ⟨?_, ?_⟩, ⟨?_, ?_⟩, ⟨?_, ?_⟩, fun p hp => ⟨?_, ?_⟩⟩
    · rw [fa _ _ (by omega)]; exact u1
    · rw [fa _ _ (by omega)]; exact u2
    · rw [fa _ _ (by omega)]; exact u3
    · rw [fa _ _ (by omega)]; exact u4
    · rw [fa _ _ (by omega)]; exact u5
    · rw [fa _ _ (by omega)]; exact u6
    · rw [fa _ _ (by omega)]; exact u7
    · rw [fa _ _ (by omega)]; exact u8
    · rw [fa _ _ (by omega)]; exact (u9 p hp).1
    · rw [fa _ _ (by omega)]; exact (u9 p hp).2
  refine cTakeT hS hO hso ok da (fun mb tb fb => ?_) 4 0 ma (by omega) Ia (fun p hp => by omega) (fun p _ hp => da.2.2.2.2 p hp) (frP_rf _ _)
  have Ib : stI o g mb := stI_sm Ia (sm_fr fb (by omega))
  simp (disch := first | assumption | omega) only [rS_take_43, rS_take_44, rS_take_47, rS_take_48, rS_take_51, Bool.false_eq_true, true_implies, false_implies, implies_true, true_and, and_true, not_true_eq_false, not_false_eq_true, zPush_I, zPush_L, zPush_R, zPush_U, Int.reduceLT, Int.reduceLE, Int.reduceEq, Int.reduceNe, Int.reduceAdd, Int.reduceSub, Int.reduceMul, Int.reduceNeg, Int.reduceToNat, Nat.reduceAdd, Nat.reduceMul, Nat.reduceEqDiff, zw32_id, zw64_id, zupd_eq, zupd_na, zupd_ni, zupp_eq, zupp_na, zupp_ni, w2, x2]
  refine kT_take w1 x1 (by omega) Ib.2.1 ⟨by rw [fb _ _ (by omega)]; exact da.1.1, by rw [fb _ _ (by omega)]; exact da.1.2⟩ (K := (2 * g 981).toNat) (by omega) (by omega) (by decide) (fun mc tc fc => ?_)
  have Ic : stI o g mc := stI_sm Ib (sm_fr fc (by omega))
  simp (disch := first | assumption | omega) only [rS_take_54, rS_take_55, rS_take_58, rS_take_59, rS_take_62, Bool.false_eq_true, true_implies, false_implies, implies_true, true_and, and_true, not_true_eq_false, not_false_eq_true, zPush_I, zPush_L, zPush_R, zPush_U, Int.reduceLT, Int.reduceLE, Int.reduceEq, Int.reduceNe, Int.reduceAdd, Int.reduceSub, Int.reduceMul, Int.reduceNeg, Int.reduceToNat, Nat.reduceAdd, Nat.reduceMul, Nat.reduceEqDiff, zw32_id, zw64_id, zupd_eq, zupd_na, zupd_ni, zupp_eq, zupp_na, zupp_ni, c2, y2]
  refine kT_take c1 y1 (by omega) Ic.2.2.1 ⟨by rw [fc _ _ (by omega), fb _ _ (by omega)]; exact da.2.1.1, by rw [fc _ _ (by omega), fb _ _ (by omega)]; exact da.2.1.2⟩ (K := (2 * g 982).toNat) (by omega) (by omega) (by decide) (fun md td fd => ?_)
  have Id : stI o g md := stI_sm Ic (sm_fr fd (by omega))
  simp (disch := first | assumption | omega) only [rS_take_65, rS_take_66, rS_take_69, rS_take_70, rS_take_73, Bool.false_eq_true, true_implies, false_implies, implies_true, true_and, and_true, not_true_eq_false, not_false_eq_true, zPush_I, zPush_L, zPush_R, zPush_U, Int.reduceLT, Int.reduceLE, Int.reduceEq, Int.reduceNe, Int.reduceAdd, Int.reduceSub, Int.reduceMul, Int.reduceNeg, Int.reduceToNat, Nat.reduceAdd, Nat.reduceMul, Nat.reduceEqDiff, zw32_id, zw64_id, zupd_eq, zupd_na, zupd_ni, zupp_eq, zupp_na, zupp_ni, e2, z2]
  refine kT_take e1 z1 (by omega) Id.2.2.2.1 ⟨by rw [fd _ _ (by omega), fc _ _ (by omega), fb _ _ (by omega)]; exact da.2.2.1.1, by rw [fd _ _ (by omega), fc _ _ (by omega), fb _ _ (by omega)]; exact da.2.2.1.2⟩ (K := (3 * g 983).toNat) (by omega) (by omega) (by decide) (fun me te fe => ?_)
  have Ie : stI o g me := stI_sm Id (sm_fr fe (by omega))
  simp (disch := first | assumption | omega) only [rS_take_76, rS_take_77, rS_take_80, rS_take_81, rS_take_84, Bool.false_eq_true, true_implies, false_implies, implies_true, true_and, and_true, not_true_eq_false, not_false_eq_true, zPush_I, zPush_L, zPush_R, zPush_U, Int.reduceLT, Int.reduceLE, Int.reduceEq, Int.reduceNe, Int.reduceAdd, Int.reduceSub, Int.reduceMul, Int.reduceNeg, Int.reduceToNat, Nat.reduceAdd, Nat.reduceMul, Nat.reduceEqDiff, zw32_id, zw64_id, zupd_eq, zupd_na, zupd_ni, zupp_eq, zupp_na, zupp_ni, t2, v2]
  refine kT_take t1 v1 (by omega) Ie.2.2.2.2.1 ⟨by rw [fe _ _ (by omega), fd _ _ (by omega), fc _ _ (by omega), fb _ _ (by omega)]; exact da.2.2.2.1.1, by rw [fe _ _ (by omega), fd _ _ (by omega), fc _ _ (by omega), fb _ _ (by omega)]; exact da.2.2.2.1.2⟩ (K := (3 * g 984).toNat) (by omega) (by omega) (by decide) (fun mf tf ff => ?_)
  have If : stI o g mf := stI_sm Ie (sm_fr ff (by omega))
  have i7 := If.2.2.2.2.2.2.1
  simp (disch := first | assumption | omega) only [rS_take_87, rS_take_88, rS_take_91, rS_take_92, rS_take_93, rS_take_96, rS_take_97, rS_take_100, rS_take_103, rS_take_104, rS_take_105, rS_take_108, rS_take_111, Bool.false_eq_true, true_implies, false_implies, implies_true, true_and, and_true, not_true_eq_false, not_false_eq_true, zPush_I, zPush_L, zPush_R, zPush_U, Int.reduceLT, Int.reduceLE, Int.reduceEq, Int.reduceNe, Int.reduceAdd, Int.reduceSub, Int.reduceMul, Int.reduceNeg, Int.reduceToNat, Nat.reduceAdd, Nat.reduceMul, Nat.reduceEqDiff, zw32_id, zw64_id, zupd_eq, zupd_na, zupd_ni, zupp_eq, zupp_na, zupp_ni, s3, o3, zcpy_na (show o ≠ s + 11 by omega), i7]
  obtain ⟨mg, hmg⟩ : ∃ mg, mg = zupd (zcpy mf (o + 11) 0 (s + 11) 0 384) s 7 (g 985) := ⟨_, rfl⟩
  rw [← hmg]
  have fg : frP (fun x _ => x = s + 11 ∨ x = s) mf mg := fun x j hx => by rw [hmg, zupd_na (by omega), zcpy_na (by omega)]
  have all : frP (fun x _ => s ≤ x ∧ x ≤ s + 19) mm mg := frP_tr (frP_wd fa (fun x j hj => by omega)) (frP_tr (frP_wd fb (fun x j hj => by omega)) (frP_tr (frP_wd fc (fun x j hj => by omega)) (frP_tr (frP_wd fd (fun x j hj => by omega)) (frP_tr (frP_wd fe (fun x j hj => by omega)) (frP_tr (frP_wd ff (fun x j hj => by omega)) (frP_wd fg (fun x j hj => by omega)))))))
  have row' : ∀ x, x ≠ s + 11 → x ≠ s → mg x = mf x := fun x h1 h2 => by funext j; exact fg x j (by omega)
  refine hQ mg ⟨fun i i0 i8 => ?_, ?_, ?_, ?_, ?_, fun i i0 i1 => ?_, ?_, fun p hp => ?_⟩ all
  · rw [fg _ _ (by omega), ff _ _ (by omega), fe _ _ (by omega), fd _ _ (by omega), fc _ _ (by omega), fb _ _ (by omega)]
    exact na i i0 i8
  · exact tbI_sm (tbI_fr (tbI_fr (tbI_fr tc fd (by omega)) fe (by omega)) ff (by omega)) (row' _ (by omega) (by omega)) (row' _ (by omega) (by omega))
  · exact tbI_sm (tbI_fr (tbI_fr td fe (by omega)) ff (by omega)) (row' _ (by omega) (by omega)) (row' _ (by omega) (by omega))
  · exact tbI_sm (tbI_fr te ff (by omega)) (row' _ (by omega) (by omega)) (row' _ (by omega) (by omega))
  · exact tbI_sm tf (row' _ (by omega) (by omega)) (row' _ (by omega) (by omega))
  · rw [hmg, zupd_na (by omega), zcpy_in (by omega) (by omega), show (0 : Int) + (i - 0) = i by omega]
    exact If.2.2.2.2.2.1 i i0 i1
  · rw [hmg, zupd_eq]
  · exact tbI_sm (tbI_fr (tbI_fr (tbI_fr (tbI_fr (tb p hp) fc (by omega)) fd (by omega)) fe (by omega)) ff (by omega)) (row' _ (by omega) (by omega)) (row' _ (by omega) (by omega))
end
