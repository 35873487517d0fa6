/-! ===== digest of the reference, the call ===== -/
section
variable {sh : zSh} {pp : zPp} {mm : zMm} {Q : zV → zSh → zPp → zMm → Prop} {f : Int → Int} {G : Int → Option (Int → Int)} {cn : Int → Int} {N D : Nat}
theorem mDgL (h : zLy sh pp) {w : Int} (w0 : 0 ≤ w) (w1 : w ≤ 1) {v : Nat} (hb : bR (fun k => mm 127 (64 * w + k)) (mm 128 w) v) (h20 : mm 128 w ≤ 20) {h0 : Int} (hQ : zS 254 194 [zR 122, zL (dgS (limb v) 0 (nlim v).toNat h0), zU, zI (w + 1), zU] [] sh pp mm Q) : zS 254 202 [zR 122, zL h0, zU, zI w, zI 0] [] sh pp mm Q := by
  have k122 := k_122 h
  have k128 := k_128 h
  have l128 := l_128 h
  have p128 := p_122_5 h
  have k127 := k_127 h
  have l127 := l_127 h
  have p127 := p_122_4 h
  have hsz := bR_size hb
  have hlm : ∀ k, 0 ≤ k → k < mm 128 w → mm 127 (64 * w + k) = limb v k := fun k a b => bR_limb hb a b
  rw [← hsz] at hQ
  have n0 := hb.1
  obtain ⟨K, hK⟩ : ∃ K : Nat, mm 128 w = (K : Int) := ⟨(mm 128 w).toNat, by omega⟩
  rw [hK, Int.toNat_natCast] at hQ
  have key : ∀ (d i : Nat), i + d = K → zS 254 202 [zR 122, zL (dgS (limb v) 0 i h0), zU, zI w, zI i] [] sh pp mm Q := by
    intro d
    induction d with
    | zero =>
      intro i hi
      have hi : i = K := by omega
      subst hi
      rw [rM_digest_202]
      simp (disch := first | assumption | omega) only [rM_digest_204, rM_digest_205, rM_digest_208, rM_digest_209, rM_digest_210, rM_digest_213, rM_digest_216, rM_digest_217, rM_digest_218, rM_digest_219, rM_digest_222, rM_digest_224, rM_digest_225, rM_digest_226, rM_digest_228, rM_digest_229, rM_digest_230, rM_digest_231, rM_digest_232, rM_digest_235, rM_digest_238, rM_digest_241, Bool.false_eq_true, true_implies, false_implies, implies_true, true_and, and_true, not_true_eq_false, not_false_eq_true, zPush_I, zPush_L, zPush_R, zPush_U, Int.reduceLT, Int.reduceLE, Int.reduceEq, Int.reduceNe, Int.reduceAdd, Int.reduceSub, Int.reduceMul, Int.reduceNeg, Int.reduceToNat, Nat.reduceAdd, Nat.reduceMul, Nat.reduceEqDiff, zw32_id, zupd_eq, zupd_na, zupd_ni, zupp_eq, zupp_na, zupp_ni, p128, p127, hK, Int.lt_irrefl]
      exact hQ
    | succ d ih =>
      intro i hi
      have e := hlm (i : Int) (by omega) (by omega)
      have nx := ih (i + 1) (by omega)
      have es : dgS (limb v) 0 (i + 1) h0 = h31 (dgS (limb v) 0 i h0) (limb v (0 + (i : Int))) := rfl
      rw [es, Int.zero_add] at nx
      unfold h31 at nx
      push_cast at nx
      rw [rM_digest_202]
      simp (disch := first | assumption | omega) only [rM_digest_204, rM_digest_205, rM_digest_208, rM_digest_209, rM_digest_210, rM_digest_213, rM_digest_216, rM_digest_217, rM_digest_218, rM_digest_219, rM_digest_222, rM_digest_224, rM_digest_225, rM_digest_226, rM_digest_228, rM_digest_229, rM_digest_230, rM_digest_231, rM_digest_232, rM_digest_235, rM_digest_238, rM_digest_241, Bool.false_eq_true, true_implies, false_implies, implies_true, true_and, and_true, not_true_eq_false, not_false_eq_true, zPush_I, zPush_L, zPush_R, zPush_U, Int.reduceLT, Int.reduceLE, Int.reduceEq, Int.reduceNe, Int.reduceAdd, Int.reduceSub, Int.reduceMul, Int.reduceNeg, Int.reduceToNat, Nat.reduceAdd, Nat.reduceMul, Nat.reduceEqDiff, zw32_id, zupd_eq, zupd_na, zupd_ni, zupp_eq, zupp_na, zupp_ni, p128, p127, hK, eq_true (show (i : Int) < (K : Int) by omega), e]
      exact nx
  exact key K 0 (by omega)
theorem mDgE (h : zLy sh pp) (hm : mOk f G cn N D mm) {h0 : Int} (hQ : Q (zL (dgS (limb D) 0 (nlim D).toNat (dgS (limb N) 0 (nlim N).toNat (h31 (h31 (h31 h0 (if N = 0 then 0 else 1)) (nlim N)) (nlim D))))) sh pp mm) : zS 254 156 [zR 122, zL h0, zU, zU, zU] [] sh pp mm Q := by
  have k122 := k_122 h
  have k128 := k_128 h
  have l128 := l_128 h
  have p128 := p_122_5 h
  have k127 := k_127 h
  have l127 := l_127 h
  have p127 := p_122_4 h
  have e0 := hm.2.2.2.2.2.2.2
  have bN : bR (fun k => mm 127 (64 * 0 + k)) (mm 128 0) N := by
    have b := hm.2.2.2.2.2.1
    rw [show (fun k => mm 127 (64 * 0 + k)) = (fun k => mm 127 k) by funext k; rw [show (64 * 0 + k : Int) = k by omega]]
    exact b
  have bD : bR (fun k => mm 127 (64 * 1 + k)) (mm 128 1) D := hm.2.2.2.2.2.2.1
  have e1 := bR_size bN
  have e2 := bR_size bD
  have s0 := hm.2.2.2.1
  have s1 := hm.2.2.2.2.1
  have t2 : ∀ H, zS 254 194 [zR 122, zL H, zU, zI 2, zU] [] sh pp mm Q ↔ Q (zL H) sh pp mm := by
    intro H
    rw [rM_digest_194]
    simp (disch := first | assumption | omega) only [rM_digest_195, rM_digest_196, rM_digest_199, rM_digest_200, rM_digest_244, rM_digest_245, Bool.false_eq_true, true_implies, false_implies, implies_true, true_and, and_true, not_true_eq_false, not_false_eq_true, zPush_I, zPush_L, zPush_R, zPush_U, Int.reduceLT, Int.reduceLE, Int.reduceEq, Int.reduceNe, Int.reduceAdd, Int.reduceSub, Int.reduceMul, Int.reduceNeg, Int.reduceToNat, Nat.reduceAdd, Nat.reduceMul, Nat.reduceEqDiff, zw32_id, zupd_eq, zupd_na, zupd_ni, zupp_eq, zupp_na, zupp_ni]
  have t1 : ∀ H, Q (zL (dgS (limb D) 0 (nlim D).toNat H)) sh pp mm → zS 254 194 [zR 122, zL H, zU, zI 1, zU] [] sh pp mm Q := by
    intro H hH
    rw [rM_digest_194]
    simp (disch := first | assumption | omega) only [rM_digest_195, rM_digest_196, rM_digest_199, rM_digest_200, Bool.false_eq_true, true_implies, false_implies, implies_true, true_and, and_true, not_true_eq_false, not_false_eq_true, zPush_I, zPush_L, zPush_R, zPush_U, Int.reduceLT, Int.reduceLE, Int.reduceEq, Int.reduceNe, Int.reduceAdd, Int.reduceSub, Int.reduceMul, Int.reduceNeg, Int.reduceToNat, Nat.reduceAdd, Nat.reduceMul, Nat.reduceEqDiff, zw32_id, zupd_eq, zupd_na, zupd_ni, zupp_eq, zupp_na, zupp_ni]
    exact mDgL h (by decide) (by decide) bD s1 ((t2 _).mpr hH)
  have t0 : ∀ H, Q (zL (dgS (limb D) 0 (nlim D).toNat (dgS (limb N) 0 (nlim N).toNat H))) sh pp mm → zS 254 194 [zR 122, zL H, zU, zI 0, zU] [] sh pp mm Q := by
    intro H hH
    rw [rM_digest_194]
    simp (disch := first | assumption | omega) only [rM_digest_195, rM_digest_196, rM_digest_199, rM_digest_200, Bool.false_eq_true, true_implies, false_implies, implies_true, true_and, and_true, not_true_eq_false, not_false_eq_true, zPush_I, zPush_L, zPush_R, zPush_U, Int.reduceLT, Int.reduceLE, Int.reduceEq, Int.reduceNe, Int.reduceAdd, Int.reduceSub, Int.reduceMul, Int.reduceNeg, Int.reduceToNat, Nat.reduceAdd, Nat.reduceMul, Nat.reduceEqDiff, zw32_id, zupd_eq, zupd_na, zupd_ni, zupp_eq, zupp_na, zupp_ni]
    exact mDgL h (by decide) (by decide) bN s0 (t1 _ hH)
  simp (disch := first | assumption | omega) only [rM_digest_156, rM_digest_159, rM_digest_162, rM_digest_165, rM_digest_166, rM_digest_167, rM_digest_168, rM_digest_171, rM_digest_172, rM_digest_173, rM_digest_174, rM_digest_175, rM_digest_178, rM_digest_179, rM_digest_180, rM_digest_181, rM_digest_182, rM_digest_183, rM_digest_184, rM_digest_187, rM_digest_188, rM_digest_189, rM_digest_190, rM_digest_191, rM_digest_192, rM_digest_193, Bool.false_eq_true, true_implies, false_implies, implies_true, true_and, and_true, not_true_eq_false, not_false_eq_true, zPush_I, zPush_L, zPush_R, zPush_U, Int.reduceLT, Int.reduceLE, Int.reduceEq, Int.reduceNe, Int.reduceAdd, Int.reduceSub, Int.reduceMul, Int.reduceNeg, Int.reduceToNat, Nat.reduceAdd, Nat.reduceMul, Nat.reduceEqDiff, zw32_id, zupd_eq, zupd_na, zupd_ni, zupp_eq, zupp_na, zupp_ni, p128, p127, e0, e1, e2]
  exact t0 _ hQ
theorem mDgM (h : zLy sh pp) (hm : mOk f G cn N D mm) (ok : fOk f) {h0 : Int} (hQ : Q (zL (dgS (limb D) 0 (nlim D).toNat (dgS (limb N) 0 (nlim N).toNat (h31 (h31 (h31 (dgS f 957 (3 * f 984).toNat (dgS f 573 384 (dgS f 537 (3 * f 983).toNat (dgS f 517 (2 * f 982).toNat (dgS f 493 (2 * f 981).toNat h0))))) (if N = 0 then 0 else 1)) (nlim N)) (nlim D))))) sh pp mm) : zS 254 80 [zR 122, zL h0, zU, zU, zU] [] sh pp mm Q := by
  have k122 := k_122 h
  have k123 := k_123 h
  have l123 := l_123 h
  have p123 := p_122_0 h
  have a1 := hm.1 981 (by decide) (by decide)
  have a2 := hm.1 982 (by decide) (by decide)
  have a3 := hm.1 983 (by decide) (by decide)
  have a4 := hm.1 984 (by decide) (by decide)
  have o1 := ok.2.2.1
  have o2 := ok.2.2.2.1
  have o3 := ok.2.2.2.2.1
  have o4 := ok.2.2.2.2.2.1
  have l1 := o1.1
  have u1 := o1.2.1
  have l2 := o2.1
  have u2 := o2.2.1
  have l3 := o3.1
  have u3 := o3.2.1
  have l4 := o4.1
  have u4 := o4.2.1
  clear o1 o2 o3 o4
  simp (disch := first | assumption | omega) only [rM_digest_80, rM_digest_81, rM_digest_82, rM_digest_85, rM_digest_86, rM_digest_87, rM_digest_88, rM_digest_91, rM_digest_92, rM_many_0, rM_many_1, rM_many_4, rM_many_7, rM_many_8, rM_many_9, rM_many_10, Bool.false_eq_true, true_implies, false_implies, implies_true, true_and, and_true, not_true_eq_false, not_false_eq_true, zPush_I, zPush_L, zPush_R, zPush_U, Int.reduceLT, Int.reduceLE, Int.reduceEq, Int.reduceNe, Int.reduceAdd, Int.reduceSub, Int.reduceMul, Int.reduceNeg, Int.reduceToNat, Nat.reduceAdd, Nat.reduceMul, Nat.reduceEqDiff, zw32_id, zupd_eq, zupd_na, zupd_ni, zupp_eq, zupp_na, zupp_ni, p123, a1]
  apply mSums h hm.1 (by omega) (by omega) (by omega)
  simp (disch := first | assumption | omega) only [rM_digest_95, rM_digest_96, rM_digest_97, rM_digest_98, rM_digest_101, rM_digest_102, rM_digest_103, rM_digest_104, rM_digest_107, rM_digest_108, rM_many_0, rM_many_1, rM_many_4, rM_many_7, rM_many_8, rM_many_9, rM_many_10, Bool.false_eq_true, true_implies, false_implies, implies_true, true_and, and_true, not_true_eq_false, not_false_eq_true, zPush_I, zPush_L, zPush_R, zPush_U, Int.reduceLT, Int.reduceLE, Int.reduceEq, Int.reduceNe, Int.reduceAdd, Int.reduceSub, Int.reduceMul, Int.reduceNeg, Int.reduceToNat, Nat.reduceAdd, Nat.reduceMul, Nat.reduceEqDiff, zw32_id, zupd_eq, zupd_na, zupd_ni, zupp_eq, zupp_na, zupp_ni, p123, a2]
  apply mSums h hm.1 (by omega) (by omega) (by omega)
  simp (disch := first | assumption | omega) only [rM_digest_111, rM_digest_112, rM_digest_113, rM_digest_114, rM_digest_117, rM_digest_118, rM_digest_119, rM_digest_120, rM_digest_123, rM_digest_124, rM_many_0, rM_many_1, rM_many_4, rM_many_7, rM_many_8, rM_many_9, rM_many_10, Bool.false_eq_true, true_implies, false_implies, implies_true, true_and, and_true, not_true_eq_false, not_false_eq_true, zPush_I, zPush_L, zPush_R, zPush_U, Int.reduceLT, Int.reduceLE, Int.reduceEq, Int.reduceNe, Int.reduceAdd, Int.reduceSub, Int.reduceMul, Int.reduceNeg, Int.reduceToNat, Nat.reduceAdd, Nat.reduceMul, Nat.reduceEqDiff, zw32_id, zupd_eq, zupd_na, zupd_ni, zupp_eq, zupp_na, zupp_ni, p123, a3]
  apply mSums h hm.1 (by omega) (by omega) (by omega)
  simp (disch := first | assumption | omega) only [rM_digest_127, rM_digest_128, rM_digest_129, rM_digest_130, rM_digest_133, rM_digest_136, rM_many_0, rM_many_1, rM_many_4, rM_many_7, rM_many_8, rM_many_9, rM_many_10, Bool.false_eq_true, true_implies, false_implies, implies_true, true_and, and_true, not_true_eq_false, not_false_eq_true, zPush_I, zPush_L, zPush_R, zPush_U, Int.reduceLT, Int.reduceLE, Int.reduceEq, Int.reduceNe, Int.reduceAdd, Int.reduceSub, Int.reduceMul, Int.reduceNeg, Int.reduceToNat, Nat.reduceAdd, Nat.reduceMul, Nat.reduceEqDiff, zw32_id, zupd_eq, zupd_na, zupd_ni, zupp_eq, zupp_na, zupp_ni, p123]
  apply mSums h hm.1 (by omega) (by omega) (by omega)
  simp (disch := first | assumption | omega) only [rM_digest_139, rM_digest_140, rM_digest_141, rM_digest_142, rM_digest_145, rM_digest_146, rM_digest_147, rM_digest_148, rM_digest_151, rM_digest_152, rM_many_0, rM_many_1, rM_many_4, rM_many_7, rM_many_8, rM_many_9, rM_many_10, Bool.false_eq_true, true_implies, false_implies, implies_true, true_and, and_true, not_true_eq_false, not_false_eq_true, zPush_I, zPush_L, zPush_R, zPush_U, Int.reduceLT, Int.reduceLE, Int.reduceEq, Int.reduceNe, Int.reduceAdd, Int.reduceSub, Int.reduceMul, Int.reduceNeg, Int.reduceToNat, Nat.reduceAdd, Nat.reduceMul, Nat.reduceEqDiff, zw32_id, zupd_eq, zupd_na, zupd_ni, zupp_eq, zupp_na, zupp_ni, p123, a4]
  apply mSums h hm.1 (by omega) (by omega) (by omega)
  simp (disch := first | assumption | omega) only [rM_digest_155, Bool.false_eq_true, true_implies, false_implies, implies_true, true_and, and_true, not_true_eq_false, not_false_eq_true, zPush_I, zPush_L, zPush_R, zPush_U, Int.reduceLT, Int.reduceLE, Int.reduceEq, Int.reduceNe, Int.reduceAdd, Int.reduceSub, Int.reduceMul, Int.reduceNeg, Int.reduceToNat, Nat.reduceAdd, Nat.reduceMul, Nat.reduceEqDiff, zw32_id, zupd_eq, zupd_na, zupd_ni, zupp_eq, zupp_na, zupp_ni]
  exact mDgE h hm hQ
theorem mDigest (h : zLy sh pp) (hm : mOk f G cn N D mm) (ok : fOk f) (hQ : Q (zL (oDigest f N D)) sh pp mm) : zS 254 0 [zR 122, zU, zU, zU, zU] [] sh pp mm Q := by
  have k122 := k_122 h
  have k123 := k_123 h
  have l123 := l_123 h
  have p123 := p_122_0 h
  unfold oDigest at hQ
  have kt : ∀ (d p : Nat), p + d = 4 → zS 254 42 [zR 122, zL (dgT f (dgS f 0 9 (dgC f 9)) p), zU, zI p, zU] [] sh pp mm Q := by
    intro d
    induction d with
    | zero =>
      intro p hp
      have hp : p = 4 := by omega
      subst hp
      rw [rM_digest_42]
      simp (disch := first | assumption | omega) only [rM_digest_43, rM_digest_44, Bool.false_eq_true, true_implies, false_implies, implies_true, true_and, and_true, not_true_eq_false, not_false_eq_true, zPush_I, zPush_L, zPush_R, zPush_U, Int.reduceLT, Int.reduceLE, Int.reduceEq, Int.reduceNe, Int.reduceAdd, Int.reduceSub, Int.reduceMul, Int.reduceNeg, Int.reduceToNat, Nat.reduceAdd, Nat.reduceMul, Nat.reduceEqDiff, zw32_id, zupd_eq, zupd_na, zupd_ni, zupp_eq, zupp_na, zupp_ni, Int.lt_irrefl, Int.cast_ofNat_Int]
      exact mDgM h hm ok hQ
    | succ d ih =>
      intro p hp
      have nx := ih (p + 1) (by omega)
      have es : dgT f (dgS f 0 9 (dgC f 9)) (p + 1) = dgS f (9 + 121 * (p : Int) + 1) (f (9 + 121 * (p : Int))).toNat (dgT f (dgS f 0 9 (dgC f 9)) p) := rfl
      rw [es] at nx
      push_cast at nx
      have o := (ok.2.1 (p : Int) (by omega) (by omega))
      have o0 := o.1
      have o1 := o.2.1
      clear o
      have e := hm.1 (9 + 121 * (p : Int)) (by omega) (by omega)
      rw [rM_digest_42]
      simp (disch := first | assumption | omega) only [rM_digest_43, rM_digest_44, rM_digest_47, rM_digest_48, rM_digest_49, rM_digest_51, rM_digest_53, rM_digest_54, rM_digest_55, rM_digest_56, rM_digest_57, rM_digest_58, rM_digest_59, rM_digest_62, rM_digest_64, rM_digest_66, rM_digest_67, rM_digest_68, rM_digest_69, rM_digest_70, Bool.false_eq_true, true_implies, false_implies, implies_true, true_and, and_true, not_true_eq_false, not_false_eq_true, zPush_I, zPush_L, zPush_R, zPush_U, Int.reduceLT, Int.reduceLE, Int.reduceEq, Int.reduceNe, Int.reduceAdd, Int.reduceSub, Int.reduceMul, Int.reduceNeg, Int.reduceToNat, Nat.reduceAdd, Nat.reduceMul, Nat.reduceEqDiff, zw32_id, zupd_eq, zupd_na, zupd_ni, zupp_eq, zupp_na, zupp_ni, p123, eq_true (show (p : Int) < 4 by omega), e]
      apply mSums h hm.1 (by omega) (by omega) (by omega)
      simp (disch := first | assumption | omega) only [rM_digest_73, rM_digest_74, rM_digest_77, Bool.false_eq_true, true_implies, false_implies, implies_true, true_and, and_true, not_true_eq_false, not_false_eq_true, zPush_I, zPush_L, zPush_R, zPush_U, Int.reduceLT, Int.reduceLE, Int.reduceEq, Int.reduceNe, Int.reduceAdd, Int.reduceSub, Int.reduceMul, Int.reduceNeg, Int.reduceToNat, Nat.reduceAdd, Nat.reduceMul, Nat.reduceEqDiff, zw32_id, zupd_eq, zupd_na, zupd_ni, zupp_eq, zupp_na, zupp_ni]
      exact nx
  have kc : ∀ (d i : Nat), i + d = 9 → zS 254 6 [zR 122, zL (dgC f i), zU, zI i, zU] [] sh pp mm Q := by
    intro d
    induction d with
    | zero =>
      intro i hi
      have hi : i = 9 := by omega
      subst hi
      rw [rM_digest_6]
      simp (disch := first | assumption | omega) only [rM_digest_7, rM_digest_9, rM_digest_31, rM_digest_32, rM_digest_33, rM_digest_34, rM_digest_36, Bool.false_eq_true, true_implies, false_implies, implies_true, true_and, and_true, not_true_eq_false, not_false_eq_true, zPush_I, zPush_L, zPush_R, zPush_U, Int.reduceLT, Int.reduceLE, Int.reduceEq, Int.reduceNe, Int.reduceAdd, Int.reduceSub, Int.reduceMul, Int.reduceNeg, Int.reduceToNat, Nat.reduceAdd, Nat.reduceMul, Nat.reduceEqDiff, zw32_id, zupd_eq, zupd_na, zupd_ni, zupp_eq, zupp_na, zupp_ni, Int.lt_irrefl, Int.cast_ofNat_Int]
      apply mSums h hm.1 (by omega) (by omega) (by omega)
      simp (disch := first | assumption | omega) only [rM_digest_39, rM_digest_40, rM_digest_41, Bool.false_eq_true, true_implies, false_implies, implies_true, true_and, and_true, not_true_eq_false, not_false_eq_true, zPush_I, zPush_L, zPush_R, zPush_U, Int.reduceLT, Int.reduceLE, Int.reduceEq, Int.reduceNe, Int.reduceAdd, Int.reduceSub, Int.reduceMul, Int.reduceNeg, Int.reduceToNat, Nat.reduceAdd, Nat.reduceMul, Nat.reduceEqDiff, zw32_id, zupd_eq, zupd_na, zupd_ni, zupp_eq, zupp_na, zupp_ni]
      exact kt 4 0 (by omega)
    | succ d ih =>
      intro i hi
      have nx := ih (i + 1) (by omega)
      have es : dgC f (i + 1) = h31 (dgC f i) (cntOf f (i : Int)) := rfl
      rw [es] at nx
      unfold h31 cntOf at nx
      push_cast at nx
      rw [rM_digest_6]
      simp (disch := first | assumption | omega) only [rM_digest_7, rM_digest_9, rM_digest_12, rM_digest_15, rM_digest_16, rM_digest_17, rM_digest_18, rM_digest_19, rM_digest_22, rM_digest_23, rM_digest_24, rM_digest_25, rM_digest_28, rM_counted_0, rM_counted_1, rM_counted_2, rM_counted_5, rM_counted_6, rM_counted_9, rM_counted_12, rM_counted_13, rM_counted_14, rM_counted_15, rM_counted_18, rM_counted_19, rM_counted_22, rM_counted_24, rM_counted_26, rM_counted_27, rM_counted_28, rM_counted_29, rM_counted_30, rM_counted_31, rM_counted_32, Bool.false_eq_true, true_implies, false_implies, implies_true, true_and, and_true, not_true_eq_false, not_false_eq_true, zPush_I, zPush_L, zPush_R, zPush_U, Int.reduceLT, Int.reduceLE, Int.reduceEq, Int.reduceNe, Int.reduceAdd, Int.reduceSub, Int.reduceMul, Int.reduceNeg, Int.reduceToNat, Nat.reduceAdd, Nat.reduceMul, Nat.reduceEqDiff, zw32_id, zupd_eq, zupd_na, zupd_ni, zupp_eq, zupp_na, zupp_ni, p123, eq_true (show (i : Int) < 9 by omega)]
      refine ⟨fun h5 => ?_, fun h5 => ?_⟩
      · rw [if_pos h5] at nx
        have e := hm.1 (981 + (i : Int)) (by omega) (by omega)
        simp (disch := first | assumption | omega) only [rM_counted_14, rM_counted_15, rM_counted_18, rM_counted_19, rM_counted_22, rM_counted_24, rM_counted_26, rM_counted_27, rM_counted_28, rM_counted_29, rM_counted_30, rM_counted_31, rM_counted_32, rM_digest_22, rM_digest_23, rM_digest_24, rM_digest_25, rM_digest_28, Bool.false_eq_true, true_implies, false_implies, implies_true, true_and, and_true, not_true_eq_false, not_false_eq_true, zPush_I, zPush_L, zPush_R, zPush_U, Int.reduceLT, Int.reduceLE, Int.reduceEq, Int.reduceNe, Int.reduceAdd, Int.reduceSub, Int.reduceMul, Int.reduceNeg, Int.reduceToNat, Nat.reduceAdd, Nat.reduceMul, Nat.reduceEqDiff, zw32_id, zupd_eq, zupd_na, zupd_ni, zupp_eq, zupp_na, zupp_ni, e]
        exact nx
      · rw [if_neg h5] at nx
        have e := hm.1 (9 + 121 * ((i : Int) - 5)) (by omega) (by omega)
        simp (disch := first | assumption | omega) only [rM_counted_14, rM_counted_15, rM_counted_18, rM_counted_19, rM_counted_22, rM_counted_24, rM_counted_26, rM_counted_27, rM_counted_28, rM_counted_29, rM_counted_30, rM_counted_31, rM_counted_32, rM_digest_22, rM_digest_23, rM_digest_24, rM_digest_25, rM_digest_28, Bool.false_eq_true, true_implies, false_implies, implies_true, true_and, and_true, not_true_eq_false, not_false_eq_true, zPush_I, zPush_L, zPush_R, zPush_U, Int.reduceLT, Int.reduceLE, Int.reduceEq, Int.reduceNe, Int.reduceAdd, Int.reduceSub, Int.reduceMul, Int.reduceNeg, Int.reduceToNat, Nat.reduceAdd, Nat.reduceMul, Nat.reduceEqDiff, zw32_id, zupd_eq, zupd_na, zupd_ni, zupp_eq, zupp_na, zupp_ni, e]
        exact nx
  simp (disch := first | assumption | omega) only [rM_digest_0, rM_digest_3, rM_digest_4, rM_digest_5, Bool.false_eq_true, true_implies, false_implies, implies_true, true_and, and_true, not_true_eq_false, not_false_eq_true, zPush_I, zPush_L, zPush_R, zPush_U, Int.reduceLT, Int.reduceLE, Int.reduceEq, Int.reduceNe, Int.reduceAdd, Int.reduceSub, Int.reduceMul, Int.reduceNeg, Int.reduceToNat, Nat.reduceAdd, Nat.reduceMul, Nat.reduceEqDiff, zw32_id, zupd_eq, zupd_na, zupd_ni, zupp_eq, zupp_na, zupp_ni]
  exact kc 9 0 (by omega)
end
