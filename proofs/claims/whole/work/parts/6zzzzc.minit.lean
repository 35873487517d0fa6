/-! ===== the reference's constructor ===== -/
def mQ0 : zSh := [(12, 36), (20, 986), (20, 1972), (22, 2), (20, 3), (21, 512), (20, 8), (20, 2), (20, 2), (20, 2), (22, 384), (20, 2001), (20, 3), (20, 3), (22, 384), (20, 4096), (22, 4096), (20, 12), (20, 12), (20, 36864), (20, 448)]
section
variable {sh : zSh} {pp : zPp} {mm : zMm} {Q : zV → zSh → zPp → zMm → Prop}
theorem mI1 (h0 : 0 < sh.length) (hQ : ∀ pp1 mm1, (∀ a i, a < sh.length → pp1 a i = pp a i) → (∀ a j, a < sh.length → mm1 a j = mm a j) → (pp1 sh.length 0 = sh.length + 1 ∧ pp1 sh.length 1 = sh.length + 2 ∧ pp1 sh.length 2 = sh.length + 3 ∧ pp1 sh.length 3 = sh.length + 4 ∧ pp1 sh.length 4 = sh.length + 5 ∧ pp1 sh.length 5 = sh.length + 6 ∧ pp1 sh.length 15 = sh.length + 7 ∧ pp1 sh.length 16 = sh.length + 8 ∧ pp1 sh.length 17 = sh.length + 9 ∧ pp1 sh.length 18 = sh.length + 10 ∧ pp1 sh.length 19 = sh.length + 11 ∧ pp1 sh.length 27 = sh.length + 12 ∧ pp1 sh.length 28 = sh.length + 13 ∧ pp1 sh.length 29 = sh.length + 14 ∧ pp1 sh.length 30 = sh.length + 15 ∧ pp1 sh.length 31 = sh.length + 16 ∧ pp1 sh.length 32 = sh.length + 17 ∧ pp1 sh.length 33 = sh.length + 18 ∧ pp1 sh.length 34 = sh.length + 19 ∧ pp1 sh.length 35 = sh.length + 20) → (∀ j, mm1 sh.length j = mm sh.length j) → (∀ a j, sh.length + 1 ≤ a → a < sh.length + 21 → mm1 a j = 0) → zS 150 166 [zR sh.length, zU] [] (sh ++ mQ0) pp1 mm1 Q) : zS 150 0 [zR sh.length, zU] [] (sh ++ [(12, 36)]) pp mm Q := by
  have kS : ∀ q : zSh, zKd (sh ++ ((12, 36) :: q)) sh.length = 12 := fun q => by
    have := zKd_sum (sh := sh) (q := (12, 36) :: q) (k := 0)
    rw [Nat.add_zero] at this
    rw [this]
    rfl
  have ne : sh.length ≠ 0 := by omega
  simp (disch := first | assumption | decide | omega | exact kS _ | (rw [sLen]; simp only [List.length_cons, List.length_nil]; omega)) only [rM_init_0, rM_init_1, rM_init_4, rM_init_5, rM_init_8, rM_init_10, rM_init_13, rM_init_14, rM_init_17, rM_init_19, rM_init_22, rM_init_23, rM_init_24, rM_init_26, rM_init_29, rM_init_30, rM_init_31, rM_init_33, rM_init_36, rM_init_37, rM_init_40, rM_init_42, rM_init_45, rM_init_46, rM_init_48, rM_init_50, rM_init_53, rM_init_54, rM_init_55, rM_init_57, rM_init_60, rM_init_61, rM_init_62, rM_init_64, rM_init_67, rM_init_68, rM_init_69, rM_init_71, rM_init_74, rM_init_75, rM_init_78, rM_init_80, rM_init_83, rM_init_84, rM_init_87, rM_init_89, rM_init_92, rM_init_93, rM_init_94, rM_init_96, rM_init_99, rM_init_100, rM_init_101, rM_init_103, rM_init_106, rM_init_107, rM_init_110, rM_init_112, rM_init_115, rM_init_116, rM_init_119, rM_init_121, rM_init_124, rM_init_125, rM_init_128, rM_init_130, rM_init_133, rM_init_134, rM_init_136, rM_init_138, rM_init_141, rM_init_142, rM_init_144, rM_init_146, rM_init_149, rM_init_150, rM_init_152, rM_init_154, rM_init_157, rM_init_158, rM_init_161, rM_init_163, Int.reduceToNat, Int.reduceMul, sAlc, List.cons_append, List.nil_append, sLen, List.length_cons, List.length_nil, Nat.reduceAdd]
  refine hQ _ _ (fun a i ha => ?_) (fun a j ha => ?_) ⟨?_, ?_, ?_, ?_, ?_, ?_, ?_, ?_, ?_, ?_, ?_, ?_, ?_, ?_, ?_, ?_, ?_, ?_, ?_, ?_⟩ (fun j => ?_) (fun a j h1 h2 => ?_)
  · simp (disch := omega) only [zupp_na, zclp_na]
  · simp (disch := omega) only [zclr_na]
  iterate 20 (· simp (disch := first | decide | omega) only [zupp_eq, zupp_na, zupp_ni, zclp_na])
  · simp (disch := omega) only [zclr_na]
  · unfold zclr
    have cs : a = sh.length + 1 ∨ a = sh.length + 2 ∨ a = sh.length + 3 ∨ a = sh.length + 4 ∨ a = sh.length + 5 ∨ a = sh.length + 6 ∨ a = sh.length + 7 ∨ a = sh.length + 8 ∨ a = sh.length + 9 ∨ a = sh.length + 10 ∨ a = sh.length + 11 ∨ a = sh.length + 12 ∨ a = sh.length + 13 ∨ a = sh.length + 14 ∨ a = sh.length + 15 ∨ a = sh.length + 16 ∨ a = sh.length + 17 ∨ a = sh.length + 18 ∨ a = sh.length + 19 ∨ a = sh.length + 20 := by clear hQ kS; omega
    rcases cs with rfl | rfl | rfl | rfl | rfl | rfl | rfl | rfl | rfl | rfl | rfl | rfl | rfl | rfl | rfl | rfl | rfl | rfl | rfl | rfl <;> simp
end
section
variable {sh : zSh} {pp : zPp} {mm : zMm} {Q : zV → zSh → zPp → zMm → Prop}
theorem bR_sz {g : Int → Int} {n : Int} (h : bR g n 1) : n ≤ 20 := by
  rw [bR_size h]
  decide
theorem mI2 (h : zLy sh pp) (hz : ∀ a j, 123 ≤ a → a < 143 → mm a j = 0) (h6 : mm 122 6 = 0) (hQ : ∀ m, mOk f00 (fun _ => none) (fun _ => 0) 0 1 m → frC mm m → Q zU sh pp m) : zS 150 166 [zR 122, zU] [] sh pp mm Q := by
  have k122 := k_122 h
  have k123 := k_123 h
  have l123 := l_123 h
  have p123 := p_122_0 h
  obtain ⟨mb, hmb⟩ : ∃ mb, mb = zupd (zupd (zupd (zupd (zupd (zupd (zupd mm 123 2 12) 123 3 8) 123 4 3) 123 5 3) 123 6 1) 123 7 2) 123 8 8 := ⟨_, rfl⟩
  have rb : ∀ x j, x ≠ 123 → mb x j = mm x j := fun x j hx => by rw [hmb, zupd_na hx, zupd_na hx, zupd_na hx, zupd_na hx, zupd_na hx, zupd_na hx, zupd_na hx]
  have nb : ∀ k, ¬ (573 ≤ k ∧ k < 957) → mb 123 k = f00 k := fun k hk => by
    have hn : mm 123 k = 0 := hz 123 k (by decide) (by decide)
    rw [hmb]
    unfold f00
    by_cases e2 : k = 2
    · subst e2; simp [zupd]
    by_cases e3 : k = 3
    · subst e3; simp [zupd]
    by_cases e4 : k = 4
    · subst e4; simp [zupd]
    by_cases e5 : k = 5
    · subst e5; simp [zupd]
    by_cases e6 : k = 6
    · subst e6; simp [zupd]
    by_cases e7 : k = 7
    · subst e7; simp [zupd]
    by_cases e8 : k = 8
    · subst e8; simp [zupd]
    rw [zupd_ni e8, zupd_ni e7, zupd_ni e6, zupd_ni e5, zupd_ni e4, zupd_ni e3, zupd_ni e2, if_neg e2, if_neg e3, if_neg e4, if_neg e5, if_neg e6, if_neg e7, if_neg e8, if_neg hk]
    exact hn
  have key : ∀ (d i : Nat) (m1 : zMm), i + d = 384 → (∀ x j, x ≠ 123 → m1 x j = mm x j) → (∀ k, ¬ (573 ≤ k ∧ k < 957) → m1 123 k = f00 k) → (∀ k, 573 ≤ k → k < 573 + (i : Int) → m1 123 k = -1) → zS 150 223 [zR 122, zI (i : Int)] [] sh pp m1 Q := by
    intro d
    induction d with
    | zero =>
      intro i m1 hi r1 r2 r3
      rw [rM_init_223]
      simp (disch := first | assumption | omega) only [rM_init_224, rM_init_227, rM_init_247, rM_init_248, rM_init_249, rM_init_250, Bool.false_eq_true, true_implies, false_implies, implies_true, true_and, and_true, not_true_eq_false, not_false_eq_true, zPush_I, zPush_L, zPush_R, zPush_U, Int.reduceLT, Int.reduceLE, Int.reduceEq, Int.reduceNe, Int.reduceAdd, Int.reduceSub, Int.reduceMul, Int.reduceNeg, Int.reduceToNat, Nat.reduceAdd, Nat.reduceMul, Nat.reduceEqDiff, zw32_id, zw64_id, zupd_eq, zupd_na, zupd_ni, zupp_eq, zupp_na, zupp_ni, eq_false (show ¬ (i : Int) < 384 by omega)]
      refine mSet h (s := 1) (t := 1) (by decide) (by decide) (Or.inr (Or.inl rfl)) (fun m2 b1 b2 => ?_)
      simp (disch := first | assumption | omega) only [rM_init_253, zPush_U]
      have s1 : m2 128 1 ≤ 20 := bR_sz b1
      have e : ∀ x j, ¬ pMb 1 x j → m2 x j = m1 x j := b2
      have eO : ∀ x j, x ≠ 123 → ¬ pMb 1 x j → m2 x j = mm x j := fun x j hx hn => (e x j hn).trans (r1 x j hx)
      refine hQ m2 ⟨fun k k0 k1 => ?_, fun j j0 j1 => Or.inl ⟨?_, rfl⟩, fun j j0 j1 => ?_, ?_, ?_, ?_, ?_, ?_⟩ (fun a ha => ?_)
      · rw [e _ _ (by unfold pMb; omega)]
        by_cases hk : 573 ≤ k ∧ k < 957
        · rw [r3 k hk.1 (by omega)]
          unfold f00
          rw [if_neg (by omega), if_neg (by omega), if_neg (by omega), if_neg (by omega), if_neg (by omega), if_neg (by omega), if_neg (by omega), if_pos hk]
        · exact r2 k hk
      · rw [eO _ _ (by decide) (by unfold pMb; omega)]; exact hz _ _ (by decide) (by decide)
      · rw [eO _ _ (by decide) (by unfold pMb; omega)]; exact hz _ _ (by decide) (by decide)
      · rw [eO _ _ (by decide) (by unfold pMb; omega), hz _ _ (by decide) (by decide)]; decide
      · exact s1
      · have e0 : m2 128 0 = 0 := by rw [eO _ _ (by decide) (by unfold pMb; omega)]; exact hz _ _ (by decide) (by decide)
        rw [e0]
        exact ⟨by decide, fun k k0 k1 => by omega, fun x => by omega, rfl⟩
      · exact b1
      · rw [eO _ _ (by decide) (by unfold pMb; omega), h6]; rfl
      · funext j
        exact eO a j (by omega) (by unfold pMb; omega)
    | succ d ih =>
      intro i m1 hi r1 r2 r3
      have n := ih (i + 1) (zupd m1 123 (573 + (i : Int)) (-1)) (by omega) (fun x j hx => by rw [zupd_na hx]; exact r1 x j hx) (fun k hk => by rw [zupd_ni (by omega)]; exact r2 k hk) (fun k k0 k1 => by
        by_cases ek : k = 573 + (i : Int)
        · rw [ek, zupd_eq]
        · rw [zupd_ni ek]; exact r3 k k0 (by omega))
      rw [show ((i + 1 : Nat) : Int) = (i : Int) + 1 by omega] at n
      rw [rM_init_223]
      simp (disch := first | assumption | omega) only [rM_init_224, rM_init_227, rM_init_230, rM_init_231, rM_init_234, rM_init_237, rM_init_238, rM_init_239, rM_init_240, rM_init_241, rM_init_244, Bool.false_eq_true, true_implies, false_implies, implies_true, true_and, and_true, not_true_eq_false, not_false_eq_true, zPush_I, zPush_L, zPush_R, zPush_U, Int.reduceLT, Int.reduceLE, Int.reduceEq, Int.reduceNe, Int.reduceAdd, Int.reduceSub, Int.reduceMul, Int.reduceNeg, Int.reduceToNat, Nat.reduceAdd, Nat.reduceMul, Nat.reduceEqDiff, zw32_id, zw64_id, zupd_eq, zupd_na, zupd_ni, zupp_eq, zupp_na, zupp_ni, p123, eq_true (show (i : Int) < 384 by omega)]
      exact n
  have k := key 384 0 mb (by omega) rb nb (fun k k0 k1 => by omega)
  simp (disch := first | assumption | omega) only [rM_init_166, rM_init_167, rM_init_170, rM_init_171, rM_init_173, rM_init_174, rM_init_175, rM_init_178, rM_init_179, rM_init_181, rM_init_182, rM_init_183, rM_init_186, rM_init_187, rM_init_188, rM_init_189, rM_init_190, rM_init_193, rM_init_194, rM_init_195, rM_init_196, rM_init_197, rM_init_200, rM_init_202, rM_init_203, rM_init_204, rM_init_205, rM_init_208, rM_init_210, rM_init_211, rM_init_212, rM_init_213, rM_init_216, rM_init_218, rM_init_220, rM_init_221, rM_init_222, Bool.false_eq_true, true_implies, false_implies, implies_true, true_and, and_true, not_true_eq_false, not_false_eq_true, zPush_I, zPush_L, zPush_R, zPush_U, Int.reduceLT, Int.reduceLE, Int.reduceEq, Int.reduceNe, Int.reduceAdd, Int.reduceSub, Int.reduceMul, Int.reduceNeg, Int.reduceToNat, Nat.reduceAdd, Nat.reduceMul, Nat.reduceEqDiff, zw32_id, zw64_id, zupd_eq, zupd_na, zupd_ni, zupp_eq, zupp_na, zupp_ni, p123]
  rw [← hmb]
  exact k
end
