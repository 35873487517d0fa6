/-! ===== constructors of the class's parts ===== -/
section
variable {sh : zSh} {pp : zPp} {mm : zMm} {Q : zV → zSh → zPp → zMm → Prop}
theorem ctN (h0 : 0 < sh.length) (hQ : ∀ pp1 mm1, (∀ a i, a < sh.length → pp1 a i = pp a i) → (∀ a j, a < sh.length → mm1 a j = mm a j) → (pp1 sh.length 4 = sh.length + 1 ∧ pp1 sh.length 5 = sh.length + 2 ∧ pp1 sh.length 6 = sh.length + 3 ∧ pp1 sh.length 7 = sh.length + 4 ∧ pp1 sh.length 8 = sh.length + 5 ∧ pp1 sh.length 9 = sh.length + 6 ∧ pp1 sh.length 11 = sh.length + 7 ∧ pp1 sh.length 12 = sh.length + 8 ∧ pp1 sh.length 13 = sh.length + 9 ∧ pp1 sh.length 17 = 0) → (mm1 sh.length 10 = 0) → Q zU (sh ++ [(6, 18), (20, 12), (20, 12), (20, 12), (20, 12), (20, 12), (20, 12), (20, 12), (20, 12), (20, 12)]) pp1 mm1) : zS 53 0 [zR sh.length] [] (sh ++ [(6, 18)]) pp mm Q := by
  have kS : ∀ q : zSh, zKd (sh ++ ((6, 18) :: q)) sh.length = 6 := fun q => by
    have := zKd_sum (sh := sh) (q := (6, 18) :: q) (k := 0)
    rw [Nat.add_zero] at this
    rw [this]
    rfl
  have ne : sh.length ≠ 0 := by omega
  simp (disch := first | assumption | decide | omega | exact kS _ | (simp only [zKd_sum, zLn_sum]; decide) | (rw [sLen]; simp only [List.length_cons, List.length_nil]; omega)) only [rN_init_0, rN_init_1, rN_init_4, rN_init_5, rN_init_6, rN_init_9, rN_init_10, rN_init_11, rN_init_14, rN_init_15, rN_init_16, rN_init_19, rN_init_20, rN_init_21, rN_init_24, rN_init_25, rN_init_27, rN_init_29, rN_init_32, rN_init_33, rN_init_35, rN_init_37, rN_init_40, rN_init_41, rN_init_43, rN_init_45, rN_init_48, rN_init_49, rN_init_51, rN_init_53, rN_init_56, rN_init_57, rN_init_59, rN_init_61, rN_init_64, rN_init_65, rN_init_67, rN_init_69, rN_init_72, rN_init_73, rN_init_74, rN_init_77, rN_init_78, rN_init_80, rN_init_82, rN_init_85, rN_init_86, rN_init_88, rN_init_90, rN_init_93, rN_init_94, rN_init_96, rN_init_98, rN_init_101, rN_init_102, rN_init_103, rN_init_106, rN_init_107, rN_init_108, rN_init_111, rN_init_112, rN_init_113, rN_init_116, rN_init_117, rN_init_118, rN_init_121, Int.reduceToNat, Int.reduceMul, sAlc, List.cons_append, List.nil_append, sLen, List.length_cons, List.length_nil, Nat.reduceAdd, zPush_U, zupp_eq, zupp_na, zupp_ni, zclp_na, zw32_id]
  refine hQ _ _ (fun a i ha => ?_) (fun a j ha => ?_) ⟨?_, ?_, ?_, ?_, ?_, ?_, ?_, ?_, ?_, ?_⟩ ?_
  · simp (disch := omega) only [zupp_na, zclp_na]
  · simp (disch := omega) only [zupd_na, zclr_na]
  all_goals first
    | (simp (disch := omega) only [zupp_eq, zupp_na, zupp_ni, zclp_na]; done)
    | (simp (disch := omega) only [zupd_eq, zupd_na, zupd_ni, zclr_na, zclr_eq]; done)
theorem ctQu (h0 : 0 < sh.length) (hQ : ∀ pp1 mm1, (∀ a i, a < sh.length → pp1 a i = pp a i) → (∀ a j, a < sh.length → mm1 a j = mm a j) → (pp1 sh.length 0 = sh.length + 1 ∧ pp1 sh.length 1 = sh.length + 2 ∧ pp1 sh.length 2 = sh.length + 3) → (∀ j, mm1 (sh.length + 1) j = 0) → Q zU (sh ++ [(7, 3), (22, 8), (20, 56), (20, 448)]) pp1 mm1) : zS 71 0 [zR sh.length] [] (sh ++ [(7, 3)]) pp mm Q := by
  have kS : ∀ q : zSh, zKd (sh ++ ((7, 3) :: q)) sh.length = 7 := fun q => by
    have := zKd_sum (sh := sh) (q := (7, 3) :: q) (k := 0)
    rw [Nat.add_zero] at this
    rw [this]
    rfl
  have ne : sh.length ≠ 0 := by omega
  simp (disch := first | assumption | decide | omega | exact kS _ | (simp only [zKd_sum, zLn_sum]; decide) | (rw [sLen]; simp only [List.length_cons, List.length_nil]; omega)) only [rQ_init_0, rQ_init_1, rQ_init_4, rQ_init_5, rQ_init_7, rQ_init_9, rQ_init_12, rQ_init_13, rQ_init_15, rQ_init_17, rQ_init_20, rQ_init_21, rQ_init_24, rQ_init_26, rQ_init_29, Int.reduceToNat, Int.reduceMul, sAlc, List.cons_append, List.nil_append, sLen, List.length_cons, List.length_nil, Nat.reduceAdd, zPush_U, zupp_eq, zupp_na, zupp_ni, zclp_na, zw32_id]
  refine hQ _ _ (fun a i ha => ?_) (fun a j ha => ?_) ⟨?_, ?_, ?_⟩ (fun j => ?_)
  · simp (disch := omega) only [zupp_na, zclp_na]
  · simp (disch := omega) only [zupd_na, zclr_na]
  all_goals first
    | (simp (disch := omega) only [zupp_eq, zupp_na, zupp_ni, zclp_na]; done)
    | (simp (disch := omega) only [zupd_eq, zupd_na, zupd_ni, zclr_na, zclr_eq]; done)
theorem ctG (h0 : 0 < sh.length) (hQ : ∀ pp1 mm1, (∀ a i, a < sh.length → pp1 a i = pp a i) → (∀ a j, a < sh.length → mm1 a j = mm a j) → (pp1 sh.length 0 = sh.length + 1 ∧ pp1 sh.length 1 = sh.length + 2 ∧ pp1 sh.length 4 = sh.length + 3 ∧ pp1 sh.length 5 = sh.length + 4) → Q zU (sh ++ [(3, 6), (20, 61), (20, 61), (22, 4), (20, 16)]) pp1 mm1) : zS 37 0 [zR sh.length] [] (sh ++ [(3, 6)]) pp mm Q := by
  have kS : ∀ q : zSh, zKd (sh ++ ((3, 6) :: q)) sh.length = 3 := fun q => by
    have := zKd_sum (sh := sh) (q := (3, 6) :: q) (k := 0)
    rw [Nat.add_zero] at this
    rw [this]
    rfl
  have ne : sh.length ≠ 0 := by omega
  simp (disch := first | assumption | decide | omega | exact kS _ | (simp only [zKd_sum, zLn_sum]; decide) | (rw [sLen]; simp only [List.length_cons, List.length_nil]; omega)) only [rG_init_0, rG_init_1, rG_init_4, rG_init_5, rG_init_7, rG_init_9, rG_init_12, rG_init_13, rG_init_15, rG_init_17, rG_init_20, rG_init_21, rG_init_22, rG_init_25, rG_init_26, rG_init_27, rG_init_30, rG_init_31, rG_init_32, rG_init_34, rG_init_37, rG_init_38, rG_init_40, rG_init_42, rG_init_45, Int.reduceToNat, Int.reduceMul, sAlc, List.cons_append, List.nil_append, sLen, List.length_cons, List.length_nil, Nat.reduceAdd, zPush_U, zupp_eq, zupp_na, zupp_ni, zclp_na, zw32_id]
  refine hQ _ _ (fun a i ha => ?_) (fun a j ha => ?_) ⟨?_, ?_, ?_, ?_⟩
  · simp (disch := omega) only [zupp_na, zclp_na]
  · simp (disch := omega) only [zupd_na, zclr_na]
  all_goals first
    | (simp (disch := omega) only [zupp_eq, zupp_na, zupp_ni, zclp_na]; done)
    | (simp (disch := omega) only [zupd_eq, zupd_na, zupd_ni, zclr_na, zclr_eq]; done)
theorem ctC (h0 : 0 < sh.length) (hQ : ∀ pp1 mm1, (∀ a i, a < sh.length → pp1 a i = pp a i) → (∀ a j, a < sh.length → mm1 a j = mm a j) → (pp1 sh.length 0 = sh.length + 1 ∧ pp1 sh.length 1 = sh.length + 2 ∧ pp1 sh.length 2 = sh.length + 3 ∧ pp1 sh.length 9 = sh.length + 4 ∧ pp1 sh.length 10 = sh.length + 5 ∧ pp1 sh.length 11 = sh.length + 6) → (mm1 sh.length 5 = 0) → Q zU (sh ++ [(8, 14), (20, 30), (20, 30), (20, 30), (20, 121), (20, 121), (20, 121)]) pp1 mm1) : zS 77 0 [zR sh.length] [] (sh ++ [(8, 14)]) pp mm Q := by
  have kS : ∀ q : zSh, zKd (sh ++ ((8, 14) :: q)) sh.length = 8 := fun q => by
    have := zKd_sum (sh := sh) (q := (8, 14) :: q) (k := 0)
    rw [Nat.add_zero] at this
    rw [this]
    rfl
  have ne : sh.length ≠ 0 := by omega
  simp (disch := first | assumption | decide | omega | exact kS _ | (simp only [zKd_sum, zLn_sum]; decide) | (rw [sLen]; simp only [List.length_cons, List.length_nil]; omega)) only [rC_init_0, rC_init_1, rC_init_4, rC_init_5, rC_init_7, rC_init_9, rC_init_12, rC_init_13, rC_init_15, rC_init_17, rC_init_20, rC_init_21, rC_init_23, rC_init_25, rC_init_28, rC_init_29, rC_init_30, rC_init_33, rC_init_34, rC_init_35, rC_init_38, rC_init_39, rC_init_40, rC_init_43, rC_init_44, rC_init_45, rC_init_48, rC_init_49, rC_init_50, rC_init_53, rC_init_54, rC_init_55, rC_init_58, rC_init_59, rC_init_61, rC_init_63, rC_init_66, rC_init_67, rC_init_69, rC_init_71, rC_init_74, rC_init_75, rC_init_77, rC_init_79, rC_init_82, rC_init_83, rC_init_84, rC_init_87, rC_init_88, rC_init_89, rC_init_92, Int.reduceToNat, Int.reduceMul, sAlc, List.cons_append, List.nil_append, sLen, List.length_cons, List.length_nil, Nat.reduceAdd, zPush_U, zupp_eq, zupp_na, zupp_ni, zclp_na, zw32_id]
  refine hQ _ _ (fun a i ha => ?_) (fun a j ha => ?_) ⟨?_, ?_, ?_, ?_, ?_, ?_⟩ ?_
  · simp (disch := omega) only [zupp_na, zclp_na]
  · simp (disch := omega) only [zupd_na, zclr_na]
  all_goals first
    | (simp (disch := omega) only [zupp_eq, zupp_na, zupp_ni, zclp_na]; done)
    | (simp (disch := omega) only [zupd_eq, zupd_na, zupd_ni, zclr_na, zclr_eq]; done)
theorem ctD (h0 : 0 < sh.length) (hQ : ∀ pp1 mm1, (∀ a i, a < sh.length → pp1 a i = pp a i) → (∀ a j, a < sh.length → mm1 a j = mm a j) → (pp1 sh.length 0 = sh.length + 1 ∧ pp1 sh.length 1 = sh.length + 2 ∧ pp1 sh.length 6 = sh.length + 3 ∧ pp1 sh.length 7 = sh.length + 4 ∧ pp1 sh.length 9 = sh.length + 5 ∧ pp1 sh.length 10 = sh.length + 6) → (mm1 sh.length 5 = 0) → Q zU (sh ++ [(1, 12), (20, 384), (20, 2001), (4, 9), (4, 9), (20, 3), (20, 3)]) pp1 mm1) : zS 15 0 [zR sh.length] [] (sh ++ [(1, 12)]) pp mm Q := by
  have kS : ∀ q : zSh, zKd (sh ++ ((1, 12) :: q)) sh.length = 1 := fun q => by
    have := zKd_sum (sh := sh) (q := (1, 12) :: q) (k := 0)
    rw [Nat.add_zero] at this
    rw [this]
    rfl
  have ne : sh.length ≠ 0 := by omega
  simp (disch := first | assumption | decide | omega | exact kS _ | (simp only [zKd_sum, zLn_sum]; decide) | (rw [sLen]; simp only [List.length_cons, List.length_nil]; omega)) only [rD_init_0, rD_init_1, rD_init_4, rD_init_5, rD_init_8, rD_init_10, rD_init_13, rD_init_14, rD_init_17, rD_init_19, rD_init_22, rD_init_23, rD_init_24, rD_init_27, rD_init_28, rD_init_29, rD_init_32, rD_init_33, rD_init_34, rD_init_37, rD_init_38, rD_init_39, rD_init_42, rD_init_43, rD_init_46, rD_init_47, rD_init_50, rD_init_53, rD_init_54, rD_init_57, rD_init_58, rD_init_61, rD_init_64, rD_init_65, rD_init_66, rD_init_69, rD_init_70, rD_init_71, rD_init_73, rD_init_76, rD_init_77, rD_init_78, rD_init_80, rD_init_83, rD_init_84, rD_init_85, rD_init_88, rK_init_0, rK_init_1, rK_init_4, rK_init_5, rK_init_6, rK_init_9, rK_init_10, rK_init_11, rK_init_14, rK_init_15, rK_init_16, rK_init_19, rK_init_20, rK_init_21, rK_init_24, rK_init_25, rK_init_26, rK_init_29, rK_init_30, rK_init_31, rK_init_34, rK_init_35, rK_init_36, rK_init_39, rK_init_40, rK_init_41, rK_init_44, rK_init_45, rK_init_46, rK_init_49, Int.reduceToNat, Int.reduceMul, sAlc, List.cons_append, List.nil_append, sLen, List.length_cons, List.length_nil, Nat.reduceAdd, zPush_U, zupp_eq, zupp_na, zupp_ni, zclp_na, zw32_id]
  refine hQ _ _ (fun a i ha => ?_) (fun a j ha => ?_) ⟨?_, ?_, ?_, ?_, ?_, ?_⟩ ?_
  · simp (disch := omega) only [zupp_na, zclp_na]
  · simp (disch := omega) only [zupd_na, zclr_na]
  all_goals first
    | (simp (disch := omega) only [zupp_eq, zupp_na, zupp_ni, zclp_na]; done)
    | (simp (disch := omega) only [zupd_eq, zupd_na, zupd_ni, zclr_na, zclr_eq]; done)
end
