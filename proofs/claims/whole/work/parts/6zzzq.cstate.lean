/-! ===== the class: a new State ===== -/
def stQ : List (Nat × Nat) := [(9, 8), (20, 9), (24, 4), (10, 4), (20, 24), (10, 4), (20, 20), (10, 4), (20, 36), (10, 4), (20, 24), (20, 384), (10, 4), (20, 120), (10, 4), (20, 120), (10, 4), (20, 120), (10, 4), (20, 120)]
/-- a State at first -/
def f00 (k : Int) : Int := if k = 2 then 12 else if k = 3 then 8 else if k = 4 then 3 else if k = 5 then 3 else if k = 6 then 1 else if k = 7 then 2 else if k = 8 then 8 else if 573 ≤ k ∧ k < 957 then -1 else 0
section
variable {sh : zSh} {pp : zPp} {mm : zMm} {Q : zV → zSh → zPp → zMm → Prop}
theorem sAlc {q : Nat × Nat} {l : zSh} : sh ++ l ++ [q] = sh ++ (l ++ [q]) := List.append_assoc _ _ _
theorem sLen {l : zSh} : (sh ++ l).length = sh.length + l.length := List.length_append
theorem cS1 (h0 : 0 < sh.length) (h4 : zKd sh 4 = 30 ∧ zLn sh 4 = 9) (l4 : 4 < sh.length) (hQ : ∀ pp1 mm1, (∀ a i, a < sh.length → pp1 a i = pp a i) → (∀ a j, a < sh.length → mm1 a j = mm a j) → (pp1 sh.length 0 = sh.length + 1 ∧ pp1 sh.length 1 = sh.length + 2 ∧ pp1 sh.length 2 = sh.length + 3 ∧ pp1 sh.length 3 = sh.length + 5 ∧ pp1 sh.length 4 = sh.length + 7 ∧ pp1 sh.length 5 = sh.length + 9 ∧ pp1 sh.length 6 = sh.length + 11) → (pp1 (sh.length + 3) 2 = sh.length + 4 ∧ pp1 (sh.length + 5) 2 = sh.length + 6 ∧ pp1 (sh.length + 7) 2 = sh.length + 8 ∧ pp1 (sh.length + 9) 2 = sh.length + 10) → (∀ j, 0 ≤ j → j < 9 → mm1 (sh.length + 1) j = mm 4 j) → mm1 sh.length 7 = 0 → (mm1 (sh.length + 3) 0 = 2 ∧ mm1 (sh.length + 3) 1 = 12 ∧ mm1 (sh.length + 3) 3 = 0) → (mm1 (sh.length + 5) 0 = 2 ∧ mm1 (sh.length + 5) 1 = 10 ∧ mm1 (sh.length + 5) 3 = 0) → (mm1 (sh.length + 7) 0 = 3 ∧ mm1 (sh.length + 7) 1 = 12 ∧ mm1 (sh.length + 7) 3 = 0) → (mm1 (sh.length + 9) 0 = 3 ∧ mm1 (sh.length + 9) 1 = 8 ∧ mm1 (sh.length + 9) 3 = 0) → zS 91 104 [zR sh.length, zU] [] (sh ++ [(9, 8), (20, 9), (24, 4), (10, 4), (20, 24), (10, 4), (20, 20), (10, 4), (20, 36), (10, 4), (20, 24), (20, 384)]) pp1 mm1 Q) : zS 91 0 [zR sh.length, zU] [] (sh ++ [(9, 8)]) pp mm Q := by
  have kS : ∀ q : zSh, zKd (sh ++ ((9, 8) :: q)) sh.length = 9 := fun q => by
    have := zKd_sum (sh := sh) (q := (9, 8) :: q) (k := 0)
    rw [Nat.add_zero] at this
    rw [this]
    rfl
  have k4 : ∀ q : zSh, zKd (sh ++ q) 4 = 30 := fun q => by rw [zKd_app l4]; exact h4.1
  have n4 : ∀ q : zSh, zLn (sh ++ q) 4 = 9 := fun q => by rw [zLn_app l4]; exact h4.2
  have ne : sh.length ≠ 0 := by omega
  have ni : 4 ≠ sh.length + 1 := by omega
  simp (disch := first | assumption | decide | omega | exact kS _ | (simp only [zKd_sum, kS, k4, n4, zLn_sum]; decide) | (rw [sLen]; simp only [List.length_cons, List.length_nil]; omega)) only [rS_init_0, rS_init_1, rS_init_4, rS_init_5, rS_init_7, rS_init_9, rS_init_12, rS_init_13, rS_init_14, rS_init_17, rS_init_20, rS_init_21, rS_init_24, rS_init_25, rS_init_27, rS_init_28, rS_init_31, rS_init_34, rS_init_35, rS_init_38, rS_init_39, rS_init_41, rS_init_42, rS_init_45, rS_init_48, rS_init_49, rS_init_52, rS_init_53, rS_init_55, rS_init_56, rS_init_59, rS_init_62, rS_init_63, rS_init_66, rS_init_67, rS_init_69, rS_init_70, rS_init_73, rS_init_76, rS_init_77, rS_init_80, rS_init_82, rS_init_85, rS_init_86, rS_init_87, rS_init_90, rS_init_93, rS_init_94, rS_init_95, rS_init_98, rS_init_99, rS_init_101, rT_init_0, rT_init_1, rT_init_4, rT_init_5, rT_init_6, rT_init_9, rT_init_10, rT_init_11, rT_init_14, rT_init_15, rT_init_16, rT_init_19, rT_init_20, rT_init_21, rT_init_22, rT_init_23, rT_init_25, rT_init_28, Int.reduceToNat, Int.reduceMul, sAlc, List.cons_append, List.nil_append, sLen, List.length_cons, List.length_nil, Nat.reduceAdd, zPush_U, zupp_eq, zupp_na, zupp_ni, zclp_na, zw32_id]
  refine hQ _ _ (fun a i ha => ?_) (fun a j ha => ?_) ⟨?_, ?_, ?_, ?_, ?_, ?_, ?_⟩ ⟨?_, ?_, ?_, ?_⟩ (fun j j0 j1 => ?_) ?_ ⟨?_, ?_, ?_⟩ ⟨?_, ?_, ?_⟩ ⟨?_, ?_, ?_⟩ ⟨?_, ?_, ?_⟩
  · simp (disch := omega) only [zupp_na, zclp_na]
  · simp (disch := omega) only [zcpy_na, zupd_na, zclr_na]
  all_goals first
    | (simp (disch := omega) only [zupp_eq, zupp_na, zupp_ni, zclp_na]; done)
    | (simp (disch := omega) only [zcpy_na, zcpy_in, zupd_eq, zupd_na, zupd_ni, zclr_na, Int.sub_zero, Int.zero_add]; done)
    | (rw [zcpy_in (by omega) (by omega)]; simp (disch := omega) only [zupd_na, zclr_na, Int.sub_zero, Int.zero_add]; done)
end
