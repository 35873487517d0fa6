/-! ===== constructors of the class: the fraction; script and drawing of a program ===== -/
def cQ0 : zSh := [(8, 14), (20, 30), (20, 30), (20, 30), (20, 121), (20, 121), (20, 121)]
def dQ0 : zSh := [(1, 12), (20, 384), (20, 2001), (4, 9), (4, 9), (20, 3), (20, 3)]
def pL (l : List (Nat × Int × Nat)) (pp : zPp) : Prop := ∀ e ∈ l, pp e.1 e.2.1 = e.2.2
theorem pL_app {l l' : List (Nat × Int × Nat)} {pp : zPp} (h : pL l pp) (h' : pL l' pp) : pL (l ++ l') pp := fun e he => by
  rcases List.mem_append.mp he with x | x
  · exact h e x
  · exact h' e x
theorem pL_fr {l : List (Nat × Int × Nat)} {pp pp' : zPp} (h : pL l pp) (hf : ∀ e ∈ l, pp' e.1 e.2.1 = pp e.1 e.2.1) : pL l pp' := fun e he => (hf e he).trans (h e he)
section
variable {sh : zSh} {pp : zPp} {mm : zMm} {Q : zV → zSh → zPp → zMm → Prop}
theorem ctFr (h0 : 0 < sh.length) (hQ : ∀ pp1 mm1, (∀ a i, a < sh.length → pp1 a i = pp a i) → (∀ a j, a < sh.length → mm1 a j = mm a j) → (pp1 sh.length 0 = sh.length + 1 ∧ pp1 sh.length 1 = sh.length + 3 ∧ pp1 sh.length 2 = sh.length + 5 ∧ pp1 sh.length 3 = sh.length + 7 ∧ pp1 (sh.length + 1) 0 = sh.length + 2 ∧ pp1 (sh.length + 3) 0 = sh.length + 4 ∧ pp1 (sh.length + 5) 0 = sh.length + 6 ∧ pp1 (sh.length + 7) 0 = sh.length + 8) → bG (sh.length + 1) 0 mm1 → bG (sh.length + 3) 1 mm1 → Q zU (sh ++ [(2, 4), (0, 2), (20, 8), (0, 2), (20, 8), (0, 2), (20, 8), (0, 2), (20, 8)]) pp1 mm1) : zS 30 0 [zR sh.length] [] (sh ++ [(2, 4)]) pp mm Q := by
  have kS : ∀ q : zSh, zKd (sh ++ ((2, 4) :: q)) sh.length = 2 := fun q => by
    have := zKd_sum (sh := sh) (q := (2, 4) :: q) (k := 0)
    rw [Nat.add_zero] at this
    rw [this]
    rfl
  have ne : sh.length ≠ 0 := by omega
  simp (disch := first | assumption | decide | omega | exact kS _ | (simp only [zKd_sum, zLn_sum]; decide) | (rw [sLen]; simp only [List.length_cons, List.length_nil]; omega)) only [rF_init_0, rF_init_1, rF_init_4, rF_init_5, rF_init_8, rF_init_9, rF_init_12, rF_init_15, rF_init_16, rF_init_19, rF_init_20, rF_init_23, rF_init_26, rF_init_27, rF_init_30, rF_init_31, rF_init_34, rF_init_37, rF_init_38, rF_init_41, rF_init_42, rF_init_45, rF_init_48, rF_init_49, rF_init_52, rF_init_53, rB_init_0, rB_init_1, rB_init_4, rB_init_5, rB_init_7, rB_init_9, rB_init_12, rB_init_13, rB_init_14, rB_init_17, Int.reduceToNat, Int.reduceMul, sAlc, List.cons_append, List.nil_append, sLen, List.length_cons, List.length_nil, Nat.reduceAdd, zPush_U, zupp_eq, zupp_na, zupp_ni, zclp_na, zw32_id]
  refine cBecome (a := sh.length + 3) (t := 1) ⟨by rw [zKd_sum]; rfl, by rw [show sh.length + 3 + 1 = sh.length + 4 by omega, zKd_sum]; rfl, by rw [show sh.length + 3 + 1 = sh.length + 4 by omega, zLn_sum]; rfl, ?_⟩ (by decide) (fun m1 b1 b2 => ?_)
  · simp (disch := omega) only [zupp_eq, zupp_na, zupp_ni, zclp_na]
  · simp only [rF_init_56, zPush_U]
    refine hQ _ m1 (fun a i ha => ?_) (fun a j ha => ?_) ⟨?_, ?_, ?_, ?_, ?_, ?_, ?_, ?_⟩ ?_ b1
    · simp (disch := omega) only [zupp_na, zclp_na]
    · rw [b2 _ _ (by unfold pB; omega)]
      simp (disch := omega) only [zupd_na, zclr_na]
    · simp (disch := omega) only [zupp_eq, zupp_na, zupp_ni, zclp_na]
    · simp (disch := omega) only [zupp_eq, zupp_na, zupp_ni, zclp_na]
    · simp (disch := omega) only [zupp_eq, zupp_na, zupp_ni, zclp_na]
    · simp (disch := omega) only [zupp_eq, zupp_na, zupp_ni, zclp_na]
    · simp (disch := omega) only [zupp_eq, zupp_na, zupp_ni, zclp_na]
    · simp (disch := omega) only [zupp_eq, zupp_na, zupp_ni, zclp_na]
    · simp (disch := omega) only [zupp_eq, zupp_na, zupp_ni, zclp_na]
    · simp (disch := omega) only [zupp_eq, zupp_na, zupp_ni, zclp_na]
    · refine ⟨⟨fun k k0 k1 => ?_, ?_⟩, ?_⟩
      · rw [b2 _ _ (by unfold pB; omega)]
        simp (disch := omega) only [zupd_na, zclr_na, zclr_eq]
        exact ⟨by decide, by decide⟩
      · have e : m1 (sh.length + 1 + 1) = fun _ => 0 := by
          funext k
          rw [b2 _ _ (by unfold pB; omega)]
          simp (disch := omega) only [zupd_na, zclr_na, zclr_eq]
        rw [e]
        rfl
      · rw [b2 _ _ (by unfold pB; omega)]
        simp (disch := omega) only [zupd_eq, zupd_na, zupd_ni, zclr_na, zclr_eq]
        rfl
theorem xP1 (l66 : 66 ≤ sh.length) (k13 : zKd sh 13 = 11) (k36 : zKd sh 36 = 26) (l36 : zLn sh 36 = 4) (p3 : pp 13 3 = 36) {p : Int} (hp0 : 0 ≤ p) (hp4 : p < 4) (hQ : ∀ pp1 mm1, (∀ a i, a < sh.length → ¬ (a = 36 ∧ i = p) → pp1 a i = pp a i) → (∀ a j, a < sh.length → mm1 a j = mm a j) → (pp1 36 p = sh.length ∧ pp1 sh.length 0 = sh.length + 1 ∧ pp1 sh.length 1 = sh.length + 2 ∧ pp1 sh.length 2 = sh.length + 3 ∧ pp1 sh.length 9 = sh.length + 4 ∧ pp1 sh.length 10 = sh.length + 5 ∧ pp1 sh.length 11 = sh.length + 6) → mm1 sh.length 5 = 0 → zS 102 110 [zR 13, zI p] [] (sh ++ cQ0) pp1 mm1 Q) : zS 102 92 [zR 13, zI p] [] sh pp mm Q := by
  have kS : zKd (sh ++ [(8, 14)]) sh.length = 8 := zKd_at (k := 0) (x := (8, 14)) rfl rfl
  have l36' : (36 : Nat) < sh.length := by omega
  have ne36 : sh.length ≠ 36 := by omega
  have j36 : zKd (sh ++ cQ0) 36 = 26 := by rw [zKd_app l36']; exact k36
  have n36 : zLn (sh ++ cQ0) 36 = 4 := by rw [zLn_app l36']; exact l36
  have jS : zKd (sh ++ cQ0) sh.length = 8 := zKd_at (k := 0) (x := (8, 14)) rfl rfl
  have ty : (zKd (sh ++ cQ0) 36 = 24 ∧ zKd (sh ++ cQ0) sh.length = 10) ∨ (zKd (sh ++ cQ0) 36 = 25 ∧ zKd (sh ++ cQ0) sh.length = 9) ∨ (zKd (sh ++ cQ0) 36 = 26 ∧ zKd (sh ++ cQ0) sh.length = 8) ∨ (zKd (sh ++ cQ0) 36 = 27 ∧ zKd (sh ++ cQ0) sh.length = 1) := Or.inr (Or.inr (Or.inl ⟨j36, jS⟩))
  have hl1 : p < zLn (sh ++ cQ0) 36 := by rw [n36]; exact hp4
  have h0 : 0 < sh.length := by omega
  rw [rX_init_92]
  simp (disch := first | assumption | decide) only [rX_init_93, rX_init_94, rX_init_97, rX_init_98, rX_init_101, rX_init_102, rX_init_105, rX_init_106, p3, eq_true hp4, true_implies, not_true_eq_false, false_implies, and_true]
  refine ctC h0 (fun pa ma a1 a2 ⟨a3, a4, a5, a6, a7, a8⟩ a9 => ?_)
  have e1 : ∀ a i, a < sh.length → pa a i = pp a i := fun a i ha => (a1 a i ha).trans (zclp_na (Nat.ne_of_lt ha))
  have e2 : ∀ a j, a < sh.length → ma a j = mm a j := fun a j ha => (a2 a j ha).trans (zclr_na (Nat.ne_of_lt ha))
  show zS 102 109 [zR 13, zI p] (zPush zU [zR sh.length, zI p, zR 36]) (sh ++ cQ0) pa ma Q
  simp (disch := first | assumption | decide) only [rX_init_109, zPush_U]
  have g : ∀ i, zupp pa 36 p sh.length sh.length i = pa sh.length i := fun i => zupp_na ne36
  exact hQ _ ma (fun a i ha hn => by unfold zupp; rw [if_neg hn]; exact e1 a i ha) e2 ⟨zupp_eq _ _ _ _, (g 0).trans a3, (g 1).trans a4, (g 2).trans a5, (g 9).trans a6, (g 10).trans a7, (g 11).trans a8⟩ a9
theorem xP2 (l66 : 66 ≤ sh.length) (k13 : zKd sh 13 = 11) (k37 : zKd sh 37 = 27) (l37 : zLn sh 37 = 4) (p4 : pp 13 4 = 37) {p : Int} (hp0 : 0 ≤ p) (hp4 : p < 4) (hQ : ∀ pp1 mm1, (∀ a i, a < sh.length → ¬ (a = 37 ∧ i = p) → pp1 a i = pp a i) → (∀ a j, a < sh.length → mm1 a j = mm a j) → (pp1 37 p = sh.length ∧ pp1 sh.length 0 = sh.length + 1 ∧ pp1 sh.length 1 = sh.length + 2 ∧ pp1 sh.length 6 = sh.length + 3 ∧ pp1 sh.length 7 = sh.length + 4 ∧ pp1 sh.length 9 = sh.length + 5 ∧ pp1 sh.length 10 = sh.length + 6) → mm1 sh.length 5 = 0 → zS 102 92 [zR 13, zI (p + 1)] [] (sh ++ dQ0) pp1 mm1 Q) : zS 102 110 [zR 13, zI p] [] sh pp mm Q := by
  have kS : zKd (sh ++ [(1, 12)]) sh.length = 1 := zKd_at (k := 0) (x := (1, 12)) rfl rfl
  have l37' : (37 : Nat) < sh.length := by omega
  have ne37 : sh.length ≠ 37 := by omega
  have j37 : zKd (sh ++ dQ0) 37 = 27 := by rw [zKd_app l37']; exact k37
  have n37 : zLn (sh ++ dQ0) 37 = 4 := by rw [zLn_app l37']; exact l37
  have jS : zKd (sh ++ dQ0) sh.length = 1 := zKd_at (k := 0) (x := (1, 12)) rfl rfl
  have ty : (zKd (sh ++ dQ0) 37 = 24 ∧ zKd (sh ++ dQ0) sh.length = 10) ∨ (zKd (sh ++ dQ0) 37 = 25 ∧ zKd (sh ++ dQ0) sh.length = 9) ∨ (zKd (sh ++ dQ0) 37 = 26 ∧ zKd (sh ++ dQ0) sh.length = 8) ∨ (zKd (sh ++ dQ0) 37 = 27 ∧ zKd (sh ++ dQ0) sh.length = 1) := Or.inr (Or.inr (Or.inr ⟨j37, jS⟩))
  have hl1 : p < zLn (sh ++ dQ0) 37 := by rw [n37]; exact hp4
  have h0 : 0 < sh.length := by omega
  have ep : zw32 (p + 1) = p + 1 := zw32_id (by omega) (by omega)
  simp (disch := first | assumption | decide) only [rX_init_110, rX_init_111, rX_init_114, rX_init_115, rX_init_118, rX_init_119, p4]
  refine ctD h0 (fun pa ma a1 a2 ⟨a3, a4, a5, a6, a7, a8⟩ a9 => ?_)
  have e1 : ∀ a i, a < sh.length → pa a i = pp a i := fun a i ha => (a1 a i ha).trans (zclp_na (Nat.ne_of_lt ha))
  have e2 : ∀ a j, a < sh.length → ma a j = mm a j := fun a j ha => (a2 a j ha).trans (zclr_na (Nat.ne_of_lt ha))
  show zS 102 122 [zR 13, zI p] (zPush zU [zR sh.length, zI p, zR 37]) (sh ++ dQ0) pa ma Q
  simp (disch := first | assumption | decide) only [rX_init_122, rX_init_123, rX_init_126, zPush_U, ep]
  have g : ∀ i, zupp pa 37 p sh.length sh.length i = pa sh.length i := fun i => zupp_na ne37
  exact hQ _ ma (fun a i ha hn => by unfold zupp; rw [if_neg hn]; exact e1 a i ha) e2 ⟨zupp_eq _ _ _ _, (g 0).trans a3, (g 1).trans a4, (g 6).trans a5, (g 7).trans a6, (g 9).trans a7, (g 10).trans a8⟩ a9
end
