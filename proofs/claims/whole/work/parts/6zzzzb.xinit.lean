/-! ===== the class's constructor ===== -/
theorem pL_c {e : Nat × Int × Nat} {l : List (Nat × Int × Nat)} {pp : zPp} (h : pp e.1 e.2.1 = e.2.2) (h' : pL l pp) : pL (e :: l) pp := fun x hx => by
  rcases List.mem_cons.mp hx with rfl | y
  · exact h
  · exact h' x y
theorem pL_n {pp : zPp} : pL [] pp := fun x hx => by cases hx
theorem pL_lt {l : List (Nat × Int × Nat)} {pp pp' : zPp} {n : Nat} (h : pL l pp) (hl : ∀ e ∈ l, e.1 < n) (hf : ∀ a i, a < n → pp' a i = pp a i) : pL l pp' := pL_fr h (fun e he => hf _ _ (hl e he))
theorem pL_up {l : List (Nat × Int × Nat)} {pp : zPp} {a v : Nat} {i : Int} (h : pL l pp) (hl : ∀ e ∈ l, ¬ (e.1 = a ∧ e.2.1 = i)) : pL l (zupp pp a i v) := pL_fr h (fun e he => by
  unfold zupp
  rw [if_neg (hl e he)])
theorem pL_rg {l : List (Nat × Int × Nat)} {pp pp' : zPp} {lo hi : Nat} (h : pL l pp) (hl : ∀ e ∈ l, lo ≤ e.1 ∧ e.1 < hi) (hf : ∀ a i, lo ≤ a → a < hi → pp' a i = pp a i) : pL l pp' := pL_fr h (fun e he => hf _ _ (hl e he).1 (hl e he).2)
theorem zclp_eq {pp : zPp} {a : Nat} {j : Int} : zclp pp a a j = 0 := by unfold zclp; rw [if_pos rfl]
section
variable {pp : zPp} {mm : zMm} {Q : zV → zSh → zPp → zMm → Prop} {L : Nat}
theorem xI1 (hat : ∀ j, 0 ≤ j → j < 9 → mm 4 j = f00 j) (hQ : ∀ pp1 mm1, (∀ a i, a < 13 → pp1 a i = pp a i) → (∀ a j, a < 13 → mm1 a j = mm a j) → pL ([(14, 0, 15), (14, 1, 16), (14, 2, 17), (14, 3, 19), (14, 4, 21), (14, 5, 23), (14, 6, 25), (17, 2, 18), (19, 2, 20), (21, 2, 22), (23, 2, 24), (16, 0, 26), (16, 1, 28), (16, 2, 30), (16, 3, 32), (26, 2, 27), (28, 2, 29), (30, 2, 31), (32, 2, 33)] ++ [(13, 0, 14), (13, 1, 34), (13, 2, 35), (13, 3, 36), (13, 4, 37)]) pp1 → stI 14 f00 mm1 → (∀ i, pp1 34 i = 0) → (∀ j, mm1 35 j = 0) → zS 102 46 [zR 13, zU] [] (zS0 L ++ [(11, 9)] ++ stQ ++ [(25, 2)] ++ [(20, 3)] ++ [(26, 4)] ++ [(27, 4)]) pp1 mm1 Q) : zS 102 0 [zR 13, zU] [] (zS0 L ++ [(11, 9)]) pp mm Q := by
  have z0 : (13 : Nat) ≠ 0 := by decide
  have z1 : 13 < (zS0 L ++ [(11, 9)]).length := by show 13 < 14; decide
  have kS : zKd (zS0 L ++ [(11, 9)] ++ [(9, 8)]) (zS0 L ++ [(11, 9)]).length = 9 := rfl
  simp (disch := first | assumption | decide | rfl) only [rX_init_0, rX_init_1, rX_init_4, rX_init_5, rX_init_8, rX_init_9]
  refine cState (sh := zS0 L ++ [(11, 9)]) (by show 4 < 14; decide) ⟨rfl, rfl⟩ (fun j j0 j1 => ?_) (fun pa ma a1 a2 a3 a4 => ?_)
  · show zclr mm 14 4 j = f00 j
    rw [zclr_na (by decide)]
    exact hat j j0 j1
  · have e1 : ∀ a i, a < 14 → pa a i = pp a i := fun a i ha => by
      have := a1 a i ha
      rw [this]
      exact zclp_na (show a ≠ 14 by omega)
    have e2 : ∀ a j, a < 14 → ma a j = mm a j := fun a j ha => by
      have := a2 a j ha
      rw [this]
      exact zclr_na (show a ≠ 14 by omega)
    have I1 : stI 14 f00 ma := a4
    have P1 : pL [(14, 0, 15), (14, 1, 16), (14, 2, 17), (14, 3, 19), (14, 4, 21), (14, 5, 23), (14, 6, 25), (17, 2, 18), (19, 2, 20), (21, 2, 22), (23, 2, 24), (16, 0, 26), (16, 1, 28), (16, 2, 30), (16, 3, 32), (26, 2, 27), (28, 2, 29), (30, 2, 31), (32, 2, 33)] pa := by
      have a3' : stL (zS0 L ++ [(11, 9)] ++ stQ) pa 14 := a3
      obtain ⟨-, ⟨-, -, q1⟩, ⟨-, -, q2⟩, ⟨⟨-, -, -, q3⟩, q4⟩, ⟨⟨-, -, -, q5⟩, q6⟩, ⟨⟨-, -, -, q7⟩, q8⟩, ⟨⟨-, -, -, q9⟩, q10⟩, ⟨-, -, q11⟩, hx⟩ := a3'
      obtain ⟨⟨-, -, -, r0⟩, t0⟩ := hx 0 (by decide)
      obtain ⟨⟨-, -, -, r1⟩, t1⟩ := hx 1 (by decide)
      obtain ⟨⟨-, -, -, r2⟩, t2⟩ := hx 2 (by decide)
      obtain ⟨⟨-, -, -, r3⟩, t3⟩ := hx 3 (by decide)
      exact pL_c q1 (pL_c q2 (pL_c q4 (pL_c q6 (pL_c q8 (pL_c q10 (pL_c q11 (pL_c q3 (pL_c q5 (pL_c q7 (pL_c q9 (pL_c t0 (pL_c t1 (pL_c t2 (pL_c t3 (pL_c r0 (pL_c r1 (pL_c r2 (pL_c r3 pL_n))))))))))))))))))
    show zS 102 12 [zR 13, zU] (zPush zU [zR 14, zR 13]) (zS0 L ++ [(11, 9)] ++ stQ) pa ma Q
    have n1 : (zS0 L ++ [(11, 9)] ++ stQ).length = 34 := rfl
    have c1 : zKd (zS0 L ++ [(11, 9)] ++ stQ) 13 = 11 := rfl
    have c2 : zKd (zS0 L ++ [(11, 9)] ++ stQ ++ [(25, 2)]) 13 = 11 := rfl
    have c3 : zKd (zS0 L ++ [(11, 9)] ++ stQ ++ [(25, 2)] ++ [(20, 3)]) 13 = 11 := rfl
    have c4 : zKd (zS0 L ++ [(11, 9)] ++ stQ ++ [(25, 2)] ++ [(20, 3)] ++ [(26, 4)]) 13 = 11 := rfl
    have c5 : zKd (zS0 L ++ [(11, 9)] ++ stQ ++ [(25, 2)] ++ [(20, 3)] ++ [(26, 4)] ++ [(27, 4)]) 13 = 11 := rfl
    have n2 : (zS0 L ++ [(11, 9)] ++ stQ ++ [(25, 2)]).length = 35 := rfl
    have n3 : (zS0 L ++ [(11, 9)] ++ stQ ++ [(25, 2)] ++ [(20, 3)]).length = 36 := rfl
    have n4 : (zS0 L ++ [(11, 9)] ++ stQ ++ [(25, 2)] ++ [(20, 3)] ++ [(26, 4)]).length = 37 := rfl
    simp (disch := first | assumption | decide | rfl) only [rX_init_12, rX_init_15, rX_init_16, rX_init_17, rX_init_20, rX_init_23, rX_init_24, rX_init_25, rX_init_27, rX_init_30, rX_init_31, rX_init_32, rX_init_35, rX_init_38, rX_init_39, rX_init_40, rX_init_43, zPush_U, n1, n2, n3, n4, Int.reduceToNat]
    refine hQ _ _ (fun a i ha => ?_) (fun a j ha => ?_) (pL_app (pL_rg (lo := 14) (hi := 34) P1 (by decide) (fun a i h1 h2 => ?_)) (pL_c ?_ (pL_c ?_ (pL_c ?_ (pL_c ?_ (pL_c ?_ pL_n)))))) (stI_sm I1 (fun x b1 b2 => ?_)) (fun i => ?_) (fun j => ?_)
    · simp (disch := omega) only [zupp_na, zclp_na]
      exact e1 a i (by omega)
    · simp (disch := omega) only [zclr_na]
      exact e2 a j (by omega)
    · simp (disch := omega) only [zupp_na, zclp_na]
    · simp (disch := first | decide | omega) only [zupp_eq, zupp_na, zupp_ni, zclp_na]
    · simp (disch := first | decide | omega) only [zupp_eq, zupp_na, zupp_ni, zclp_na]
    · simp (disch := first | decide | omega) only [zupp_eq, zupp_na, zupp_ni, zclp_na]
    · simp (disch := first | decide | omega) only [zupp_eq, zupp_na, zupp_ni, zclp_na]
    · simp (disch := first | decide | omega) only [zupp_eq, zupp_na, zupp_ni, zclp_na]
    · funext j
      simp (disch := omega) only [zclr_na]
    · simp (disch := first | decide | omega) only [zupp_na, zclp_na, zclp_eq]
    · simp (disch := first | decide | omega) only [zclr_na, zclr_eq]
theorem xI2 (hQ : ∀ pp1 mm1, (∀ a i, a < 38 → ¬ (a = 13 ∧ i = 5) → pp1 a i = pp a i) → (∀ a j, a < 38 → mm1 a j = mm a j) → pL ((13, 5, 38) :: [(38, 4, 39), (38, 5, 40), (38, 6, 41), (38, 7, 42), (38, 8, 43), (38, 9, 44), (38, 11, 45), (38, 12, 46), (38, 13, 47)]) pp1 → pp1 38 17 = 0 → mm1 38 10 = 0 → zS 102 57 [zR 13, zU] [] (zS0 L ++ [(11, 9)] ++ stQ ++ [(25, 2)] ++ [(20, 3)] ++ [(26, 4)] ++ [(27, 4)] ++ [(6, 18), (20, 12), (20, 12), (20, 12), (20, 12), (20, 12), (20, 12), (20, 12), (20, 12), (20, 12)]) pp1 mm1 Q) : zS 102 46 [zR 13, zU] [] (zS0 L ++ [(11, 9)] ++ stQ ++ [(25, 2)] ++ [(20, 3)] ++ [(26, 4)] ++ [(27, 4)]) pp mm Q := by
  have n1 : (zS0 L ++ [(11, 9)] ++ stQ ++ [(25, 2)] ++ [(20, 3)] ++ [(26, 4)] ++ [(27, 4)]).length = 38 := rfl
  have k1 : zKd (zS0 L ++ [(11, 9)] ++ stQ ++ [(25, 2)] ++ [(20, 3)] ++ [(26, 4)] ++ [(27, 4)] ++ [(6, 18)]) 38 = 6 := rfl
  simp (disch := first | assumption | decide | rfl) only [rX_init_46, rX_init_47, rX_init_50, rX_init_51, n1]
  refine ctN (sh := zS0 L ++ [(11, 9)] ++ stQ ++ [(25, 2)] ++ [(20, 3)] ++ [(26, 4)] ++ [(27, 4)]) (by show 0 < 38; decide) (fun pa ma a1 a2 ⟨q1, q2, q3, q4, q5, q6, q7, q8, q9, q10⟩ a4 => ?_)
  have e1 : ∀ a i, a < 38 → pa a i = pp a i := fun a i ha => by
    have := a1 a i ha
    rw [this]
    exact zclp_na (show a ≠ 38 by omega)
  have e2 : ∀ a j, a < 38 → ma a j = mm a j := fun a j ha => by
    have := a2 a j ha
    rw [this]
    exact zclr_na (show a ≠ 38 by omega)
  show zS 102 54 [zR 13, zU] (zPush zU [zR 38, zR 13]) (zS0 L ++ [(11, 9)] ++ stQ ++ [(25, 2)] ++ [(20, 3)] ++ [(26, 4)] ++ [(27, 4)] ++ [(6, 18), (20, 12), (20, 12), (20, 12), (20, 12), (20, 12), (20, 12), (20, 12), (20, 12), (20, 12)]) pa ma Q
  have k2 : zKd (zS0 L ++ [(11, 9)] ++ stQ ++ [(25, 2)] ++ [(20, 3)] ++ [(26, 4)] ++ [(27, 4)] ++ [(6, 18), (20, 12), (20, 12), (20, 12), (20, 12), (20, 12), (20, 12), (20, 12), (20, 12), (20, 12)]) 13 = 11 := rfl
  simp (disch := first | assumption | decide) only [rX_init_54, zPush_U]
  have P : pL [(38, 4, 39), (38, 5, 40), (38, 6, 41), (38, 7, 42), (38, 8, 43), (38, 9, 44), (38, 11, 45), (38, 12, 46), (38, 13, 47)] pa := pL_c q1 (pL_c q2 (pL_c q3 (pL_c q4 (pL_c q5 (pL_c q6 (pL_c q7 (pL_c q8 (pL_c q9 pL_n))))))))
  exact hQ _ ma (fun a i ha hn => by unfold zupp; rw [if_neg hn]; exact e1 a i ha) e2 (pL_c (zupp_eq _ _ _ _) (pL_rg (lo := 38) (hi := 39) P (by decide) (fun a i h1 h2 => zupp_na (by omega)))) (by rw [zupp_na (by decide)]; exact q10) a4
theorem xI3 (hQ : ∀ pp1 mm1, (∀ a i, a < 48 → ¬ (a = 13 ∧ i = 6) → pp1 a i = pp a i) → (∀ a j, a < 48 → mm1 a j = mm a j) → pL ((13, 6, 48) :: [(48, 0, 49), (48, 1, 50), (48, 2, 51)]) pp1 → (∀ j, mm1 49 j = 0) → zS 102 68 [zR 13, zU] [] (zS0 L ++ [(11, 9)] ++ stQ ++ [(25, 2)] ++ [(20, 3)] ++ [(26, 4)] ++ [(27, 4)] ++ [(6, 18), (20, 12), (20, 12), (20, 12), (20, 12), (20, 12), (20, 12), (20, 12), (20, 12), (20, 12)] ++ [(7, 3), (22, 8), (20, 56), (20, 448)]) pp1 mm1 Q) : zS 102 57 [zR 13, zU] [] (zS0 L ++ [(11, 9)] ++ stQ ++ [(25, 2)] ++ [(20, 3)] ++ [(26, 4)] ++ [(27, 4)] ++ [(6, 18), (20, 12), (20, 12), (20, 12), (20, 12), (20, 12), (20, 12), (20, 12), (20, 12), (20, 12)]) pp mm Q := by
  have n1 : (zS0 L ++ [(11, 9)] ++ stQ ++ [(25, 2)] ++ [(20, 3)] ++ [(26, 4)] ++ [(27, 4)] ++ [(6, 18), (20, 12), (20, 12), (20, 12), (20, 12), (20, 12), (20, 12), (20, 12), (20, 12), (20, 12)]).length = 48 := rfl
  have k1 : zKd (zS0 L ++ [(11, 9)] ++ stQ ++ [(25, 2)] ++ [(20, 3)] ++ [(26, 4)] ++ [(27, 4)] ++ [(6, 18), (20, 12), (20, 12), (20, 12), (20, 12), (20, 12), (20, 12), (20, 12), (20, 12), (20, 12)] ++ [(7, 3)]) 48 = 7 := rfl
  simp (disch := first | assumption | decide | rfl) only [rX_init_57, rX_init_58, rX_init_61, rX_init_62, n1]
  refine ctQu (sh := zS0 L ++ [(11, 9)] ++ stQ ++ [(25, 2)] ++ [(20, 3)] ++ [(26, 4)] ++ [(27, 4)] ++ [(6, 18), (20, 12), (20, 12), (20, 12), (20, 12), (20, 12), (20, 12), (20, 12), (20, 12), (20, 12)]) (by show 0 < 48; decide) (fun pa ma a1 a2 ⟨q1, q2, q3⟩ a4 => ?_)
  have e1 : ∀ a i, a < 48 → pa a i = pp a i := fun a i ha => by
    have := a1 a i ha
    rw [this]
    exact zclp_na (show a ≠ 48 by omega)
  have e2 : ∀ a j, a < 48 → ma a j = mm a j := fun a j ha => by
    have := a2 a j ha
    rw [this]
    exact zclr_na (show a ≠ 48 by omega)
  show zS 102 65 [zR 13, zU] (zPush zU [zR 48, zR 13]) (zS0 L ++ [(11, 9)] ++ stQ ++ [(25, 2)] ++ [(20, 3)] ++ [(26, 4)] ++ [(27, 4)] ++ [(6, 18), (20, 12), (20, 12), (20, 12), (20, 12), (20, 12), (20, 12), (20, 12), (20, 12), (20, 12)] ++ [(7, 3), (22, 8), (20, 56), (20, 448)]) pa ma Q
  have k2 : zKd (zS0 L ++ [(11, 9)] ++ stQ ++ [(25, 2)] ++ [(20, 3)] ++ [(26, 4)] ++ [(27, 4)] ++ [(6, 18), (20, 12), (20, 12), (20, 12), (20, 12), (20, 12), (20, 12), (20, 12), (20, 12), (20, 12)] ++ [(7, 3), (22, 8), (20, 56), (20, 448)]) 13 = 11 := rfl
  simp (disch := first | assumption | decide) only [rX_init_65, zPush_U]
  have P : pL [(48, 0, 49), (48, 1, 50), (48, 2, 51)] pa := pL_c q1 (pL_c q2 (pL_c q3 pL_n))
  exact hQ _ ma (fun a i ha hn => by unfold zupp; rw [if_neg hn]; exact e1 a i ha) e2 (pL_c (zupp_eq _ _ _ _) (pL_rg (lo := 48) (hi := 49) P (by decide) (fun a i h1 h2 => zupp_na (by omega)))) a4
theorem xI4 (hQ : ∀ pp1 mm1, (∀ a i, a < 52 → ¬ (a = 13 ∧ i = 7) → pp1 a i = pp a i) → (∀ a j, a < 52 → mm1 a j = mm a j) → pL ((13, 7, 52) :: [(52, 0, 53), (52, 1, 54), (52, 4, 55), (52, 5, 56)]) pp1 → zS 102 79 [zR 13, zU] [] (zS0 L ++ [(11, 9)] ++ stQ ++ [(25, 2)] ++ [(20, 3)] ++ [(26, 4)] ++ [(27, 4)] ++ [(6, 18), (20, 12), (20, 12), (20, 12), (20, 12), (20, 12), (20, 12), (20, 12), (20, 12), (20, 12)] ++ [(7, 3), (22, 8), (20, 56), (20, 448)] ++ [(3, 6), (20, 61), (20, 61), (22, 4), (20, 16)]) pp1 mm1 Q) : zS 102 68 [zR 13, zU] [] (zS0 L ++ [(11, 9)] ++ stQ ++ [(25, 2)] ++ [(20, 3)] ++ [(26, 4)] ++ [(27, 4)] ++ [(6, 18), (20, 12), (20, 12), (20, 12), (20, 12), (20, 12), (20, 12), (20, 12), (20, 12), (20, 12)] ++ [(7, 3), (22, 8), (20, 56), (20, 448)]) pp mm Q := by
  have n1 : (zS0 L ++ [(11, 9)] ++ stQ ++ [(25, 2)] ++ [(20, 3)] ++ [(26, 4)] ++ [(27, 4)] ++ [(6, 18), (20, 12), (20, 12), (20, 12), (20, 12), (20, 12), (20, 12), (20, 12), (20, 12), (20, 12)] ++ [(7, 3), (22, 8), (20, 56), (20, 448)]).length = 52 := rfl
  have k1 : zKd (zS0 L ++ [(11, 9)] ++ stQ ++ [(25, 2)] ++ [(20, 3)] ++ [(26, 4)] ++ [(27, 4)] ++ [(6, 18), (20, 12), (20, 12), (20, 12), (20, 12), (20, 12), (20, 12), (20, 12), (20, 12), (20, 12)] ++ [(7, 3), (22, 8), (20, 56), (20, 448)] ++ [(3, 6)]) 52 = 3 := rfl
  simp (disch := first | assumption | decide | rfl) only [rX_init_68, rX_init_69, rX_init_72, rX_init_73, n1]
  refine ctG (sh := zS0 L ++ [(11, 9)] ++ stQ ++ [(25, 2)] ++ [(20, 3)] ++ [(26, 4)] ++ [(27, 4)] ++ [(6, 18), (20, 12), (20, 12), (20, 12), (20, 12), (20, 12), (20, 12), (20, 12), (20, 12), (20, 12)] ++ [(7, 3), (22, 8), (20, 56), (20, 448)]) (by show 0 < 52; decide) (fun pa ma a1 a2 ⟨q1, q2, q3, q4⟩ => ?_)
  have e1 : ∀ a i, a < 52 → pa a i = pp a i := fun a i ha => by
    have := a1 a i ha
    rw [this]
    exact zclp_na (show a ≠ 52 by omega)
  have e2 : ∀ a j, a < 52 → ma a j = mm a j := fun a j ha => by
    have := a2 a j ha
    rw [this]
    exact zclr_na (show a ≠ 52 by omega)
  show zS 102 76 [zR 13, zU] (zPush zU [zR 52, zR 13]) (zS0 L ++ [(11, 9)] ++ stQ ++ [(25, 2)] ++ [(20, 3)] ++ [(26, 4)] ++ [(27, 4)] ++ [(6, 18), (20, 12), (20, 12), (20, 12), (20, 12), (20, 12), (20, 12), (20, 12), (20, 12), (20, 12)] ++ [(7, 3), (22, 8), (20, 56), (20, 448)] ++ [(3, 6), (20, 61), (20, 61), (22, 4), (20, 16)]) pa ma Q
  have k2 : zKd (zS0 L ++ [(11, 9)] ++ stQ ++ [(25, 2)] ++ [(20, 3)] ++ [(26, 4)] ++ [(27, 4)] ++ [(6, 18), (20, 12), (20, 12), (20, 12), (20, 12), (20, 12), (20, 12), (20, 12), (20, 12), (20, 12)] ++ [(7, 3), (22, 8), (20, 56), (20, 448)] ++ [(3, 6), (20, 61), (20, 61), (22, 4), (20, 16)]) 13 = 11 := rfl
  simp (disch := first | assumption | decide) only [rX_init_76, zPush_U]
  have P : pL [(52, 0, 53), (52, 1, 54), (52, 4, 55), (52, 5, 56)] pa := pL_c q1 (pL_c q2 (pL_c q3 (pL_c q4 pL_n)))
  exact hQ _ ma (fun a i ha hn => by unfold zupp; rw [if_neg hn]; exact e1 a i ha) e2 (pL_c (zupp_eq _ _ _ _) (pL_rg (lo := 52) (hi := 53) P (by decide) (fun a i h1 h2 => zupp_na (by omega))))
theorem xI5 (hQ : ∀ pp1 mm1, (∀ a i, a < 57 → ¬ (a = 13 ∧ i = 8) → pp1 a i = pp a i) → (∀ a j, a < 57 → mm1 a j = mm a j) → pL ((13, 8, 57) :: [(57, 0, 58), (57, 1, 60), (57, 2, 62), (57, 3, 64), (58, 0, 59), (60, 0, 61), (62, 0, 63), (64, 0, 65)]) pp1 → bG 58 0 mm1 → bG 60 1 mm1 → zS 102 92 [zR 13, zI 0] [] (zS0 L ++ [(11, 9)] ++ stQ ++ [(25, 2)] ++ [(20, 3)] ++ [(26, 4)] ++ [(27, 4)] ++ [(6, 18), (20, 12), (20, 12), (20, 12), (20, 12), (20, 12), (20, 12), (20, 12), (20, 12), (20, 12)] ++ [(7, 3), (22, 8), (20, 56), (20, 448)] ++ [(3, 6), (20, 61), (20, 61), (22, 4), (20, 16)] ++ [(2, 4), (0, 2), (20, 8), (0, 2), (20, 8), (0, 2), (20, 8), (0, 2), (20, 8)]) pp1 mm1 Q) : zS 102 79 [zR 13, zU] [] (zS0 L ++ [(11, 9)] ++ stQ ++ [(25, 2)] ++ [(20, 3)] ++ [(26, 4)] ++ [(27, 4)] ++ [(6, 18), (20, 12), (20, 12), (20, 12), (20, 12), (20, 12), (20, 12), (20, 12), (20, 12), (20, 12)] ++ [(7, 3), (22, 8), (20, 56), (20, 448)] ++ [(3, 6), (20, 61), (20, 61), (22, 4), (20, 16)]) pp mm Q := by
  have n1 : (zS0 L ++ [(11, 9)] ++ stQ ++ [(25, 2)] ++ [(20, 3)] ++ [(26, 4)] ++ [(27, 4)] ++ [(6, 18), (20, 12), (20, 12), (20, 12), (20, 12), (20, 12), (20, 12), (20, 12), (20, 12), (20, 12)] ++ [(7, 3), (22, 8), (20, 56), (20, 448)] ++ [(3, 6), (20, 61), (20, 61), (22, 4), (20, 16)]).length = 57 := rfl
  have k1 : zKd (zS0 L ++ [(11, 9)] ++ stQ ++ [(25, 2)] ++ [(20, 3)] ++ [(26, 4)] ++ [(27, 4)] ++ [(6, 18), (20, 12), (20, 12), (20, 12), (20, 12), (20, 12), (20, 12), (20, 12), (20, 12), (20, 12)] ++ [(7, 3), (22, 8), (20, 56), (20, 448)] ++ [(3, 6), (20, 61), (20, 61), (22, 4), (20, 16)] ++ [(2, 4)]) 57 = 2 := rfl
  simp (disch := first | assumption | decide | rfl) only [rX_init_79, rX_init_80, rX_init_83, rX_init_84, n1]
  refine ctFr (sh := zS0 L ++ [(11, 9)] ++ stQ ++ [(25, 2)] ++ [(20, 3)] ++ [(26, 4)] ++ [(27, 4)] ++ [(6, 18), (20, 12), (20, 12), (20, 12), (20, 12), (20, 12), (20, 12), (20, 12), (20, 12), (20, 12)] ++ [(7, 3), (22, 8), (20, 56), (20, 448)] ++ [(3, 6), (20, 61), (20, 61), (22, 4), (20, 16)]) (by show 0 < 57; decide) (fun pa ma a1 a2 ⟨q1, q2, q3, q4, q5, q6, q7, q8⟩ g1 g2 => ?_)
  have e1 : ∀ a i, a < 57 → pa a i = pp a i := fun a i ha => by
    have := a1 a i ha
    rw [this]
    exact zclp_na (show a ≠ 57 by omega)
  have e2 : ∀ a j, a < 57 → ma a j = mm a j := fun a j ha => by
    have := a2 a j ha
    rw [this]
    exact zclr_na (show a ≠ 57 by omega)
  show zS 102 87 [zR 13, zU] (zPush zU [zR 57, zR 13]) (zS0 L ++ [(11, 9)] ++ stQ ++ [(25, 2)] ++ [(20, 3)] ++ [(26, 4)] ++ [(27, 4)] ++ [(6, 18), (20, 12), (20, 12), (20, 12), (20, 12), (20, 12), (20, 12), (20, 12), (20, 12), (20, 12)] ++ [(7, 3), (22, 8), (20, 56), (20, 448)] ++ [(3, 6), (20, 61), (20, 61), (22, 4), (20, 16)] ++ [(2, 4), (0, 2), (20, 8), (0, 2), (20, 8), (0, 2), (20, 8), (0, 2), (20, 8)]) pa ma Q
  have k2 : zKd (zS0 L ++ [(11, 9)] ++ stQ ++ [(25, 2)] ++ [(20, 3)] ++ [(26, 4)] ++ [(27, 4)] ++ [(6, 18), (20, 12), (20, 12), (20, 12), (20, 12), (20, 12), (20, 12), (20, 12), (20, 12), (20, 12)] ++ [(7, 3), (22, 8), (20, 56), (20, 448)] ++ [(3, 6), (20, 61), (20, 61), (22, 4), (20, 16)] ++ [(2, 4), (0, 2), (20, 8), (0, 2), (20, 8), (0, 2), (20, 8), (0, 2), (20, 8)]) 13 = 11 := rfl
  simp (disch := first | assumption | decide) only [rX_init_87, rX_init_90, rX_init_91, zPush_U]
  have P : pL [(57, 0, 58), (57, 1, 60), (57, 2, 62), (57, 3, 64), (58, 0, 59), (60, 0, 61), (62, 0, 63), (64, 0, 65)] pa := pL_c q1 (pL_c q2 (pL_c q3 (pL_c q4 (pL_c q5 (pL_c q6 (pL_c q7 (pL_c q8 pL_n)))))))
  exact hQ _ ma (fun a i ha hn => by unfold zupp; rw [if_neg hn]; exact e1 a i ha) e2 (pL_c (zupp_eq _ _ _ _) (pL_rg (lo := 57) (hi := 66) P (by decide) (fun a i h1 h2 => zupp_na (by omega)))) g1 g2
end
