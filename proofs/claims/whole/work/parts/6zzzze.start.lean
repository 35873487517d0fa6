/-! ===== the law, from its start ===== -/
def lyM : List (Nat × Int × Nat) := [(122, 0, 123), (122, 1, 124), (122, 2, 125), (122, 3, 126), (122, 4, 127), (122, 5, 128), (122, 15, 129), (122, 16, 130), (122, 17, 131), (122, 18, 132), (122, 19, 133), (122, 27, 134), (122, 28, 135), (122, 29, 136), (122, 30, 137), (122, 31, 138), (122, 32, 139), (122, 33, 140), (122, 34, 141), (122, 35, 142)]
def allQ : zSh := [(11, 9)] ++ stQ ++ [(25, 2)] ++ [(20, 3)] ++ [(26, 4)] ++ [(27, 4)] ++ [(6, 18), (20, 12), (20, 12), (20, 12), (20, 12), (20, 12), (20, 12), (20, 12), (20, 12), (20, 12)] ++ [(7, 3), (22, 8), (20, 56), (20, 448)] ++ [(3, 6), (20, 61), (20, 61), (22, 4), (20, 16)] ++ [(2, 4), (0, 2), (20, 8), (0, 2), (20, 8), (0, 2), (20, 8), (0, 2), (20, 8)] ++ cQ0 ++ dQ0 ++ cQ0 ++ dQ0 ++ cQ0 ++ dQ0 ++ cQ0 ++ dQ0 ++ mQ0
theorem allQ_k : ∀ e ∈ zLyK, 13 ≤ e.1 ∧ zKd allQ (e.1 - 13) = e.2.1 ∧ zLn allQ (e.1 - 13) = e.2.2 := by decide +kernel
theorem allQ_n : allQ.length = 130 := by decide +kernel
theorem lyM_in : ∀ e ∈ zLyP, e ∈ lyD3 ++ lyM := by decide +kernel
theorem lyD3_lt : ∀ e ∈ lyD3, e.1 < 122 := by decide +kernel
theorem iv_0 : iv f00 := by
  have z : ∀ k, ¬ (2 ≤ k ∧ k ≤ 8) → ¬ (573 ≤ k ∧ k < 957) → f00 k = 0 := fun k h1 h2 => by
    unfold f00
    rw [if_neg (by omega), if_neg (by omega), if_neg (by omega), if_neg (by omega), if_neg (by omega), if_neg (by omega), if_neg (by omega), if_neg h2]
  refine ⟨⟨fun i i0 i8 => ?_, fun p p0 p3 => ?_, ⟨?_, ?_, ?_⟩, ⟨?_, ?_, ?_⟩, ⟨?_, ?_, ?_⟩, ⟨?_, ?_, ?_⟩, ⟨?_, ?_⟩, fun k k0 k1 => ?_⟩, ?_⟩
  · rcases (show i = 0 ∨ i = 1 ∨ i = 2 ∨ i = 3 ∨ i = 4 ∨ i = 5 ∨ i = 6 ∨ i = 7 ∨ i = 8 by omega) with rfl | rfl | rfl | rfl | rfl | rfl | rfl | rfl | rfl <;> decide
  · rw [z _ (by omega) (by omega)]
    exact ⟨by decide, by decide, fun k k0 k1 => by omega⟩
  · decide
  · decide
  · intro k k0 k1
    rw [z 981 (by omega) (by omega)] at k1
    omega
  · decide
  · decide
  · intro k k0 k1
    rw [z 982 (by omega) (by omega)] at k1
    omega
  · decide
  · decide
  · intro k k0 k1
    rw [z 983 (by omega) (by omega)] at k1
    omega
  · decide
  · decide
  · intro k k0 k1
    rw [z 984 (by omega) (by omega)] at k1
    omega
  · decide
  · decide
  · rw [f00_s k0 k1]
    decide
  · have c0 : ∀ n : Nat, n ≤ 384 → cnt (fun i => decide (f00 (573 + i) ≠ -1)) n = 0 := by
      intro n
      induction n with
      | zero => intro _; rfl
      | succ n ih =>
        intro hn
        show cnt (fun i => decide (f00 (573 + i) ≠ -1)) n + (if decide (f00 (573 + (n : Int)) ≠ -1) = true then 1 else 0) = 0
        rw [ih (by omega), f00_s (by omega) (by omega)]
        rfl
    show f00 985 = ((cnt (fun i => decide (f00 (573 + i) ≠ -1)) 384 : Nat) : Int)
    rw [c0 384 (Nat.le_refl _)]
    rfl
section
variable {Q : zV → zSh → zPp → zMm → Prop} {L : Nat} {xs : Nat → Int32}
theorem zS0_len : (zS0 L).length = 13 := rfl
theorem sh_all : sh122 L ++ mQ0 = zS0 L ++ allQ := by
  unfold sh122 sh66 allQ
  simp only [List.append_assoc]
theorem ly_all {pp : zPp} (h1 : pL lyD3 pp) (h2 : pL lyM pp) : zLy (zS0 L ++ allQ) pp := by
  refine ⟨fun e he => ?_, fun e he => pL_app h1 h2 e (lyM_in e he), ?_⟩
  · obtain ⟨a, b, c⟩ := allQ_k e he
    have e1 : e.1 = (zS0 L).length + (e.1 - 13) := by rw [zS0_len]; omega
    rw [e1, zKd_sum, zLn_sum]
    exact ⟨b, c⟩
  · rw [List.length_append, zS0_len, allQ_n]
    decide
theorem cs_all {pp : zPp} {mm : zMm} (h1 : ∀ a i, a < 13 → pp a i = zP0 a i) (h2 : ∀ a j, a < 13 → mm a j = zM0 xs a j) : zCs (zS0 L ++ allQ) pp mm := by
  refine ⟨fun e he => ?_, ⟨?_, ?_, ?_, ?_⟩, fun a a1 a2 i i0 => ?_⟩
  · have z := (by decide : ∀ e ∈ zCsK, e.1 < 13) e he
    rw [zKd_app (by rw [zS0_len]; exact z), zLn_app (by rw [zS0_len]; exact z)]
    rcases List.mem_cons.mp he with rfl | he
    · exact ⟨rfl, rfl⟩
    all_goals (simp only [List.mem_cons, List.not_mem_nil, or_false] at he; rcases he with rfl | rfl | rfl | rfl | rfl | rfl | rfl | rfl | rfl | rfl <;> exact ⟨rfl, rfl⟩)
  · rw [h1 5 0 (by decide)]; rfl
  · rw [h1 6 0 (by decide)]; rfl
  · rw [h1 7 0 (by decide)]; rfl
  · rw [h1 8 0 (by decide)]; rfl
  · rw [h2 a i (by omega)]
    unfold zM0
    rw [if_neg (by omega)]
theorem law_i2 {sh : zSh} (hS : xS sh 122) (hE : sh ++ mQ0 = zS0 L ++ allQ) (iL : (L : Int) ≤ 2560) (hQ : ∀ sh pp mm, lwI L xs sh pp mm → Q (zI 1) sh pp mm) {pa : zPp} {ma : zMm} (F : xF 8 lyD3 (zclp zP0 13) (zclr (zM0 xs) 13) pa ma) : zS 273 8 [zR 1, zR 13, zU, zU] [] sh pa ma Q := by
  obtain ⟨n1, -⟩ := hS
  have k1 : zKd (sh ++ [(12, 36)]) 122 = 12 := zKd_at (k := 0) (x := (12, 36)) n1.symm rfl
  simp (disch := first | assumption | decide) only [rW_law_8, rW_law_11, rW_law_12, zPush_U, n1]
  have l0 : 0 < sh.length := by omega
  have n1' := n1
  rw [show (122 : Nat) = sh.length from n1.symm]
  refine mI1 (sh := sh) l0 (fun pb mb b1 b2 ⟨q0, q1, q2, q3, q4, q5, q6, q7, q8, q9, q10, q11, q12, q13, q14, q15, q16, q17, q18, q19⟩ b4 b5 => ?_)
  rw [n1] at b1 b2 q0 q1 q2 q3 q4 q5 q6 q7 q8 q9 q10 q11 q12 q13 q14 q15 q16 q17 q18 q19 b4 b5
  rw [n1]
  obtain ⟨f1, f2, f3, f4, f5, f6, ⟨f7, f8, f9⟩, ⟨f10, f11⟩, f12⟩ := F
  have e1 : ∀ a i, a < 122 → pb a i = pa a i := fun a i ha => (b1 a i ha).trans (zclp_na (show a ≠ 122 by omega))
  have e2 : ∀ a j, a < 122 → mb a j = ma a j := fun a j ha => (b2 a j ha).trans (zclr_na (show a ≠ 122 by omega))
  have e3 : mb 122 6 = 0 := (b4 6).trans zclr_eq
  have PM : pL lyM pb := pL_c q0 (pL_c q1 (pL_c q2 (pL_c q3 (pL_c q4 (pL_c q5 (pL_c q6 (pL_c q7 (pL_c q8 (pL_c q9 (pL_c q10 (pL_c q11 (pL_c q12 (pL_c q13 (pL_c q14 (pL_c q15 (pL_c q16 (pL_c q17 (pL_c q18 (pL_c q19 pL_n)))))))))))))))))))
  clear q0 q1 q2 q3 q4 q5 q6 q7 q8 q9 q10 q11 q12 q13 q14 q15 q16 q17 q18 q19 b1 b2 b4
  have PX : pL lyD3 pb := pL_fr f3 (fun e he => e1 _ _ (lyD3_lt e he))
  have hz : ∀ a j, 123 ≤ a → a < 143 → mb a j = 0 := b5
  have LY := ly_all (L := L) PX PM
  have g1 : ∀ a i, a < 13 → pb a i = zP0 a i := fun a i ha => (e1 a i (by omega)).trans ((f1 a i ha).trans (zclp_na (show a ≠ 13 by omega)))
  have g2 : ∀ a j, a < 13 → mb a j = zM0 xs a j := fun a j ha => (e2 a j (by omega)).trans ((f2 a j ha).trans (zclr_na (show a ≠ 13 by omega)))
  rw [hE]
  refine mI2 LY hz e3 (fun mc c1 c2 => ?_)
  have r : ∀ a, a < 122 → mc a = ma a := fun a ha => by
    rw [c2 a (by omega)]
    funext j
    exact e2 a j ha
  have s : ∀ lo hi, hi < 122 → sm lo hi ma mc := fun lo hi hh x _ b => r x (by omega)
  have CK : cOk f00 (fun _ => none) (fun _ => 0) 0 1 (zS0 L ++ allQ) pb mc := by
    refine ⟨LY, cs_all g1 (fun a j ha => by rw [c2 a (by omega)]; exact g2 a j ha), stI_sm f4 (s _ _ (by omega)), ⟨fun i i0 i1 => Or.inl ⟨(e1 34 i (by decide)).trans (f5 i), rfl⟩, Or.inl ((e1 34 0 (by decide)).trans (f5 0))⟩, fun i i0 i1 => by rw [r 35 (by decide)]; exact f6 i, fun p hp => ⟨Or.inl ?_, Or.inl ?_⟩, Or.inl (by rw [r 38 (by decide)]; exact f8), fun r' h1 h2 => Or.inl (by rw [r 49 (by decide)]; exact f9 _), ⟨bG_sm f10 (s _ _ (by omega)), bG_sm f11 (s _ _ (by omega))⟩, Or.inl ((e1 38 17 (by decide)).trans f7), ?_⟩
    · have := f12 (2 * p) (by omega)
      rw [r _ (by omega), show 66 + 14 * p = 66 + 7 * (2 * p) by omega]
      exact this
    · have := f12 (2 * p + 1) (by omega)
      rw [r _ (by omega), show 73 + 14 * p = 66 + 7 * (2 * p + 1) by omega]
      exact this
    · have h34 : ∀ i, pb 34 i = 0 := fun i => (e1 34 i (by decide)).trans (f5 i)
      have h17 : pb 38 17 = 0 := (e1 38 17 (by decide)).trans f7
      have el : (zS0 L ++ allQ).length = 143 := by rw [List.length_append, zS0_len, allQ_n]
      have es : zSm (zS0 L ++ allQ) = zSm (zS0 L) + zSm allQ := by unfold zSm; rw [List.map_append, List.sum_append]
      have es2 : zSm allQ ≤ 80000 := by decide +kernel
      have es3 : zSm (zS0 L) = L + 51 := by
        unfold zSm zS0
        simp
      unfold cRm
      rw [if_pos (h34 0), if_pos (h34 0), if_pos (h34 1), if_pos (h34 1), if_pos h17, if_pos h17, el, es, es3]
      omega
  have MK : zS 273 18 [zR 1, zR 13, zR 122, zI (5 * ((0 : Nat) : Int))] [] (zS0 L ++ allQ) pb mc Q := law_loop iL hQ (L / 5) 0 _ _ _ (by omega) ⟨f00, fun _ => none, fun _ => 0, 0, 1, iv_0, CK, c1, ⟨by rw [zKd_app (by rw [zS0_len]; decide)]; rfl, by rw [zLn_app (by rw [zS0_len]; decide)]; rfl⟩, fun j => by rw [c2 1 (by decide)]; exact g2 1 j (by decide)⟩
  simp (disch := first | assumption | decide) only [rW_law_15, rW_law_16, rW_law_17, zPush_U]
  exact MK
theorem law_init (iL : (L : Int) ≤ 2560) (hQ : ∀ sh pp mm, lwI L xs sh pp mm → Q (zI 1) sh pp mm) : zS 273 0 [zR 1, zU, zU, zU] [] (zS0 L) zP0 (zM0 xs) Q := by
  have n0 : (zS0 L).length = 13 := rfl
  have k0 : zKd (zS0 L ++ [(11, 9)]) 13 = 11 := rfl
  simp (disch := first | assumption | decide) only [rW_law_0, rW_law_3, rW_law_4, n0]
  refine xAll (fun j j0 j1 => ?_) (fun pa ma F => ?_)
  · rw [zclr_na (by decide)]
    unfold zM0
    rw [if_neg (by decide)]
    rcases (show j = 0 ∨ j = 1 ∨ j = 2 ∨ j = 3 ∨ j = 4 ∨ j = 5 ∨ j = 6 ∨ j = 7 ∨ j = 8 by omega) with rfl | rfl | rfl | rfl | rfl | rfl | rfl | rfl | rfl <;> rfl
  · have K := law_i2 sh122_S sh_all iL hQ F
    simp (disch := first | assumption | decide) only [rW_law_7, zPush_U]
    exact K
theorem z_law (L : Nat) (xs : Nat → Int32) (hL : L ≤ 2560) : zS 273 0 [zR 1, zU, zU, zU] [] (zS0 L) zP0 (zM0 xs) (fun v sh _ _ => v = zI 1 ∧ sh.length ≤ 600013 ∧ zSm sh ≤ 7302250) := by
  refine law_init (by omega) (fun sh pp mm h => ?_)
  obtain ⟨f, G, cn, N, D, -, c, -⟩ := h
  obtain ⟨r1, r2⟩ := c.2.2.2.2.2.2.2.2.2.2
  exact ⟨rfl, by omega, by omega⟩
end
