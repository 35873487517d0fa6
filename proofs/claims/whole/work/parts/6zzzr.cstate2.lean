/-! ===== the class: a new State, to its end; image ===== -/
section
variable {sh : zSh} {pp : zPp} {mm : zMm} {Q : zV → zSh → zPp → zMm → Prop} {f : Int → Int} {G : Int → Option (Int → Int)} {cn : Int → Int} {N D : Nat}
theorem cS2 (h0 : 0 < sh.length) (p1 : pp sh.length 1 = sh.length + 2) (hQ : ∀ pp1 mm1, (∀ a i, (a < sh.length + 2 ∨ (sh.length + 3 ≤ a ∧ a < sh.length + 12)) → pp1 a i = pp a i) → (∀ a j, a < sh.length + 12 → mm1 a j = mm a j) → (pp1 (sh.length + 2) 0 = sh.length + 12 ∧ pp1 (sh.length + 2) 1 = sh.length + 14 ∧ pp1 (sh.length + 2) 2 = sh.length + 16 ∧ pp1 (sh.length + 2) 3 = sh.length + 18) → (pp1 (sh.length + 12) 2 = sh.length + 13 ∧ pp1 (sh.length + 14) 2 = sh.length + 15 ∧ pp1 (sh.length + 16) 2 = sh.length + 17 ∧ pp1 (sh.length + 18) 2 = sh.length + 19) → (mm1 (sh.length + 12) 0 = 1 ∧ mm1 (sh.length + 12) 1 = 120 ∧ mm1 (sh.length + 12) 3 = 0) → (mm1 (sh.length + 14) 0 = 1 ∧ mm1 (sh.length + 14) 1 = 120 ∧ mm1 (sh.length + 14) 3 = 0) → (mm1 (sh.length + 16) 0 = 1 ∧ mm1 (sh.length + 16) 1 = 120 ∧ mm1 (sh.length + 16) 3 = 0) → (mm1 (sh.length + 18) 0 = 1 ∧ mm1 (sh.length + 18) 1 = 120 ∧ mm1 (sh.length + 18) 3 = 0) → Q zU (sh ++ [(9, 8), (20, 9), (24, 4), (10, 4), (20, 24), (10, 4), (20, 20), (10, 4), (20, 36), (10, 4), (20, 24), (20, 384), (10, 4), (20, 120), (10, 4), (20, 120), (10, 4), (20, 120), (10, 4), (20, 120)]) pp1 mm1) : zS 91 112 [zR sh.length, zU] [] (sh ++ [(9, 8), (20, 9), (24, 4), (10, 4), (20, 24), (10, 4), (20, 20), (10, 4), (20, 36), (10, 4), (20, 24), (20, 384)]) pp mm Q := by
  have kS : ∀ q : zSh, zKd (sh ++ ((9, 8) :: q)) sh.length = 9 := fun q => by
    have := zKd_sum (sh := sh) (q := (9, 8) :: q) (k := 0)
    rw [Nat.add_zero] at this
    rw [this]
    rfl
  simp (disch := first | assumption | decide | omega | exact kS _ | (simp only [zKd_sum, zLn_sum]; decide) | (rw [sLen]; simp only [List.length_cons, List.length_nil]; omega)) only [rS_init_112, rS_init_113, rS_init_115, rS_init_116, rS_init_119, rS_init_120, rS_init_123, rS_init_124, rS_init_127, rS_init_128, rS_init_130, rS_init_131, rS_init_134, rS_init_135, rS_init_138, rS_init_141, rS_init_114, rT_init_0, rT_init_1, rT_init_4, rT_init_5, rT_init_6, rT_init_9, rT_init_10, rT_init_11, rT_init_14, rT_init_15, rT_init_16, rT_init_19, rT_init_20, rT_init_21, rT_init_22, rT_init_23, rT_init_25, rT_init_28, Int.reduceToNat, Int.reduceMul, Int.reduceAdd, Int.reduceLT, sAlc, List.cons_append, List.nil_append, sLen, List.length_cons, List.length_nil, Nat.reduceAdd, zPush_U, zupp_eq, zupp_na, zupp_ni, zclp_na, zw32_id, p1, true_implies, not_true_eq_false, not_false_eq_true, false_implies, and_true, true_and]
  refine hQ _ _ (fun a i ha => ?_) (fun a j ha => ?_) ⟨?_, ?_, ?_, ?_⟩ ⟨?_, ?_, ?_, ?_⟩ ⟨?_, ?_, ?_⟩ ⟨?_, ?_, ?_⟩ ⟨?_, ?_, ?_⟩ ⟨?_, ?_, ?_⟩
  · simp (disch := omega) only [zupp_na, zclp_na]
  · simp (disch := omega) only [zupd_na, zclr_na]
  all_goals first
    | (simp (disch := omega) only [zupp_eq, zupp_na, zupp_ni, zclp_na]; done)
    | (simp (disch := omega) only [zupd_eq, zupd_na, zupd_ni, zclr_na]; done)
theorem f00_s {i : Int} (i0 : 0 ≤ i) (i1 : i < 384) : f00 (573 + i) = -1 := by
  unfold f00
  rw [if_neg (by omega), if_neg (by omega), if_neg (by omega), if_neg (by omega), if_neg (by omega), if_neg (by omega), if_neg (by omega), if_pos (by omega)]
theorem tb00 {t : Nat} {w lim b : Int} {mm : zMm} {k : Int} (h : mm t 0 = w ∧ mm t 1 = lim ∧ mm t 3 = 0) (hk : f00 k = 0) : tbI t w lim (f00 k) b f00 mm := by
  rw [hk]
  exact ⟨h.1, h.2.1, h.2.2, fun j j0 j1 => by rw [Int.mul_zero] at j1; omega⟩
theorem cState (l4 : 4 < sh.length) (h4 : zKd sh 4 = 30 ∧ zLn sh 4 = 9) (hat : ∀ j, 0 ≤ j → j < 9 → mm 4 j = f00 j) (hQ : ∀ pp1 mm1, (∀ a i, a < sh.length → pp1 a i = pp a i) → (∀ a j, a < sh.length → mm1 a j = mm a j) → stL (sh ++ stQ) pp1 sh.length → stI sh.length f00 mm1 → Q zU (sh ++ stQ) pp1 mm1) : zS 91 0 [zR sh.length, zU] [] (sh ++ [(9, 8)]) pp mm Q := by
  refine cS1 (by omega) h4 l4 (fun pa ma a1 a2 ⟨a3, a4, a5, a6, a7, a8, a9⟩ ⟨a10, a11, a12, a13⟩ a14 a15 a16 a17 a18 a19 => ?_)
  have kS : ∀ q : zSh, zKd (sh ++ ((9, 8) :: q)) sh.length = 9 := fun q => by
    have := zKd_sum (sh := sh) (q := (9, 8) :: q) (k := 0)
    rw [Nat.add_zero] at this
    rw [this]
    rfl
  simp (disch := first | assumption | exact kS _) only [rS_init_104, rS_init_105, rS_init_108, rS_init_109, a9]
  refine cFill (by rw [zKd_sum]; rfl) (n := 384) (by rw [zLn_sum]; rfl) (by decide) (by decide) (fun mb b1 b2 => ?_)
  have e : ∀ x j, x ≠ sh.length + 11 → mb x j = ma x j := fun x j hx => b2 x j hx
  simp only [zPush_U]
  refine cS2 (by omega) a4 (fun pc mc c1 c2 ⟨c3, c4, c5, c6⟩ ⟨c7, c8, c9, c10⟩ c11 c12 c13 c14 => ?_)
  have e2 : ∀ k j, k < 11 → mc (sh.length + k) j = ma (sh.length + k) j := fun k j hk => (c2 (sh.length + k) j (Nat.add_lt_add_left (Nat.lt_trans hk (by decide)) _)).trans (e (sh.length + k) j (Nat.ne_of_lt (Nat.add_lt_add_left hk _)))
  have e3 : ∀ k i, (k < 2 ∨ (3 ≤ k ∧ k < 12)) → pc (sh.length + k) i = pa (sh.length + k) i := fun k i hk => c1 (sh.length + k) i (hk.imp (fun x => Nat.add_lt_add_left x _) (fun x => ⟨Nat.add_le_add_left x.1 _, Nat.add_lt_add_left x.2 _⟩))
  have e20 : ∀ j, mc sh.length j = ma sh.length j := fun j => e2 0 j (by decide)
  have e30 : ∀ i, pc sh.length i = pa sh.length i := fun i => e3 0 i (by decide)
  have ks := kS [(20, 9), (24, 4), (10, 4), (20, 24), (10, 4), (20, 20), (10, 4), (20, 36), (10, 4), (20, 24), (20, 384), (10, 4), (20, 120), (10, 4), (20, 120), (10, 4), (20, 120), (10, 4), (20, 120)]
  have T : ∀ (k : Nat) (n : Int), zKd stQ k = 10 → zKd stQ (k + 1) = 20 → zLn stQ (k + 1) = n → pc (sh.length + k) 2 = sh.length + (k + 1) → tbL (sh ++ stQ) pc (sh.length + k) n := fun k n x1 x2 x3 x4 => ⟨by rw [zKd_sum]; exact x1, by rw [Nat.add_assoc, zKd_sum]; exact x2, by rw [Nat.add_assoc, zLn_sum]; exact x3, by rw [x4, Nat.add_assoc]⟩
  refine hQ pc mc (fun a i ha => (c1 a i (Or.inl (Nat.lt_trans ha (Nat.lt_add_of_pos_right (by decide))))).trans (a1 a i ha)) (fun a j ha => ((c2 a j (Nat.lt_trans ha (Nat.lt_add_of_pos_right (by decide)))).trans (e a j (Nat.ne_of_lt (Nat.lt_trans ha (Nat.lt_add_of_pos_right (by decide)))))).trans (a2 a j ha)) ?_ ?_
  · refine ⟨ks, ⟨by rw [zKd_sum]; rfl, by rw [zLn_sum]; rfl, (e30 0).trans a3⟩, ⟨by rw [zKd_sum]; rfl, by rw [zLn_sum]; rfl, (e30 1).trans a4⟩, ⟨T 3 24 rfl rfl rfl ((e3 3 2 (by decide)).trans a10), (e30 2).trans a5⟩, ⟨T 5 20 rfl rfl rfl ((e3 5 2 (by decide)).trans a11), (e30 3).trans a6⟩, ⟨T 7 36 rfl rfl rfl ((e3 7 2 (by decide)).trans a12), (e30 4).trans a7⟩, ⟨T 9 24 rfl rfl rfl ((e3 9 2 (by decide)).trans a13), (e30 5).trans a8⟩, ⟨by rw [zKd_sum]; rfl, by rw [zLn_sum]; rfl, (e30 6).trans a9⟩, fun p hp => ?_⟩
    have hp' : p = 0 ∨ p = 1 ∨ p = 2 ∨ p = 3 := by clear a1 a2 a3 a4 a5 a6 a7 a8 a9 a10 a11 a12 a13 a14 a15 a16 a17 a18 a19 b1 b2 c1 c2 c3 c4 c5 c6 c7 c8 c9 c10 c11 c12 c13 c14 e e2 e3 e20 e30 ks T hQ hat; omega
    rcases hp' with rfl | rfl | rfl | rfl
    · exact ⟨T 12 120 rfl rfl rfl c7, c3⟩
    · exact ⟨T 14 120 rfl rfl rfl c8, c4⟩
    · exact ⟨T 16 120 rfl rfl rfl c9, c5⟩
    · exact ⟨T 18 120 rfl rfl rfl c10, c6⟩
  · refine ⟨fun i i0 i1 => ((e2 1 i (by decide)).trans (a14 i i0 (Int.lt_of_le_of_lt i1 (by decide)))).trans (hat i i0 (Int.lt_of_le_of_lt i1 (by decide))), tb00 ⟨(e2 3 0 (by decide)).trans a16.1, (e2 3 1 (by decide)).trans a16.2.1, (e2 3 3 (by decide)).trans a16.2.2⟩ rfl, tb00 ⟨(e2 5 0 (by decide)).trans a17.1, (e2 5 1 (by decide)).trans a17.2.1, (e2 5 3 (by decide)).trans a17.2.2⟩ rfl, tb00 ⟨(e2 7 0 (by decide)).trans a18.1, (e2 7 1 (by decide)).trans a18.2.1, (e2 7 3 (by decide)).trans a18.2.2⟩ rfl, tb00 ⟨(e2 9 0 (by decide)).trans a19.1, (e2 9 1 (by decide)).trans a19.2.1, (e2 9 3 (by decide)).trans a19.2.2⟩ rfl, fun i i0 i1 => ?_, (e20 7).trans a15, fun p hp => ?_⟩
    · rw [c2 _ _ (Nat.add_lt_add_left (by decide) _), b1 i i0 i1]
      exact (f00_s i0 i1).symm
    · have hp' : p = 0 ∨ p = 1 ∨ p = 2 ∨ p = 3 := by clear a1 a2 a3 a4 a5 a6 a7 a8 a9 a10 a11 a12 a13 a14 a15 a16 a17 a18 a19 b1 b2 c1 c2 c3 c4 c5 c6 c7 c8 c9 c10 c11 c12 c13 c14 e e2 e3 e20 e30 ks T hQ hat; omega
      rcases hp' with rfl | rfl | rfl | rfl
      · exact tb00 c11 rfl
      · exact tb00 c12 rfl
      · exact tb00 c13 rfl
      · exact tb00 c14 rfl
end
