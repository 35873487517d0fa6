/-! ===== the class's constructor, all of it ===== -/
def lyA1 : List (Nat × Int × Nat) := [(14, 0, 15), (14, 1, 16), (14, 2, 17), (14, 3, 19), (14, 4, 21), (14, 5, 23), (14, 6, 25), (17, 2, 18), (19, 2, 20), (21, 2, 22), (23, 2, 24), (16, 0, 26), (16, 1, 28), (16, 2, 30), (16, 3, 32), (26, 2, 27), (28, 2, 29), (30, 2, 31), (32, 2, 33)] ++ [(13, 0, 14), (13, 1, 34), (13, 2, 35), (13, 3, 36), (13, 4, 37)]
def lyA2 : List (Nat × Int × Nat) := lyA1 ++ ((13, 5, 38) :: [(38, 4, 39), (38, 5, 40), (38, 6, 41), (38, 7, 42), (38, 8, 43), (38, 9, 44), (38, 11, 45), (38, 12, 46), (38, 13, 47)])
def lyA3 : List (Nat × Int × Nat) := lyA2 ++ ((13, 6, 48) :: [(48, 0, 49), (48, 1, 50), (48, 2, 51)])
def lyA4 : List (Nat × Int × Nat) := lyA3 ++ ((13, 7, 52) :: [(52, 0, 53), (52, 1, 54), (52, 4, 55), (52, 5, 56)])
def lyE : List (Nat × Int × Nat) := lyA4 ++ ((13, 8, 57) :: [(57, 0, 58), (57, 1, 60), (57, 2, 62), (57, 3, 64), (58, 0, 59), (60, 0, 61), (62, 0, 63), (64, 0, 65)])
theorem lyA1_ok : ∀ x ∈ lyA1, x.1 < 38 ∧ ¬ (x.1 = 13 ∧ x.2.1 = 5) := by decide +kernel
theorem lyA2_ok : ∀ x ∈ lyA2, x.1 < 48 ∧ ¬ (x.1 = 13 ∧ x.2.1 = 6) := by decide +kernel
theorem lyA3_ok : ∀ x ∈ lyA3, x.1 < 52 ∧ ¬ (x.1 = 13 ∧ x.2.1 = 7) := by decide +kernel
theorem lyA4_ok : ∀ x ∈ lyA4, x.1 < 57 ∧ ¬ (x.1 = 13 ∧ x.2.1 = 8) := by decide +kernel
def lyC0 : List (Nat × Int × Nat) := lyE ++ [(36, 0, 66), (66, 0, 67), (66, 1, 68), (66, 2, 69), (66, 9, 70), (66, 10, 71), (66, 11, 72)]
theorem lyC0_in : ∀ x ∈ lyE, x.1 < 66 ∧ ¬ (x.1 = 36 ∧ x.2.1 = 0) := by decide +kernel
def lyD0 : List (Nat × Int × Nat) := lyC0 ++ [(37, 0, 73), (73, 0, 74), (73, 1, 75), (73, 6, 76), (73, 7, 77), (73, 9, 78), (73, 10, 79)]
theorem lyD0_in : ∀ x ∈ lyC0, x.1 < 73 ∧ ¬ (x.1 = 37 ∧ x.2.1 = 0) := by decide +kernel
theorem ly0_3 : (13, 3, 36) ∈ lyE := by decide +kernel
theorem ly0_4 : (13, 4, 37) ∈ lyC0 := by decide +kernel
def lyC1 : List (Nat × Int × Nat) := lyD0 ++ [(36, 1, 80), (80, 0, 81), (80, 1, 82), (80, 2, 83), (80, 9, 84), (80, 10, 85), (80, 11, 86)]
theorem lyC1_in : ∀ x ∈ lyD0, x.1 < 80 ∧ ¬ (x.1 = 36 ∧ x.2.1 = 1) := by decide +kernel
def lyD1 : List (Nat × Int × Nat) := lyC1 ++ [(37, 1, 87), (87, 0, 88), (87, 1, 89), (87, 6, 90), (87, 7, 91), (87, 9, 92), (87, 10, 93)]
theorem lyD1_in : ∀ x ∈ lyC1, x.1 < 87 ∧ ¬ (x.1 = 37 ∧ x.2.1 = 1) := by decide +kernel
theorem ly1_3 : (13, 3, 36) ∈ lyD0 := by decide +kernel
theorem ly1_4 : (13, 4, 37) ∈ lyC1 := by decide +kernel
def lyC2 : List (Nat × Int × Nat) := lyD1 ++ [(36, 2, 94), (94, 0, 95), (94, 1, 96), (94, 2, 97), (94, 9, 98), (94, 10, 99), (94, 11, 100)]
theorem lyC2_in : ∀ x ∈ lyD1, x.1 < 94 ∧ ¬ (x.1 = 36 ∧ x.2.1 = 2) := by decide +kernel
def lyD2 : List (Nat × Int × Nat) := lyC2 ++ [(37, 2, 101), (101, 0, 102), (101, 1, 103), (101, 6, 104), (101, 7, 105), (101, 9, 106), (101, 10, 107)]
theorem lyD2_in : ∀ x ∈ lyC2, x.1 < 101 ∧ ¬ (x.1 = 37 ∧ x.2.1 = 2) := by decide +kernel
theorem ly2_3 : (13, 3, 36) ∈ lyD1 := by decide +kernel
theorem ly2_4 : (13, 4, 37) ∈ lyC2 := by decide +kernel
def lyC3 : List (Nat × Int × Nat) := lyD2 ++ [(36, 3, 108), (108, 0, 109), (108, 1, 110), (108, 2, 111), (108, 9, 112), (108, 10, 113), (108, 11, 114)]
theorem lyC3_in : ∀ x ∈ lyD2, x.1 < 108 ∧ ¬ (x.1 = 36 ∧ x.2.1 = 3) := by decide +kernel
def lyD3 : List (Nat × Int × Nat) := lyC3 ++ [(37, 3, 115), (115, 0, 116), (115, 1, 117), (115, 6, 118), (115, 7, 119), (115, 9, 120), (115, 10, 121)]
theorem lyD3_in : ∀ x ∈ lyC3, x.1 < 115 ∧ ¬ (x.1 = 37 ∧ x.2.1 = 3) := by decide +kernel
theorem ly3_3 : (13, 3, 36) ∈ lyD2 := by decide +kernel
theorem ly3_4 : (13, 4, 37) ∈ lyC3 := by decide +kernel
/-- what the class's heap holds of X up to the programs' parts -/
def xF (n : Nat) (l : List (Nat × Int × Nat)) (pp0 : zPp) (mm0 : zMm) (pp : zPp) (mm : zMm) : Prop := (∀ a i, a < 13 → pp a i = pp0 a i) ∧ (∀ a j, a < 13 → mm a j = mm0 a j) ∧ pL l pp ∧ stI 14 f00 mm ∧ (∀ i, pp 34 i = 0) ∧ (∀ j, mm 35 j = 0) ∧ (pp 38 17 = 0 ∧ mm 38 10 = 0 ∧ ∀ j, mm 49 j = 0) ∧ (bG 58 0 mm ∧ bG 60 1 mm) ∧ ∀ p : Nat, p < n → mm (66 + 7 * p) 5 = 0
theorem xF_st {n n' : Nat} {l : List (Nat × Int × Nat)} {pp0 pp pp' : zPp} {mm0 mm mm' : zMm} {e : Nat} {i : Int} (h : xF n l pp0 mm0 pp mm) (hn : 66 + 7 * n ≤ n') (he : e = 36 ∨ e = 37) (hp : ∀ a j, a < n' → ¬ (a = e ∧ j = i) → pp' a j = pp a j) (hm : ∀ a j, a < n' → mm' a j = mm a j) (hl : ∀ x ∈ l, x.1 < n' ∧ ¬ (x.1 = e ∧ x.2.1 = i)) {l' : List (Nat × Int × Nat)} (h' : pL l' pp') (h5 : mm' (66 + 7 * n) 5 = 0) : xF (n + 1) (l ++ l') pp0 mm0 pp' mm' := by
  obtain ⟨h1, h2, h3, h4, h6, h7, ⟨h8, h9, h10⟩, ⟨h11, h12⟩, h13⟩ := h
  have r : ∀ a, a < n' → mm' a = mm a := fun a ha => by funext j; exact hm a j ha
  refine ⟨fun a j ha => (hp a j (by omega) (by omega)).trans (h1 a j ha), fun a j ha => (hm a j (by omega)).trans (h2 a j ha), pL_app (pL_fr h3 (fun x hx => hp _ _ (hl x hx).1 (hl x hx).2)) h', stI_sm h4 (fun x a b => r x (by omega)), fun j => (hp 34 j (by omega) (by omega)).trans (h6 j), fun j => (hm 35 j (by omega)).trans (h7 j), ⟨(hp 38 17 (by omega) (by omega)).trans h8, (hm 38 10 (by omega)).trans h9, fun j => (hm 49 j (by omega)).trans (h10 j)⟩, ⟨bG_sm h11 (fun x a b => r x (by omega)), bG_sm h12 (fun x a b => r x (by omega))⟩, fun p hp' => ?_⟩
  by_cases e : p = n
  · subst e; exact h5
  · rw [hm _ _ (by omega)]; exact h13 p (by omega)
def xS (sh : zSh) (n : Nat) : Prop := sh.length = n ∧ zKd sh 13 = 11 ∧ zKd sh 36 = 26 ∧ zLn sh 36 = 4 ∧ zKd sh 37 = 27 ∧ zLn sh 37 = 4
theorem xS_app {sh q : zSh} {n n' : Nat} (h : xS sh n) (h38 : 38 ≤ n) (hn : n + q.length = n') : xS (sh ++ q) n' := by
  obtain ⟨s1, s2, s3, s4, s5, s6⟩ := h
  refine ⟨?_, ?_, ?_, ?_, ?_, ?_⟩
  · rw [List.length_append, s1]; exact hn
  · rw [zKd_app (by omega)]; exact s2
  · rw [zKd_app (by omega)]; exact s3
  · rw [zLn_app (by omega)]; exact s4
  · rw [zKd_app (by omega)]; exact s5
  · rw [zLn_app (by omega)]; exact s6
section
variable {pp : zPp} {mm : zMm} {Q : zV → zSh → zPp → zMm → Prop} {L : Nat}
theorem xA (hat : ∀ j, 0 ≤ j → j < 9 → mm 4 j = f00 j) (hQ : ∀ pp1 mm1, xF 0 lyE pp mm pp1 mm1 → zS 102 92 [zR 13, zI 0] [] (zS0 L ++ [(11, 9)] ++ stQ ++ [(25, 2)] ++ [(20, 3)] ++ [(26, 4)] ++ [(27, 4)] ++ [(6, 18), (20, 12), (20, 12), (20, 12), (20, 12), (20, 12), (20, 12), (20, 12), (20, 12), (20, 12)] ++ [(7, 3), (22, 8), (20, 56), (20, 448)] ++ [(3, 6), (20, 61), (20, 61), (22, 4), (20, 16)] ++ [(2, 4), (0, 2), (20, 8), (0, 2), (20, 8), (0, 2), (20, 8), (0, 2), (20, 8)]) pp1 mm1 Q) : zS 102 0 [zR 13, zU] [] (zS0 L ++ [(11, 9)]) pp mm Q := by
  refine xI1 hat (fun pa ma a1 a2 a3 a4 a5 a6 => xI2 (fun pb mb b1 b2 b3 b4 b5 => xI3 (fun pc mc c1 c2 c3 c4 => xI4 (fun pd md d1 d2 d3 => xI5 (fun pe me e1 e2 e3 e4 e5 => hQ pe me ?_)))))
  have P1 : pL lyA2 pb := pL_app (pL_fr (l := lyA1) (pp' := pb) a3 (fun x hx => b1 _ _ (lyA1_ok x hx).1 (lyA1_ok x hx).2)) b3
  have P2 : pL lyA3 pc := pL_app (pL_fr (pp' := pc) P1 (fun x hx => c1 _ _ (lyA2_ok x hx).1 (lyA2_ok x hx).2)) c3
  have P3 : pL lyA4 pd := pL_app (pL_fr (pp' := pd) P2 (fun x hx => d1 _ _ (lyA3_ok x hx).1 (lyA3_ok x hx).2)) d3
  have P4 : pL lyE pe := pL_app (pL_fr (pp' := pe) P3 (fun x hx => e1 _ _ (lyA4_ok x hx).1 (lyA4_ok x hx).2)) e3
  clear b3 c3 d3 e3 P1 P2 P3
  have r1 : ∀ a i, a < 38 → a ≠ 13 → pe a i = pa a i := fun a i h1 h2 => (e1 a i (by omega) (by omega)).trans ((d1 a i (by omega) (by omega)).trans ((c1 a i (by omega) (by omega)).trans (b1 a i (by omega) (by omega))))
  have r2 : ∀ a j, a < 38 → me a j = ma a j := fun a j h1 => (e2 a j (by omega)).trans ((d2 a j (by omega)).trans ((c2 a j (by omega)).trans (b2 a j (by omega))))
  have r3 : ∀ a j, a < 48 → me a j = mb a j := fun a j h1 => (e2 a j (by omega)).trans ((d2 a j (by omega)).trans (c2 a j (by omega)))
  have r4 : ∀ a j, a < 52 → me a j = mc a j := fun a j h1 => (e2 a j (by omega)).trans (d2 a j (by omega))
  have r5 : pe 38 17 = pb 38 17 := (e1 38 17 (by decide) (by decide)).trans ((d1 38 17 (by decide) (by decide)).trans (c1 38 17 (by decide) (by decide)))
  exact ⟨fun a i ha => (r1 a i (by omega) (by omega)).trans (a1 a i ha), fun a j ha => (r2 a j (by omega)).trans (a2 a j ha), P4, stI_sm a4 (fun x h1 h2 => by funext j; exact r2 x j (by omega)), fun i => (r1 34 i (by decide) (by decide)).trans (a5 i), fun j => (r2 35 j (by decide)).trans (a6 j), ⟨r5.trans b4, (r3 38 10 (by decide)).trans b5, fun j => (r4 49 j (by decide)).trans (c4 j)⟩, ⟨e4, e5⟩, fun p hp => by omega⟩
theorem xC0 {sh : zSh} (hS : xS sh 66) {pp0 : zPp} {mm0 : zMm} (h : xF 0 lyE pp0 mm0 pp mm) (hQ : ∀ pp1 mm1, xF 2 lyD0 pp0 mm0 pp1 mm1 → zS 102 92 [zR 13, zI 1] [] (sh ++ cQ0 ++ dQ0) pp1 mm1 Q) : zS 102 92 [zR 13, zI 0] [] sh pp mm Q := by
  have q3 : pp 13 3 = 36 := h.2.2.1 (13, 3, 36) ly0_3
  obtain ⟨s1, s2, s3, s4, s5, s6⟩ := id hS
  obtain ⟨t1, t2, t3, t4, t5, t6⟩ := xS_app (q := cQ0) (n' := 73) hS (by decide) rfl
  refine xP1 (sh := sh) (by omega) s2 s3 s4 q3 (by decide) (by decide) (fun pa ma a1 a2 ⟨a3, a4, a5, a6, a7, a8, a9⟩ a10 => ?_)
  rw [s1] at a1 a2 a3 a4 a5 a6 a7 a8 a9 a10
  have F1 : xF 1 lyC0 pp0 mm0 pa ma := xF_st (n := 0) (n' := 66) (e := 36) (i := 0) h (by decide) (Or.inl rfl) a1 a2 lyC0_in (pL_c a3 (pL_c a4 (pL_c a5 (pL_c a6 (pL_c a7 (pL_c a8 (pL_c a9 pL_n))))))) a10
  have q4 : pa 13 4 = 37 := F1.2.2.1 (13, 4, 37) ly0_4
  refine xP2 (sh := sh ++ cQ0) (by omega) t2 t5 t6 q4 (by decide) (by decide) (fun pb mb b1 b2 ⟨b3, b4, b5, b6, b7, b8, b9⟩ b10 => ?_)
  rw [t1] at b1 b2 b3 b4 b5 b6 b7 b8 b9 b10
  exact hQ pb mb (xF_st (n := 1) (n' := 73) (e := 37) (i := 0) F1 (by decide) (Or.inr rfl) b1 b2 lyD0_in (pL_c b3 (pL_c b4 (pL_c b5 (pL_c b6 (pL_c b7 (pL_c b8 (pL_c b9 pL_n))))))) b10)
theorem xC1 {sh : zSh} (hS : xS sh 80) {pp0 : zPp} {mm0 : zMm} (h : xF 2 lyD0 pp0 mm0 pp mm) (hQ : ∀ pp1 mm1, xF 4 lyD1 pp0 mm0 pp1 mm1 → zS 102 92 [zR 13, zI 2] [] (sh ++ cQ0 ++ dQ0) pp1 mm1 Q) : zS 102 92 [zR 13, zI 1] [] sh pp mm Q := by
  have q3 : pp 13 3 = 36 := h.2.2.1 (13, 3, 36) ly1_3
  obtain ⟨s1, s2, s3, s4, s5, s6⟩ := id hS
  obtain ⟨t1, t2, t3, t4, t5, t6⟩ := xS_app (q := cQ0) (n' := 87) hS (by decide) rfl
  refine xP1 (sh := sh) (by omega) s2 s3 s4 q3 (by decide) (by decide) (fun pa ma a1 a2 ⟨a3, a4, a5, a6, a7, a8, a9⟩ a10 => ?_)
  rw [s1] at a1 a2 a3 a4 a5 a6 a7 a8 a9 a10
  have F1 : xF 3 lyC1 pp0 mm0 pa ma := xF_st (n := 2) (n' := 80) (e := 36) (i := 1) h (by decide) (Or.inl rfl) a1 a2 lyC1_in (pL_c a3 (pL_c a4 (pL_c a5 (pL_c a6 (pL_c a7 (pL_c a8 (pL_c a9 pL_n))))))) a10
  have q4 : pa 13 4 = 37 := F1.2.2.1 (13, 4, 37) ly1_4
  refine xP2 (sh := sh ++ cQ0) (by omega) t2 t5 t6 q4 (by decide) (by decide) (fun pb mb b1 b2 ⟨b3, b4, b5, b6, b7, b8, b9⟩ b10 => ?_)
  rw [t1] at b1 b2 b3 b4 b5 b6 b7 b8 b9 b10
  exact hQ pb mb (xF_st (n := 3) (n' := 87) (e := 37) (i := 1) F1 (by decide) (Or.inr rfl) b1 b2 lyD1_in (pL_c b3 (pL_c b4 (pL_c b5 (pL_c b6 (pL_c b7 (pL_c b8 (pL_c b9 pL_n))))))) b10)
theorem xC2 {sh : zSh} (hS : xS sh 94) {pp0 : zPp} {mm0 : zMm} (h : xF 4 lyD1 pp0 mm0 pp mm) (hQ : ∀ pp1 mm1, xF 6 lyD2 pp0 mm0 pp1 mm1 → zS 102 92 [zR 13, zI 3] [] (sh ++ cQ0 ++ dQ0) pp1 mm1 Q) : zS 102 92 [zR 13, zI 2] [] sh pp mm Q := by
  have q3 : pp 13 3 = 36 := h.2.2.1 (13, 3, 36) ly2_3
  obtain ⟨s1, s2, s3, s4, s5, s6⟩ := id hS
  obtain ⟨t1, t2, t3, t4, t5, t6⟩ := xS_app (q := cQ0) (n' := 101) hS (by decide) rfl
  refine xP1 (sh := sh) (by omega) s2 s3 s4 q3 (by decide) (by decide) (fun pa ma a1 a2 ⟨a3, a4, a5, a6, a7, a8, a9⟩ a10 => ?_)
  rw [s1] at a1 a2 a3 a4 a5 a6 a7 a8 a9 a10
  have F1 : xF 5 lyC2 pp0 mm0 pa ma := xF_st (n := 4) (n' := 94) (e := 36) (i := 2) h (by decide) (Or.inl rfl) a1 a2 lyC2_in (pL_c a3 (pL_c a4 (pL_c a5 (pL_c a6 (pL_c a7 (pL_c a8 (pL_c a9 pL_n))))))) a10
  have q4 : pa 13 4 = 37 := F1.2.2.1 (13, 4, 37) ly2_4
  refine xP2 (sh := sh ++ cQ0) (by omega) t2 t5 t6 q4 (by decide) (by decide) (fun pb mb b1 b2 ⟨b3, b4, b5, b6, b7, b8, b9⟩ b10 => ?_)
  rw [t1] at b1 b2 b3 b4 b5 b6 b7 b8 b9 b10
  exact hQ pb mb (xF_st (n := 5) (n' := 101) (e := 37) (i := 2) F1 (by decide) (Or.inr rfl) b1 b2 lyD2_in (pL_c b3 (pL_c b4 (pL_c b5 (pL_c b6 (pL_c b7 (pL_c b8 (pL_c b9 pL_n))))))) b10)
theorem xC3 {sh : zSh} (hS : xS sh 108) {pp0 : zPp} {mm0 : zMm} (h : xF 6 lyD2 pp0 mm0 pp mm) (hQ : ∀ pp1 mm1, xF 8 lyD3 pp0 mm0 pp1 mm1 → zS 102 92 [zR 13, zI 4] [] (sh ++ cQ0 ++ dQ0) pp1 mm1 Q) : zS 102 92 [zR 13, zI 3] [] sh pp mm Q := by
  have q3 : pp 13 3 = 36 := h.2.2.1 (13, 3, 36) ly3_3
  obtain ⟨s1, s2, s3, s4, s5, s6⟩ := id hS
  obtain ⟨t1, t2, t3, t4, t5, t6⟩ := xS_app (q := cQ0) (n' := 115) hS (by decide) rfl
  refine xP1 (sh := sh) (by omega) s2 s3 s4 q3 (by decide) (by decide) (fun pa ma a1 a2 ⟨a3, a4, a5, a6, a7, a8, a9⟩ a10 => ?_)
  rw [s1] at a1 a2 a3 a4 a5 a6 a7 a8 a9 a10
  have F1 : xF 7 lyC3 pp0 mm0 pa ma := xF_st (n := 6) (n' := 108) (e := 36) (i := 3) h (by decide) (Or.inl rfl) a1 a2 lyC3_in (pL_c a3 (pL_c a4 (pL_c a5 (pL_c a6 (pL_c a7 (pL_c a8 (pL_c a9 pL_n))))))) a10
  have q4 : pa 13 4 = 37 := F1.2.2.1 (13, 4, 37) ly3_4
  refine xP2 (sh := sh ++ cQ0) (by omega) t2 t5 t6 q4 (by decide) (by decide) (fun pb mb b1 b2 ⟨b3, b4, b5, b6, b7, b8, b9⟩ b10 => ?_)
  rw [t1] at b1 b2 b3 b4 b5 b6 b7 b8 b9 b10
  exact hQ pb mb (xF_st (n := 7) (n' := 115) (e := 37) (i := 3) F1 (by decide) (Or.inr rfl) b1 b2 lyD3_in (pL_c b3 (pL_c b4 (pL_c b5 (pL_c b6 (pL_c b7 (pL_c b8 (pL_c b9 pL_n))))))) b10)
def sh66 (L : Nat) : zSh := zS0 L ++ [(11, 9)] ++ stQ ++ [(25, 2)] ++ [(20, 3)] ++ [(26, 4)] ++ [(27, 4)] ++ [(6, 18), (20, 12), (20, 12), (20, 12), (20, 12), (20, 12), (20, 12), (20, 12), (20, 12), (20, 12)] ++ [(7, 3), (22, 8), (20, 56), (20, 448)] ++ [(3, 6), (20, 61), (20, 61), (22, 4), (20, 16)] ++ [(2, 4), (0, 2), (20, 8), (0, 2), (20, 8), (0, 2), (20, 8), (0, 2), (20, 8)]
theorem sh66_S : xS (sh66 L) 66 := ⟨rfl, rfl, rfl, rfl, rfl, rfl⟩
def sh122 (L : Nat) : zSh := sh66 L ++ cQ0 ++ dQ0 ++ cQ0 ++ dQ0 ++ cQ0 ++ dQ0 ++ cQ0 ++ dQ0
theorem sh122_S : xS (sh122 L) 122 := xS_app (xS_app (xS_app (xS_app (xS_app (xS_app (xS_app (xS_app sh66_S (n' := 73) (by decide) rfl) (n' := 80) (by decide) rfl) (n' := 87) (by decide) rfl) (n' := 94) (by decide) rfl) (n' := 101) (by decide) rfl) (n' := 108) (by decide) rfl) (n' := 115) (by decide) rfl) (by decide) rfl
theorem xAll (hat : ∀ j, 0 ≤ j → j < 9 → mm 4 j = f00 j) (hQ : ∀ pp1 mm1, xF 8 lyD3 pp mm pp1 mm1 → Q zU (sh122 L) pp1 mm1) : zS 102 0 [zR 13, zU] [] (zS0 L ++ [(11, 9)]) pp mm Q := by
  have S0 : xS (sh66 L) 66 := sh66_S
  have S1 : xS (sh66 L ++ cQ0 ++ dQ0) 80 := xS_app (xS_app S0 (n' := 73) (by decide) rfl) (by decide) rfl
  have S2 : xS (sh66 L ++ cQ0 ++ dQ0 ++ cQ0 ++ dQ0) 94 := xS_app (xS_app S1 (n' := 87) (by decide) rfl) (by decide) rfl
  have S3 : xS (sh66 L ++ cQ0 ++ dQ0 ++ cQ0 ++ dQ0 ++ cQ0 ++ dQ0) 108 := xS_app (xS_app S2 (n' := 101) (by decide) rfl) (by decide) rfl
  refine xA hat (fun pa ma a1 => xC0 S0 a1 (fun pb mb b1 => xC1 S1 b1 (fun pc mc c1 => xC2 S2 c1 (fun pd md d1 => xC3 S3 d1 (fun pe me e1 => ?_)))))
  have q := hQ pe me e1
  rw [rX_init_92]
  simp (disch := first | assumption | decide) only [rX_init_93, rX_init_94, rX_init_129, Int.reduceLT, false_implies, not_false_eq_true, true_implies, true_and]
  exact q
end
