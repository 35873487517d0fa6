/-! running the small machine; zS: it comes to its end, with Q -/
def zRun : Nat → Nat → Nat → List zV → List zV → zSh → zPp → zMm → Option (zV × zHp)
  | 0, _, _, _, _, _, _, _ => none
  | n + 1, mid, pc, ls, st, sh, pp, mm => match zCode mid pc with
    | none => none
    | some i => match zAct i pc (zMask (zMk i) ls) st sh pp mm with
      | none => none
      | some (.inl r) => some r
      | some (.inr (.inl (nx, ls', st', sh', pp', mm'))) => zRun n mid nx ls' st' sh' pp' mm'
      | some (.inr (.inr (callee, la, st', nx))) => match zRun n callee 0 la [] sh pp mm with
        | none => none
        | some (v, sh', pp', mm') => zRun n mid nx (zMask (zMk i) ls) (zPush v st') sh' pp' mm'
def zS (mid pc : Nat) (ls st : List zV) (sh : zSh) (pp : zPp) (mm : zMm) (Q : zV → zSh → zPp → zMm → Prop) : Prop :=
  ∃ (n : Nat) (v : zV) (sh' : zSh) (pp' : zPp) (mm' : zMm), zRun n mid pc ls st sh pp mm = some (v, sh', pp', mm') ∧ Q v sh' pp' mm'
theorem zRun_mono : ∀ (n mid pc : Nat) (ls st : List zV) (sh : zSh) (pp : zPp) (mm : zMm) (r : zV × zHp), zRun n mid pc ls st sh pp mm = some r → zRun (n + 1) mid pc ls st sh pp mm = some r := by
  intro n
  induction n with
  | zero => intro mid pc ls st sh pp mm r h; simp [zRun] at h
  | succ n ih =>
    intro mid pc ls st sh pp mm r h
    rw [zRun] at h
    rw [zRun]
    cases hc : zCode mid pc with
    | none => rw [hc] at h; cases h
    | some i =>
      rw [hc] at h
      dsimp only at h ⊢
      cases ha : zAct i pc (zMask (zMk i) ls) st sh pp mm with
      | none => rw [ha] at h; cases h
      | some x =>
        rw [ha] at h
        rcases x with r0 | ⟨nx, ls', st', sh', pp', mm'⟩ | ⟨callee, la, st', nx⟩
        · exact h
        · exact ih _ _ _ _ _ _ _ _ h
        · dsimp only at h ⊢
          cases hr : zRun n callee 0 la [] sh pp mm with
          | none => rw [hr] at h; cases h
          | some q =>
            obtain ⟨v, sh', pp', mm'⟩ := q
            rw [hr] at h
            rw [ih _ _ _ _ _ _ _ _ hr]
            exact ih _ _ _ _ _ _ _ _ h
theorem zRun_le {n k mid pc : Nat} {ls st : List zV} {sh : zSh} {pp : zPp} {mm : zMm} {r : zV × zHp} (hk : n ≤ k) (h : zRun n mid pc ls st sh pp mm = some r) : zRun k mid pc ls st sh pp mm = some r := by
  induction hk with
  | refl => exact h
  | step _ ih => exact zRun_mono _ _ _ _ _ _ _ _ _ ih
theorem zMask_idem : ∀ (m : Nat) (ls : List zV), zMask m (zMask m ls) = zMask m ls
  | _, [] => rfl
  | m, v :: vs => by
    simp only [zMask, zMask_idem (m / 2) vs]
    by_cases h : m % 2 = 1 <;> simp [h]
section
variable {mid pc nx nx2 : Nat} {ls ls1 ls2 ls3 st st1 st2 : List zV} {sh sh1 : zSh} {pp pp1 : zPp} {mm mm1 : zMm} {Q : zV → zSh → zPp → zMm → Prop} {i j j2 : zIns}
theorem s_mask (hn : zCode mid pc = some i) : zS mid pc ls st sh pp mm Q ↔ zS mid pc (zMask (zMk i) ls) st sh pp mm Q := by
  constructor
  · rintro ⟨n, v, sh', pp', mm', h, hq⟩
    cases n with
    | zero => simp [zRun] at h
    | succ n =>
      refine ⟨n + 1, v, sh', pp', mm', ?_, hq⟩
      rw [zRun, hn] at h ⊢
      dsimp only at h ⊢
      rw [zMask_idem]
      exact h
  · rintro ⟨n, v, sh', pp', mm', h, hq⟩
    cases n with
    | zero => simp [zRun] at h
    | succ n =>
      refine ⟨n + 1, v, sh', pp', mm', ?_, hq⟩
      rw [zRun, hn] at h ⊢
      dsimp only at h ⊢
      rw [zMask_idem] at h
      exact h
theorem s_go (hc : zCode mid pc = some i) (hn : zCode mid nx = some j) (ha : zAct i pc (zMask (zMk i) ls) st sh pp mm = some (.inr (.inl (nx, ls1, st1, sh1, pp1, mm1)))) (hm : zMask (zMk j) ls1 = ls2) : zS mid pc ls st sh pp mm Q ↔ zS mid nx ls2 st1 sh1 pp1 mm1 Q := by
  rw [← hm, ← s_mask hn]
  constructor
  · rintro ⟨n, v, sh', pp', mm', h, hq⟩
    cases n with
    | zero => simp [zRun] at h
    | succ n =>
      rw [zRun, hc] at h
      dsimp only at h
      rw [ha] at h
      exact ⟨n, v, sh', pp', mm', h, hq⟩
  · rintro ⟨n, v, sh', pp', mm', h, hq⟩
    refine ⟨n + 1, v, sh', pp', mm', ?_, hq⟩
    rw [zRun, hc]
    dsimp only
    rw [ha]
    exact h
theorem s_ret {v : zV} (hc : zCode mid pc = some i) (ha : zAct i pc (zMask (zMk i) ls) st sh pp mm = some (.inl (v, sh, pp, mm))) : zS mid pc ls st sh pp mm Q ↔ Q v sh pp mm := by
  constructor
  · rintro ⟨n, v', sh', pp', mm', h, hq⟩
    cases n with
    | zero => simp [zRun] at h
    | succ n =>
      rw [zRun, hc] at h
      dsimp only at h
      rw [ha] at h
      cases h
      exact hq
  · intro hq
    refine ⟨1, v, sh, pp, mm, ?_, hq⟩
    rw [zRun, hc]
    dsimp only
    rw [ha]
theorem s_call {callee : Nat} {la : List zV} (hc : zCode mid pc = some i) (hn : zCode mid nx = some j) (ha : zAct i pc (zMask (zMk i) ls) st sh pp mm = some (.inr (.inr (callee, la, st1, nx)))) (hm : zMask (zMk j) (zMask (zMk i) ls) = ls2) :
    zS mid pc ls st sh pp mm Q ↔ zS callee 0 la [] sh pp mm (fun v sh pp mm => zS mid nx ls2 (zPush v st1) sh pp mm Q) := by
  subst hm
  constructor
  · rintro ⟨n, v, sh', pp', mm', h, hq⟩
    cases n with
    | zero => simp [zRun] at h
    | succ n =>
      rw [zRun, hc] at h
      dsimp only at h
      rw [ha] at h
      dsimp only at h
      cases hr : zRun n callee 0 la [] sh pp mm with
      | none => rw [hr] at h; cases h
      | some q =>
        obtain ⟨v2, sh2, pp2, mm2⟩ := q
        rw [hr] at h
        exact ⟨n, v2, sh2, pp2, mm2, hr, (s_mask hn).mp ⟨n, v, sh', pp', mm', h, hq⟩⟩
  · rintro ⟨n, v2, sh2, pp2, mm2, hr, hs⟩
    obtain ⟨k, v, sh', pp', mm', h, hq⟩ := (s_mask hn).mpr hs
    refine ⟨n + k + 1, v, sh', pp', mm', ?_, hq⟩
    rw [zRun, hc]
    dsimp only
    rw [ha]
    dsimp only
    rw [zRun_le (Nat.le_add_right n k) hr]
    exact zRun_le (Nat.le_add_left k n) h
theorem s_br {c : Prop} [Decidable c] (hc : zCode mid pc = some i) (hn : zCode mid nx = some j) (hn2 : zCode mid nx2 = some j2) (ha : zAct i pc (zMask (zMk i) ls) st sh pp mm = if c then some (.inr (.inl (nx, ls1, st1, sh, pp, mm))) else some (.inr (.inl (nx2, ls1, st1, sh, pp, mm)))) (hm : zMask (zMk j) ls1 = ls2) (hm2 : zMask (zMk j2) ls1 = ls3) :
    zS mid pc ls st sh pp mm Q ↔ (c → zS mid nx ls2 st1 sh pp mm Q) ∧ (¬ c → zS mid nx2 ls3 st1 sh pp mm Q) := by
  by_cases h : c
  · rw [if_pos h] at ha
    simp only [h, true_implies, not_true_eq_false, false_implies, and_true]
    exact s_go hc hn ha hm
  · rw [if_neg h] at ha
    simp only [h, false_implies, not_false_eq_true, true_implies, true_and]
    exact s_go hc hn2 ha hm2
theorem s_if {c : Prop} [Decidable c] (hc : zCode mid pc = some i) (hn : zCode mid nx = some j) (hn2 : zCode mid nx2 = some j2) (ha : zAct i pc (zMask (zMk i) ls) st sh pp mm = if decide c = true then some (.inr (.inl (nx, ls1, st1, sh, pp, mm))) else some (.inr (.inl (nx2, ls1, st1, sh, pp, mm)))) (hm : zMask (zMk j) ls1 = ls2) (hm2 : zMask (zMk j2) ls1 = ls3) :
    zS mid pc ls st sh pp mm Q ↔ (c → zS mid nx ls2 st1 sh pp mm Q) ∧ (¬ c → zS mid nx2 ls3 st1 sh pp mm Q) :=
  s_br hc hn hn2 (by rw [ha]; by_cases h : c <;> simp [h]) hm hm2
theorem s_ifn {c : Prop} [Decidable c] (hc : zCode mid pc = some i) (hn : zCode mid nx = some j) (hn2 : zCode mid nx2 = some j2) (ha : zAct i pc (zMask (zMk i) ls) st sh pp mm = if (!decide c) = true then some (.inr (.inl (nx2, ls1, st1, sh, pp, mm))) else some (.inr (.inl (nx, ls1, st1, sh, pp, mm)))) (hm : zMask (zMk j) ls1 = ls2) (hm2 : zMask (zMk j2) ls1 = ls3) :
    zS mid pc ls st sh pp mm Q ↔ (c → zS mid nx ls2 st1 sh pp mm Q) ∧ (¬ c → zS mid nx2 ls3 st1 sh pp mm Q) :=
  s_br hc hn hn2 (by rw [ha]; by_cases h : c <;> simp [h]) hm hm2
theorem s_lk {o o2 : Int} {r : Option zRes} {f : Int → Option zRes} (h : o = o2) (h2 : f o2 = r) : f o = r := by rw [h, h2]
end
theorem zPush_I (x : Int) (st : List zV) : zPush (zI x) st = zI x :: st := rfl
theorem zPush_L (x : Int) (st : List zV) : zPush (zL x) st = zL x :: st := rfl
theorem zPush_R (x : Nat) (st : List zV) : zPush (zR x) st = zR x :: st := rfl
theorem zPush_U (st : List zV) : zPush zU st = st := rfl
/-- the keys of a code list grow -/
def zInc : List (Nat × zIns) → Bool
  | [] => true
  | [_] => true
  | p :: q :: r => Nat.blt p.1 q.1 && zInc (q :: r)
theorem zInc_lt : ∀ (T : List (Nat × zIns)) (p : Nat × zIns), zInc (p :: T) = true → ∀ q ∈ T, p.1 < q.1
  | [], _, _, _, hq => absurd hq List.not_mem_nil
  | r :: T, p, h, q, hq => by
    simp only [zInc, Bool.and_eq_true, Nat.blt_eq] at h
    rcases List.mem_cons.mp hq with rfl | hq
    · exact h.1
    · exact Nat.lt_trans h.1 (zInc_lt T r h.2 q hq)
theorem zInc_lookup : ∀ (T : List (Nat × zIns)), zInc T = true → ∀ q ∈ T, T.lookup q.1 = some q.2
  | [], _, _, hq => absurd hq List.not_mem_nil
  | r :: T, h, q, hq => by
    rcases List.mem_cons.mp hq with rfl | hq
    · simp [List.lookup]
    · have h1 := zInc_lt T r h q hq
      have h2 : zInc T = true := by
        cases T with
        | nil => rfl
        | cons a T => simp only [zInc, Bool.and_eq_true] at h; exact h.2
      have h3 : (q.1 == r.1) = false := by simp; omega
      simp only [List.lookup, h3]
      exact zInc_lookup T h2 q hq
theorem zAll {mid : Nat} {T : List (Nat × zIns)} (h : (zMs[mid]?).map (fun x => x.2.2.2.2.2.2.2) = some T) (hi : zInc T = true) : ∀ q ∈ T, zCode mid q.1 = some q.2 := by
  intro q hq
  cases hm : zMs[mid]? with
  | none => rw [hm] at h; cases h
  | some y =>
    rw [hm] at h
    have h2 : y.2.2.2.2.2.2.2 = T := Option.some.inj h
    unfold zCode
    rw [hm]
    dsimp only
    rw [h2]
    exact zInc_lookup T hi q hq
theorem zEl_ok {k : Nat} (h : 24 ≤ k) (h2 : k ≤ 27) : zEl k ≠ 98 := by
  have : k = 24 ∨ k = 25 ∨ k = 26 ∨ k = 27 := by omega
  rcases this with rfl | rfl | rfl | rfl <;> decide
theorem zEl_st {k j : Nat} (h : (k = 24 ∧ j = 10) ∨ (k = 25 ∧ j = 9) ∨ (k = 26 ∧ j = 8) ∨ (k = 27 ∧ j = 1)) : zEl k ≠ 98 ∧ j = zEl k := by
  rcases h with ⟨rfl, rfl⟩ | ⟨rfl, rfl⟩ | ⟨rfl, rfl⟩ | ⟨rfl, rfl⟩ <;> decide
