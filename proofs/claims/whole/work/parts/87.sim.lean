/-! ===== a run of the small machine is a run of the machine ===== -/
theorem zTb_warm {s U : State} {args a' : Array Value} (hW : s.WarmedH U.vm) (w : Cond) (hw : w ∈ zTb) (h : w.before args s = true) : w.before a' U = true := by
  have hs := (List.mem_filter.mp hw).2
  unfold zSafe at hs
  split at hs
  · exact word_at hW (Or.inr ⟨_, rfl⟩) h
  · exact va_Nw.use rfl (va_Nw.warmF hW (va_Nw.of rfl h))
  · exact va_Nw.use rfl (va_Nw.warmM hW (va_Nw.of rfl h))
  · exact va_AO.use (va_AO.moved hW.alike (va_AO.of h))
  · exact word_at hW (Or.inl hs) h
theorem znb {x : Int} (h1 : -128 ≤ x) (h2 : x ≤ 127) : (Int32.ofInt x).toInt8.toInt32 = Int32.ofInt x := by rw [Int32.toInt8_ofInt, zb8 h1 h2]
theorem znc {x : Int} (h0 : 0 ≤ x) (h1 : x ≤ 65535) : (Int32.ofInt x).toUInt32.toUInt16.toUInt32.toInt32 = Int32.ofInt x := by
  apply Int32.toBitVec_inj.mp
  show ((Int32.ofInt x).toBitVec.setWidth 16).setWidth 32 = (Int32.ofInt x).toBitVec
  apply BitVec.eq_of_toNat_eq
  rw [BitVec.toNat_setWidth, BitVec.toNat_setWidth, Int32.toBitVec_ofInt, BitVec.toNat_ofInt]
  omega
def zRv (fA : Nat → Nat) (qv : Value) (rs : List Nat) (v : zV) : Option Value := if zIsU v then none else some (zVal fA qv rs v)
def zQc (D : va_G) (dA : Nat → ClassId) (fA : Nat → Nat) (qv : Value) (s0 L : Nat) (xs : Nat → Int32) (rs0 : List Nat) (v : zV) (sh : zSh) (pp : zPp) (mm : zMm) : Array Value → State → Outcome → State → Prop := fun _ st o t =>
  ∃ rs, o = .returned (zRv fA qv rs v) ∧ zRl D dA fA s0 L xs rs sh pp mm t.heap ∧ (∃ r, rs = rs0 ++ r) ∧ zOk sh.length v ∧ va_F (fun q => s0 ≤ q) st t
section
variable {pc nx : Nat} {ls ls1 st st1 : List zV} {sh sh1 : zSh} {pp pp1 : zPp} {mm mm1 : zMm}
theorem zAct_ext {i : zIns} (h : zAct i pc ls st sh pp mm = some (.inr (.inl (nx, ls1, st1, sh1, pp1, mm1)))) : ∃ r, sh1 = sh ++ r := by
  obtain ⟨ins, nx0, a, b, c0, k, mk⟩ := i
  unfold zAct at h
  simp only [zBin, zBinL, zBinS, zLd, zLdL, zLdA, zSto, zStoA, zStoL, zGet, zPut, zAld, zAldL, zAldR, zAst, zAstL, zAstR, zLen, zNewA, zCopy, zSwT, zIV, zCall, zGo] at h
  split at h <;> (repeat' split at h) <;> (simp only [Option.some.injEq, Sum.inr.injEq, Sum.inl.injEq, Prod.mk.injEq, reduceCtorEq] at h) <;> first | exact ⟨[], by rw [List.append_nil]; exact h.2.2.2.1.symm⟩ | exact ⟨_, h.2.2.2.1.symm⟩
theorem zAct_ret {i : zIns} {v : zV} (h : zAct i pc ls st sh pp mm = some (.inl (v, sh1, pp1, mm1))) : sh1 = sh ∧ pp1 = pp ∧ mm1 = mm := by
  obtain ⟨ins, nx0, a, b, c0, k, mk⟩ := i
  unfold zAct at h
  simp only [zBin, zBinL, zBinS, zLd, zLdL, zLdA, zSto, zStoA, zStoL, zGet, zPut, zAld, zAldL, zAldR, zAst, zAstL, zAstR, zLen, zNewA, zCopy, zSwT, zIV, zCall, zGo] at h
  split at h <;> (repeat' split at h) <;> (simp only [Option.some.injEq, Sum.inr.injEq, Sum.inl.injEq, Prod.mk.injEq, reduceCtorEq] at h) <;> exact ⟨h.2.1.symm, h.2.2.1.symm, h.2.2.2.symm⟩
theorem zSm_ext (r : zSh) : zSm sh ≤ zSm (sh ++ r) := by unfold zSm; simp
theorem zRun_ext : ∀ (n mid pc : Nat) (ls st : List zV) (sh : zSh) (pp : zPp) (mm : zMm) (v : zV) (sh' : zSh) (pp' : zPp) (mm' : zMm), zRun n mid pc ls st sh pp mm = some (v, sh', pp', mm') → ∃ r, sh' = sh ++ r := by
  intro n
  induction n with
  | zero => intro mid pc ls st sh pp mm v sh' pp' mm' h; simp [zRun] at h
  | succ n ih =>
    intro mid pc ls st sh pp mm v sh' pp' mm' h
    rw [zRun] at h
    cases hc : zCode mid pc with
    | none => rw [hc] at h; cases h
    | some i =>
      rw [hc] at h
      dsimp only at h
      cases ha : zAct i pc (zMask (zMk i) ls) st sh pp mm with
      | none => rw [ha] at h; cases h
      | some y =>
        rw [ha] at h
        rcases y with ⟨v0, sh0, pp0, mm0⟩ | ⟨nx, ls', st', sh0, pp0, mm0⟩ | ⟨callee, la, st', nx⟩
        · dsimp only at h
          have e := (zAct_ret ha).1
          cases h
          exact ⟨[], by rw [List.append_nil]; exact e⟩
        · obtain ⟨r, hr⟩ := zAct_ext ha
          obtain ⟨r2, hr2⟩ := ih _ _ _ _ _ _ _ _ _ _ _ h
          exact ⟨r ++ r2, by rw [hr2, hr, List.append_assoc]⟩
        · dsimp only at h
          cases hr : zRun n callee 0 la [] sh pp mm with
          | none => rw [hr] at h; cases h
          | some q =>
            obtain ⟨v0, sh0, pp0, mm0⟩ := q
            rw [hr] at h
            obtain ⟨r, hr1⟩ := ih _ _ _ _ _ _ _ _ _ _ _ hr
            obtain ⟨r2, hr2⟩ := ih _ _ _ _ _ _ _ _ _ _ _ h
            exact ⟨r ++ r2, by rw [hr2, hr1, List.append_assoc]⟩
end
section
variable {p : Program} {l : Launch} {e : Env} {R : Room} {s : State} {m : MethodId} {args : Array Value} {below : List Frame} {meth : Method} {c : Code} {Q : State → Prop} {D : va_G} {dA : Nat → ClassId} {fA : Nat → Nat} {qv : Value} {s0 L : Nat} {xs : Nat → Int32} {n0 z0 : Nat} {rs0 : List Nat} {x : zMI}
variable {pc nx : Nat} {ls ls1 st st1 : List zV} {sh sh1 : zSh} {pp pp1 : zPp} {mm mm1 : zMm} {fr : Nat}
theorem zQc_end {rs : List Nat} {H : Heap} {locs : List Loc} {v : zV} (hR : zRl D dA fA s0 L xs rs sh pp mm H) (hp : ∃ r, rs = rs0 ++ r) (hS : va_S (fun q => s0 ≤ q) s.heap H locs) (hv : zOk sh.length v) {o : Option Value} (ho : o = zRv fA qv rs v) : ∀ t : State, t.heap = H → s.WarmedH t.vm → zQc D dA fA qv s0 L xs rs0 v sh pp mm args s (.returned o) t :=
  fun t ht _ => ⟨rs, by rw [ho], by rw [ht]; exact hR, hp, hv, hS.F ht⟩
theorem z_ret {i : zIns} {v : zV} (hC : zCx p R s m args meth c D dA fA qv s0 L xs x) (hret : meth.sig.returnType = x.2.2.2.1) (hlocks : meth.locks = false) (hck : zCk x (pc, i) = true) (ha : zAct i pc ls st sh pp mm = some (.inl (v, sh1, pp1, mm1))) (hQ : Q = MQ below (zQc D dA fA qv s0 L xs rs0 v sh pp mm) args s (sh.length - n0) (zSm sh - z0) (fun q => s0 ≤ q)) : zG p l e R s m args below meth c Q D dA fA qv s0 L xs n0 z0 rs0 x pc ls st sh pp mm := by
  subst hQ
  obtain ⟨ins, nx0, a, b, c0, k, mk⟩ := i
  obtain ⟨y, cc, mL, ret, own, fr0, lo0, tb⟩ := x
  unfold zCk at hck
  simp only [Bool.and_eq_true] at hck
  obtain ⟨⟨⟨hd, hil⟩, hir⟩, hck⟩ := hck
  replace hd := of_decide_eq_true hd
  intro rs H locs lsR hR hp hS hl hlen hol hos
  cases ins
  case ireturn =>
    replace hd := zdec (n := 1) hil hd
    obtain ⟨rfl, hd⟩ := hd
    replace ha : (show Option zRes from match (generalizing := false) st with
      | [.inl (.inl x)] => if zRt b x then some (.inl (zI x, sh, pp, mm)) else none
      | _ => none) = _ := ha
    split at ha
    · rename_i u
      split at ha
      · rename_i hrt
        cases ha
        simp only [Bool.and_eq_true, decide_eq_true_eq] at hck
        have hret2 : meth.sig.returnType = zRty b := hret.trans hck.1
        have hrn : zRty b ≠ none := fun h => hck.2 (hck.1.trans h)
        have hq := zQc_end (args := args) (s := s) (qv := qv) (v := zI u) hR hp hS (List.forall_mem_cons.mp hos).1 rfl
        unfold zRt at hrt
        by_cases h0 : b = 0
        · rw [h0] at hret2
          exact W.iret (v := Int32.ofInt u) hC.1 hC.2.1 hret2 hq hS.2.2 hd hlocks
        by_cases h3 : b = 3
        · rw [if_pos h3] at hrt
          rw [h3] at hret2
          refine W.zret (v := Int32.ofInt u) (ty := .boolean) hC.1 hC.2.1 hret2 ?_ hq hS.2.2 hd hlocks
          rcases of_decide_eq_true hrt with h | h <;> (rw [h]; decide)
        by_cases h4 : b = 4
        · rw [if_neg h3, if_pos h4] at hrt
          rw [h4] at hret2
          have h9 := of_decide_eq_true hrt
          refine W.zret (v := Int32.ofInt u) (ty := .byte) hC.1 hC.2.1 hret2 ?_ hq hS.2.2 hd hlocks
          show Value.int (Int32.ofInt u).toInt8.toInt32 = _
          rw [znb h9.1 h9.2]
        by_cases h5 : b = 5
        · rw [if_neg h3, if_neg h4, if_pos h5] at hrt
          rw [h5] at hret2
          have h9 := of_decide_eq_true hrt
          refine W.zret (v := Int32.ofInt u) (ty := .char) hC.1 hC.2.1 hret2 ?_ hq hS.2.2 hd hlocks
          show Value.int (Int32.ofInt u).toUInt32.toUInt16.toUInt32.toInt32 = _
          rw [znc h9.1 h9.2]
        · exact absurd (by unfold zRty; rw [if_neg h0, if_neg h3, if_neg h4, if_neg h5]) hrn
      · cases ha
    · cases ha
  case lreturn =>
    replace hd := zdec (n := 1) hil hd
    obtain ⟨rfl, hd⟩ := hd
    replace ha : (show Option zRes from match (generalizing := false) st with
      | [.inl (.inr x)] => some (.inl (zL x, sh, pp, mm))
      | _ => none) = _ := ha
    split at ha
    · rename_i u
      cases ha
      exact W.lret (v := Int64.ofInt u) hC.1 hC.2.1 (hret.trans (of_decide_eq_true hck)) (zQc_end (v := zL u) hR hp hS (List.forall_mem_cons.mp hos).1 rfl) hS.2.2 hd hlocks
    · cases ha
  case areturn =>
    replace hd := zdec (n := 1) hil hd
    obtain ⟨rfl, hd⟩ := hd
    replace ha : (show Option zRes from match (generalizing := false) st with
      | [.inr (.inl x)] => some (.inl (zR x, sh, pp, mm))
      | _ => none) = _ := ha
    split at ha
    · rename_i u
      cases ha
      replace hck : zIsRt ret = true := hck
      replace hret : meth.sig.returnType = ret := hret
      have hq := zQc_end (args := args) (s := s) (qv := qv) (v := zR u) hR hp hS (List.forall_mem_cons.mp hos).1 rfl
      unfold zIsRt at hck
      split at hck
      · rename_i n9
        exact W.aret (rt := .object n9) hC.1 hC.2.1 hret (Or.inl ⟨_, rfl⟩) (va_rf_or (zRo fA rs u)) hq hS.2.2 hd hlocks
      · rename_i n9
        exact W.aret (rt := .array n9) hC.1 hC.2.1 hret (Or.inr ⟨_, rfl⟩) (va_rf_or (zRo fA rs u)) hq hS.2.2 hd hlocks
      · cases hck
    · cases ha
  case return_ =>
    replace hd := zdec (n := 1) hil hd
    obtain ⟨rfl, hd⟩ := hd
    replace ha : (show Option zRes from match (generalizing := false) st with
      | [] => some (.inl (zU, sh, pp, mm))
      | _ => none) = _ := ha
    split at ha
    · cases ha
      exact W.vret hC.1 hC.2.1 (hret.trans (of_decide_eq_true hck)) (zQc_end (v := zU) hR hp hS trivial rfl) hS.2.2 hd hlocks
    · cases ha
  all_goals
    exfalso
    unfold zAct at ha
    simp only [zBin, zBinL, zBinS, zLd, zLdL, zLdA, zSto, zStoA, zStoL, zGet, zPut, zAld, zAldL, zAldR, zAst, zAstL, zAstR, zLen, zNewA, zCopy, zSwT, zIV, zCall, zGo] at ha
    (repeat' split at ha) <;> (simp only [Option.some.injEq, reduceCtorEq] at ha)
-- constants go along
theorem zCs_go {U : State} {H : Heap} {locs : List Loc} (h : zCsE fA qv s0 L xs s) (hW : s.WarmedH U.vm) (hU : U.heap = H) (hS : va_S (fun q => s0 ≤ q) s.heap H locs) : zCsE fA qv s0 L xs U := by
  subst hU
  have hk := hS.2.1
  have hv := hW.alike
  obtain ⟨h1, h2, h3, h4, h5, h6, h7⟩ := h
  exact ⟨fun a ha hb => ((h1 a ha hb).moved hv).kept hk, (h2.moved hv).kept hk, fun a ha hb => (h3 a ha hb).warm hW, fun a ha hb => ((h4 a ha hb).moved hv).kept hk, (h5.moved hv).kept hk, (h6.moved hv).kept hk, h7⟩
theorem zCs_call {U : State} {g : JFrame} {mk : MethodId} {a : Array Value} (h : zCsE fA qv s0 L xs U) : zCsE fA qv s0 L xs (U.calling g mk a) := by
  have hv : U.vm.Alike (U.calling g mk a).vm := Vm.Alike.refl U.vm
  obtain ⟨h1, h2, h3, h4, h5, h6, h7⟩ := h
  exact ⟨fun a ha hb => (h1 a ha hb).moved hv, h2.moved hv, fun a ha hb => (h3 a ha hb).same rfl, fun a ha hb => (h4 a ha hb).moved hv, h5.moved hv, h6.moved hv, h7⟩
-- the locals at a method's entry
theorem zLv_pad (rs : List Nat) (k i : Nat) : zLv fA qv rs i (List.replicate k zU) = [] := by
  induction k generalizing i with
  | zero => rfl
  | succ k ih => rw [List.replicate_succ]; unfold zLv; rw [if_pos (show zIsU zU = true from rfl)]; exact ih _
theorem zLv_args (hqv : qv.category = 1) (rs : List Nat) (k : Nat) : ∀ (vs : List zV) (i : Nat), (∀ v ∈ vs, zIsU v = false) → zLv fA qv rs i (zLay vs ++ List.replicate k zU) = lv_args i (vs.map (zVal fA qv rs))
  | [], i, _ => by
    show zLv fA qv rs i ([] ++ _) = []
    rw [List.nil_append]
    exact zLv_pad rs k i
  | v :: vs, i, h => by
    obtain ⟨hv, h⟩ := List.forall_mem_cons.mp h
    unfold zLay
    rw [List.map_cons]
    unfold lv_args
    cases hL : zIsL v with
    | true =>
      have hc : (zVal fA qv rs v).category = 2 := by
        rcases v with (y | y) | (y | y)
        · cases hL
        · rfl
        · cases hL
        · cases hL
      rw [if_pos rfl, if_pos hc, List.cons_append, List.cons_append]
      conv => lhs; unfold zLv
      rw [if_neg (by rw [hv]; decide)]
      conv => lhs; arg 2; unfold zLv
      rw [if_pos (show zIsU zU = true from rfl), zLv_args hqv rs k vs _ h]
    | false =>
      have hc : ¬ (zVal fA qv rs v).category = 2 := by
        have h2 := zcat2 (fA := fA) (rs := rs) hqv hL
        intro h3; rw [h3] at h2; cases h2
      rw [if_neg (by decide), if_neg hc, List.cons_append]
      conv => lhs; unfold zLv
      rw [if_neg (by rw [hv]; decide), zLv_args hqv rs k vs _ h]
theorem zlg_len (hqv : qv.category = 1) (rs : List Nat) : ∀ vs : List zV, (lg_sl (vs.map (zVal fA qv rs))).length = (zLay vs).length
  | [] => rfl
  | v :: vs => by
    have ih := zlg_len hqv rs vs
    unfold zLay
    rw [List.map_cons]
    unfold lg_sl at ih ⊢
    rw [List.flatMap_cons, List.length_append, ih]
    cases hL : zIsL v with
    | true =>
      have hc : (zVal fA qv rs v).category = 2 := by
        rcases v with (y | y) | (y | y)
        · cases hL
        · rfl
        · cases hL
        · cases hL
      rw [if_pos hc, if_pos rfl]
      simp; omega
    | false =>
      have hc : ¬ (zVal fA qv rs v).category = 2 := by
        have h2 := zcat2 (fA := fA) (rs := rs) hqv hL
        intro h3; rw [h3] at h2; cases h2
      rw [if_neg hc, if_neg (by decide)]
      simp; omega
end
