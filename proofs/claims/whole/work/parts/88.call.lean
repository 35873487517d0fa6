/-! ===== calls, and a whole run ===== -/
theorem zlookup_mem : ∀ (T : List (Nat × zIns)) (pc : Nat) (i : zIns), T.lookup pc = some i → (pc, i) ∈ T
  | [], _, _, h => by cases h
  | (k, j) :: T, pc, i, h => by
    simp only [List.lookup] at h
    split at h
    · rename_i hb
      have e : pc = k := by simpa using hb
      cases h
      rw [e]
      exact List.mem_cons_self
    · exact List.mem_cons_of_mem _ (zlookup_mem T pc i h)
theorem zCode_mem {mid pc : Nat} {x : zMI} {i : zIns} (hm : zMs[mid]? = some x) (h : zCode mid pc = some i) : (pc, i) ∈ x.2.2.2.2.2.2.2 := by
  unfold zCode at h
  rw [hm] at h
  exact zlookup_mem _ _ _ h
def zIH (l : Launch) (D : va_G) (dA : Nat → ClassId) (fA : Nat → Nat) (qv : Value) (s0 L : Nat) (xs : Nat → Int32) (n : Nat) : Prop :=
  ∀ (mid : Nat) (x : zMI) (pc : Nat) (ls st : List zV) (sh : zSh) (pp : zPp) (mm : zMm) (v : zV) (sh' : zSh) (pp' : zPp) (mm' : zMm), zRun n mid pc ls st sh pp mm = some (v, sh', pp', mm') → zMs[mid]? = some x → (∀ q ∈ x.2.2.2.2.2.2.2, zCk x q = true) →
    ∀ (p : Program) (e : Env) (R : Room) (s : State) (m : MethodId) (args : Array Value) (below : List Frame) (meth : Method) (c : Code) (Q : State → Prop) (n0 z0 : Nat) (rs0 : List Nat), zCx p R s m args meth c D dA fA qv s0 L xs x →
      (∀ (pc : Nat) (i : zIns) (ls st : List zV), zCode mid pc = some i → zAct i pc ls st sh' pp' mm' = some (.inl (v, sh', pp', mm')) → zG p l e R s m args below meth c Q D dA fA qv s0 L xs n0 z0 rs0 x pc ls st sh' pp' mm') → n0 ≤ sh.length → z0 ≤ zSm sh → sh'.length - n0 ≤ R.cells → zSm sh' - z0 ≤ R.slots → zG p l e R s m args below meth c Q D dA fA qv s0 L xs n0 z0 rs0 x pc ls st sh pp mm
def zRm (y : zMI) (sh sh' : zSh) : Room := { frames := y.2.2.2.2.2.1, cells := sh'.length - sh.length, slots := zSm sh' - zSm sh, locals := y.2.2.2.2.2.2.1 }
def zPr (D : va_G) (dA : Nat → ClassId) (fA : Nat → Nat) (qv : Value) (s0 L : Nat) (xs : Nat → Int32) (rs : List Nat) (sh : zSh) (pp : zPp) (mm : zMm) (U : State) : Prop := zRl D dA fA s0 L xs rs sh pp mm U.heap ∧ va_K D vwCl (zTys dA) U ∧ zCsE fA qv s0 L xs U ∧ s0 ≤ U.heap.size
section
variable {l : Launch} {D : va_G} {dA : Nat → ClassId} {fA : Nat → Nat} {qv : Value} {s0 L : Nat} {xs : Nat → Int32} {n mid : Nat} {y : zMI} {sh sh' : zSh} {pp pp' : zPp} {mm mm' : zMm} {v : zV} {rs : List Nat} {la vs : List zV}
theorem z_met (ih : zIH l D dA fA qv s0 L xs n) (hrun : zRun n mid 0 la [] sh pp mm = some (v, sh', pp', mm')) (hm : zMs[mid]? = some y) (hck : ∀ q ∈ y.2.2.2.2.2.2.2, zCk y q = true) (hpl : plainFor y.1 = true) (hcl : y.1.cls = zCn y.2.2.2.2.1) (hvs : ∀ w ∈ vs, zIsU w = false) (hok : ∀ w ∈ vs, zOk sh.length w) (hla : la = zPad y.2.2.1 (zLay vs)) (hlen : (zLay vs).length ≤ y.2.2.1) (hL : L ≤ 2560) :
    Met l y.1 (Cond.code y.1 y.2.1 y.2.2.1 y.2.2.2.1 :: zTb) (zRm y sh sh') (va_Pc (vs.map (zVal fA qv rs)) (zPr D dA fA qv s0 L xs rs sh pp mm)) (zQc D dA fA qv s0 L xs rs v sh' pp' mm') (sh'.length - sh.length) (zSm sh' - zSm sh) (fun q => s0 ≤ q) := by
  refine va_MetF (cc := y.2.1) (maxL := y.2.2.1) (ret := y.2.2.2.1) hpl rfl ?_
  intro p e s m args below meth c s₁ B hml hv
  obtain ⟨rfl, hR, hK, hcs, hs0⟩ := hv
  have hts := atoms_spec (ws := Cond.code y.1 y.2.1 y.2.2.1 y.2.2.2.1 :: zTb) B.pre
  have hown : s.vm.findClass y.1.cls = some m.cls := findClass_of_methodNamed B.named
  rw [hcl] at hown
  have hC : zCx p (zRm y sh sh') s m (vs.map (zVal fA qv rs)).toArray meth c D dA fA qv s0 L xs y := ⟨B.exec, B.bytes, hml, hown, fun w hw => hts w (List.mem_cons_of_mem _ hw), hK, hcs, fun h9 => (name_of_methodNamed B.named B.method).1.trans h9, hs0, Nat.le_refl _, Nat.le_refl _, hL⟩
  have hqv := zqv hC
  have hg := ih mid y 0 la [] sh pp mm v sh' pp' mm' hrun hm hck p e (zRm y sh sh') s m (vs.map (zVal fA qv rs)).toArray below meth c (MQ below (zQc D dA fA qv s0 L xs rs v sh' pp' mm') (vs.map (zVal fA qv rs)).toArray s (sh'.length - sh.length) (zSm sh' - zSm sh) (fun q => s0 ≤ q)) sh.length (zSm sh) rs hC
    (fun pc i ls st hc ha => z_ret hC B.returns B.notSynchronized (hck _ (zCode_mem hm hc)) ha rfl) (Nat.le_refl _) (Nat.le_refl _) (Nat.le_refl _) (Nat.le_refl _)
  have hel := lv_entry (vs.map (zVal fA qv rs)) (n := y.2.2.1) (by rw [zlg_len hqv]; exact hlen)
  rw [lg_entry_eq]
  have hlv : zLv fA qv rs 0 la = lv_args 0 (vs.map (zVal fA qv rs)) := by
    rw [hla]
    unfold zPad
    exact zLv_args hqv rs _ vs 0 hvs
  have hmemla : ∀ w ∈ la, zOk sh.length w := by
    intro w hw
    rw [hla] at hw
    unfold zPad at hw
    rcases List.mem_append.mp hw with hw | hw
    · have aux : ∀ (us : List zV), (∀ u ∈ us, zOk sh.length u) → ∀ u ∈ zLay us, zOk sh.length u := by
        intro us
        induction us with
        | nil => intro _ u hu; cases hu
        | cons a us ih2 =>
          intro h u hu
          obtain ⟨h1, h2⟩ := List.forall_mem_cons.mp h
          unfold zLay at hu
          split at hu
          · rcases List.mem_cons.mp hu with rfl | hu
            · exact h1
            · rcases List.mem_cons.mp hu with rfl | hu
              · trivial
              · exact ih2 h2 u hu
          · rcases List.mem_cons.mp hu with rfl | hu
            · exact h1
            · exact ih2 h2 u hu
      exact aux vs hok w hw
    · rw [(List.mem_replicate.mp hw).2]; trivial
  have k := hg rs s.heap [] _ hR ⟨[], by rw [List.append_nil]⟩ va_S.rf (by rw [hlv]; exact hel) (by rw [hla]; unfold zPad; rw [List.length_append, List.length_replicate]; omega) hmemla (fun _ h => by cases h)
  rw [Nat.sub_self, Nat.sub_self] at k
  exact k
theorem zPr_blind {av : List Value} : FrameBlind (va_Pc av (zPr D dA fA qv s0 L xs rs sh pp mm)) := fun a U g mk ⟨h1, h2, h3, h4, h5⟩ => ⟨h1, h2, va_K.moved (u := U) (U := U.calling g mk a) (Vm.Alike.refl U.vm) h3, zCs_call h4, h5⟩
end
section
variable {p : Program} {l : Launch} {e : Env} {R : Room} {s : State} {m : MethodId} {args : Array Value} {below : List Frame} {meth : Method} {c : Code} {Q : State → Prop} {D : va_G} {dA : Nat → ClassId} {fA : Nat → Nat} {qv : Value} {s0 L : Nat} {xs : Nat → Int32} {n0 z0 : Nat} {rs0 : List Nat} {x : zMI}
variable {pc nx : Nat} {ls ls1 st st1 : List zV} {sh sh1 : zSh} {pp pp1 : zPp} {mm mm1 : zMm} {fr : Nat}
theorem z_after {st0 : List Value} {st2 : List zV} {rs : List Nat} {H : Heap} {locs : List Loc} {lsR : Array Slot} {v : zV} {a : Array Value} (hr : va_Run p l e R s m args below meth c H locs (sh.length - n0) (zSm sh - z0) (sh1.length - sh.length) (zSm sh1 - zSm sh) (F0 m pc lsR st0) (st2.map (zVal fA qv rs)) (zQc D dA fA qv s0 L xs rs v sh1 pp1 mm1 a) (fun q => s0 ≤ q))
    (hx : ∃ r, sh1 = sh ++ r) (hn0 : n0 ≤ sh.length) (hz0 : z0 ≤ zSm sh) (hlen0 : sh.length = 13 + rs.length) (hp : ∃ r, rs = rs0 ++ r) (hS : va_S (fun q => s0 ≤ q) s.heap H locs) (hl : lv_has lsR x.2.2.1 (zLv fA qv rs 0 ls)) (hlen : ls.length = x.2.2.1) (hol : ∀ w ∈ ls, zOk sh.length w) (hos : ∀ w ∈ st2, zOk sh.length w)
    (K : zG p l e R s m args below meth c Q D dA fA qv s0 L xs n0 z0 rs0 x (pc + 3) ls (zPush v st2) sh1 pp1 mm1) : W p l e R s m args below meth c H locs (sh.length - n0) (zSm sh - z0) Q (F0 m pc lsR st0) := by
  intro T hT X
  obtain ⟨v0, st₀, t, T', Ls, h0, X', hL, e1, e2, ⟨rs1, ho, hR1, ⟨r, hr1⟩, hokv, hF⟩, go⟩ := hr T hT X
  subst hr1
  obtain ⟨r9, hr9⟩ := hx
  have hle : sh.length ≤ sh1.length := by rw [hr9, List.length_append]; omega
  have hzl : zSm sh ≤ zSm sh1 := by rw [hr9]; exact zSm_ext r9
  have hv0 : v0 = zRv fA qv (rs ++ r) v := by cases ho; rfl
  unfold va_F at hF
  rw [h0] at hF
  rw [show sh.length - n0 + (sh1.length - sh.length) = sh1.length - n0 by omega, show zSm sh - z0 + (zSm sh1 - zSm sh) = zSm sh1 - z0 by omega] at X'
  have hS1 : va_S (fun q => s0 ≤ q) s.heap T'.heap (locs ++ Ls) := ⟨by rw [e1]; exact Nat.le_trans hS.1 hF.1, fun q h1 h2 => by rw [e1, hF.2 q (Nat.lt_of_lt_of_le h1 hS.1) h2]; exact hS.2.1 q h1 h2, fun q hq => by
    rcases List.mem_append.mp hq with h | h
    · exact hS.2.2 q h
    · exact hL q h⟩
  have hst : (zPush v st2).map (zVal fA qv (rs ++ r)) = v0.toList ++ st2.map (zVal fA qv rs) := by
    rw [hv0, ← zmapst (r := r) hlen0 hos]
    unfold zPush zRv
    cases zIsU v <;> rfl
  obtain ⟨t2, a1, b1⟩ := K (rs ++ r) T'.heap (locs ++ Ls) lsR (by rw [e1]; exact hR1) (by obtain ⟨r2, hr2⟩ := hp; exact ⟨r2 ++ r, by rw [hr2, List.append_assoc]⟩) hS1 (zLv_app hlen0 hol hl) hlen (fun w hw => zOk_mono hle (hol w hw)) (fun w hw => by
    unfold zPush at hw
    split at hw
    · exact zOk_mono hle (hos w hw)
    · rcases List.mem_cons.mp hw with rfl | hw
      · exact hokv
      · exact zOk_mono hle (hos w hw)) T' rfl X'
  rw [hst] at a1
  exact ⟨t2, go t2 a1, b1⟩
/-- what the check of a call gives -/
theorem zCkC_inv {own fr0 lo0 idx a b c0 : Nat} (h : zCkC own fr0 lo0 idx a b c0 = true) : ∃ y : zMI, zMs[a]? = some y ∧ zVd a = true ∧ y.2.2.1 = c0 ∧ y.2.2.2.2.2.1 + 1 ≤ fr0 ∧ 8 + (c0 + 11) + y.2.2.2.2.2.2.1 ≤ lo0 ∧ (parseMethodDescriptor y.1.desc).map (fun d => d.parameters.length) = some b ∧ ((∃ k : Nat, lw_tbl[k]? = some (Cond.methodLink (zCn own) idx y.1)) ∨ ∃ k : Nat, lw_tbl[k]? = some (Cond.methodLinkNest (zCn own) idx y.1 "TwoKnobs")) := by
  unfold zCkC at h
  split at h
  · rename_i y hy
    simp only [Bool.and_eq_true, decide_eq_true_eq] at h
    obtain ⟨⟨⟨⟨⟨h1, h2⟩, h3⟩, h4⟩, h5⟩, h6⟩ := h
    refine ⟨y, hy, h1, h2, h3, h4, h5, ?_⟩
    obtain ⟨q, hq, hq2⟩ := List.any_eq_true.mp h6
    simp only [Bool.and_eq_true, beq_iff_eq] at hq2
    obtain ⟨⟨g1, g2⟩, g3⟩ := hq2
    have hlk := zLMs_ok q hq
    unfold zLkM at hlk
    rw [g1, g2, g3, hy] at hlk
    simp only [Bool.or_eq_true, Bool.and_eq_true, decide_eq_true_eq, zAtW] at hlk
    rcases hlk with ⟨-, h9⟩ | ⟨-, h9⟩
    · exact Or.inl ⟨_, h9⟩
    · exact Or.inr ⟨_, h9⟩
  · cases h
theorem zCkM_inv {mid : Nat} {y : zMI} (h : zCkM mid y = true) : Cond.code y.1 y.2.1 y.2.2.1 y.2.2.2.1 ∈ zTb ∧ Cond.initialized y.1.cls ∈ zTb ∧ plainFor y.1 = true ∧ (y.1.cls ≠ "java/lang/invoke/MethodHandle" ∧ y.1.cls ≠ "java/lang/invoke/VarHandle") ∧ y.1.cls = zCn y.2.2.2.2.1 ∧ (zAtr.getD mid 9 = 0 → Cond.static y.1 ∈ zTb) ∧ (zAtr.getD mid 9 = 1 → Cond.instanceMethod y.1 ∈ zTb ∧ y.1.name = "<init>" ∧ y.2.2.2.1 = none) ∧ (zAtr.getD mid 9 = 2 → Cond.instanceMethod y.1 ∈ zTb ∧ Cond.selects y.1.cls y.1 y.1 ∈ zTb) := by
  unfold zCkM at h
  split at h
  · rename_i w hw
    simp only [Bool.and_eq_true, decide_eq_true_eq] at h
    obtain ⟨⟨⟨⟨⟨⟨h1, h2⟩, h3⟩, h4⟩, h5⟩, h6⟩, h7⟩ := h
    unfold zAtW at h1 h2
    refine ⟨zMem (of_decide_eq_true h1) rfl, zMem (of_decide_eq_true h2) rfl, h3, ⟨h4, h5⟩, h6, fun e0 => ?_, fun e0 => ?_, fun e0 => ?_⟩
    · rw [e0] at h7
      unfold zAtW at h7
      exact zMem (of_decide_eq_true h7) rfl
    · rw [e0] at h7
      simp only [Bool.and_eq_true, decide_eq_true_eq, zAtW] at h7
      exact ⟨zMem h7.1.1 rfl, h7.1.2, h7.2⟩
    · rw [e0] at h7
      simp only [Bool.and_eq_true, decide_eq_true_eq, zAtW] at h7
      exact ⟨zMem h7.1 rfl, zMem h7.2 rfl⟩
  · cases h
theorem zCall_inv {callee n mx nx callee' nx' : Nat} {st la st2 : List zV} (h : zCall callee n mx nx st = some (.inr (.inr (callee', la, st2, nx')))) : callee' = callee ∧ nx' = nx ∧ n ≤ st.length ∧ ((st.drop n).map zCat).sum ≤ 8 ∧ (zLay (st.take n).reverse).length ≤ mx ∧ (∀ v ∈ st.take n, zIsU v = false) ∧ la = zPad mx (zLay (st.take n).reverse) ∧ st2 = st.drop n := by
  unfold zCall at h
  split at h
  · rename_i hc
    simp only [Option.some.injEq, Sum.inr.injEq, Prod.mk.injEq] at h
    refine ⟨h.1.symm, h.2.2.2.symm, hc.1, hc.2.1, hc.2.2.1, fun v hv => ?_, h.2.1.symm, h.2.2.1.symm⟩
    have h2 := List.all_eq_true.mp hc.2.2.2 v hv
    simpa using h2
  · cases h
/-- all that a call rests on -/
theorem zcallB {a b c0 idx n : Nat} {y : zMI} {v : zV} {la vs : List zV} {rs : List Nat} (hC : zCx p R s m args meth c D dA fA qv s0 L xs x) (hya : zMs[a]? = some y) (hyM : zCkM a y = true) (hc0 : y.2.2.1 = c0) (hfr : y.2.2.2.2.2.1 + 1 ≤ x.2.2.2.2.2.1) (hlo : 8 + (c0 + 11) + y.2.2.2.2.2.2.1 ≤ x.2.2.2.2.2.2.1) (hpd : (parseMethodDescriptor y.1.desc).map (fun d => d.parameters.length) = some b) :
    ((zRm y sh sh1).cells = sh1.length - sh.length ∧ (zRm y sh sh1).slots = zSm sh1 - zSm sh ∧ (zRm y sh sh1).frames + 1 ≤ R.frames ∧ 8 + (y.2.2.1 + 11) + (zRm y sh sh1).locals ≤ R.locals ∧ (∀ w ∈ (Cond.code y.1 y.2.1 y.2.2.1 y.2.2.2.1 :: zTb), ∀ (a' : Array Value) (U : State), s.WarmedH U.vm → w.before a' U = true) ∧ Cond.code y.1 y.2.1 y.2.2.1 y.2.2.2.1 ∈ (Cond.code y.1 y.2.1 y.2.2.1 y.2.2.2.1 :: zTb)) ∧ (Cond.code y.1 y.2.1 y.2.2.1 y.2.2.2.1).before args s = true ∧ (Cond.initialized y.1.cls).before args s = true ∧ (∀ sig, parseMethodDescriptor y.1.desc = some sig → b = sig.parameters.length) := by
  obtain ⟨m1, m2, -⟩ := zCkM_inv hyM
  have h1 := hC.2.2.2.2.2.2.2.2.2.1
  have h2 := hC.2.2.2.2.2.2.2.2.2.2.1
  refine ⟨⟨rfl, rfl, by show y.2.2.2.2.2.1 + 1 ≤ _; omega, by show 8 + (y.2.2.1 + 11) + y.2.2.2.2.2.2.1 ≤ _; omega, fun w hw a' U hW => ?_, List.mem_cons_self⟩, hC.2.2.2.2.1 _ m1, hC.2.2.2.2.1 _ m2, fun sig h => ?_⟩
  · rcases List.mem_cons.mp hw with rfl | hw
    · exact zTb_warm hW _ m1 (hC.2.2.2.2.1 _ m1)
    · exact zTb_warm hW w hw (hC.2.2.2.2.1 _ hw)
  · rw [h] at hpd
    exact (Option.some.inj hpd).symm
theorem zPc_of {rs : List Nat} {H : Heap} {locs : List Loc} {av : List Value} (hC : zCx p R s m args meth c D dA fA qv s0 L xs x) (hR : zRl D dA fA s0 L xs rs sh pp mm H) (hS : va_S (fun q => s0 ≤ q) s.heap H locs) : ∀ U : State, U.heap = H → s.WarmedH U.vm → va_Pc av (zPr D dA fA qv s0 L xs rs sh pp mm) av.toArray U :=
  fun U hU hW => ⟨rfl, by rw [hU]; exact hR, va_K.moved hW.alike hC.2.2.2.2.2.1, zCs_go hC.2.2.2.2.2.2.1 hW hU hS, by rw [hU]; exact Nat.le_trans hC.2.2.2.2.2.2.2.2.1 hS.1⟩
theorem zvd_ok {a : Nat} {y : zMI} (hv : zVd a = true) (hy : zMs[a]? = some y) : (∀ q ∈ y.2.2.2.2.2.2.2, zCk y q = true) ∧ zCkM a y = true := by
  have ha : a < 273 := by
    unfold zVd at hv
    have := of_decide_eq_true hv
    omega
  obtain ⟨y', h1, h2, h3⟩ := zUa a (zUs_all a ha hv)
  cases hy.symm.trans h1
  exact ⟨h2, h3⟩
theorem z_call {i : zIns} {n callee : Nat} {la st2 : List zV} {v : zV} (ih : zIH l D dA fA qv s0 L xs n) (hC : zCx p R s m args meth c D dA fA qv s0 L xs x) (hck : zCk x (pc, i) = true) (hn0 : n0 ≤ sh.length) (hz0 : z0 ≤ zSm sh) (ha : zAct i pc ls st sh pp mm = some (.inr (.inr (callee, la, st2, nx)))) (hrun : zRun n callee 0 la [] sh pp mm = some (v, sh1, pp1, mm1)) (hc1 : sh1.length - n0 ≤ R.cells) (hc2 : zSm sh1 - z0 ≤ R.slots) (K : zG p l e R s m args below meth c Q D dA fA qv s0 L xs n0 z0 rs0 x nx ls (zPush v st2) sh1 pp1 mm1) : zG p l e R s m args below meth c Q D dA fA qv s0 L xs n0 z0 rs0 x pc ls st sh pp mm := by
  obtain ⟨ins, nx0, a, b, c0, k, mk⟩ := i
  obtain ⟨y0, cc, mL, ret, own, fr0, lo0, tb⟩ := x
  unfold zCk at hck
  simp only [Bool.and_eq_true] at hck
  obtain ⟨⟨⟨hd, hil⟩, hir⟩, hck⟩ := hck
  replace hd := of_decide_eq_true hd
  have hext := zRun_ext _ _ _ _ _ _ _ _ _ _ _ _ hrun
  have hfit : sh.length - n0 + (sh1.length - sh.length) ≤ R.cells ∧ zSm sh - z0 + (zSm sh1 - zSm sh) ≤ R.slots := by
    obtain ⟨r9, hr9⟩ := hext
    have hle : sh.length ≤ sh1.length := by rw [hr9, List.length_append]; omega
    have hzl : zSm sh ≤ zSm sh1 := by rw [hr9]; exact zSm_ext r9
    omega
  have hL := hC.2.2.2.2.2.2.2.2.2.2.2
  intro rs H locs lsR hR hp hS hl hlen hol hos
  cases ins
  case invokestatic idx =>
    replace hd := zdec (n := 3) hil hd
    obtain ⟨rfl, hd⟩ := hd
    replace ha : (if b = 77 then zCopy (pc + 3) ls st sh pp mm else zCall a b c0 (pc + 3) st) = _ := ha
    by_cases h77 : b = 77
    · rw [if_pos h77] at ha
      exfalso
      unfold zCopy at ha
      split at ha
      · split at ha
        · simp [zGo] at ha
        · cases ha
      · cases ha
    rw [if_neg h77] at ha
    replace hck : (if b = 77 then decide ((own, idx, k.toNat) ∈ zCpL) && decide (1 ≤ fr0) && decide (26 ≤ lo0) else zCkC own fr0 lo0 idx a b c0 && decide (zAtr.getD a 9 = 0)) = true := hck
    rw [if_neg h77, Bool.and_eq_true] at hck
    obtain ⟨y, hya, hvd, hyc, hyf, hyl, hyp, hlink⟩ := zCkC_inv hck.1
    obtain ⟨rfl, rfl, hnl, hsum, hlay, hall, rfl, rfl⟩ := zCall_inv ha
    obtain ⟨hyck, hyM⟩ := zvd_ok hvd hya
    obtain ⟨-, -, hpl, hMH, hcl, hst0, -, -⟩ := zCkM_inv hyM
    have hstat := hC.2.2.2.2.1 _ (hst0 (of_decide_eq_true hck.2))
    have hB := zcallB (sh := sh) (sh1 := sh1) (v := v) (la := ls) (vs := ls) (rs := rs) (idx := idx) (n := n) hC hya hyM hyc hyf hyl hyp
    have hmet := z_met (rs := rs) (vs := (st.take b).reverse) ih hrun hya hyck hpl hcl (fun w hw => hall w (List.mem_reverse.mp hw)) (fun w hw => hos w (List.mem_of_mem_take (List.mem_reverse.mp hw))) (by rw [hyc]) (by rw [hyc]; exact hlay) hL
    have hos2 : ∀ w ∈ st.drop b, zOk sh.length w := fun w hw => hos w (List.mem_of_mem_drop hw)
    have hstk : st.map (zVal fA qv rs) = ((st.take b).reverse.map (zVal fA qv rs)).reverse ++ (st.drop b).map (zVal fA qv rs) := by
      rw [← List.map_reverse, List.reverse_reverse, ← List.map_append, List.take_append_drop]
    have hW : 2 * (F0 m pc lsR (st.map (zVal fA qv rs))).monitorRoom + (((st.drop b).map (zVal fA qv rs)).map fun v => v.category).sum ≤ 8 := lv_room (by rw [zcats (zqv hC)]; exact hsum)
    have hasn : ((st.take b).reverse.map (zVal fA qv rs)).length = b := by rw [List.length_map, List.length_reverse, List.length_take]; omega
    rcases hlink with ⟨kk, hk⟩ | ⟨kk, hk⟩
    · exact z_after (va_runS (own := zCn own) (index := idx) (n := b) ⟨hC.1, hC.2.1, hC.2.2.1, hC.2.2.2.1, hC.2.2.2.2.1⟩ hmet ⟨⟨hB.1.1, hB.1.2.1, hB.1.2.2.1, hB.1.2.2.2.1, hB.1.2.2.2.2.1, hB.1.2.2.2.2.2, hB.2.1, hB.2.2.1, hMH, hB.2.2.2, hC.2.2.2.2.1 _ (zMem hk rfl)⟩, hstat⟩ ⟨zPr_blind, zPc_of hC hR hS⟩ rfl hasn hl.1 hstk hW hd hfit) hext hn0 hz0 hR.1 hp hS hl hlen hol hos2 K
    · exact z_after (va_runSN (own := zCn own) (host := "TwoKnobs") (index := idx) (n := b) ⟨hC.1, hC.2.1, hC.2.2.1, hC.2.2.2.1, hC.2.2.2.2.1⟩ hmet ⟨⟨hB.1, hB.2.1, hB.2.2.1, hMH, hB.2.2.2, hC.2.2.2.2.1 _ (zMem hk rfl)⟩, hstat, trivial⟩ ⟨zPr_blind, zPc_of hC hR hS⟩ rfl hasn hl.1 hstk hW hd hfit) hext hn0 hz0 hR.1 hp hS hl hlen hol hos2 K
  case invokespecial idx =>
    replace hd := zdec (n := 3) hil hd
    obtain ⟨rfl, hd⟩ := hd
    by_cases h78 : b = 78
    · exfalso
      unfold zAct at ha
      dsimp only at ha
      rw [if_pos h78] at ha
      split at ha
      · split at ha
        · simp [zGo] at ha
        · cases ha
      · cases ha
    replace ha : zIV a b c0 (pc + 3) k st sh = some (.inr (.inr (callee, la, st2, nx))) := by
      unfold zAct at ha
      dsimp only at ha
      rw [if_neg h78] at ha
      exact ha
    replace hck : (if b = 78 then decide ((own, idx, k.toNat) ∈ zOiL) && decide (1 ≤ fr0) && decide (20 ≤ lo0) else zCkC own fr0 lo0 idx a b c0 && decide (zAtr.getD a 9 = 1) && decide (k.toNat < 50)) = true := hck
    rw [if_neg h78, Bool.and_eq_true, Bool.and_eq_true] at hck
    unfold zIV at ha
    split at ha
    · rename_i r hrr
      split at ha
      · rename_i hkd
        obtain ⟨y, hya, hvd, hyc, hyf, hyl, hyp, hlink⟩ := zCkC_inv hck.1.1
        obtain ⟨rfl, rfl, hnl, hsum, hlay, hall, rfl, rfl⟩ := zCall_inv ha
        obtain ⟨hyck, hyM⟩ := zvd_ok hvd hya
        have hr0 : r ≠ 0 := by
          intro h0
          subst h0
          have h99 : zKd sh 0 = 99 := by rw [(zHI_kd hR.2.1 (by decide)).1]; rfl
          have hk50 := hck.2; have hk51 := of_decide_eq_true hk50
          omega
        have hB := zcallB (sh := sh) (sh1 := sh1) (v := v) (la := ls) (vs := ls) (rs := rs) (idx := idx) (n := n) hC hya hyM hyc hyf hyl hyp
        have htk : st.take (b + 1) = st.take b ++ [zR r] := by rw [List.take_succ, hrr]; rfl
        have hvs : (st.take (b + 1)).reverse.map (zVal fA qv rs) = .ref (zAd fA rs r) :: (st.take b).reverse.map (zVal fA qv rs) := by
          rw [htk, List.reverse_append, List.reverse_singleton, List.singleton_append, List.map_cons, zRf_ref hr0]
        have hos2 : ∀ w ∈ st.drop (b + 1), zOk sh.length w := fun w hw => hos w (List.mem_of_mem_drop hw)
        have hstk : st.map (zVal fA qv rs) = ((st.take b).reverse.map (zVal fA qv rs)).reverse ++ .ref (zAd fA rs r) :: (st.drop (b + 1)).map (zVal fA qv rs) := by
          rw [← List.map_reverse, List.reverse_reverse]
          conv => lhs; rw [← List.take_append_drop (b + 1) st, htk, List.map_append, List.map_append, List.map_singleton, zRf_ref hr0]
          simp
        have hW : 2 * (F0 m pc lsR (st.map (zVal fA qv rs))).monitorRoom + (((st.drop (b + 1)).map (zVal fA qv rs)).map fun v => v.category).sum ≤ 8 := lv_room (by rw [zcats (zqv hC)]; exact hsum)
        have hasn : ((st.take b).reverse.map (zVal fA qv rs)).length = b := by rw [List.length_map, List.length_reverse, List.length_take]; omega
        have hpc := zPc_of (av := (st.take (b + 1)).reverse.map (zVal fA qv rs)) hC hR hS
        obtain ⟨-, -, hpl, hMH, hcl, -, hst1, -⟩ := zCkM_inv hyM
        obtain ⟨hin, hname, hret0⟩ := hst1 (of_decide_eq_true hck.1.2)
        have hmet := z_met (rs := rs) (vs := (st.take (b + 1)).reverse) ih hrun hya hyck hpl hcl (fun w hw => hall w (List.mem_reverse.mp hw)) (fun w hw => hos w (List.mem_of_mem_take (List.mem_reverse.mp hw))) (by rw [hyc]) (by rw [hyc]; exact hlay) hL
        rw [hvs] at hmet hpc
        rw [hret0] at hB hmet
        rcases hlink with ⟨kk, hk⟩ | ⟨kk, hk⟩
        · exact z_after (va_runI (own := zCn own) (index := idx) (n := b) ⟨hC.1, hC.2.1, hC.2.2.1, hC.2.2.2.1, hC.2.2.2.2.1⟩ hmet ⟨⟨hB.1.1, hB.1.2.1, hB.1.2.2.1, hB.1.2.2.2.1, hB.1.2.2.2.2.1, hB.1.2.2.2.2.2, hB.2.1, hB.2.2.1, hMH, hB.2.2.2, hC.2.2.2.2.1 _ (zMem hk rfl)⟩, hname, hC.2.2.2.2.1 _ hin⟩ ⟨zPr_blind, hpc⟩ rfl hasn hl.1 hstk hW hd hfit) hext hn0 hz0 hR.1 hp hS hl hlen hol hos2 K
        · exact z_after (va_runIN (own := zCn own) (host := "TwoKnobs") (index := idx) (n := b) ⟨hC.1, hC.2.1, hC.2.2.1, hC.2.2.2.1, hC.2.2.2.2.1⟩ hmet ⟨⟨hB.1, hB.2.1, hB.2.2.1, hMH, hB.2.2.2, hC.2.2.2.2.1 _ (zMem hk rfl)⟩, hname, hC.2.2.2.2.1 _ hin⟩ ⟨zPr_blind, hpc⟩ rfl hasn hl.1 hstk hW hd hfit) hext hn0 hz0 hR.1 hp hS hl hlen hol hos2 K
      · cases ha
    · cases ha
  case invokevirtual idx =>
    replace hd := zdec (n := 3) hil hd
    obtain ⟨rfl, hd⟩ := hd
    replace ha : zIV a b c0 (pc + 3) k st sh = some (.inr (.inr (callee, la, st2, nx))) := ha
    rw [Bool.and_eq_true, Bool.and_eq_true, Bool.and_eq_true] at hck
    unfold zIV at ha
    split at ha
    · rename_i r hrr
      split at ha
      · rename_i hkd
        obtain ⟨y, hya, hvd, hyc, hyf, hyl, hyp, hlink⟩ := zCkC_inv hck.1.1.1
        obtain ⟨rfl, rfl, hnl, hsum, hlay, hall, rfl, rfl⟩ := zCall_inv ha
        obtain ⟨hyck, hyM⟩ := zvd_ok hvd hya
        have hr0 : r ≠ 0 := by
          intro h0
          subst h0
          have h99 : zKd sh 0 = 99 := by rw [(zHI_kd hR.2.1 (by decide)).1]; rfl
          have hk50 := hck.1.2; have hk51 := of_decide_eq_true hk50
          omega
        have hB := zcallB (sh := sh) (sh1 := sh1) (v := v) (la := ls) (vs := ls) (rs := rs) (idx := idx) (n := n) hC hya hyM hyc hyf hyl hyp
        have htk : st.take (b + 1) = st.take b ++ [zR r] := by rw [List.take_succ, hrr]; rfl
        have hvs : (st.take (b + 1)).reverse.map (zVal fA qv rs) = .ref (zAd fA rs r) :: (st.take b).reverse.map (zVal fA qv rs) := by
          rw [htk, List.reverse_append, List.reverse_singleton, List.singleton_append, List.map_cons, zRf_ref hr0]
        have hos2 : ∀ w ∈ st.drop (b + 1), zOk sh.length w := fun w hw => hos w (List.mem_of_mem_drop hw)
        have hstk : st.map (zVal fA qv rs) = ((st.take b).reverse.map (zVal fA qv rs)).reverse ++ .ref (zAd fA rs r) :: (st.drop (b + 1)).map (zVal fA qv rs) := by
          rw [← List.map_reverse, List.reverse_reverse]
          conv => lhs; rw [← List.take_append_drop (b + 1) st, htk, List.map_append, List.map_append, List.map_singleton, zRf_ref hr0]
          simp
        have hW : 2 * (F0 m pc lsR (st.map (zVal fA qv rs))).monitorRoom + (((st.drop (b + 1)).map (zVal fA qv rs)).map fun v => v.category).sum ≤ 8 := lv_room (by rw [zcats (zqv hC)]; exact hsum)
        have hasn : ((st.take b).reverse.map (zVal fA qv rs)).length = b := by rw [List.length_map, List.length_reverse, List.length_take]; omega
        have hpc := zPc_of (av := (st.take (b + 1)).reverse.map (zVal fA qv rs)) hC hR hS
        obtain ⟨-, -, hpl, hMH, hcl, -, -, hst2⟩ := zCkM_inv hyM
        obtain ⟨hin, hsel⟩ := hst2 (of_decide_eq_true hck.1.1.2)
        have hmet := z_met (rs := rs) (vs := (st.take (b + 1)).reverse) ih hrun hya hyck hpl hcl (fun w hw => hall w (List.mem_reverse.mp hw)) (fun w hw => hos w (List.mem_of_mem_take (List.mem_reverse.mp hw))) (by rw [hyc]) (by rw [hyc]; exact hlay) hL
        rw [hvs] at hmet hpc
        have hkn : zKn k.toNat = y.1.cls := by
          have h9 := of_decide_eq_true hck.2
          rw [hya] at h9
          have h8 : (zKn k.toNat == y.1.cls) = true := Option.some.inj h9
          simpa using h8
        have hrecv : ∃ cellB : Cell, H[zAd fA rs r]? = some cellB ∧ cellB.vm.isStatics = false ∧ s.vm.findClass y.1.cls = some cellB.cls := by
          rcases of_decide_eq_true hck.1.2 with h13 | h31
          · obtain ⟨g1, g2⟩ := zHI_hi (a := r) hR.2.1 (by omega)
            obtain ⟨q, hq⟩ : ∃ q, vwCl[k.toNat]? = some q := by
              have h1 := zFT_len _ h13
              cases h2 : vwCl[k.toNat]? with
              | none => rw [h2] at h1; cases h1
              | some q => exact ⟨q, rfl⟩
            have hq1 : q.1 = y.1.cls := by
              have h1 := zCn_cl _ h13
              rw [hq] at h1
              rw [← hkn]
              unfold zKn
              rw [if_neg (by omega)]
              exact Option.some.inj h1
            rw [← hq1]
            exact va_recv hC.2.2.2.2.2.1 hR.2.2.1 hq (q0 := r - 13) (by rw [zW_get g1 (by have := hR.1; omega), zEn_obj (by omega), hkd])
          · have g1 := zHI_lo (a := r) hR.2.1 (by omega) (by omega)
            have g2 := (zS0_c (L := L) g1).2.1 (by rw [← (zHI_kd hR.2.1 g1).1]; omega)
            have h9 := vk_recv (i := r - 5) hC.2.2.2.2.2.2.1.2.1 (by omega) hS
            rw [show 5 + (r - 5) = r by omega] at h9
            rw [show zAd fA rs r = fA r by unfold zAd; rw [if_pos g1], ← hkn]
            unfold zKn
            rw [if_pos h31]
            exact h9
        rcases hlink with ⟨kk, hk⟩ | ⟨kk, hk⟩
        · exact z_after (va_runV (own := zCn own) (C := y.1.cls) (index := idx) (n := b) ⟨hC.1, hC.2.1, hC.2.2.1, hC.2.2.2.1, hC.2.2.2.2.1⟩ hmet ⟨⟨hB.1.1, hB.1.2.1, hB.1.2.2.1, hB.1.2.2.2.1, hB.1.2.2.2.2.1, hB.1.2.2.2.2.2, hB.2.1, hB.2.2.1, hMH, hB.2.2.2, hC.2.2.2.2.1 _ (zMem hk rfl)⟩, hC.2.2.2.2.1 _ hin, hC.2.2.2.2.1 _ hsel⟩ ⟨zPr_blind, hrecv, hpc⟩ rfl hasn hl.1 hstk hW hd hfit) hext hn0 hz0 hR.1 hp hS hl hlen hol hos2 K
        · exact z_after (va_runVN (own := zCn own) (C := y.1.cls) (host := "TwoKnobs") (index := idx) (n := b) ⟨hC.1, hC.2.1, hC.2.2.1, hC.2.2.2.1, hC.2.2.2.2.1⟩ hmet ⟨⟨hB.1, hB.2.1, hB.2.2.1, hMH, hB.2.2.2, hC.2.2.2.2.1 _ (zMem hk rfl)⟩, hC.2.2.2.2.1 _ hin, hC.2.2.2.2.1 _ hsel⟩ ⟨zPr_blind, hrecv, hpc⟩ rfl hasn hl.1 hstk hW hd hfit) hext hn0 hz0 hR.1 hp hS hl hlen hol hos2 K
      · cases ha
    · cases ha
  all_goals
    exfalso
    unfold zAct at ha
    simp only [zBin, zBinL, zBinS, zLd, zLdL, zLdA, zSto, zStoA, zStoL, zGet, zPut, zAld, zAldL, zAldR, zAst, zAstL, zAstR, zLen, zNewA, zCopy, zSwT, zIV, zCall, zGo] at ha
    (repeat' split at ha) <;> (simp only [Option.some.injEq, Sum.inr.injEq, reduceCtorEq] at ha)
theorem z_sim (l : Launch) (D : va_G) (dA : Nat → ClassId) (fA : Nat → Nat) (qv : Value) (s0 L : Nat) (xs : Nat → Int32) : ∀ n, zIH l D dA fA qv s0 L xs n := by
  intro n
  induction n with
  | zero => intro mid x pc ls st sh pp mm v sh' pp' mm' h; simp [zRun] at h
  | succ n ih =>
    intro mid x pc ls st sh pp mm v sh' pp' mm' h hm hck p e R s m args below meth c Q n0 z0 rs0 hC hend hn0 hz0 hc1 hc2
    rw [zRun] at h
    cases hc : zCode mid pc with
    | none => rw [hc] at h; cases h
    | some i =>
      rw [hc] at h
      dsimp only at h
      have hcki := hck _ (zCode_mem hm hc)
      refine zG_mask (zMk i) ?_
      cases ha : zAct i pc (zMask (zMk i) ls) st sh pp mm with
      | none => rw [ha] at h; cases h
      | some y =>
        rw [ha] at h
        rcases y with ⟨v0, sh0, pp0, mm0⟩ | ⟨nx, ls', st', sh0, pp0, mm0⟩ | ⟨callee, la, st', nx⟩
        · dsimp only at h
          obtain ⟨e1, e2, e3⟩ := zAct_ret ha
          cases h
          subst e1; subst e2; subst e3
          exact hend pc i _ st hc ha
        · dsimp only at h
          obtain ⟨r, hr⟩ := zAct_ext ha
          obtain ⟨r2, hr2⟩ := zRun_ext _ _ _ _ _ _ _ _ _ _ _ _ h
          have l1 : sh.length ≤ sh0.length := by rw [hr, List.length_append]; omega
          have l2 : sh0.length ≤ sh'.length := by rw [hr2, List.length_append]; omega
          have l3 : zSm sh ≤ zSm sh0 := by rw [hr]; exact zSm_ext r
          have l4 : zSm sh0 ≤ zSm sh' := by rw [hr2]; exact zSm_ext r2
          exact z_step hC hcki hn0 hz0 ha (by omega) (by omega) (ih mid x nx ls' st' sh0 pp0 mm0 v sh' pp' mm' h hm hck p e R s m args below meth c Q n0 z0 rs0 hC hend (by omega) (by omega) hc1 hc2)
        · dsimp only at h
          cases hr : zRun n callee 0 la [] sh pp mm with
          | none => rw [hr] at h; cases h
          | some q =>
            obtain ⟨v0, sh0, pp0, mm0⟩ := q
            rw [hr] at h
            dsimp only at h
            obtain ⟨r, hr1⟩ := zRun_ext _ _ _ _ _ _ _ _ _ _ _ _ hr
            obtain ⟨r2, hr2⟩ := zRun_ext _ _ _ _ _ _ _ _ _ _ _ _ h
            have l1 : sh.length ≤ sh0.length := by rw [hr1, List.length_append]; omega
            have l2 : sh0.length ≤ sh'.length := by rw [hr2, List.length_append]; omega
            have l3 : zSm sh ≤ zSm sh0 := by rw [hr1]; exact zSm_ext r
            have l4 : zSm sh0 ≤ zSm sh' := by rw [hr2]; exact zSm_ext r2
            exact z_call ih hC hcki hn0 hz0 ha hr (by omega) (by omega) (ih mid x nx _ _ sh0 pp0 mm0 v sh' pp' mm' h hm hck p e R s m args below meth c Q n0 z0 rs0 hC hend (by omega) (by omega) hc1 hc2)
end
