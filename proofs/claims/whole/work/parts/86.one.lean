/-! ===== one step ===== -/
theorem zdec {cc : ByteArray} {pc nx n : Nat} {ins : Instr} (hil : decide (nx = pc + n) = true) (hd : decode cc pc = .ok (ins, nx - pc)) : nx = pc + n ∧ decode cc pc = .ok (ins, n) := by
  have h := of_decide_eq_true hil
  subst h
  rw [Nat.add_sub_cancel_left] at hd
  exact ⟨rfl, hd⟩
theorem zo_and (x y : Int) : Int32.ofInt (zand x y) = Int32.ofInt x &&& Int32.ofInt y := Int32.ofInt_toInt _
theorem zo_or (x y : Int) : Int32.ofInt (zor x y) = Int32.ofInt x ||| Int32.ofInt y := Int32.ofInt_toInt _
theorem zo_xor (x y : Int) : Int32.ofInt (zxor x y) = Int32.ofInt x ^^^ Int32.ofInt y := Int32.ofInt_toInt _
theorem zo_shl (x y : Int) : Int32.ofInt (zshl x y) = Int32.ofInt x <<< (Int32.ofInt y &&& 31) := Int32.ofInt_toInt _
theorem zo_shr (x y : Int) : Int32.ofInt (zshr x y) = Int32.ofInt x >>> (Int32.ofInt y &&& 31) := Int32.ofInt_toInt _
theorem zo_ushr (x y : Int) : Int32.ofInt (zushr x y) = ((Int32.ofInt x).toUInt32 >>> ((Int32.ofInt y).toUInt32 &&& Int32.toUInt32 31)).toInt32 := Int32.ofInt_toInt _
theorem zo_land (x y : Int) : Int64.ofInt (zland x y) = Int64.ofInt x &&& Int64.ofInt y := Int64.ofInt_toInt _
theorem zo_lor (x y : Int) : Int64.ofInt (zlor x y) = Int64.ofInt x ||| Int64.ofInt y := Int64.ofInt_toInt _
theorem zo_lshl (x y : Int) : Int64.ofInt (zlshl x y) = Int64.ofInt x <<< ((Int32.ofInt y).toInt64 &&& 63) := Int64.ofInt_toInt _
theorem zo_lshr (x y : Int) : Int64.ofInt (zlshr x y) = Int64.ofInt x >>> ((Int32.ofInt y).toInt64 &&& 63) := Int64.ofInt_toInt _
theorem zo_lushr (x y : Int) : Int64.ofInt (zlushr x y) = ((Int64.ofInt x).toUInt64 >>> ((Int32.ofInt y).toInt64.toUInt64 &&& Int64.toUInt64 63)).toInt64 := Int64.ofInt_toInt _
theorem zo_i2c (x : Int) : Int32.ofInt (zi2c x) = ((Int32.ofInt x).toUInt32 % 65536).toInt32 := Int32.ofInt_toInt _
theorem zb8 {n : Int} (h1 : -128 ≤ n) (h2 : n ≤ 127) : (Int8.ofInt n).toInt32 = Int32.ofInt n := by
  apply Int32.toInt_inj.mp
  rw [Int8.toInt_toInt32, Int8.toInt_ofInt_of_le (by omega) (by omega), zt32 ⟨by omega, by omega⟩]
theorem zb16 {n : Int} (h1 : -32768 ≤ n) (h2 : n ≤ 32767) : (Int16.ofInt n).toInt32 = Int32.ofInt n := by
  apply Int32.toInt_inj.mp
  rw [Int16.toInt_toInt32, Int16.toInt_ofInt_of_le (by omega) (by omega), zt32 ⟨by omega, by omega⟩]
theorem zCall_no {callee n mx nx : Nat} {st : List zV} {r : Nat × List zV × List zV × zHp} : ¬ zCall callee n mx nx st = some (.inr (.inl r)) := by
  unfold zCall
  split <;> simp
theorem zIV_no {callee n mx nx : Nat} {kd : Int} {st : List zV} {sh : zSh} {r : Nat × List zV × List zV × zHp} : ¬ zIV callee n mx nx kd st sh = some (.inr (.inl r)) := by
  unfold zIV
  split
  · split
    · exact zCall_no
    · simp
  · simp
theorem zSp_inv {idx nx a b c0 mk pc : Nat} {k : Int} {ls st : List zV} {sh : zSh} {pp : zPp} {mm : zMm} {r : Nat × List zV × List zV × zHp} (hb : b = 78) (h : zAct (.invokespecial idx, nx, a, b, c0, k, mk) pc ls st sh pp mm = some (.inr (.inl r))) : ∃ u st2, st = zR u :: st2 ∧ u ≠ 0 ∧ (st2.map zCat).sum ≤ 8 ∧ r = (nx, ls, st2, sh, pp, mm) := by
  unfold zAct at h
  dsimp only at h
  rw [if_pos hb] at h
  split at h
  · split at h
    · rename_i hg
      exact ⟨_, _, rfl, hg.1, hg.2.2, zGo_inv h⟩
    · cases h
  · cases h
theorem zSp_no {idx nx a b c0 mk pc : Nat} {k : Int} {ls st : List zV} {sh : zSh} {pp : zPp} {mm : zMm} {r : Nat × List zV × List zV × zHp} (hb : ¬ b = 78) : ¬ zAct (.invokespecial idx, nx, a, b, c0, k, mk) pc ls st sh pp mm = some (.inr (.inl r)) := by
  intro h
  unfold zAct at h
  dsimp only at h
  rw [if_neg hb] at h
  exact zIV_no h
section
variable {p : Program} {l : Launch} {e : Env} {R : Room} {s : State} {m : MethodId} {args : Array Value} {below : List Frame} {meth : Method} {c : Code} {Q : State → Prop} {D : va_G} {dA : Nat → ClassId} {fA : Nat → Nat} {qv : Value} {s0 L : Nat} {xs : Nat → Int32} {n0 z0 : Nat} {rs0 : List Nat} {x : zMI}
variable {pc nx : Nat} {ls ls1 st st1 : List zV} {sh sh1 : zSh} {pp pp1 : zPp} {mm mm1 : zMm} {fr : Nat}
theorem z_top {v v1 : zV} {len : Nat} (hv : zOk sh.length v → zOk sh.length v1) (row : ∀ {H : Heap} {locs : List Loc} {k n : Nat} {lsR : Array Slot} {rest : List Value} {rs : List Nat}, zOk sh.length v → W p l e R s m args below meth c H locs k n Q (F0 m (pc + len) lsR (zVal fA qv rs v1 :: rest)) → W p l e R s m args below meth c H locs k n Q (F0 m pc lsR (zVal fA qv rs v :: rest)))
    (k : zG p l e R s m args below meth c Q D dA fA qv s0 L xs n0 z0 rs0 x (pc + len) ls (v1 :: st) sh pp mm) : zG p l e R s m args below meth c Q D dA fA qv s0 L xs n0 z0 rs0 x pc ls (v :: st) sh pp mm := by
  intro rs H locs lsR hR hp hS hl hlen hol hos
  obtain ⟨h1, hos⟩ := List.forall_mem_cons.mp hos
  exact row (rs := rs) h1 (k rs H locs lsR hR hp hS hl hlen hol (List.forall_mem_cons.mpr ⟨hv h1, hos⟩))
theorem z_pop {v : zV} {len : Nat} (row : ∀ {H : Heap} {locs : List Loc} {k n : Nat} {lsR : Array Slot} {rest : List Value} {rs : List Nat}, W p l e R s m args below meth c H locs k n Q (F0 m (pc + len) lsR rest) → W p l e R s m args below meth c H locs k n Q (F0 m pc lsR (zVal fA qv rs v :: rest)))
    (k : zG p l e R s m args below meth c Q D dA fA qv s0 L xs n0 z0 rs0 x (pc + len) ls st sh pp mm) : zG p l e R s m args below meth c Q D dA fA qv s0 L xs n0 z0 rs0 x pc ls (v :: st) sh pp mm := by
  intro rs H locs lsR hR hp hS hl hlen hol hos
  obtain ⟨-, hos⟩ := List.forall_mem_cons.mp hos
  exact row (rs := rs) (k rs H locs lsR hR hp hS hl hlen hol hos)
theorem z_bind {v1 v2 v3 : zV} (hv : zOk sh.length v1 → zOk sh.length v2 → zOk sh.length v3) (row : ∀ {H : Heap} {locs : List Loc} {k n : Nat} {lsR : Array Slot} {rest : List Value} {rs : List Nat}, zOk sh.length v1 → zOk sh.length v2 → W p l e R s m args below meth c H locs k n Q (F0 m (pc + 1) lsR (zVal fA qv rs v3 :: rest)) → W p l e R s m args below meth c H locs k n Q (F0 m pc lsR (zVal fA qv rs v2 :: zVal fA qv rs v1 :: rest)))
    (k : zG p l e R s m args below meth c Q D dA fA qv s0 L xs n0 z0 rs0 x (pc + 1) ls (v3 :: st) sh pp mm) : zG p l e R s m args below meth c Q D dA fA qv s0 L xs n0 z0 rs0 x pc ls (v2 :: v1 :: st) sh pp mm := by
  intro rs H locs lsR hR hp hS hl hlen hol hos
  obtain ⟨h1, hos⟩ := List.forall_mem_cons.mp hos
  obtain ⟨h2, hos⟩ := List.forall_mem_cons.mp hos
  exact row (rs := rs) h2 h1 (k rs H locs lsR hR hp hS hl hlen hol (List.forall_mem_cons.mpr ⟨hv h2 h1, hos⟩))
theorem zval_or (hC : zCx p R s m args meth c D dA fA qv s0 L xs x) {v : zV} (hv : (∃ a, v = zR a) ∨ v = zQ) (rs : List Nat) : zVal fA qv rs v = .null ∨ ∃ t, zVal fA qv rs v = .ref t := by
  rcases hv with ⟨a, rfl⟩ | rfl
  · exact va_rf_or (zRo fA rs a)
  · exact hC.2.2.2.2.2.2.1.2.2.2.2.2.2
theorem z_jump {t : Nat} (row : ∀ {H : Heap} {locs : List Loc} {k n : Nat} {lsR : Array Slot} {rest : List Value}, W p l e R s m args below meth c H locs k n Q (F0 m t lsR rest) → W p l e R s m args below meth c H locs k n Q (F0 m pc lsR rest)) (k : zG p l e R s m args below meth c Q D dA fA qv s0 L xs n0 z0 rs0 x t ls st sh pp mm) : zG p l e R s m args below meth c Q D dA fA qv s0 L xs n0 z0 rs0 x pc ls st sh pp mm := by
  intro rs H locs lsR hR hp hS hl hlen hol hos
  exact row (k rs H locs lsR hR hp hS hl hlen hol hos)
theorem z_popj {v : zV} {t : Nat} (row : ∀ {H : Heap} {locs : List Loc} {k n : Nat} {lsR : Array Slot} {rest : List Value} {rs : List Nat}, zOk sh.length v → W p l e R s m args below meth c H locs k n Q (F0 m t lsR rest) → W p l e R s m args below meth c H locs k n Q (F0 m pc lsR (zVal fA qv rs v :: rest)))
    (k : zG p l e R s m args below meth c Q D dA fA qv s0 L xs n0 z0 rs0 x t ls st sh pp mm) : zG p l e R s m args below meth c Q D dA fA qv s0 L xs n0 z0 rs0 x pc ls (v :: st) sh pp mm := by
  intro rs H locs lsR hR hp hS hl hlen hol hos
  obtain ⟨h1, hos⟩ := List.forall_mem_cons.mp hos
  exact row (rs := rs) h1 (k rs H locs lsR hR hp hS hl hlen hol hos)
theorem z_withI (k : zHI L xs sh pp mm → zG p l e R s m args below meth c Q D dA fA qv s0 L xs n0 z0 rs0 x pc ls st sh pp mm) : zG p l e R s m args below meth c Q D dA fA qv s0 L xs n0 z0 rs0 x pc ls st sh pp mm := fun rs H locs lsR hR => k hR.2.1 rs H locs lsR hR
theorem z_pushI {v : zV} {len : Nat} (hv : zHI L xs sh pp mm → zOk sh.length v) (row : ∀ {H : Heap} {locs : List Loc} {k n : Nat} {lsR : Array Slot} {rest : List Value} {rs : List Nat}, W p l e R s m args below meth c H locs k n Q (F0 m (pc + len) lsR (zVal fA qv rs v :: rest)) → W p l e R s m args below meth c H locs k n Q (F0 m pc lsR rest))
    (k : zG p l e R s m args below meth c Q D dA fA qv s0 L xs n0 z0 rs0 x (pc + len) ls (v :: st) sh pp mm) : zG p l e R s m args below meth c Q D dA fA qv s0 L xs n0 z0 rs0 x pc ls st sh pp mm := z_withI fun hI => z_push (hv hI) row k
theorem z_stoI {v : zV} {i len : Nat} (hqv : qv.category = 1) (hu : zIsU v = false) (hcat : zIsL v = false) (hi : i < ls.length) (row : ∀ {H : Heap} {locs : List Loc} {k n nL : Nat} {lsR : Array Slot} {rest : List Value} {rs : List Nat} {lv : List (Nat × Value)}, lv_has lsR nL lv → i < nL → (∀ ls' : Array Slot, lv_has ls' nL ((i, zVal fA qv rs v) :: lv.filter (fun q => !(q.1 == i) && !(q.1 + 1 == i && q.2.category == 2))) → W p l e R s m args below meth c H locs k n Q (F0 m (pc + len) ls' rest)) → W p l e R s m args below meth c H locs k n Q (F0 m pc lsR (zVal fA qv rs v :: rest)))
    (k : zG p l e R s m args below meth c Q D dA fA qv s0 L xs n0 z0 rs0 x (pc + len) (zSt1 ls i v) st sh pp mm) : zG p l e R s m args below meth c Q D dA fA qv s0 L xs n0 z0 rs0 x pc ls (v :: st) sh pp mm := fun rs H locs lsR hR hp hS hl hlen hol hos => z_sto hqv (List.forall_mem_cons.mp hos).1 hu hcat hi row k rs H locs lsR hR hp hS hl hlen hol hos
theorem z_stoLI {v : zV} {i len : Nat} (hqv : qv.category = 1) (hu : zIsU v = false) (hi : i + 1 < ls.length) (row : ∀ {H : Heap} {locs : List Loc} {k n nL : Nat} {lsR : Array Slot} {rest : List Value} {rs : List Nat} {lv : List (Nat × Value)}, lv_has lsR nL lv → i + 1 < nL → (∀ ls' : Array Slot, lv_has ls' nL ((i, zVal fA qv rs v) :: lv.filter (fun q => !(q.1 == i) && (!(q.1 == i + 1) && !(q.1 + 1 == i && q.2.category == 2)))) → W p l e R s m args below meth c H locs k n Q (F0 m (pc + len) ls' rest)) → W p l e R s m args below meth c H locs k n Q (F0 m pc lsR (zVal fA qv rs v :: rest)))
    (k : zG p l e R s m args below meth c Q D dA fA qv s0 L xs n0 z0 rs0 x (pc + len) (zSt2 ls i v) st sh pp mm) : zG p l e R s m args below meth c Q D dA fA qv s0 L xs n0 z0 rs0 x pc ls (v :: st) sh pp mm := fun rs H locs lsR hR hp hS hl hlen hol hos => z_stoL hqv (List.forall_mem_cons.mp hos).1 hu hi row k rs H locs lsR hR hp hS hl hlen hol hos
theorem z_dup {v : zV} (row : ∀ {H : Heap} {locs : List Loc} {k n : Nat} {lsR : Array Slot} {rest : List Value} {rs : List Nat}, W p l e R s m args below meth c H locs k n Q (F0 m (pc + 1) lsR (zVal fA qv rs v :: zVal fA qv rs v :: rest)) → W p l e R s m args below meth c H locs k n Q (F0 m pc lsR (zVal fA qv rs v :: rest)))
    (k : zG p l e R s m args below meth c Q D dA fA qv s0 L xs n0 z0 rs0 x (pc + 1) ls (v :: v :: st) sh pp mm) : zG p l e R s m args below meth c Q D dA fA qv s0 L xs n0 z0 rs0 x pc ls (v :: st) sh pp mm := by
  intro rs H locs lsR hR hp hS hl hlen hol hos
  obtain ⟨h1, h2⟩ := List.forall_mem_cons.mp hos
  exact row (rs := rs) (k rs H locs lsR hR hp hS hl hlen hol (List.forall_mem_cons.mpr ⟨h1, hos⟩))
theorem z_dup2 {v w : zV} (row : ∀ {H : Heap} {locs : List Loc} {k n : Nat} {lsR : Array Slot} {rest : List Value} {rs : List Nat}, W p l e R s m args below meth c H locs k n Q (F0 m (pc + 1) lsR (zVal fA qv rs v :: zVal fA qv rs w :: zVal fA qv rs v :: zVal fA qv rs w :: rest)) → W p l e R s m args below meth c H locs k n Q (F0 m pc lsR (zVal fA qv rs v :: zVal fA qv rs w :: rest)))
    (k : zG p l e R s m args below meth c Q D dA fA qv s0 L xs n0 z0 rs0 x (pc + 1) ls (v :: w :: v :: w :: st) sh pp mm) : zG p l e R s m args below meth c Q D dA fA qv s0 L xs n0 z0 rs0 x pc ls (v :: w :: st) sh pp mm := by
  intro rs H locs lsR hR hp hS hl hlen hol hos
  obtain ⟨h1, h2⟩ := List.forall_mem_cons.mp hos
  obtain ⟨h3, h4⟩ := List.forall_mem_cons.mp h2
  exact row (rs := rs) (k rs H locs lsR hR hp hS hl hlen hol (List.forall_mem_cons.mpr ⟨h1, List.forall_mem_cons.mpr ⟨h3, hos⟩⟩))
theorem zLv_st1 {rs : List Nat} {ls' : Array Slot} {n i : Nat} {v : zV} (hqv : qv.category = 1) (h : lv_has ls' n ((i, zVal fA qv rs v) :: (zLv fA qv rs 0 ls).filter (fun q => !(q.1 == i) && !(q.1 + 1 == i && q.2.category == 2)))) : lv_has ls' n (zLv fA qv rs 0 (zSt1 ls i v)) := by
  refine ⟨h.1, h.2.1, fun q hq => ?_⟩
  obtain ⟨j, w, h1, h2, h3⟩ := (zLv_mem _ 0 q).mp hq
  rw [Nat.zero_add] at h3
  rw [h3]
  rcases zSt1_get j w h1 with ⟨rfl, rfl⟩ | rfl | ⟨hne, h4, h5⟩
  · exact h.2.2 _ List.mem_cons_self
  · cases h2
  · refine h.2.2 _ (List.mem_cons_of_mem _ (List.mem_filter.mpr ⟨(zLv_mem ls 0 _).mpr ⟨j, w, h4, h2, by rw [Nat.zero_add]⟩, ?_⟩))
    have hc2 : j + 1 = i → ((zVal fA qv rs w).category == 2) = false := fun e1 => zcat2 hqv (by
      cases hw : zIsL w with
      | false => rfl
      | true => exact absurd ⟨e1, hw⟩ h5)
    simp only [Bool.and_eq_true, Bool.not_eq_true', beq_eq_false_iff_ne, ne_eq]
    refine ⟨hne, ?_⟩
    by_cases e1 : j + 1 = i
    · simp [hc2 e1]
    · simp [e1]
theorem z_iinc {i : Nat} {a d : Int} (hC : zCx p R s m args meth c D dA fA qv s0 L xs x) (hd : decode x.2.1 pc = .ok (.iinc i d, 3)) (hi : ls[i]? = some (zI a)) (k : zG p l e R s m args below meth c Q D dA fA qv s0 L xs n0 z0 rs0 x (pc + 3) (zSt1 ls i (zI (zw32 (a + d)))) st sh pp mm) : zG p l e R s m args below meth c Q D dA fA qv s0 L xs n0 z0 rs0 x pc ls st sh pp mm := by
  have hil : i < ls.length := (List.getElem?_eq_some_iff.mp hi).1
  have hqv := zqv hC
  intro rs H locs lsR hR hp hS hl hlen hol hos
  obtain ⟨kk, hkk⟩ := List.getElem?_of_mem ((zLv_mem (fA := fA) (qv := qv) (rs := rs) ls 0 (i, .int (Int32.ofInt a))).mpr ⟨i, zI a, hi, rfl, by rw [Nat.zero_add]; rfl⟩)
  refine lv_iinc hC.1 hC.2.1 hd hl hkk (v := Int32.ofInt (zw32 (a + d))) (by rw [zo32, Int32.ofInt_add]) (by rw [← hlen]; exact hil) rfl (fun ls' hl' => ?_)
  refine k rs H locs ls' hR hp hS (zLv_st1 hqv hl') (by unfold zSt1; rw [List.length_set, zClr_len]; exact hlen) (fun w hw => ?_) hos
  obtain ⟨j, hj⟩ := List.getElem?_of_mem hw
  rcases zSt1_get j w hj with ⟨-, rfl⟩ | rfl | ⟨-, h4, -⟩
  · exact zn32_w _
  · trivial
  · exact hol w (List.mem_of_getElem? h4)
set_option maxHeartbeats 4000000 in
theorem z_step {i : zIns} (hC : zCx p R s m args meth c D dA fA qv s0 L xs x) (hck : zCk x (pc, i) = true) (hn0 : n0 ≤ sh.length) (hz0 : z0 ≤ zSm sh) (ha : zAct i pc ls st sh pp mm = some (.inr (.inl (nx, ls1, st1, sh1, pp1, mm1)))) (hc1 : sh1.length - n0 ≤ R.cells) (hc2 : zSm sh1 - z0 ≤ R.slots) (K : zG p l e R s m args below meth c Q D dA fA qv s0 L xs n0 z0 rs0 x nx ls1 st1 sh1 pp1 mm1) : zG p l e R s m args below meth c Q D dA fA qv s0 L xs n0 z0 rs0 x pc ls st sh pp mm := by
  obtain ⟨ins, nx0, a, b, c0, k, mk⟩ := i
  obtain ⟨y, cc, mL, ret, own, fr0, lo0, tb⟩ := x
  unfold zCk at hck
  simp only [Bool.and_eq_true] at hck
  obtain ⟨⟨⟨hd, hil⟩, hir⟩, hck⟩ := hck
  replace hd := of_decide_eq_true hd
  cases ins
  case iconst n =>
    replace hd := zdec (n := 1) hil hd
    obtain ⟨rfl, hd⟩ := hd
    have hr := zGo_inv ha
    cases hr
    have h8 : -2147483648 ≤ n ∧ n ≤ 2147483647 := of_decide_eq_true hir
    exact z_push (v := zI n) (show zn32 n from h8) (fun k => lv_iconst hC.1 hC.2.1 hd rfl k) K
  case bipush n =>
    replace hd := zdec (n := 2) hil hd
    obtain ⟨rfl, hd⟩ := hd
    have hr := zGo_inv ha
    cases hr
    have h8 := of_decide_eq_true hir
    exact z_push (v := zI n) (show zn32 n from ⟨by omega, by omega⟩) (fun k => lv_bipush hC.1 hC.2.1 hd (zb8 h8.1 h8.2) k) K
  case sipush n =>
    replace hd := zdec (n := 3) hil hd
    obtain ⟨rfl, hd⟩ := hd
    have hr := zGo_inv ha
    cases hr
    have h8 := of_decide_eq_true hir
    exact z_push (v := zI n) (show zn32 n from ⟨by omega, by omega⟩) (fun k => lv_sipush hC.1 hC.2.1 hd (zb16 h8.1 h8.2) k) K
  case ldc idx =>
    replace hd := zdec (n := 2) hil hd
    obtain ⟨rfl, hd⟩ := hd
    by_cases h0 : a = 0
    · subst h0
      have hr := zGo_inv ha
      cases hr
      have h9 := zKL_ok _ (of_decide_eq_true hck)
      simp only [zLkK, Bool.and_eq_true, decide_eq_true_eq, zAtW] at h9
      exact z_push (v := zI k) h9.2 (fun kk => lv_ldc hC.1 hC.2.1 hC.2.2.2.1 (hC.2.2.2.2.1 _ (zMem h9.1 rfl)) hd kk) K
    · replace ha : (if a = 0 then zGo (pc + 2) ls (zI k :: st) sh pp mm else zGo (pc + 2) ls (zR b :: st) sh pp mm) = _ := ha
      rw [if_neg h0] at ha
      replace hck : (if a = 0 then decide ((own, idx, c0, k) ∈ zKL) else decide ((own, idx, b) ∈ zStL)) = true := hck
      rw [if_neg h0] at hck
      have hr := zGo_inv ha
      cases hr
      obtain ⟨h1, h2, h3, h4⟩ := zStL_ok _ (of_decide_eq_true hck)
      dsimp only at h1 h2 h3 h4
      subst h1; subst h2
      refine z_pushI (v := zR b) (fun hI => by have := hI.1; show b < sh.length; omega) (fun {H} {locs} {k} {n} {lsR} {rest} {rs} kk => ?_) K
      · refine va_ldcS hC.1 hC.2.1 hC.2.2.2.1 (hC.2.2.2.2.2.2.1.2.2.1 b h3 h4) hd ?_
        rw [zRf_ref (show b ≠ 0 by omega), show zAd fA rs b = fA b by unfold zAd; rw [if_pos (by omega)]] at kk
        exact kk
  case ldc_w idx =>
    replace hd := zdec (n := 3) hil hd
    obtain ⟨rfl, hd⟩ := hd
    have hr := zGo_inv ha
    cases hr
    have h9 := zKL_ok _ (of_decide_eq_true hck)
    simp only [zLkK, Bool.and_eq_true, decide_eq_true_eq, zAtW] at h9
    exact z_push (v := zI k) h9.2 (fun kk => lv_ldcw hC.1 hC.2.1 hC.2.2.2.1 (hC.2.2.2.2.1 _ (zMem h9.1 rfl)) hd kk) K
  case ldc2_w idx =>
    replace hd := zdec (n := 3) hil hd
    obtain ⟨rfl, hd⟩ := hd
    have hr := zGo_inv ha
    cases hr
    have h9 := zK2_ok _ (of_decide_eq_true hck)
    simp only [zLk2, Bool.and_eq_true, decide_eq_true_eq, zAtW] at h9
    exact z_push (v := zL k) h9.2 (fun kk => lv_ldc2 hC.1 hC.2.1 hC.2.2.2.1 (hC.2.2.2.2.1 _ (zMem h9.1 rfl)) hd kk) K
  case lconst n =>
    replace hd := zdec (n := 1) hil hd
    obtain ⟨rfl, hd⟩ := hd
    have hr := zGo_inv ha
    cases hr
    exact z_push (v := zL ((n : Nat) : Int)) (show zn64 _ from ⟨by omega, by have := n.isLt; omega⟩) (fun k => lv_lconst hC.1 hC.2.1 hd Int64.ofInt_eq_ofNat.symm k) K
  case aconst_null =>
    replace hd := zdec (n := 1) hil hd
    obtain ⟨rfl, hd⟩ := hd
    have hr := zGo_inv ha
    cases hr
    exact z_pushI (v := zR 0) (fun hI => by have := hI.1; show 0 < sh.length; omega) (fun k => lv_null hC.1 hC.2.1 hd k) K
  case iload_n n =>
    replace hd := zdec (n := 1) hil hd
    obtain ⟨rfl, hd⟩ := hd
    obtain ⟨v, hi, hr⟩ := zLd_inv ha
    cases hr
    exact z_load hi rfl (fun h k => lv_iload_n hC.1 hC.2.1 hd rfl h k) K
  case iload n =>
    replace hd := zdec (n := 2) hil hd
    obtain ⟨rfl, hd⟩ := hd
    obtain ⟨v, hi, hr⟩ := zLd_inv ha
    cases hr
    exact z_load hi rfl (fun h k => lv_iload hC.1 hC.2.1 hd h k) K
  case lload_n n =>
    replace hd := zdec (n := 1) hil hd
    obtain ⟨rfl, hd⟩ := hd
    obtain ⟨v, hi, hr⟩ := zLdL_inv ha
    cases hr
    exact z_load hi rfl (fun h k => lv_lload_n hC.1 hC.2.1 hd rfl h k) K
  case lload n =>
    replace hd := zdec (n := 2) hil hd
    obtain ⟨rfl, hd⟩ := hd
    obtain ⟨v, hi, hr⟩ := zLdL_inv ha
    cases hr
    exact z_load hi rfl (fun h k => lv_lload hC.1 hC.2.1 hd h k) K
  case aload_n n =>
    replace hd := zdec (n := 1) hil hd
    obtain ⟨rfl, hd⟩ := hd
    obtain ⟨v, hv, hi, hr⟩ := zLdA_inv ha
    cases hr
    refine z_load hi (by rcases hv with ⟨w, rfl⟩ | rfl <;> rfl) (fun {H} {locs} {k} {n} {lsR} {rest} {rs} h kk => ?_) K
    rcases zval_or hC hv rs with h8 | ⟨t, h8⟩
    · rw [h8] at h kk
      exact lv_aload_nN hC.1 hC.2.1 hd rfl h kk
    · rw [h8] at h kk
      exact lv_aload_n hC.1 hC.2.1 hd rfl h kk
  case aload n =>
    replace hd := zdec (n := 2) hil hd
    obtain ⟨rfl, hd⟩ := hd
    obtain ⟨v, hv, hi, hr⟩ := zLdA_inv ha
    cases hr
    refine z_load hi (by rcases hv with ⟨w, rfl⟩ | rfl <;> rfl) (fun {H} {locs} {k} {n} {lsR} {rest} {rs} h kk => ?_) K
    rcases zval_or hC hv rs with h8 | ⟨t, h8⟩
    · rw [h8] at h kk
      exact lv_aloadN hC.1 hC.2.1 hd h kk
    · rw [h8] at h kk
      exact lv_aload hC.1 hC.2.1 hd h kk
  case istore_n n =>
    replace hd := zdec (n := 1) hil hd
    obtain ⟨rfl, hd⟩ := hd
    obtain ⟨v, st2, rfl, hi, hr⟩ := zSto_inv ha
    cases hr
    exact z_stoI (zqv hC) rfl rfl hi (fun h1 h2 kk => lv_istore_n hC.1 hC.2.1 hd rfl h1 h2 rfl kk) K
  case istore n =>
    replace hd := zdec (n := 2) hil hd
    obtain ⟨rfl, hd⟩ := hd
    obtain ⟨v, st2, rfl, hi, hr⟩ := zSto_inv ha
    cases hr
    exact z_stoI (zqv hC) rfl rfl hi (fun h1 h2 kk => lv_istore hC.1 hC.2.1 hd h1 h2 rfl kk) K
  case astore_n n =>
    replace hd := zdec (n := 1) hil hd
    obtain ⟨rfl, hd⟩ := hd
    obtain ⟨v, st2, rfl, hi, hr⟩ := zStoA_inv ha
    cases hr
    refine z_stoI (zqv hC) rfl rfl hi (fun {H} {locs} {k} {n} {nL} {lsR} {rest} {rs} {lv} h1 h2 kk => ?_) K
    rcases zval_or hC (Or.inl ⟨v, rfl⟩) rs with h8 | ⟨t, h8⟩
    · rw [h8] at kk ⊢
      exact lv_astore_nN hC.1 hC.2.1 hd rfl h1 h2 rfl kk
    · rw [h8] at kk ⊢
      exact lv_astore_n hC.1 hC.2.1 hd rfl h1 h2 rfl kk
  case astore n =>
    replace hd := zdec (n := 2) hil hd
    obtain ⟨rfl, hd⟩ := hd
    obtain ⟨v, st2, rfl, hi, hr⟩ := zStoA_inv ha
    cases hr
    refine z_stoI (zqv hC) rfl rfl hi (fun {H} {locs} {k} {n} {nL} {lsR} {rest} {rs} {lv} h1 h2 kk => ?_) K
    rcases zval_or hC (Or.inl ⟨v, rfl⟩) rs with h8 | ⟨t, h8⟩
    · rw [h8] at kk ⊢
      exact lv_astoreN hC.1 hC.2.1 hd h1 h2 rfl kk
    · rw [h8] at kk ⊢
      exact lv_astore hC.1 hC.2.1 hd h1 h2 rfl kk
  case lstore_n n =>
    replace hd := zdec (n := 1) hil hd
    obtain ⟨rfl, hd⟩ := hd
    obtain ⟨v, st2, rfl, hi, hr⟩ := zStoL_inv ha
    cases hr
    exact z_stoLI (zqv hC) rfl hi (fun h1 h2 kk => lv_lstore_n hC.1 hC.2.1 hd rfl h1 h2 rfl kk) K
  case lstore n =>
    replace hd := zdec (n := 2) hil hd
    obtain ⟨rfl, hd⟩ := hd
    obtain ⟨v, st2, rfl, hi, hr⟩ := zStoL_inv ha
    cases hr
    exact z_stoLI (zqv hC) rfl hi (fun h1 h2 kk => lv_lstore hC.1 hC.2.1 hd h1 h2 rfl kk) K
  case iinc n d =>
    replace hd := zdec (n := 3) hil hd
    obtain ⟨rfl, hd⟩ := hd
    replace ha : (match ls[n]? with
      | some (.inl (.inl x)) => zGo (pc + 3) (zSt1 ls n (zI (zw32 (x + d)))) st sh pp mm
      | _ => none) = _ := ha
    split at ha
    · rename_i hi
      have hr := zGo_inv ha
      cases hr
      exact z_iinc hC hd hi K
    · cases ha
  case iadd =>
    replace hd := zdec (n := 1) hil hd
    obtain ⟨rfl, hd⟩ := hd
    obtain ⟨u, v, st2, rfl, hr⟩ := zBin_inv ha
    cases hr
    exact z_bin (f := fun x y => zw32 (x + y)) (fun k => lv_iadd hC.1 hC.2.1 hd k) (fun _ _ => zo_add _ _) (fun _ _ => zn32_w _) K
  case isub =>
    replace hd := zdec (n := 1) hil hd
    obtain ⟨rfl, hd⟩ := hd
    obtain ⟨u, v, st2, rfl, hr⟩ := zBin_inv ha
    cases hr
    exact z_bin (f := fun x y => zw32 (x - y)) (fun k => lv_isub hC.1 hC.2.1 hd k) (fun _ _ => zo_sub _ _) (fun _ _ => zn32_w _) K
  case imul =>
    replace hd := zdec (n := 1) hil hd
    obtain ⟨rfl, hd⟩ := hd
    obtain ⟨u, v, st2, rfl, hr⟩ := zBin_inv ha
    cases hr
    exact z_bin (f := fun x y => zw32 (x * y)) (fun k => lv_imul hC.1 hC.2.1 hd k) (fun _ _ => zo_mul _ _) (fun _ _ => zn32_w _) K
  case iand =>
    replace hd := zdec (n := 1) hil hd
    obtain ⟨rfl, hd⟩ := hd
    obtain ⟨u, v, st2, rfl, hr⟩ := zBin_inv ha
    cases hr
    exact z_bin (fun k => lv_iand hC.1 hC.2.1 hd k) (fun _ _ => zo_and _ _) (fun _ _ => zr32 _) K
  case ior =>
    replace hd := zdec (n := 1) hil hd
    obtain ⟨rfl, hd⟩ := hd
    obtain ⟨u, v, st2, rfl, hr⟩ := zBin_inv ha
    cases hr
    exact z_bin (fun k => lv_ior hC.1 hC.2.1 hd k) (fun _ _ => zo_or _ _) (fun _ _ => zr32 _) K
  case ixor =>
    replace hd := zdec (n := 1) hil hd
    obtain ⟨rfl, hd⟩ := hd
    obtain ⟨u, v, st2, rfl, hr⟩ := zBin_inv ha
    cases hr
    exact z_bin (fun k => lv_ixor hC.1 hC.2.1 hd k) (fun _ _ => zo_xor _ _) (fun _ _ => zr32 _) K
  case ishl =>
    replace hd := zdec (n := 1) hil hd
    obtain ⟨rfl, hd⟩ := hd
    obtain ⟨u, v, st2, rfl, hr⟩ := zBin_inv ha
    cases hr
    exact z_bin (fun k => lv_ishl hC.1 hC.2.1 hd k) (fun _ _ => zo_shl _ _) (fun _ _ => zr32 _) K
  case ishr =>
    replace hd := zdec (n := 1) hil hd
    obtain ⟨rfl, hd⟩ := hd
    obtain ⟨u, v, st2, rfl, hr⟩ := zBin_inv ha
    cases hr
    exact z_bin (fun k => lv_ishr hC.1 hC.2.1 hd k) (fun _ _ => zo_shr _ _) (fun _ _ => zr32 _) K
  case iushr =>
    replace hd := zdec (n := 1) hil hd
    obtain ⟨rfl, hd⟩ := hd
    obtain ⟨u, v, st2, rfl, hr⟩ := zBin_inv ha
    cases hr
    exact z_bind (v1 := zI u) (v2 := zI v) (v3 := zI (zushr u v)) (fun _ _ => zr32 _) (fun _ _ k => lv_iushr hC.1 hC.2.1 hd (zo_ushr u v).symm k) K
  case ladd =>
    replace hd := zdec (n := 1) hil hd
    obtain ⟨rfl, hd⟩ := hd
    obtain ⟨u, v, st2, rfl, hr⟩ := zBinL_inv ha
    cases hr
    exact z_binL (f := fun x y => zw64 (x + y)) (fun k => lv_ladd hC.1 hC.2.1 hd k) (fun _ _ => zo_ladd _ _) (fun _ _ => zn64_w _) K
  case lsub =>
    replace hd := zdec (n := 1) hil hd
    obtain ⟨rfl, hd⟩ := hd
    obtain ⟨u, v, st2, rfl, hr⟩ := zBinL_inv ha
    cases hr
    exact z_binL (f := fun x y => zw64 (x - y)) (fun k => lv_lsub hC.1 hC.2.1 hd k) (fun _ _ => zo_lsub _ _) (fun _ _ => zn64_w _) K
  case lmul =>
    replace hd := zdec (n := 1) hil hd
    obtain ⟨rfl, hd⟩ := hd
    obtain ⟨u, v, st2, rfl, hr⟩ := zBinL_inv ha
    cases hr
    exact z_binL (f := fun x y => zw64 (x * y)) (fun k => lv_lmul hC.1 hC.2.1 hd k) (fun _ _ => zo_lmul _ _) (fun _ _ => zn64_w _) K
  case land =>
    replace hd := zdec (n := 1) hil hd
    obtain ⟨rfl, hd⟩ := hd
    obtain ⟨u, v, st2, rfl, hr⟩ := zBinL_inv ha
    cases hr
    exact z_binL (fun k => lv_land hC.1 hC.2.1 hd k) (fun _ _ => zo_land _ _) (fun _ _ => zr64 _) K
  case lor =>
    replace hd := zdec (n := 1) hil hd
    obtain ⟨rfl, hd⟩ := hd
    obtain ⟨u, v, st2, rfl, hr⟩ := zBinL_inv ha
    cases hr
    exact z_binL (fun k => lv_lor hC.1 hC.2.1 hd k) (fun _ _ => zo_lor _ _) (fun _ _ => zr64 _) K
  case lshl =>
    replace hd := zdec (n := 1) hil hd
    obtain ⟨rfl, hd⟩ := hd
    obtain ⟨u, v, st2, rfl, hr⟩ := zBinS_inv ha
    cases hr
    exact z_bind (v1 := zL u) (v2 := zI v) (v3 := zL (zlshl u v)) (fun _ _ => zr64 _) (fun _ _ k => lv_lshl hC.1 hC.2.1 hd (zo_lshl u v).symm k) K
  case lshr =>
    replace hd := zdec (n := 1) hil hd
    obtain ⟨rfl, hd⟩ := hd
    obtain ⟨u, v, st2, rfl, hr⟩ := zBinS_inv ha
    cases hr
    exact z_bind (v1 := zL u) (v2 := zI v) (v3 := zL (zlshr u v)) (fun _ _ => zr64 _) (fun _ _ k => lv_lshr hC.1 hC.2.1 hd (zo_lshr u v).symm k) K
  case lushr =>
    replace hd := zdec (n := 1) hil hd
    obtain ⟨rfl, hd⟩ := hd
    obtain ⟨u, v, st2, rfl, hr⟩ := zBinS_inv ha
    cases hr
    exact z_bind (v1 := zL u) (v2 := zI v) (v3 := zL (zlushr u v)) (fun _ _ => zr64 _) (fun _ _ k => lv_lushr hC.1 hC.2.1 hd (zo_lushr u v).symm k) K
  case idiv =>
    replace hd := zdec (n := 1) hil hd
    obtain ⟨rfl, hd⟩ := hd
    replace ha : (match st with
      | .inl (.inl y) :: .inl (.inl x) :: st => if y = 0 then none else zGo (pc + 1) ls (zI (zw32 (x.tdiv y)) :: st) sh pp mm
      | _ => none) = _ := ha
    split at ha
    · rename_i v u st2
      split at ha
      · cases ha
      · rename_i hne
        have hr := zGo_inv ha
        cases hr
        refine z_bind (v1 := zI u) (v2 := zI v) (v3 := zI (zw32 (u.tdiv v))) (fun _ _ => zn32_w _) (fun {H} {locs} {k} {n} {lsR} {rest} {rs} h1 h2 kk => ?_) K
        replace kk : W p l e R s m args below meth c H locs k n Q (F0 m (pc + 1) lsR (.int (Int32.ofInt (zw32 (u.tdiv v))) :: rest)) := kk
        rw [zo_div h1 h2] at kk
        exact lv_idiv hC.1 hC.2.1 hd (by rw [← zo_0, zo_eq h2 zn0]; exact hne) kk
    · cases ha
  case irem =>
    replace hd := zdec (n := 1) hil hd
    obtain ⟨rfl, hd⟩ := hd
    replace ha : (match st with
      | .inl (.inl y) :: .inl (.inl x) :: st => if y = 0 then none else zGo (pc + 1) ls (zI (x.tmod y) :: st) sh pp mm
      | _ => none) = _ := ha
    split at ha
    · rename_i v u st2
      split at ha
      · cases ha
      · rename_i hne
        have hr := zGo_inv ha
        cases hr
        refine z_bind (v1 := zI u) (v2 := zI v) (v3 := zI (u.tmod v)) (fun h1 _ => zn32_tmod h1) (fun {H} {locs} {k} {n} {lsR} {rest} {rs} h1 h2 kk => ?_) K
        replace kk : W p l e R s m args below meth c H locs k n Q (F0 m (pc + 1) lsR (.int (Int32.ofInt (u.tmod v)) :: rest)) := kk
        rw [zo_rem h1 h2] at kk
        exact lv_irem hC.1 hC.2.1 hd (by rw [← zo_0, zo_eq h2 zn0]; exact hne) kk
    · cases ha
  case ldiv =>
    replace hd := zdec (n := 1) hil hd
    obtain ⟨rfl, hd⟩ := hd
    replace ha : (match st with
      | .inl (.inr y) :: .inl (.inr x) :: st => if y = 0 then none else zGo (pc + 1) ls (zL (zw64 (x.tdiv y)) :: st) sh pp mm
      | _ => none) = _ := ha
    split at ha
    · rename_i v u st2
      split at ha
      · cases ha
      · rename_i hne
        have hr := zGo_inv ha
        cases hr
        refine z_bind (v1 := zL u) (v2 := zL v) (v3 := zL (zw64 (u.tdiv v))) (fun _ _ => zn64_w _) (fun {H} {locs} {k} {n} {lsR} {rest} {rs} h1 h2 kk => ?_) K
        replace kk : W p l e R s m args below meth c H locs k n Q (F0 m (pc + 1) lsR (.long (Int64.ofInt (zw64 (u.tdiv v))) :: rest)) := kk
        rw [zo_ldiv h1 h2] at kk
        exact lv_ldiv hC.1 hC.2.1 hd (by rw [show (0 : Int64) = Int64.ofInt 0 from rfl, zo_leq h2 (zn64_of zn0)]; exact hne) kk
    · cases ha
  case lrem =>
    replace hd := zdec (n := 1) hil hd
    obtain ⟨rfl, hd⟩ := hd
    replace ha : (match st with
      | .inl (.inr y) :: .inl (.inr x) :: st => if y = 0 then none else zGo (pc + 1) ls (zL (x.tmod y) :: st) sh pp mm
      | _ => none) = _ := ha
    split at ha
    · rename_i v u st2
      split at ha
      · cases ha
      · rename_i hne
        have hr := zGo_inv ha
        cases hr
        refine z_bind (v1 := zL u) (v2 := zL v) (v3 := zL (u.tmod v)) (fun h1 _ => zn64_tmod h1) (fun {H} {locs} {k} {n} {lsR} {rest} {rs} h1 h2 kk => ?_) K
        replace kk : W p l e R s m args below meth c H locs k n Q (F0 m (pc + 1) lsR (.long (Int64.ofInt (u.tmod v)) :: rest)) := kk
        rw [zo_lrem h1 h2] at kk
        exact lv_lrem hC.1 hC.2.1 hd (by rw [show (0 : Int64) = Int64.ofInt 0 from rfl, zo_leq h2 (zn64_of zn0)]; exact hne) kk
    · cases ha
  case ineg =>
    replace hd := zdec (n := 1) hil hd
    obtain ⟨rfl, hd⟩ := hd
    replace ha : (match st with
      | .inl (.inl x) :: st => zGo (pc + 1) ls (zI (zw32 (-x)) :: st) sh pp mm
      | _ => none) = _ := ha
    split at ha
    · rename_i u st2
      have hr := zGo_inv ha
      cases hr
      refine z_top (v := zI u) (v1 := zI (zw32 (-u))) (fun _ => zn32_w _) (fun {H} {locs} {k} {n} {lsR} {rest} {rs} h1 kk => ?_) K
      replace kk : W p l e R s m args below meth c H locs k n Q (F0 m (pc + 1) lsR (.int (Int32.ofInt (zw32 (-u))) :: rest)) := kk
      rw [zo_neg] at kk
      exact lv_ineg hC.1 hC.2.1 hd kk
    · cases ha
  case i2l =>
    replace hd := zdec (n := 1) hil hd
    obtain ⟨rfl, hd⟩ := hd
    replace ha : (match st with
      | .inl (.inl x) :: st => zGo (pc + 1) ls (zL x :: st) sh pp mm
      | _ => none) = _ := ha
    split at ha
    · rename_i u st2
      have hr := zGo_inv ha
      cases hr
      exact z_top (v := zI u) (v1 := zL u) (fun h => zn64_of h) (fun h1 kk => lv_i2l hC.1 hC.2.1 hd (zo_i2l h1) kk) K
    · cases ha
  case l2i =>
    replace hd := zdec (n := 1) hil hd
    obtain ⟨rfl, hd⟩ := hd
    replace ha : (match st with
      | .inl (.inr x) :: st => zGo (pc + 1) ls (zI (zw32 x) :: st) sh pp mm
      | _ => none) = _ := ha
    split at ha
    · rename_i u st2
      have hr := zGo_inv ha
      cases hr
      exact z_top (v := zL u) (v1 := zI (zw32 u)) (fun _ => zn32_w _) (fun h1 kk => lv_l2i hC.1 hC.2.1 hd (zo_l2i u) kk) K
    · cases ha
  case i2c =>
    replace hd := zdec (n := 1) hil hd
    obtain ⟨rfl, hd⟩ := hd
    replace ha : (match st with
      | .inl (.inl x) :: st => zGo (pc + 1) ls (zI (zi2c x) :: st) sh pp mm
      | _ => none) = _ := ha
    split at ha
    · rename_i u st2
      have hr := zGo_inv ha
      cases hr
      exact z_top (v := zI u) (v1 := zI (zi2c u)) (fun _ => zr32 _) (fun h1 kk => lv_i2c hC.1 hC.2.1 hd (zo_i2c u).symm kk) K
    · cases ha
  case lcmp =>
    replace hd := zdec (n := 1) hil hd
    obtain ⟨rfl, hd⟩ := hd
    replace ha : (match st with
      | .inl (.inr y) :: .inl (.inr x) :: st => zGo (pc + 1) ls (zI (zcmp x y) :: st) sh pp mm
      | _ => none) = _ := ha
    split at ha
    · rename_i v u st2
      have hr := zGo_inv ha
      cases hr
      refine z_bind (v1 := zL u) (v2 := zL v) (v3 := zI (zcmp u v)) (fun _ _ => zn32_cmp _ _) (fun {H} {locs} {k} {n} {lsR} {rest} {rs} h1 h2 kk => ?_) K
      replace kk : W p l e R s m args below meth c H locs k n Q (F0 m (pc + 1) lsR (.int (Int32.ofInt (zcmp u v)) :: rest)) := kk
      rw [zo_cmp h1 h2] at kk
      exact W.lcmp hC.1 hC.2.1 hd kk
    · cases ha
  case goto off =>
    replace hd := zdec (n := 3) hil hd
    obtain ⟨rfl, hd⟩ := hd
    have hr := zGo_inv ha
    cases hr
    exact z_jump (fun k => lv_goto hC.1 hC.2.1 hd (of_decide_eq_true hck) k) K
  case if_icmp cd off =>
    replace hd := zdec (n := 3) hil hd
    obtain ⟨rfl, hd⟩ := hd
    replace ha : (match st with
      | .inl (.inl y) :: .inl (.inl x) :: st => if zCd cd x y then zGo a ls st sh pp mm else zGo (pc + 3) ls st sh pp mm
      | _ => none) = _ := ha
    split at ha
    · rename_i v u st2
      refine z_icmp hC hd (of_decide_eq_true hck) (fun hcd => ?_) (fun hcd => ?_)
      · rw [if_pos hcd] at ha
        have hr := zGo_inv ha
        cases hr
        exact K
      · rw [if_neg (by rw [hcd]; decide)] at ha
        have hr := zGo_inv ha
        cases hr
        exact K
    · cases ha
  case ifCond cd off =>
    replace hd := zdec (n := 3) hil hd
    obtain ⟨rfl, hd⟩ := hd
    replace ha : (match st with
      | .inl (.inl x) :: st => if zCd cd x 0 then zGo a ls st sh pp mm else zGo (pc + 3) ls st sh pp mm
      | _ => none) = _ := ha
    split at ha
    · rename_i u st2
      refine z_if0 hC hd (of_decide_eq_true hck) (fun hcd => ?_) (fun hcd => ?_)
      · rw [if_pos hcd] at ha
        have hr := zGo_inv ha
        cases hr
        exact K
      · rw [if_neg (by rw [hcd]; decide)] at ha
        have hr := zGo_inv ha
        cases hr
        exact K
    · cases ha
  case ifnull off =>
    replace hd := zdec (n := 3) hil hd
    obtain ⟨rfl, hd⟩ := hd
    replace ha : (match st with
      | .inr (.inl r) :: st => if r = 0 then zGo a ls st sh pp mm else zGo (pc + 3) ls st sh pp mm
      | _ => none) = _ := ha
    split at ha
    · rename_i u st2
      by_cases h0 : u = 0
      · rw [if_pos h0] at ha
        subst h0
        have hr := zGo_inv ha
        cases hr
        exact z_popj (v := zR 0) (fun _ k => lv_ifnullN hC.1 hC.2.1 hd (of_decide_eq_true hck) k) K
      · rw [if_neg h0] at ha
        have hr := zGo_inv ha
        cases hr
        refine z_popj (v := zR u) (fun {H} {locs} {k} {n} {lsR} {rest} {rs} _ k => ?_) K
        rw [zRf_ref h0]
        exact lv_ifnull hC.1 hC.2.1 hd k
    · cases ha
  case ifnonnull off =>
    replace hd := zdec (n := 3) hil hd
    obtain ⟨rfl, hd⟩ := hd
    replace ha : (match st with
      | .inr (.inl r) :: st => if r = 0 then zGo (pc + 3) ls st sh pp mm else zGo a ls st sh pp mm
      | _ => none) = _ := ha
    split at ha
    · rename_i u st2
      by_cases h0 : u = 0
      · rw [if_pos h0] at ha
        subst h0
        have hr := zGo_inv ha
        cases hr
        exact z_popj (v := zR 0) (fun _ k => lv_ifnonnullN hC.1 hC.2.1 hd k) K
      · rw [if_neg h0] at ha
        have hr := zGo_inv ha
        cases hr
        refine z_popj (v := zR u) (fun {H} {locs} {k} {n} {lsR} {rest} {rs} _ k => ?_) K
        rw [zRf_ref h0]
        exact lv_ifnonnull hC.1 hC.2.1 hd (of_decide_eq_true hck) k
    · cases ha
  case tableswitch dflt lo hi offs =>
    replace ha : (match st with
      | .inl (.inl x) :: st => if x < lo ∨ hi < x then zSwT pc dflt ls st sh pp mm else match offs[(x - lo).toNat]? with
        | some off => zSwT pc off ls st sh pp mm
        | none => none
      | _ => none) = _ := ha
    split at ha
    · rename_i u st2
      by_cases h0 : u < lo ∨ hi < u
      · rw [if_pos h0] at ha
        obtain ⟨ht, hr⟩ := zSwT_inv ha
        cases hr
        exact z_popj (v := zI u) (fun h1 k => lv_tableOut hC.1 hC.2.1 hd (by rw [zt32 h1]; exact h0) ht k) K
      · rw [if_neg h0] at ha
        split at ha
        · rename_i off hoff
          obtain ⟨ht, hr⟩ := zSwT_inv ha
          cases hr
          exact z_popj (v := zI u) (fun h1 k => lv_tableIn hC.1 hC.2.1 hd (by rw [zt32 h1]; omega) (by rw [zt32 h1]; omega) (by rw [zt32 h1]; exact hoff) ht k) K
        · cases ha
    · cases ha
  case lookupswitch dflt ps =>
    replace ha : (match st with
      | .inl (.inl x) :: st => zSwT pc (Op.lookupswitch.offset ps.toList dflt x) ls st sh pp mm
      | _ => none) = _ := ha
    split at ha
    · rename_i u st2
      obtain ⟨ht, hr⟩ := zSwT_inv ha
      cases hr
      exact z_popj (v := zI u) (fun h1 k => lv_lookup hC.1 hC.2.1 hd hck (by rw [zt32 h1]) ht k) K
    · cases ha
  case getfield idx =>
    replace hd := zdec (n := 3) hil hd
    obtain ⟨rfl, hd⟩ := hd
    obtain ⟨u, st2, rfl, hk, hr⟩ := zGet_inv ha
    cases hr
    by_cases h31 : a = 31
    · replace hck : (if a = 31 then decide ((own, idx, b, k.toNat) ∈ zSFL) && decide (c0 + 2 * b = 2) else decide ((own, idx, a, b, c0, k.toNat) ∈ zFL)) = true := hck
      rw [if_pos h31, Bool.and_eq_true] at hck
      exact z_getS hC hd (of_decide_eq_true hck.1) (of_decide_eq_true hck.2) (hk.trans h31) K
    · replace hck : (if a = 31 then decide ((own, idx, b, k.toNat) ∈ zSFL) && decide (c0 + 2 * b = 2) else decide ((own, idx, a, b, c0, k.toNat) ∈ zFL)) = true := hck
      rw [if_neg h31] at hck
      exact z_get hC hd (of_decide_eq_true hck) hk K
  case putfield idx =>
    replace hd := zdec (n := 3) hil hd
    obtain ⟨rfl, hd⟩ := hd
    obtain ⟨v, u, st2, pp2, mm2, rfl, hk, hv, hr⟩ := zPut_inv ha
    cases hr
    simp only [Bool.and_eq_true, Bool.or_eq_true, Bool.not_eq_true', decide_eq_true_eq] at hck
    exact z_put hC hd hck.1 hck.2 hk hv K
  case getstatic idx =>
    replace hd := zdec (n := 3) hil hd
    obtain ⟨rfl, hd⟩ := hd
    replace ha : (if c0 = 0 then zGo (pc + 3) ls (zI k :: st) sh pp mm else if c0 = 2 then zGo (pc + 3) ls (zR a :: st) sh pp mm else zGo (pc + 3) ls (zQ :: st) sh pp mm) = _ := ha
    refine z_gst hC hd (of_decide_eq_true hck) rfl ?_
    by_cases h0 : c0 = 0
    · rw [if_pos h0] at ha ⊢
      have hr := zGo_inv ha
      cases hr
      exact K
    · rw [if_neg h0] at ha ⊢
      by_cases h2 : c0 = 2
      · rw [if_pos h2] at ha ⊢
        have hr := zGo_inv ha
        cases hr
        exact K
      · rw [if_neg h2] at ha ⊢
        have hr := zGo_inv ha
        cases hr
        exact K
  case new idx =>
    replace hd := zdec (n := 3) hil hd
    obtain ⟨rfl, hd⟩ := hd
    have hr := zGo_inv ha
    cases hr
    simp only [Bool.and_eq_true, decide_eq_true_eq] at hck
    rw [List.length_append, List.length_singleton] at hc1
    rw [zSm_app] at hc2
    exact z_new hC hd hck.1.1 hck.1.2 hck.2 hn0 hz0 (by omega) (by dsimp only at hc2; omega) K
  case newarray t =>
    replace hd := zdec (n := 2) hil hd
    obtain ⟨rfl, hd⟩ := hd
    obtain ⟨n, st2, rfl, h0, h1, hr⟩ := zNewA_inv ha
    cases hr
    simp only [Bool.and_eq_true, decide_eq_true_eq] at hck
    rw [List.length_append, List.length_singleton] at hc1
    rw [zSm_app] at hc2
    exact z_newa hC hd hck.1 hck.2 h0 h1 hn0 hz0 (by omega) (by dsimp only at hc2; omega) K
  case anewarray idx =>
    replace hd := zdec (n := 3) hil hd
    obtain ⟨rfl, hd⟩ := hd
    obtain ⟨n, st2, rfl, h0, h1, hr⟩ := zNewA_inv ha
    cases hr
    rw [List.length_append, List.length_singleton] at hc1
    rw [zSm_app] at hc2
    exact z_newq hC hd (of_decide_eq_true hck) h0 h1 hn0 hz0 (by omega) (by dsimp only at hc2; omega) K
  case arraylength =>
    replace hd := zdec (n := 1) hil hd
    obtain ⟨rfl, hd⟩ := hd
    obtain ⟨u, st2, rfl, h1, h2, h3, hr⟩ := zLen_inv ha
    cases hr
    exact z_len hC hd h1 h2 h3 K
  case laload =>
    replace hd := zdec (n := 1) hil hd
    obtain ⟨rfl, hd⟩ := hd
    obtain ⟨i, u, st2, rfl, h1, h2, h3, hr⟩ := zAldL_inv ha
    cases hr
    exact z_aldL hC hd h1 h2 h3 K
  case aaload =>
    replace hd := zdec (n := 1) hil hd
    obtain ⟨rfl, hd⟩ := hd
    obtain ⟨i, u, st2, rfl, h1, h2, h3, hr⟩ := zAldR_inv ha
    cases hr
    exact z_aldR hC hd h1 h2 h3 K
  case lastore =>
    replace hd := zdec (n := 1) hil hd
    obtain ⟨rfl, hd⟩ := hd
    obtain ⟨v, i, u, st2, rfl, h1, h2, h3, hr⟩ := zAstL_inv ha
    cases hr
    exact z_astL hC hd h1 h2 h3 K
  case aastore =>
    replace hd := zdec (n := 1) hil hd
    obtain ⟨rfl, hd⟩ := hd
    obtain ⟨v, i, u, st2, rfl, h1, h2, h3, h4, hr⟩ := zAstR_inv ha
    cases hr
    exact z_astR hC hd h1 h2 h3 h4 K
  case iastore =>
    replace hd := zdec (n := 1) hil hd
    obtain ⟨rfl, hd⟩ := hd
    obtain ⟨v, i, u, st2, rfl, h1, h2, h3, h4, hr⟩ := zAst_inv ha
    cases hr
    exact z_ast h1 (Or.inl rfl) h2 h3 (fun hP hD hS hw hin kk => va_iast hC.1 hC.2.1 hC.2.2.2.2.2.1 hP hD hS _ 0 hw rfl hin hd kk) K
  case bastore =>
    replace hd := zdec (n := 1) hil hd
    obtain ⟨rfl, hd⟩ := hd
    obtain ⟨v, i, u, st2, rfl, h1, h2, h3, h4, hr⟩ := zAst_inv ha
    cases hr
    have hnar : vp_nar .boolean (Int32.ofInt v) = Int32.ofInt v := by
      rcases h4 rfl with rfl | rfl <;> decide
    exact z_ast h1 (Or.inr rfl) h2 h3 (fun hP hD hS hw hin kk => va_zast hC.1 hC.2.1 hC.2.2.2.2.2.1 hP hD hS _ 2 hw rfl hin hd (by rw [hnar]; exact kk)) K
  case iaload =>
    replace hd := zdec (n := 1) hil hd
    obtain ⟨rfl, hd⟩ := hd
    obtain ⟨i, u, st2, rfl, h1, h2, h3, hr⟩ := zAld_inv ha
    cases hr
    rcases h1 with h1 | h1
    · exact z_ald (t0 := 0) h1 (Or.inl rfl) h2 h3 (fun hP hw hin kk => va_iald hC.1 hC.2.1 hC.2.2.2.2.2.1 hP _ 0 hw rfl hin hd kk) K
    · refine z_withI (fun hI => ?_)
      have hr := zHI_lo (a := u) hI (by omega) (by omega)
      have hc := (zS0_c (L := L) hr).1 (by rw [← (zHI_kd hI hr).1]; exact h1)
      exact z_aldC hr (by omega) (hC.2.2.2.2.2.2.1.1 u hc.1 hc.2) rfl (fun _ _ => rfl) h2 h3 (fun hS hin hv kk => va_ti hC.1 hC.2.1 (hC.2.2.2.2.2.2.1.1 u hc.1 hc.2) hS hin hv hd kk) K
  case baload =>
    replace hd := zdec (n := 1) hil hd
    obtain ⟨rfl, hd⟩ := hd
    obtain ⟨i, u, st2, rfl, h1, h2, h3, hr⟩ := zAld_inv ha
    cases hr
    rcases h1 with h1 | h1
    · exact z_ald (t0 := 0) h1 (Or.inr rfl) h2 h3 (fun hP hw hin kk => va_zald hC.1 hC.2.1 hC.2.2.2.2.2.1 hP _ 2 hw rfl hin hd kk) K
    · refine z_withI (fun hI => ?_)
      have hr := zHI_lo (a := u) hI (by omega) (by omega)
      have hc := (zS0_c (L := L) hr).2.2.1 (by rw [← (zHI_kd hI hr).1]; exact h1)
      obtain ⟨-, -, -, hB⟩ := hC.2.2.2.2.2.2.1.2.1.1 (u - 9) (by omega)
      dsimp only at hB
      rw [show 9 + (u - 9) = u by omega] at hB
      have e8 : zLe (zS0 L) u = [4, 5, 4, 3].getD (u - 9) 0 := by
        have h : u = 9 ∨ u = 10 ∨ u = 11 ∨ u = 12 := by omega
        rcases h with rfl | rfl | rfl | rfl <;> rfl
      have e9 : ∀ j : Nat, j < [4, 5, 4, 3].getD (u - 9) 0 → (.int ((zByt.getD (u - 9) []).getD j 0) : Value) = .int (Int32.ofInt (zM0 xs u (j : Int))) := by
        have h : u = 9 ∨ u = 10 ∨ u = 11 ∨ u = 12 := by omega
        intro j hj
        unfold zM0
        rw [if_neg (by omega), Int.toNat_natCast]
        rcases h with rfl | rfl | rfl | rfl <;> (revert j; decide)
      exact z_aldC hr (by omega) hB e8 e9 h2 h3 (fun hS hin hv kk => va_tb hC.1 hC.2.1 hB hS hin hv hd kk) K
  case dup =>
    replace hd := zdec (n := 1) hil hd
    obtain ⟨rfl, hd⟩ := hd
    replace ha : (match st with
      | .inl (.inl x) :: st => zGo (pc + 1) ls (zI x :: zI x :: st) sh pp mm
      | .inr (.inl x) :: st => zGo (pc + 1) ls (zR x :: zR x :: st) sh pp mm
      | _ => none) = _ := ha
    split at ha
    · rename_i u st2
      have hr := zGo_inv ha
      cases hr
      exact z_dup (v := zI u) (fun k => lv_dup hC.1 hC.2.1 hd rfl k) K
    · rename_i u st2
      have hr := zGo_inv ha
      cases hr
      exact z_dup (v := zR u) (fun {H} {locs} {k} {n} {lsR} {rest} {rs} kk => lv_dup hC.1 hC.2.1 hd (by rcases va_rf_or (zRo fA rs u) with h | ⟨t, h⟩ <;> (show (va_rf (zRo fA rs u)).category = 1; rw [h]; rfl)) kk) K
    · cases ha
  case pop =>
    replace hd := zdec (n := 1) hil hd
    obtain ⟨rfl, hd⟩ := hd
    replace ha : (match st with
      | .inl (.inl _) :: st => zGo (pc + 1) ls st sh pp mm
      | .inr (.inl _) :: st => zGo (pc + 1) ls st sh pp mm
      | _ => none) = _ := ha
    split at ha
    · rename_i u st2
      have hr := zGo_inv ha
      cases hr
      exact z_pop (v := zI u) (fun k => lv_pop hC.1 hC.2.1 hd rfl k) K
    · rename_i u st2
      have hr := zGo_inv ha
      cases hr
      exact z_pop (v := zR u) (fun {H} {locs} {k} {n} {lsR} {rest} {rs} kk => lv_pop hC.1 hC.2.1 hd (by rcases va_rf_or (zRo fA rs u) with h | ⟨t, h⟩ <;> (show (va_rf (zRo fA rs u)).category = 1; rw [h]; rfl)) kk) K
    · cases ha
  case dup2 =>
    replace hd := zdec (n := 1) hil hd
    obtain ⟨rfl, hd⟩ := hd
    replace ha : (match st with
      | .inl (.inl x) :: .inr (.inl y) :: st => zGo (pc + 1) ls (zI x :: zR y :: zI x :: zR y :: st) sh pp mm
      | _ => none) = _ := ha
    split at ha
    · rename_i u w st2
      have hr := zGo_inv ha
      cases hr
      exact z_dup2 (fun {H} {locs} {k} {n} {lsR} {rest} {rs} kk => lv_dup2_11 hC.1 hC.2.1 hd rfl (by rcases va_rf_or (zRo fA rs w) with h | ⟨t, h⟩ <;> (show (va_rf (zRo fA rs w)).category = 1; rw [h]; rfl)) kk) K
    · cases ha
  case invokestatic idx =>
    replace hd := zdec (n := 3) hil hd
    obtain ⟨rfl, hd⟩ := hd
    by_cases h77 : b = 77
    · replace ha : (if b = 77 then zCopy (pc + 3) ls st sh pp mm else zCall a b c0 (pc + 3) st) = _ := ha
      rw [if_pos h77] at ha
      obtain ⟨n, dp, d, sp, s1, st2, rfl, g1, g2, g3, g4, g5, g6, g7, g8, g9, hr⟩ := zCopy_inv ha
      cases hr
      replace hck : (if b = 77 then decide ((own, idx, k.toNat) ∈ zCpL) && decide (1 ≤ fr0) && decide (26 ≤ lo0) else zCkC own fr0 lo0 idx a b c0 && decide (zAtr.getD a 9 = 0)) = true := hck
      rw [if_pos h77] at hck
      simp only [Bool.and_eq_true, decide_eq_true_eq] at hck
      exact z_copy hC hd hck.1.1 g1 g2 g3 g4 g5 g6 g7 g8 g9 hck.1.2 hck.2 K
    · replace ha : (if b = 77 then zCopy (pc + 3) ls st sh pp mm else zCall a b c0 (pc + 3) st) = _ := ha
      rw [if_neg h77] at ha
      exact absurd ha zCall_no
  case invokespecial idx =>
    replace hd := zdec (n := 3) hil hd
    obtain ⟨rfl, hd⟩ := hd
    by_cases h78 : b = 78
    · obtain ⟨u, st2, rfl, g1, g2, hr⟩ := zSp_inv h78 ha
      cases hr
      replace hck : (if b = 78 then decide ((own, idx, k.toNat) ∈ zOiL) && decide (1 ≤ fr0) && decide (20 ≤ lo0) else zCkC own fr0 lo0 idx a b c0 && decide (zAtr.getD a 9 = 1) && decide (k.toNat < 50)) = true := hck
      rw [if_pos h78] at hck
      simp only [Bool.and_eq_true, decide_eq_true_eq] at hck
      exact z_oinit hC hd hck.1.1 g1 hck.1.2 hck.2 g2 K
    · exact absurd ha (zSp_no h78)
  case invokevirtual idx =>
    exact absurd ha zIV_no
  case ireturn =>
    exact absurd ha (by unfold zAct; dsimp only; (repeat' split) <;> simp)
  case lreturn =>
    exact absurd ha (by unfold zAct; dsimp only; (repeat' split) <;> simp)
  case areturn =>
    exact absurd ha (by unfold zAct; dsimp only; (repeat' split) <;> simp)
  case return_ =>
    exact absurd ha (by unfold zAct; dsimp only; (repeat' split) <;> simp)
  all_goals exact absurd ha (by intro h; cases h)
end
