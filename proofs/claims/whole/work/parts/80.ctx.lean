/-! ===== the frame that a method of the small machine stands for ===== -/
/-- words that stay as they are while the tables warm up -/
def zSafe (w : Cond) : Bool := match w with
  | .arrayClass _ => true
  | .fieldLinkNest _ _ _ _ _ _ => true
  | .methodLinkNest _ _ _ _ => true
  | .arrayOver (.object _) => true
  | w => w.onTables && w.keeps
def zTb : List Cond := lw_tbl.filter zSafe
theorem zMem {k : Nat} {w : Cond} (h : lw_tbl[k]? = some w) (hs : zSafe w = true) : w ∈ zTb := List.mem_filter.mpr ⟨List.mem_of_getElem? h, hs⟩
def zSi (a : Nat) : Nat := if a = 5 then 92 else if a = 6 then 98 else if a = 7 then 100 else 102
def zByt : List (List Int32) := [[116, 117, 114, 110], [115, 104, 97, 107, 101], [108, 111, 111, 112], [101, 110, 100]]
/-- the constants that lie in the heap from the start -/
def zCsE (fA : Nat → Nat) (qv : Value) (s0 L : Nat) (xs : Nat → Int32) (U : State) : Prop :=
  (∀ a, 1 ≤ a → a ≤ 4 → va_T .int (fA a) (zLe (zS0 L) a) (fun j => .int (Int32.ofInt (zM0 xs a (j : Int)))) (fun q => s0 ≤ q) U U.heap) ∧
  vk_S 4 [4, 5, 4, 3] zByt (fun i => fA (5 + i)) (fun i => fA (9 + i)) (fun q => s0 ≤ q) U U.heap ∧
  (∀ a, 5 ≤ a → a ≤ 8 → vk_R RX8 (zSi a) (zSx a) (fA a) U) ∧
  (∀ a, 2 ≤ a → a ≤ 4 → va_Z "TwoKnobs" (zSn a) "[I" (.ref (fA a)) (fun q => s0 ≤ q) U U.heap) ∧
  va_Z "java/lang/String" "COMPACT_STRINGS" "Z" (.int 1) (fun q => s0 ≤ q) U U.heap ∧
  va_Z "jdk/internal/util/Preconditions" "SIOOBE_FORMATTER" "Ljava/util/function/BiFunction;" qv (fun q => s0 ≤ q) U U.heap ∧ (qv = .null ∨ ∃ t : Nat, qv = .ref t)
def zCx (p : Program) (R : Room) (s : State) (m : MethodId) (args : Array Value) (meth : Method) (c : Code) (D : va_G) (dA : Nat → ClassId) (fA : Nat → Nat) (qv : Value) (s0 L : Nat) (xs : Nat → Int32) (x : zMI) : Prop :=
  p.tables.exec = Jvm.exec ∧ c.code = x.2.1 ∧ c.maxLocals = x.2.2.1 ∧ s.vm.findClass (zCn x.2.2.2.2.1) = some m.cls ∧ (∀ w ∈ zTb, w.before args s = true) ∧ va_K D vwCl (zTys dA) s ∧ zCsE fA qv s0 L xs s ∧ (x.1.name = "<init>" → meth.name = "<init>") ∧ s0 ≤ s.heap.size ∧ x.2.2.2.2.2.1 ≤ R.frames ∧ x.2.2.2.2.2.2.1 ≤ R.locals ∧ L ≤ 2560
def zG (p : Program) (l : Launch) (e : Env) (R : Room) (s : State) (m : MethodId) (args : Array Value) (below : List Frame) (meth : Method) (c : Code) (Q : State → Prop) (D : va_G) (dA : Nat → ClassId) (fA : Nat → Nat) (qv : Value) (s0 L : Nat) (xs : Nat → Int32) (n0 z0 : Nat) (rs0 : List Nat) (x : zMI) (pc : Nat) (ls st : List zV) (sh : zSh) (pp : zPp) (mm : zMm) : Prop :=
  ∀ (rs : List Nat) (H : Heap) (locs : List Loc) (lsR : Array Slot), zRl D dA fA s0 L xs rs sh pp mm H → (∃ r, rs = rs0 ++ r) → va_S (fun q => s0 ≤ q) s.heap H locs → lv_has lsR x.2.2.1 (zLv fA qv rs 0 ls) → ls.length = x.2.2.1 → (∀ v ∈ ls, zOk sh.length v) → (∀ v ∈ st, zOk sh.length v) →
    W p l e R s m args below meth c H locs (sh.length - n0) (zSm sh - z0) Q (F0 m pc lsR (st.map (zVal fA qv rs)))
section
variable {p : Program} {l : Launch} {e : Env} {R : Room} {s : State} {m : MethodId} {args : Array Value} {below : List Frame} {meth : Method} {c : Code} {Q : State → Prop} {D : va_G} {dA : Nat → ClassId} {fA : Nat → Nat} {qv : Value} {s0 L : Nat} {xs : Nat → Int32} {n0 z0 : Nat} {rs0 : List Nat} {x : zMI}
variable {pc nx : Nat} {ls ls1 st st1 : List zV} {sh sh1 : zSh} {pp pp1 : zPp} {mm mm1 : zMm} {fr : Nat}
-- locals
theorem zLv_mem {rs : List Nat} : ∀ (ls : List zV) (i : Nat) (q : Nat × Value), q ∈ zLv fA qv rs i ls ↔ ∃ (j : Nat) (v : zV), ls[j]? = some v ∧ zIsU v = false ∧ q = (i + j, zVal fA qv rs v)
  | [], i, q => by simp [zLv]
  | w :: ls, i, q => by
    have ih := zLv_mem (rs := rs) ls (i + 1) q
    unfold zLv
    by_cases hu : zIsU w = true
    · rw [if_pos hu, ih]
      constructor
      · rintro ⟨j, v, h1, h2, h3⟩
        exact ⟨j + 1, v, by simpa using h1, h2, by rw [h3, Nat.add_assoc, Nat.add_comm 1 j]⟩
      · rintro ⟨j, v, h1, h2, h3⟩
        cases j with
        | zero => simp at h1; subst h1; rw [hu] at h2; cases h2
        | succ j => exact ⟨j, v, by simpa using h1, h2, by rw [h3, Nat.add_assoc, Nat.add_comm 1 j]⟩
    · rw [if_neg hu, List.mem_cons, ih]
      constructor
      · rintro (h | ⟨j, v, h1, h2, h3⟩)
        · exact ⟨0, w, rfl, by simpa using hu, h⟩
        · exact ⟨j + 1, v, by simpa using h1, h2, by rw [h3, Nat.add_assoc, Nat.add_comm 1 j]⟩
      · rintro ⟨j, v, h1, h2, h3⟩
        cases j with
        | zero => simp at h1; subst h1; exact Or.inl h3
        | succ j => exact Or.inr ⟨j, v, by simpa using h1, h2, by rw [h3, Nat.add_assoc, Nat.add_comm 1 j]⟩
theorem zLv_at {rs : List Nat} {lsR : Array Slot} {n i : Nat} {v : zV} (h : lv_has lsR n (zLv fA qv rs 0 ls)) (hi : ls[i]? = some v) (hu : zIsU v = false) : lsR[i]? = some (.val (zVal fA qv rs v)) := by
  have := h.2.2 (i, zVal fA qv rs v) ((zLv_mem ls 0 _).mpr ⟨i, v, hi, hu, by rw [Nat.zero_add]⟩)
  exact this
theorem zLv_sub {rs rs1 : List Nat} {lsR : Array Slot} {n : Nat} (h : lv_has lsR n (zLv fA qv rs 0 ls)) (hs : ∀ (j : Nat) (v : zV), ls1[j]? = some v → zIsU v = false → ls[j]? = some v ∧ zVal fA qv rs1 v = zVal fA qv rs v) : lv_has lsR n (zLv fA qv rs1 0 ls1) := by
  refine ⟨h.1, h.2.1, fun q hq => ?_⟩
  obtain ⟨j, v, h1, h2, h3⟩ := (zLv_mem ls1 0 q).mp hq
  obtain ⟨h4, h5⟩ := hs j v h1 h2
  rw [h3, h5]
  exact h.2.2 _ ((zLv_mem ls 0 _).mpr ⟨j, v, h4, h2, rfl⟩)
theorem zMask_len : ∀ (k : Nat) (ls : List zV), (zMask k ls).length = ls.length
  | _, [] => rfl
  | k, v :: vs => by simp [zMask, zMask_len (k / 2) vs]
theorem zMask_get : ∀ (k : Nat) (ls : List zV) (j : Nat) (v : zV), (zMask k ls)[j]? = some v → v = zU ∨ ls[j]? = some v
  | _, [], _, _, h => by simp [zMask] at h
  | k, w :: vs, 0, v, h => by
    simp only [zMask, List.getElem?_cons_zero, Option.some.injEq] at h
    by_cases hk : k % 2 = 1
    · rw [if_pos hk] at h; exact Or.inr (by simp [h])
    · rw [if_neg hk] at h; exact Or.inl h.symm
  | k, w :: vs, j + 1, v, h => by
    simp only [zMask, List.getElem?_cons_succ] at h
    rcases zMask_get (k / 2) vs j v h with h | h
    · exact Or.inl h
    · exact Or.inr (by simpa using h)
theorem zMask_ok {n k : Nat} (h : ∀ v ∈ ls, zOk n v) : ∀ v ∈ zMask k ls, zOk n v := by
  intro v hv
  obtain ⟨j, hj⟩ := List.getElem?_of_mem hv
  rcases zMask_get k ls j v hj with rfl | h2
  · trivial
  · exact h v (List.mem_of_getElem? h2)
theorem zG_mask (k : Nat) (h : zG p l e R s m args below meth c Q D dA fA qv s0 L xs n0 z0 rs0 x pc (zMask k ls) st sh pp mm) : zG p l e R s m args below meth c Q D dA fA qv s0 L xs n0 z0 rs0 x pc ls st sh pp mm := by
  intro rs H locs lsR hR hp hS hl hlen hol hos
  refine h rs H locs lsR hR hp hS (zLv_sub hl fun j v h1 h2 => ⟨?_, rfl⟩) (by rw [zMask_len]; exact hlen) (zMask_ok hol) hos
  rcases zMask_get k ls j v h1 with rfl | h3
  · cases h2
  · exact h3
-- instructions that change the operands alone
theorem z_bin {f : Int → Int → Int} {F : Int32 → Int32 → Int32} {a b : Int} (row : ∀ {H : Heap} {locs : List Loc} {k n : Nat} {lsR : Array Slot} {X Y : Int32} {rest : List Value}, W p l e R s m args below meth c H locs k n Q (F0 m (pc + 1) lsR (.int (F X Y) :: rest)) → W p l e R s m args below meth c H locs k n Q (F0 m pc lsR (.int Y :: .int X :: rest)))
    (hf : zn32 a → zn32 b → Int32.ofInt (f a b) = F (Int32.ofInt a) (Int32.ofInt b)) (hr : zn32 a → zn32 b → zn32 (f a b)) (k : zG p l e R s m args below meth c Q D dA fA qv s0 L xs n0 z0 rs0 x (pc + 1) ls (zI (f a b) :: st) sh pp mm) : zG p l e R s m args below meth c Q D dA fA qv s0 L xs n0 z0 rs0 x pc ls (zI b :: zI a :: st) sh pp mm := by
  intro rs H locs lsR hR hp hS hl hlen hol hos
  obtain ⟨h1, hos⟩ := List.forall_mem_cons.mp hos
  obtain ⟨h2, hos⟩ := List.forall_mem_cons.mp hos
  have k := k rs H locs lsR hR hp hS hl hlen hol (List.forall_mem_cons.mpr ⟨hr h2 h1, hos⟩)
  refine row (?_ : W p l e R s m args below meth c H locs _ _ Q (F0 m (pc + 1) lsR (.int (F (Int32.ofInt a) (Int32.ofInt b)) :: st.map (zVal fA qv rs))))
  rw [← hf h2 h1]
  exact k
theorem z_binL {f : Int → Int → Int} {F : Int64 → Int64 → Int64} {a b : Int} (row : ∀ {H : Heap} {locs : List Loc} {k n : Nat} {lsR : Array Slot} {X Y : Int64} {rest : List Value}, W p l e R s m args below meth c H locs k n Q (F0 m (pc + 1) lsR (.long (F X Y) :: rest)) → W p l e R s m args below meth c H locs k n Q (F0 m pc lsR (.long Y :: .long X :: rest)))
    (hf : zn64 a → zn64 b → Int64.ofInt (f a b) = F (Int64.ofInt a) (Int64.ofInt b)) (hr : zn64 a → zn64 b → zn64 (f a b)) (k : zG p l e R s m args below meth c Q D dA fA qv s0 L xs n0 z0 rs0 x (pc + 1) ls (zL (f a b) :: st) sh pp mm) : zG p l e R s m args below meth c Q D dA fA qv s0 L xs n0 z0 rs0 x pc ls (zL b :: zL a :: st) sh pp mm := by
  intro rs H locs lsR hR hp hS hl hlen hol hos
  obtain ⟨h1, hos⟩ := List.forall_mem_cons.mp hos
  obtain ⟨h2, hos⟩ := List.forall_mem_cons.mp hos
  have k := k rs H locs lsR hR hp hS hl hlen hol (List.forall_mem_cons.mpr ⟨hr h2 h1, hos⟩)
  refine row (?_ : W p l e R s m args below meth c H locs _ _ Q (F0 m (pc + 1) lsR (.long (F (Int64.ofInt a) (Int64.ofInt b)) :: st.map (zVal fA qv rs))))
  rw [← hf h2 h1]
  exact k
theorem z_binS {f : Int → Int → Int} {F : Int64 → Int32 → Int64} {a b : Int} (row : ∀ {H : Heap} {locs : List Loc} {k n : Nat} {lsR : Array Slot} {X : Int64} {Y : Int32} {rest : List Value}, W p l e R s m args below meth c H locs k n Q (F0 m (pc + 1) lsR (.long (F X Y) :: rest)) → W p l e R s m args below meth c H locs k n Q (F0 m pc lsR (.int Y :: .long X :: rest)))
    (hf : Int64.ofInt (f a b) = F (Int64.ofInt a) (Int32.ofInt b)) (hr : zn64 (f a b)) (k : zG p l e R s m args below meth c Q D dA fA qv s0 L xs n0 z0 rs0 x (pc + 1) ls (zL (f a b) :: st) sh pp mm) : zG p l e R s m args below meth c Q D dA fA qv s0 L xs n0 z0 rs0 x pc ls (zI b :: zL a :: st) sh pp mm := by
  intro rs H locs lsR hR hp hS hl hlen hol hos
  obtain ⟨h1, hos⟩ := List.forall_mem_cons.mp hos
  obtain ⟨h2, hos⟩ := List.forall_mem_cons.mp hos
  have k := k rs H locs lsR hR hp hS hl hlen hol (List.forall_mem_cons.mpr ⟨hr, hos⟩)
  refine row (?_ : W p l e R s m args below meth c H locs _ _ Q (F0 m (pc + 1) lsR (.long (F (Int64.ofInt a) (Int32.ofInt b)) :: st.map (zVal fA qv rs))))
  rw [← hf]
  exact k
/-- a value comes on the stack -/
theorem z_push {v : zV} {len : Nat} (hv : zOk sh.length v) (row : ∀ {H : Heap} {locs : List Loc} {k n : Nat} {lsR : Array Slot} {rest : List Value} {rs : List Nat}, W p l e R s m args below meth c H locs k n Q (F0 m (pc + len) lsR (zVal fA qv rs v :: rest)) → W p l e R s m args below meth c H locs k n Q (F0 m pc lsR rest))
    (k : zG p l e R s m args below meth c Q D dA fA qv s0 L xs n0 z0 rs0 x (pc + len) ls (v :: st) sh pp mm) : zG p l e R s m args below meth c Q D dA fA qv s0 L xs n0 z0 rs0 x pc ls st sh pp mm := by
  intro rs H locs lsR hR hp hS hl hlen hol hos
  exact row (rs := rs) (k rs H locs lsR hR hp hS hl hlen hol (List.forall_mem_cons.mpr ⟨hv, hos⟩))
theorem z_load {v : zV} {i len : Nat} (hi : ls[i]? = some v) (hu : zIsU v = false) (row : ∀ {H : Heap} {locs : List Loc} {k n : Nat} {lsR : Array Slot} {rest : List Value} {rs : List Nat}, lsR[i]? = some (.val (zVal fA qv rs v)) → W p l e R s m args below meth c H locs k n Q (F0 m (pc + len) lsR (zVal fA qv rs v :: rest)) → W p l e R s m args below meth c H locs k n Q (F0 m pc lsR rest))
    (k : zG p l e R s m args below meth c Q D dA fA qv s0 L xs n0 z0 rs0 x (pc + len) ls (v :: st) sh pp mm) : zG p l e R s m args below meth c Q D dA fA qv s0 L xs n0 z0 rs0 x pc ls st sh pp mm := by
  intro rs H locs lsR hR hp hS hl hlen hol hos
  exact row (rs := rs) (zLv_at hl hi hu) (k rs H locs lsR hR hp hS hl hlen hol (List.forall_mem_cons.mpr ⟨hol _ (List.mem_of_getElem? hi), hos⟩))
theorem zClr_len (ls : List zV) (i : Nat) : (zClr ls i).length = ls.length := by
  unfold zClr
  cases i with
  | zero => rfl
  | succ j =>
    dsimp only
    cases ls[j]? with
    | none => rfl
    | some w => dsimp only; split <;> simp
theorem zClr_get {i : Nat} (j : Nat) (w : zV) (hw : (zClr ls i)[j]? = some w) : w = zU ∨ (ls[j]? = some w ∧ ¬ (j + 1 = i ∧ zIsL w = true)) := by
  unfold zClr at hw
  cases i with
  | zero => exact Or.inr ⟨hw, by omega⟩
  | succ j0 =>
    dsimp only at hw
    cases hj0 : ls[j0]? with
    | none =>
      rw [hj0] at hw
      refine Or.inr ⟨hw, fun h => ?_⟩
      have e : j = j0 := by omega
      subst e
      rw [hj0] at hw; cases hw
    | some w0 =>
      rw [hj0] at hw
      dsimp only at hw
      by_cases hL : zIsL w0 = true
      · rw [if_pos hL, List.getElem?_set] at hw
        by_cases e : j0 = j
        · rw [if_pos e] at hw
          split at hw
          · exact Or.inl (Option.some.inj hw).symm
          · cases hw
        · rw [if_neg e] at hw
          exact Or.inr ⟨hw, by omega⟩
      · rw [if_neg hL] at hw
        refine Or.inr ⟨hw, fun h => ?_⟩
        have e : j = j0 := by omega
        subst e
        rw [hj0] at hw
        cases hw
        exact hL h.2
theorem zSt1_get {i : Nat} {v : zV} (j : Nat) (w : zV) (hw : (zSt1 ls i v)[j]? = some w) : (j = i ∧ w = v) ∨ w = zU ∨ (j ≠ i ∧ ls[j]? = some w ∧ ¬ (j + 1 = i ∧ zIsL w = true)) := by
  unfold zSt1 at hw
  rw [List.getElem?_set] at hw
  by_cases e : i = j
  · rw [if_pos e] at hw
    split at hw
    · exact Or.inl ⟨e.symm, (Option.some.inj hw).symm⟩
    · cases hw
  · rw [if_neg e] at hw
    rcases zClr_get j w hw with h | h
    · exact Or.inr (Or.inl h)
    · exact Or.inr (Or.inr ⟨fun h => e h.symm, h⟩)
theorem zSt2_get {i : Nat} {v : zV} (j : Nat) (w : zV) (hw : (zSt2 ls i v)[j]? = some w) : (j = i ∧ w = v) ∨ w = zU ∨ (j ≠ i ∧ j ≠ i + 1 ∧ ls[j]? = some w ∧ ¬ (j + 1 = i ∧ zIsL w = true)) := by
  unfold zSt2 at hw
  rw [List.getElem?_set] at hw
  by_cases e : i + 1 = j
  · rw [if_pos e] at hw
    split at hw
    · exact Or.inr (Or.inl (Option.some.inj hw).symm)
    · cases hw
  · rw [if_neg e] at hw
    rcases zSt1_get (ls := ls) (i := i) (v := v) j w hw with h | h | h
    · exact Or.inl h
    · exact Or.inr (Or.inl h)
    · exact Or.inr (Or.inr ⟨h.1, fun h => e h.symm, h.2⟩)
theorem zcat2 {rs : List Nat} {w : zV} (hqv : qv.category = 1) (hL : zIsL w = false) : ((zVal fA qv rs w).category == 2) = false := by
  rcases w with (y | y) | (y | y)
  · rfl
  · cases hL
  · rcases va_rf_or (zRo fA rs y) with h | ⟨a, h⟩ <;> (show ((va_rf (zRo fA rs y)).category == 2) = false; rw [h]; rfl)
  · show (qv.category == 2) = false
    rw [hqv]; rfl
/-- a value of one slot is stored -/
theorem z_sto {v : zV} {i len : Nat} (hqv : qv.category = 1) (hv : zOk sh.length v) (hu : zIsU v = false) (hcat : zIsL v = false) (hi : i < ls.length) (row : ∀ {H : Heap} {locs : List Loc} {k n nL : Nat} {lsR : Array Slot} {rest : List Value} {rs : List Nat} {lv : List (Nat × Value)}, lv_has lsR nL lv → i < nL → (∀ ls' : Array Slot, lv_has ls' nL ((i, zVal fA qv rs v) :: lv.filter (fun q => !(q.1 == i) && !(q.1 + 1 == i && q.2.category == 2))) → W p l e R s m args below meth c H locs k n Q (F0 m (pc + len) ls' rest)) → W p l e R s m args below meth c H locs k n Q (F0 m pc lsR (zVal fA qv rs v :: rest)))
    (k : zG p l e R s m args below meth c Q D dA fA qv s0 L xs n0 z0 rs0 x (pc + len) (zSt1 ls i v) st sh pp mm) : zG p l e R s m args below meth c Q D dA fA qv s0 L xs n0 z0 rs0 x pc ls (v :: st) sh pp mm := by
  intro rs H locs lsR hR hp hS hl hlen hol hos
  obtain ⟨-, hos⟩ := List.forall_mem_cons.mp hos
  refine row (rs := rs) hl (by rw [← hlen]; exact hi) fun ls' hl' => ?_
  refine k rs H locs ls' hR hp hS ⟨hl'.1, hl'.2.1, fun q hq => ?_⟩ (by unfold zSt1; rw [List.length_set, zClr_len]; exact hlen) (fun w hw => ?_) hos
  · obtain ⟨j, w, h1, h2, h3⟩ := (zLv_mem _ 0 q).mp hq
    rw [Nat.zero_add] at h3
    rw [h3]
    rcases zSt1_get j w h1 with ⟨rfl, rfl⟩ | rfl | ⟨hne, h4, h5⟩
    · exact hl'.2.2 _ List.mem_cons_self
    · cases h2
    · refine hl'.2.2 _ (List.mem_cons_of_mem _ (List.mem_filter.mpr ⟨(zLv_mem ls 0 _).mpr ⟨j, w, h4, h2, by rw [Nat.zero_add]⟩, ?_⟩))
      have hc2 : j + 1 = i → ((zVal fA qv rs w).category == 2) = false := by
        intro e
        have hL : zIsL w = false := by
          cases hw : zIsL w with
          | false => rfl
          | true => exact absurd ⟨e, hw⟩ h5
        exact zcat2 hqv hL
      simp only [Bool.and_eq_true, Bool.not_eq_true', beq_eq_false_iff_ne, ne_eq]
      refine ⟨hne, ?_⟩
      by_cases e : j + 1 = i
      · simp [hc2 e]
      · simp [e]
  · obtain ⟨j, hj⟩ := List.getElem?_of_mem hw
    rcases zSt1_get j w hj with ⟨-, rfl⟩ | rfl | ⟨-, h4, -⟩
    · exact hv
    · trivial
    · exact hol w (List.mem_of_getElem? h4)
/-- a value of two slots is stored -/
theorem z_stoL {v : zV} {i len : Nat} (hqv : qv.category = 1) (hv : zOk sh.length v) (hu : zIsU v = false) (hi : i + 1 < ls.length) (row : ∀ {H : Heap} {locs : List Loc} {k n nL : Nat} {lsR : Array Slot} {rest : List Value} {rs : List Nat} {lv : List (Nat × Value)}, lv_has lsR nL lv → i + 1 < nL → (∀ ls' : Array Slot, lv_has ls' nL ((i, zVal fA qv rs v) :: lv.filter (fun q => !(q.1 == i) && (!(q.1 == i + 1) && !(q.1 + 1 == i && q.2.category == 2)))) → W p l e R s m args below meth c H locs k n Q (F0 m (pc + len) ls' rest)) → W p l e R s m args below meth c H locs k n Q (F0 m pc lsR (zVal fA qv rs v :: rest)))
    (k : zG p l e R s m args below meth c Q D dA fA qv s0 L xs n0 z0 rs0 x (pc + len) (zSt2 ls i v) st sh pp mm) : zG p l e R s m args below meth c Q D dA fA qv s0 L xs n0 z0 rs0 x pc ls (v :: st) sh pp mm := by
  intro rs H locs lsR hR hp hS hl hlen hol hos
  obtain ⟨-, hos⟩ := List.forall_mem_cons.mp hos
  refine row (rs := rs) hl (by rw [← hlen]; exact hi) fun ls' hl' => ?_
  refine k rs H locs ls' hR hp hS ⟨hl'.1, hl'.2.1, fun q hq => ?_⟩ (by unfold zSt2; rw [List.length_set, List.length_set, zClr_len]; exact hlen) (fun w hw => ?_) hos
  · obtain ⟨j, w, h1, h2, h3⟩ := (zLv_mem _ 0 q).mp hq
    rw [Nat.zero_add] at h3
    rw [h3]
    rcases zSt2_get j w h1 with ⟨rfl, rfl⟩ | rfl | ⟨hne, hne2, h4, h5⟩
    · exact hl'.2.2 _ List.mem_cons_self
    · cases h2
    · refine hl'.2.2 _ (List.mem_cons_of_mem _ (List.mem_filter.mpr ⟨(zLv_mem ls 0 _).mpr ⟨j, w, h4, h2, by rw [Nat.zero_add]⟩, ?_⟩))
      have hc2 : j + 1 = i → ((zVal fA qv rs w).category == 2) = false := by
        intro e
        have hL : zIsL w = false := by
          cases hw : zIsL w with
          | false => rfl
          | true => exact absurd ⟨e, hw⟩ h5
        exact zcat2 hqv hL
      simp only [Bool.and_eq_true, Bool.not_eq_true', beq_eq_false_iff_ne, ne_eq]
      refine ⟨hne, hne2, ?_⟩
      by_cases e : j + 1 = i
      · simp [hc2 e]
      · simp [e]
  · obtain ⟨j, hj⟩ := List.getElem?_of_mem hw
    rcases zSt2_get j w hj with ⟨-, rfl⟩ | rfl | ⟨-, -, h4, -⟩
    · exact hv
    · trivial
    · exact hol w (List.mem_of_getElem? h4)
end
