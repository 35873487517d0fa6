/-! ===== new cells; copies; constants; Object's constructor ===== -/
theorem zInst : ∀ kd, kd < 13 → (Cond.instantiable (zCn kd) (zFT.getD kd []).length) ∈ zTb ∧ (Cond.initialized (zCn kd)) ∈ zTb := by decide +kernel
theorem zArrC : (Cond.arrayClass .int) ∈ zTb ∧ (Cond.arrayClass .long) ∈ zTb ∧ (Cond.arrayClass .boolean) ∈ zTb := by decide +kernel
theorem zArrO : ∀ k, k < 28 → 24 ≤ k → (Cond.arrayOver (.object (zCn (zEl k)))) ∈ zTb := by decide +kernel
theorem zCpW : (Cond.native zCp) ∈ zTb ∧ (Cond.static zCp) ∈ zTb ∧ (Cond.initialized "java/lang/System") ∈ zTb := by decide +kernel
theorem zOiW : (Cond.instanceMethod Lib.objectInit) ∈ zTb ∧ (Cond.code Lib.objectInit ⟨#[0xb1]⟩ 1 none) ∈ zTb := by decide +kernel
theorem zDef_ok : ∀ kd, kd < 13 → ∀ k, k < (zFT.getD kd []).length → defaultValue (zTy0 kd k) = (if (zFT.getD kd []).getD k 0 = 2 then .null else .int 0) := by decide +kernel
section
variable {p : Program} {l : Launch} {e : Env} {R : Room} {s : State} {m : MethodId} {args : Array Value} {below : List Frame} {meth : Method} {c : Code} {Q : State → Prop} {D : va_G} {dA : Nat → ClassId} {fA : Nat → Nat} {qv : Value} {s0 L : Nat} {xs : Nat → Int32} {n0 z0 : Nat} {rs0 : List Nat} {x : zMI}
variable {pc nx : Nat} {ls ls1 st st1 : List zV} {sh sh1 : zSh} {pp pp1 : zPp} {mm mm1 : zMm} {fr : Nat}
theorem zqv (hC : zCx p R s m args meth c D dA fA qv s0 L xs x) : qv.category = 1 := by
  rcases hC.2.2.2.2.2.2.1.2.2.2.2.2.2 with h | ⟨t, h⟩ <;> (rw [h]; rfl)
theorem zcats (hqv : qv.category = 1) (rs : List Nat) : ∀ st : List zV, (((st.map (zVal fA qv rs)).map fun v => v.category).sum) = (st.map zCat).sum
  | [] => rfl
  | v :: st => by
    simp only [List.map_cons, List.sum_cons, zcats hqv rs st]
    congr 1
    rcases v with (y | y) | (y | y)
    · rfl
    · rfl
    · rcases va_rf_or (zRo fA rs y) with h | ⟨a, h⟩ <;> (show (va_rf (zRo fA rs y)).category = 1; rw [h]; rfl)
    · exact hqv
/-- what is pushed on a grown heap -/
theorem zpushed {q : Nat} {y : Nat × Nat} {e1 : va_E} {rs : List Nat} {H H1 : Heap} (hR : zRl D dA fA s0 L xs rs sh pp mm H) (hy : zKok y) (he : zEn dA fA (rs ++ [q]) (sh ++ [y]) (zclp pp sh.length) (zclr mm sh.length) sh.length = e1) (hP : va_P D vwCl (zW dA fA rs sh pp mm ++ [(q, e1)]) H1) (hD : va_D (fun q => s0 ≤ q) (zW dA fA rs sh pp mm ++ [(q, e1)])) : zRl D dA fA s0 L xs (rs ++ [q]) (sh ++ [y]) (zclp pp sh.length) (zclr mm sh.length) H1 := by
  have e : zW dA fA (rs ++ [q]) (sh ++ [y]) (zclp pp sh.length) (zclr mm sh.length) = zW dA fA rs sh pp mm ++ [(q, e1)] := zW_push hR.1 hR.2.1.2.2.2.2.1 he (fun b hb i => by unfold zclp; rw [if_neg hb]) (fun b hb i => by unfold zclr; rw [if_neg hb])
  refine ⟨by rw [List.length_append, List.length_append, hR.1]; rfl, zHI_new hR.2.1 hy, ?_, ?_⟩
  · rw [e]; exact hP
  · rw [e]; exact hD
theorem zmapst {rs r : List Nat} {n : Nat} (hn : n = 13 + rs.length) (h : ∀ v ∈ st, zOk n v) : st.map (zVal fA qv (rs ++ r)) = st.map (zVal fA qv rs) := by
  subst hn
  exact List.map_congr_left fun v hv => zVal_app r (h v hv)
theorem zOk_mono {n k : Nat} {v : zV} (hk : n ≤ k) (h : zOk n v) : zOk k v := by
  rcases v with (y | y) | (y | y)
  · exact h
  · exact h
  · exact Nat.lt_of_lt_of_le h hk
  · trivial
theorem zLv_app {rs r : List Nat} {lsR : Array Slot} {nL n : Nat} (hn : n = 13 + rs.length) (ho : ∀ v ∈ ls, zOk n v) (h : lv_has lsR nL (zLv fA qv rs 0 ls)) : lv_has lsR nL (zLv fA qv (rs ++ r) 0 ls) :=
  zLv_sub h fun j v h1 h2 => ⟨h1, zVal_app r (by rw [← hn]; exact ho v (List.mem_of_getElem? h1))⟩
/-- a new cell's number is the small machine's -/
theorem zAd_new {rs : List Nat} {q n : Nat} (hn : n = 13 + rs.length) : zVal fA qv (rs ++ [q]) (zR n) = .ref q := by
  rw [zRf_ref (by omega), zAd_hi (by omega), hn, show 13 + rs.length - 13 = rs.length by omega, List.getD_eq_getElem?_getD, List.getElem?_append_right (Nat.le_refl _)]
  simp
theorem zKd_new (sh : zSh) (y : Nat × Nat) : zKd (sh ++ [y]) sh.length = y.1 ∧ zLe (sh ++ [y]) sh.length = y.2 := by
  unfold zKd zLe
  rw [List.getElem?_append_right (Nat.le_refl _)]
  simp
theorem z_new {kd n k idx : Nat} (hC : zCx p R s m args meth c D dA fA qv s0 L xs x) (hd : decode x.2.1 pc = .ok (.new idx, 3)) (he : (x.2.2.2.2.1, idx, kd, k) ∈ zCL) (hkd : kd < 13) (hn : n = (zFT.getD kd []).length) (hn0 : n0 ≤ sh.length) (hz0 : z0 ≤ zSm sh) (hc1 : sh.length - n0 + 1 ≤ R.cells) (hc2 : zSm sh - z0 + n ≤ R.slots)
    (K : zG p l e R s m args below meth c Q D dA fA qv s0 L xs n0 z0 rs0 x (pc + 3) ls (zR sh.length :: st) (sh ++ [(kd, n)]) (zclp pp sh.length) (zclr mm sh.length)) : zG p l e R s m args below meth c Q D dA fA qv s0 L xs n0 z0 rs0 x pc ls st sh pp mm := by
  intro rs H locs lsR hR hp hS hl hlen hol hos
  have hR0 := hR
  obtain ⟨hlen0, hI, hP, hD⟩ := hR
  have h := zCL_ok _ he
  simp only [zLkC, decide_eq_true_eq, zAtW] at h
  obtain ⟨q, hq⟩ : ∃ q, vwCl[kd]? = some q := by
    have h1 := zFT_len _ hkd
    cases h2 : vwCl[kd]? with
    | none => rw [h2] at h1; cases h1
    | some q => exact ⟨q, rfl⟩
  have hN : q.2.2 = n := by
    have h1 := zFT_len _ hkd
    rw [hq] at h1
    rw [hn]
    exact Option.some.inj h1
  have hC1 : q.1 = zCn kd := by
    have h1 := zCn_cl _ hkd
    rw [hq] at h1
    exact Option.some.inj h1
  subst hN
  have hfs : ∀ (q9 : Nat), zEn dA fA (rs ++ [q9]) (sh ++ [(kd, q.2.2)]) (zclp pp sh.length) (zclr mm sh.length) sh.length = .inr (kd, zFs fA [] (zFT.getD kd []) (fun _ _ => 0) (fun _ _ => 0) 0) := by
    intro q9
    rw [zEn_obj (by rw [(zKd_new sh _).1]; exact hkd), (zKd_new sh _).1]
    congr 2
    unfold zFs zFl zclp zclr zRo
    simp
  refine va_new (C := q.1) (T := q.2.1) (N := q.2.2) (ci := kd) hC.1 hC.2.1 hC.2.2.2.2.1 (zInW q (List.mem_of_getElem? hq)) (zTy0 kd) (zTy0_ok _ hkd q hq) hC.2.2.2.1 (by rw [hC1]; exact hC.2.2.2.2.1 _ (zMem h rfl)) (by rw [hC1, hn]; exact hC.2.2.2.2.1 _ (zInst kd hkd).1) (by rw [hC1]; exact hC.2.2.2.2.1 _ (zInst kd hkd).2) hC.2.2.2.2.2.1 hP hD hS (fun q h => Nat.le_trans hC.2.2.2.2.2.2.2.2.1 h) hq (fs := zFs fA [] (zFT.getD kd []) (fun _ _ => 0) (fun _ _ => 0) 0) (fun j hj => ?_) hc1 hc2 hd (fun q9 H1 hP1 hD1 hS1 => ?_)
  · have hj2 : j < (zFT.getD kd []).length := by omega
    rw [zDef_ok kd hkd j hj2]
    unfold vp_V
    have h5 := zFs_get (fA := fA) (rs := []) (pp := fun _ _ => 0) (mm := fun _ _ => 0) (a := 0) hj2
    simp only [List.getD_eq_getElem?_getD] at h5 ⊢
    rw [h5]
    simp only [Option.getD_some]
    unfold zFl zRo
    split <;> rfl
  · have k1 := K (rs ++ [q9]) H1 locs lsR (zpushed hR0 (Or.inl ⟨hkd, hn⟩) (hfs q9) hP1 hD1) (by obtain ⟨r, hr⟩ := hp; exact ⟨r ++ [q9], by rw [hr, List.append_assoc]⟩) hS1 (zLv_app hlen0 hol hl) hlen (fun v hv => zOk_mono (by rw [List.length_append]; omega) (hol v hv)) (List.forall_mem_cons.mpr ⟨show sh.length < _ by rw [List.length_append, List.length_singleton]; omega, fun v hv => zOk_mono (by rw [List.length_append]; omega) (hos v hv)⟩)
    rw [List.map_cons, zAd_new hlen0, zmapst hlen0 hos, List.length_append, List.length_singleton, zSm_app] at k1
    rw [show sh.length + 1 - n0 = sh.length - n0 + 1 by omega, show zSm sh + (kd, q.2.2).2 - z0 = zSm sh - z0 + q.2.2 by show zSm sh + q.2.2 - z0 = _; omega] at k1
    exact k1
/-- the class of an array of numbers is one -/
theorem zdA_int {cA : ClassId} {ty : FieldType} {k t0 : Nat} (hK : va_K D vwCl (zTys dA ++ [(cA, ty)]) s) (ht : (zTys dA)[t0]? = some (dA k, ty)) (hty : ∀ C, ty ≠ .object C) : cA = dA k := by
  have h1 := (hK.2 (zTys dA).length (cA, ty) (by simp)).2
  have h2 := (hK.2 t0 (dA k, ty) (by rw [List.getElem?_append_left (List.getElem?_eq_some_iff.mp ht).1]; exact ht)).2
  have h3 : s.vm.findClass ("[" ++ ty.toString) = some cA := by
    cases ty <;> first | exact h1 | exact absurd rfl (hty _)
  have h4 : s.vm.findClass ("[" ++ ty.toString) = some (dA k) := by
    cases ty <;> first | exact h2 | exact absurd rfl (hty _)
  exact Option.some.inj (h3.symm.trans h4)
theorem zdA_obj {cA : ClassId} {C : String} {k t0 : Nat} (hK : va_K D vwCl (zTys dA ++ [(cA, .object C)]) s) (ht : (zTys dA)[t0]? = some (dA k, .object C)) : cA = dA k := by
  obtain ⟨-, -, -, -, -, h1⟩ := (hK.2 (zTys dA).length (cA, .object C) (by simp)).2
  obtain ⟨-, -, -, -, -, h2⟩ := (hK.2 t0 (dA k, .object C) (by rw [List.getElem?_append_left (List.getElem?_eq_some_iff.mp ht).1]; exact ht)).2
  exact Option.some.inj (h1.symm.trans h2)
theorem znewgo {H H1 : Heap} {locs : List Loc} {lsR : Array Slot} {rs : List Nat} {len q9 : Nat} {y : Nat × Nat} {e1 : va_E} (hR0 : zRl D dA fA s0 L xs rs sh pp mm H) (hp : ∃ r, rs = rs0 ++ r) (hS1 : va_S (fun q => s0 ≤ q) s.heap H1 locs) (hl : lv_has lsR x.2.2.1 (zLv fA qv rs 0 ls)) (hlen : ls.length = x.2.2.1) (hol : ∀ v ∈ ls, zOk sh.length v) (hos : ∀ v ∈ st, zOk sh.length v) (hn0 : n0 ≤ sh.length) (hz0 : z0 ≤ zSm sh) (hy : zKok y) (he : zEn dA fA (rs ++ [q9]) (sh ++ [y]) (zclp pp sh.length) (zclr mm sh.length) sh.length = e1) (hP1 : va_P D vwCl (zW dA fA rs sh pp mm ++ [(q9, e1)]) H1) (hD1 : va_D (fun q => s0 ≤ q) (zW dA fA rs sh pp mm ++ [(q9, e1)]))
    (K : zG p l e R s m args below meth c Q D dA fA qv s0 L xs n0 z0 rs0 x (pc + len) ls (zR sh.length :: st) (sh ++ [y]) (zclp pp sh.length) (zclr mm sh.length)) : W p l e R s m args below meth c H1 locs (sh.length - n0 + 1) (zSm sh - z0 + y.2) Q (F0 m (pc + len) lsR (.ref q9 :: st.map (zVal fA qv rs))) := by
  have hlen0 := hR0.1
  have k1 := K (rs ++ [q9]) H1 locs lsR (zpushed hR0 hy he hP1 hD1) (by obtain ⟨r, hr⟩ := hp; exact ⟨r ++ [q9], by rw [hr, List.append_assoc]⟩) hS1 (zLv_app hlen0 hol hl) hlen (fun v hv => zOk_mono (by rw [List.length_append]; omega) (hol v hv)) (List.forall_mem_cons.mpr ⟨show sh.length < _ by rw [List.length_append, List.length_singleton]; omega, fun v hv => zOk_mono (by rw [List.length_append]; omega) (hos v hv)⟩)
  rw [List.map_cons, zAd_new hlen0, zmapst hlen0 hos, List.length_append, List.length_singleton, zSm_app] at k1
  rw [show sh.length + 1 - n0 = sh.length - n0 + 1 by omega, show zSm sh + y.2 - z0 = zSm sh - z0 + y.2 by omega] at k1
  exact k1
theorem z_newa {t : ArrayType} {kd : Nat} {n : Int} (hC : zCx p R s m args meth c D dA fA qv s0 L xs x) (hd : decode x.2.1 pc = .ok (.newarray t, 2)) (hkd : kd = zNa t) (hk3 : kd < 23) (h0 : 0 ≤ n) (h1 : n ≤ 100000) (hn0 : n0 ≤ sh.length) (hz0 : z0 ≤ zSm sh) (hc1 : sh.length - n0 + 1 ≤ R.cells) (hc2 : zSm sh - z0 + n.toNat ≤ R.slots)
    (K : zG p l e R s m args below meth c Q D dA fA qv s0 L xs n0 z0 rs0 x (pc + 2) ls (zR sh.length :: st) (sh ++ [(kd, n.toNat)]) (zclp pp sh.length) (zclr mm sh.length)) : zG p l e R s m args below meth c Q D dA fA qv s0 L xs n0 z0 rs0 x pc ls (zI n :: st) sh pp mm := by
  intro rs H locs lsR hR hp hS hl hlen hol hos
  have hR0 := hR
  obtain ⟨hlen0, hI, hP, hD⟩ := hR
  obtain ⟨hon, hos⟩ := List.forall_mem_cons.mp hos
  have hn : zn32 n := hon
  have hneg : ¬ Int32.ofInt n < 0 := by rw [← zo_0, zo_lt hn zn0]; omega
  show W p l e R s m args below meth c H locs _ _ Q (F0 m pc lsR (.int (Int32.ofInt n) :: st.map (zVal fA qv rs)))
  have hA : ∀ q, s.heap.size ≤ q → s0 ≤ q := fun q h => Nat.le_trans hC.2.2.2.2.2.2.2.2.1 h
  cases t <;> first | (exfalso; rw [hkd] at hk3; exact absurd hk3 (by decide)) | skip
  · subst hkd
    refine va_newa (atype := .boolean) (ty := .boolean) hC.1 hC.2.1 (hC.2.2.2.2.1 _ zArrC.2.2) rfl hC.2.2.2.2.2.1 hP hD hS hA (N' := n.toNat) (a0 := (n.toNat, .inl (fun _ => 0))) (fun _ => rfl) hneg (zo_nat hn) (by show n.toNat * 1 ≤ _; omega) hc1 hc2 hd (fun q9 cA H1 hK1 hP1 hD1 hS1 => ?_)
    have ecA := zdA_int (k := 22) (t0 := 2) hK1 rfl (fun _ h => by cases h)
    subst ecA
    exact znewgo (y := (22, n.toNat)) hR0 hp hS1 hl hlen hol hos hn0 hz0 (Or.inr ⟨by simp, by show n.toNat ≤ 100000; omega⟩) (by rw [zEn_int (by rw [(zKd_new sh _).1]; simp), (zKd_new sh _).1, (zKd_new sh _).2]; simp [zclr]) hP1 hD1 K
  · subst hkd
    refine va_newa (atype := .int) (ty := .int) hC.1 hC.2.1 (hC.2.2.2.2.1 _ zArrC.1) rfl hC.2.2.2.2.2.1 hP hD hS hA (N' := n.toNat) (a0 := (n.toNat, .inl (fun _ => 0))) (fun _ => rfl) hneg (zo_nat hn) (by show n.toNat * 4 ≤ _; omega) hc1 hc2 hd (fun q9 cA H1 hK1 hP1 hD1 hS1 => ?_)
    have ecA := zdA_int (k := 20) (t0 := 0) hK1 rfl (fun _ h => by cases h)
    subst ecA
    exact znewgo (y := (20, n.toNat)) hR0 hp hS1 hl hlen hol hos hn0 hz0 (Or.inr ⟨by simp, by show n.toNat ≤ 100000; omega⟩) (by rw [zEn_int (by rw [(zKd_new sh _).1]; simp), (zKd_new sh _).1, (zKd_new sh _).2]; simp [zclr]) hP1 hD1 K
  · subst hkd
    refine va_newa (atype := .long) (ty := .long) hC.1 hC.2.1 (hC.2.2.2.2.1 _ zArrC.2.1) rfl hC.2.2.2.2.2.1 hP hD hS hA (N' := n.toNat) (a0 := (n.toNat, .inr (.inl (fun _ => 0)))) (fun _ => rfl) hneg (zo_nat hn) (by show n.toNat * 8 ≤ _; omega) hc1 hc2 hd (fun q9 cA H1 hK1 hP1 hD1 hS1 => ?_)
    have ecA := zdA_int (k := 21) (t0 := 1) hK1 rfl (fun _ h => by cases h)
    subst ecA
    exact znewgo (y := (21, n.toNat)) hR0 hp hS1 hl hlen hol hos hn0 hz0 (Or.inr ⟨by simp, by show n.toNat ≤ 100000; omega⟩) (by rw [zEn_lng (by rw [(zKd_new sh _).1]), (zKd_new sh _).2] <;> simp [zclr]) hP1 hD1 K
theorem z_newq {kd k idx : Nat} {n : Int} (hC : zCx p R s m args meth c D dA fA qv s0 L xs x) (hd : decode x.2.1 pc = .ok (.anewarray idx, 3)) (he : (x.2.2.2.2.1, idx, kd, k) ∈ zAL) (h0 : 0 ≤ n) (h1 : n ≤ 100000) (hn0 : n0 ≤ sh.length) (hz0 : z0 ≤ zSm sh) (hc1 : sh.length - n0 + 1 ≤ R.cells) (hc2 : zSm sh - z0 + n.toNat ≤ R.slots)
    (K : zG p l e R s m args below meth c Q D dA fA qv s0 L xs n0 z0 rs0 x (pc + 3) ls (zR sh.length :: st) (sh ++ [(kd, n.toNat)]) (zclp pp sh.length) (zclr mm sh.length)) : zG p l e R s m args below meth c Q D dA fA qv s0 L xs n0 z0 rs0 x pc ls (zI n :: st) sh pp mm := by
  intro rs H locs lsR hR hp hS hl hlen hol hos
  have hR0 := hR
  obtain ⟨hlen0, hI, hP, hD⟩ := hR
  obtain ⟨hon, hos⟩ := List.forall_mem_cons.mp hos
  have hn : zn32 n := hon
  have hneg : ¬ Int32.ofInt n < 0 := by rw [← zo_0, zo_lt hn zn0]; omega
  have h := zAL_ok _ he
  simp only [zLkA, Bool.and_eq_true, decide_eq_true_eq, zAtW] at h
  obtain ⟨⟨hk1, hk2⟩, hw⟩ := h
  show W p l e R s m args below meth c H locs _ _ Q (F0 m pc lsR (.int (Int32.ofInt n) :: st.map (zVal fA qv rs)))
  have hA : ∀ q, s.heap.size ≤ q → s0 ≤ q := fun q h => Nat.le_trans hC.2.2.2.2.2.2.2.2.1 h
  refine va_newq (C := zCn (zEl kd)) hC.1 hC.2.1 hC.2.2.2.1 (hC.2.2.2.2.1 _ (zMem hw rfl)) (va_AO.of (hC.2.2.2.2.1 _ (zArrO kd (by omega) hk1))) hC.2.2.2.2.2.1 hP hD hS hA (N' := n.toNat) hneg (zo_nat hn) (by omega) hc1 hc2 hd (fun q9 cA H1 hK1 hP1 hD1 hS1 => ?_)
  have ecA := zdA_obj (k := kd) (t0 := kd - 21) hK1 (zTys_ref hk1 hk2)
  subst ecA
  exact znewgo (y := (kd, n.toNat)) hR0 hp hS1 hl hlen hol hos hn0 hz0 (Or.inr ⟨by simp; omega, by show n.toNat ≤ 100000; omega⟩) (by rw [zEn_ref (by rw [(zKd_new sh _).1]; exact hk1), (zKd_new sh _).1, (zKd_new sh _).2]; simp [zclp, zRo]) hP1 hD1 K
theorem z_oinit {r k idx : Nat} (hC : zCx p R s m args meth c D dA fA qv s0 L xs x) (hd : decode x.2.1 pc = .ok (.invokespecial idx, 3)) (he : (x.2.2.2.2.1, idx, k) ∈ zOiL) (hr : r ≠ 0) (hfr : 1 ≤ x.2.2.2.2.2.1) (hlo : 20 ≤ x.2.2.2.2.2.2.1) (hst : (st.map zCat).sum ≤ 8) (K : zG p l e R s m args below meth c Q D dA fA qv s0 L xs n0 z0 rs0 x (pc + 3) ls st sh pp mm) : zG p l e R s m args below meth c Q D dA fA qv s0 L xs n0 z0 rs0 x pc ls (zR r :: st) sh pp mm := by
  intro rs H locs lsR hR hp hS hl hlen hol hos
  obtain ⟨-, hos⟩ := List.forall_mem_cons.mp hos
  have h := zOiL_ok _ he
  simp only [zLkO, decide_eq_true_eq, zAtW] at h
  show W p l e R s m args below meth c H locs _ _ Q (F0 m pc lsR (zVal fA qv rs (zR r) :: st.map (zVal fA qv rs)))
  rw [zRf_ref hr]
  refine W.objInit hC.1 hC.2.1 hC.2.2.2.1 (hC.2.2.2.2.1 _ (zMem h rfl)) (hC.2.2.2.2.1 _ zOiW.1) (hC.2.2.2.2.1 _ zOiW.2) rfl (by rw [hC.2.2.1]; exact hl.1) rfl hd (by have := hC.2.2.2.2.2.2.2.2.2.1; omega) ?_ (K rs H locs lsR hR hp hS hl hlen hol hos)
  rw [zcats (zqv hC) rs st]
  have h2 := hC.2.2.2.2.2.2.2.2.2.2.1
  show 2 * 0 + _ + 12 ≤ _
  omega
end
