/-! ===== arrays, new cells, constants ===== -/
theorem zTys_ref {dA : Nat → ClassId} {k : Nat} (h : 24 ≤ k) (h2 : k ≤ 27) : (zTys dA)[k - 21]? = some (dA k, .object (zCn (zEl k))) := by
  have : k = 24 ∨ k = 25 ∨ k = 26 ∨ k = 27 := by omega
  rcases this with rfl | rfl | rfl | rfl <;> rfl
theorem zcl_el {k : Nat} (h : 24 ≤ k) (h2 : k ≤ 27) : ∃ q : vw_C, vwCl[zEl k]? = some q ∧ q.1 = zCn (zEl k) ∧ zEl k < 13 := by
  have : k = 24 ∨ k = 25 ∨ k = 26 ∨ k = 27 := by omega
  rcases this with rfl | rfl | rfl | rfl <;> exact ⟨_, rfl, rfl, by decide⟩
theorem zEl_iff {k : Nat} (h : zEl k ≠ 98) : 24 ≤ k ∧ k ≤ 27 := by
  unfold zEl at h
  by_cases h1 : k = 24
  · omega
  by_cases h2 : k = 25
  · omega
  by_cases h3 : k = 26
  · omega
  by_cases h4 : k = 27
  · omega
  simp [h1, h2, h3, h4] at h
theorem zS0_c {L a : Nat} (ha : a < 13) : (zKd (zS0 L) a = 30 → 1 ≤ a ∧ a ≤ 4) ∧ (zKd (zS0 L) a = 31 → 5 ≤ a ∧ a ≤ 8) ∧ (zKd (zS0 L) a = 32 → 9 ≤ a ∧ a ≤ 12) ∧ (zKd (zS0 L) a = 30 ∨ zKd (zS0 L) a = 31 ∨ zKd (zS0 L) a = 32 ∨ zKd (zS0 L) a = 99) := by
  have h : a = 0 ∨ a = 1 ∨ a = 2 ∨ a = 3 ∨ a = 4 ∨ a = 5 ∨ a = 6 ∨ a = 7 ∨ a = 8 ∨ a = 9 ∨ a = 10 ∨ a = 11 ∨ a = 12 := by omega
  rcases h with rfl | rfl | rfl | rfl | rfl | rfl | rfl | rfl | rfl | rfl | rfl | rfl | rfl <;> simp [zKd, zS0]
theorem zupd_fun {mm : zMm} {a : Nat} {i v : Int} (hi : 0 ≤ i) : (fun j : Nat => Int32.ofInt (zupd mm a i v a (j : Int))) = upd (fun j : Nat => Int32.ofInt (mm a (j : Int))) i.toNat (Int32.ofInt v) := by
  funext j
  unfold upd
  by_cases h : j = i.toNat
  · rw [if_pos h, show (j : Int) = i by omega, zupd_eq]
  · rw [if_neg h, zupd_ni (by omega)]
section
variable {p : Program} {l : Launch} {e : Env} {R : Room} {s : State} {m : MethodId} {args : Array Value} {below : List Frame} {meth : Method} {c : Code} {Q : State → Prop} {D : va_G} {dA : Nat → ClassId} {fA : Nat → Nat} {qv : Value} {s0 L : Nat} {xs : Nat → Int32} {n0 z0 : Nat} {rs0 : List Nat} {x : zMI}
variable {pc nx : Nat} {ls ls1 st st1 : List zV} {sh sh1 : zSh} {pp pp1 : zPp} {mm mm1 : zMm} {fr : Nat}
/-- an array of numbers is read: ints or booleans of our own -/
theorem z_ald {r k t0 : Nat} {i : Int} (hk : zKd sh r = k) (hk2 : k = 20 ∨ k = 22) (h0 : 0 ≤ i) (h1 : i < zLn sh r)
    (row : ∀ {H : Heap} {locs : List Loc} {kc nc : Nat} {lsR : Array Slot} {rest : List Value} {ws : va_W} {a q0 n : Nat} {f : Nat → Int32} {I : Int32}, va_P D vwCl ws H → ws[q0]? = some (a, .inl (dA k, n, .inl f)) → vp_in I n → W p l e R s m args below meth c H locs kc nc Q (F0 m (pc + 1) lsR (.int (f I.toNatClampNeg) :: rest)) → W p l e R s m args below meth c H locs kc nc Q (F0 m pc lsR (.int I :: .ref a :: rest)))
    (K : zG p l e R s m args below meth c Q D dA fA qv s0 L xs n0 z0 rs0 x (pc + 1) ls (zI (mm r i) :: st) sh pp mm) : zG p l e R s m args below meth c Q D dA fA qv s0 L xs n0 z0 rs0 x pc ls (zI i :: zR r :: st) sh pp mm := by
  intro rs H locs lsR hR hp hS hl hlen hol hos
  obtain ⟨hlen0, hI, hP, hD⟩ := hR
  obtain ⟨hoi, hos⟩ := List.forall_mem_cons.mp hos
  obtain ⟨-, hos⟩ := List.forall_mem_cons.mp hos
  obtain ⟨h13, hlt⟩ := zHI_hi (a := r) hI (by omega)
  have hn : zn32 i := hoi
  rw [zLn_Le] at h1
  have k1 := K rs H locs lsR ⟨hlen0, hI, hP, hD⟩ hp hS hl hlen hol (List.forall_mem_cons.mpr ⟨(zRg_n _ _ (by omega)).mp (hI.2.2.2.2.2 r i), hos⟩)
  show W p l e R s m args below meth c H locs _ _ Q (F0 m pc lsR (.int (Int32.ofInt i) :: zVal fA qv rs (zR r) :: st.map (zVal fA qv rs)))
  rw [zRf_ref (show r ≠ 0 by omega)]
  refine row (q0 := r - 13) (n := zLe sh r) (f := fun j => Int32.ofInt (mm r (j : Int))) hP (by rw [zW_get h13 (by omega), zEn_int (by omega), hk]) (zo_in hn h0 h1) ?_
  have e9 : Int32.ofInt (mm r ((Int32.ofInt i).toNatClampNeg : Int)) = Int32.ofInt (mm r i) := by rw [zo_nat hn, Int.toNat_of_nonneg h0]
  show W p l e R s m args below meth c H locs _ _ Q (F0 m (pc + 1) lsR (.int (Int32.ofInt (mm r ((Int32.ofInt i).toNatClampNeg : Int))) :: st.map (zVal fA qv rs)))
  rw [e9]
  exact k1
/-- a constant array is read -/
theorem z_aldC {r : Nat} {i : Int} {n : Nat} {F : Nat → Value} {ty : FieldType} (hr : r < 13) (hr1 : r ≠ 0) (hT : va_T ty (fA r) n F (fun q => s0 ≤ q) s s.heap) (hn : zLe (zS0 L) r = n) (hF : ∀ j : Nat, j < n → F j = .int (Int32.ofInt (zM0 xs r (j : Int)))) (h0 : 0 ≤ i) (h1 : i < zLn sh r)
    (row : ∀ {H : Heap} {locs : List Loc} {kc nc : Nat} {lsR : Array Slot} {rest : List Value} {I : Int32} {v : Value}, va_S (fun q => s0 ≤ q) s.heap H locs → vp_in I n → F I.toNatClampNeg = v → W p l e R s m args below meth c H locs kc nc Q (F0 m (pc + 1) lsR (v :: rest)) → W p l e R s m args below meth c H locs kc nc Q (F0 m pc lsR (.int I :: .ref (fA r) :: rest)))
    (K : zG p l e R s m args below meth c Q D dA fA qv s0 L xs n0 z0 rs0 x (pc + 1) ls (zI (mm r i) :: st) sh pp mm) : zG p l e R s m args below meth c Q D dA fA qv s0 L xs n0 z0 rs0 x pc ls (zI i :: zR r :: st) sh pp mm := by
  intro rs H locs lsR hR hp hS hl hlen hol hos
  have hI := hR.2.1
  obtain ⟨hoi, hos⟩ := List.forall_mem_cons.mp hos
  obtain ⟨-, hos⟩ := List.forall_mem_cons.mp hos
  have hn32 : zn32 i := hoi
  rw [zLn_Le, (zHI_kd hI hr).2, hn] at h1
  have hkd : zKd sh r ≠ 21 := by
    have h2 := zS0_kd (L := L) r hr
    rw [(zHI_kd hI hr).1]; omega
  have k1 := K rs H locs lsR hR hp hS hl hlen hol (List.forall_mem_cons.mpr ⟨(zRg_n _ _ hkd).mp (hI.2.2.2.2.2 r i), hos⟩)
  show W p l e R s m args below meth c H locs _ _ Q (F0 m pc lsR (.int (Int32.ofInt i) :: zVal fA qv rs (zR r) :: st.map (zVal fA qv rs)))
  rw [zRf_ref hr1, show zAd fA rs r = fA r by unfold zAd; rw [if_pos hr]]
  refine row hS (zo_in hn32 h0 h1) (v := .int (Int32.ofInt (mm r i))) ?_ k1
  rw [zo_nat hn32, hF _ (by omega), Int.toNat_of_nonneg h0, (hI.2.2.1 r hr i h0).1]
theorem z_aldL {r : Nat} {i : Int} (hC : zCx p R s m args meth c D dA fA qv s0 L xs x) (hd : decode x.2.1 pc = .ok (.laload, 1)) (hk : zKd sh r = 21) (h0 : 0 ≤ i) (h1 : i < zLn sh r) (K : zG p l e R s m args below meth c Q D dA fA qv s0 L xs n0 z0 rs0 x (pc + 1) ls (zL (mm r i) :: st) sh pp mm) : zG p l e R s m args below meth c Q D dA fA qv s0 L xs n0 z0 rs0 x pc ls (zI i :: zR r :: st) sh pp mm := by
  intro rs H locs lsR hR hp hS hl hlen hol hos
  obtain ⟨hlen0, hI, hP, hD⟩ := hR
  obtain ⟨hoi, hos⟩ := List.forall_mem_cons.mp hos
  obtain ⟨-, hos⟩ := List.forall_mem_cons.mp hos
  obtain ⟨h13, hlt⟩ := zHI_hi (a := r) hI (by omega)
  have hn : zn32 i := hoi
  rw [zLn_Le] at h1
  have hrg := hI.2.2.2.2.2 r i
  unfold zRg at hrg
  rw [if_pos hk] at hrg
  have k1 := K rs H locs lsR ⟨hlen0, hI, hP, hD⟩ hp hS hl hlen hol (List.forall_mem_cons.mpr ⟨hrg, hos⟩)
  show W p l e R s m args below meth c H locs _ _ Q (F0 m pc lsR (.int (Int32.ofInt i) :: zVal fA qv rs (zR r) :: st.map (zVal fA qv rs)))
  rw [zRf_ref (show r ≠ 0 by omega)]
  refine va_lald hC.1 hC.2.1 hC.2.2.2.2.2.1 hP (r - 13) 1 (n := zLe sh r) (f := fun j => Int64.ofInt (mm r (j : Int))) (by rw [zW_get h13 (by omega), zEn_lng hk]) rfl (zo_in hn h0 h1) hd ?_
  have e9 : Int64.ofInt (mm r ((Int32.ofInt i).toNatClampNeg : Int)) = Int64.ofInt (mm r i) := by rw [zo_nat hn, Int.toNat_of_nonneg h0]
  show W p l e R s m args below meth c H locs _ _ Q (F0 m (pc + 1) lsR (.long (Int64.ofInt (mm r ((Int32.ofInt i).toNatClampNeg : Int))) :: st.map (zVal fA qv rs)))
  rw [e9]
  exact k1
theorem z_aldR {r : Nat} {i : Int} (hC : zCx p R s m args meth c D dA fA qv s0 L xs x) (hd : decode x.2.1 pc = .ok (.aaload, 1)) (hk : zEl (zKd sh r) ≠ 98) (h0 : 0 ≤ i) (h1 : i < zLn sh r) (K : zG p l e R s m args below meth c Q D dA fA qv s0 L xs n0 z0 rs0 x (pc + 1) ls (zR (pp r i) :: st) sh pp mm) : zG p l e R s m args below meth c Q D dA fA qv s0 L xs n0 z0 rs0 x pc ls (zI i :: zR r :: st) sh pp mm := by
  intro rs H locs lsR hR hp hS hl hlen hol hos
  obtain ⟨hlen0, hI, hP, hD⟩ := hR
  obtain ⟨hoi, hos⟩ := List.forall_mem_cons.mp hos
  obtain ⟨-, hos⟩ := List.forall_mem_cons.mp hos
  obtain ⟨hk1, hk2⟩ := zEl_iff hk
  obtain ⟨h13, hlt⟩ := zHI_hi (a := r) hI (by omega)
  have hn : zn32 i := hoi
  rw [zLn_Le] at h1
  have k1 := K rs H locs lsR ⟨hlen0, hI, hP, hD⟩ hp hS hl hlen hol (List.forall_mem_cons.mpr ⟨hI.2.2.2.2.1 r i, hos⟩)
  show W p l e R s m args below meth c H locs _ _ Q (F0 m pc lsR (.int (Int32.ofInt i) :: zVal fA qv rs (zR r) :: st.map (zVal fA qv rs)))
  rw [zRf_ref (show r ≠ 0 by omega)]
  refine va_aldq hC.1 hC.2.1 hC.2.2.2.2.2.1 hP (r - 13) (zKd sh r - 21) (n := zLe sh r) (f := fun j => zRo fA rs (pp r (j : Int))) (by rw [zW_get h13 (by omega), zEn_ref hk1]) (zTys_ref hk1 hk2) (zo_in hn h0 h1) hd ?_
  have e9 : zRo fA rs (pp r ((Int32.ofInt i).toNatClampNeg : Int)) = zRo fA rs (pp r i) := by rw [zo_nat hn, Int.toNat_of_nonneg h0]
  show W p l e R s m args below meth c H locs _ _ Q (F0 m (pc + 1) lsR (va_rf (zRo fA rs (pp r ((Int32.ofInt i).toNatClampNeg : Int))) :: st.map (zVal fA qv rs)))
  rw [e9]
  exact k1
/-- a number is stored in an array: ints or booleans -/
theorem z_ast {r k : Nat} {i v : Int} (hk : zKd sh r = k) (hk2 : k = 20 ∨ k = 22) (h0 : 0 ≤ i) (h1 : i < zLn sh r)
    (row : ∀ {H : Heap} {locs : List Loc} {kc nc : Nat} {lsR : Array Slot} {rest : List Value} {ws : va_W} {a q0 n : Nat} {f : Nat → Int32} {I : Int32}, va_P D vwCl ws H → va_D (fun q => s0 ≤ q) ws → va_S (fun q => s0 ≤ q) s.heap H locs → ws[q0]? = some (a, .inl (dA k, n, .inl f)) → vp_in I n → (∀ (H1 : Heap) (locs1 : List Loc), va_P D vwCl (ws.set q0 (a, .inl (dA k, n, .inl (upd f I.toNatClampNeg (Int32.ofInt v))))) H1 → va_D (fun q => s0 ≤ q) (ws.set q0 (a, .inl (dA k, n, .inl (upd f I.toNatClampNeg (Int32.ofInt v))))) → va_S (fun q => s0 ≤ q) s.heap H1 locs1 → W p l e R s m args below meth c H1 locs1 kc nc Q (F0 m (pc + 1) lsR rest)) → W p l e R s m args below meth c H locs kc nc Q (F0 m pc lsR (.int (Int32.ofInt v) :: .int I :: .ref a :: rest)))
    (K : zG p l e R s m args below meth c Q D dA fA qv s0 L xs n0 z0 rs0 x (pc + 1) ls st sh pp (zupd mm r i v)) : zG p l e R s m args below meth c Q D dA fA qv s0 L xs n0 z0 rs0 x pc ls (zI v :: zI i :: zR r :: st) sh pp mm := by
  intro rs H locs lsR hR hp hS hl hlen hol hos
  have hR0 := hR
  obtain ⟨hlen0, hI, hP, hD⟩ := hR
  obtain ⟨hov, hos⟩ := List.forall_mem_cons.mp hos
  obtain ⟨hoi, hos⟩ := List.forall_mem_cons.mp hos
  obtain ⟨-, hos⟩ := List.forall_mem_cons.mp hos
  obtain ⟨h13, hlt⟩ := zHI_hi (a := r) hI (by omega)
  have hn : zn32 i := hoi
  rw [zLn_Le] at h1
  show W p l e R s m args below meth c H locs _ _ Q (F0 m pc lsR (.int (Int32.ofInt v) :: .int (Int32.ofInt i) :: zVal fA qv rs (zR r) :: st.map (zVal fA qv rs)))
  rw [zRf_ref (show r ≠ 0 by omega)]
  refine row (q0 := r - 13) (n := zLe sh r) (f := fun j => Int32.ofInt (mm r (j : Int))) hP hD hS (by rw [zW_get h13 (by omega), zEn_int (by omega), hk]) (zo_in hn h0 h1) (fun H1 locs1 hP1 hD1 hS1 => ?_)
  refine K rs H1 locs1 lsR (zRl_upd hR0 h13 ((zRg_n _ _ (by omega)).mpr hov) ?_ hP1 hD1 hlt) hp hS1 hl hlen hol hos
  rw [zEn_int (by omega), hk, zupd_fun h0, zo_nat hn]
theorem z_astL {r : Nat} {i v : Int} (hC : zCx p R s m args meth c D dA fA qv s0 L xs x) (hd : decode x.2.1 pc = .ok (.lastore, 1)) (hk : zKd sh r = 21) (h0 : 0 ≤ i) (h1 : i < zLn sh r) (K : zG p l e R s m args below meth c Q D dA fA qv s0 L xs n0 z0 rs0 x (pc + 1) ls st sh pp (zupd mm r i v)) : zG p l e R s m args below meth c Q D dA fA qv s0 L xs n0 z0 rs0 x pc ls (zL v :: zI i :: zR r :: st) sh pp mm := by
  intro rs H locs lsR hR hp hS hl hlen hol hos
  have hR0 := hR
  obtain ⟨hlen0, hI, hP, hD⟩ := hR
  obtain ⟨hov, hos⟩ := List.forall_mem_cons.mp hos
  obtain ⟨hoi, hos⟩ := List.forall_mem_cons.mp hos
  obtain ⟨-, hos⟩ := List.forall_mem_cons.mp hos
  obtain ⟨h13, hlt⟩ := zHI_hi (a := r) hI (by omega)
  have hn : zn32 i := hoi
  have hv : zn64 v := hov
  rw [zLn_Le] at h1
  show W p l e R s m args below meth c H locs _ _ Q (F0 m pc lsR (.long (Int64.ofInt v) :: .int (Int32.ofInt i) :: zVal fA qv rs (zR r) :: st.map (zVal fA qv rs)))
  rw [zRf_ref (show r ≠ 0 by omega)]
  refine va_last hC.1 hC.2.1 hC.2.2.2.2.2.1 hP hD hS (r - 13) 1 (n := zLe sh r) (f := fun j => Int64.ofInt (mm r (j : Int))) (by rw [zW_get h13 (by omega), zEn_lng hk]) rfl (zo_in hn h0 h1) hd (fun H1 locs1 hP1 hD1 hS1 => ?_)
  refine K rs H1 locs1 lsR (zRl_upd hR0 h13 (by unfold zRg; rw [if_pos hk]; exact hv) ?_ hP1 hD1 hlt) hp hS1 hl hlen hol hos
  rw [zEn_lng hk]
  congr 5
  funext j
  rw [zo_nat hn]
  unfold vp_updL
  by_cases h : j = i.toNat
  · rw [if_pos h, show (j : Int) = i by omega, zupd_eq]
  · rw [if_neg h, zupd_ni (by omega)]
theorem z_astR {r a : Nat} {i : Int} (hC : zCx p R s m args meth c D dA fA qv s0 L xs x) (hd : decode x.2.1 pc = .ok (.aastore, 1)) (hk : zEl (zKd sh r) ≠ 98) (hka : zKd sh a = zEl (zKd sh r)) (h0 : 0 ≤ i) (h1 : i < zLn sh r) (K : zG p l e R s m args below meth c Q D dA fA qv s0 L xs n0 z0 rs0 x (pc + 1) ls st sh (zupp pp r i a) mm) : zG p l e R s m args below meth c Q D dA fA qv s0 L xs n0 z0 rs0 x pc ls (zR a :: zI i :: zR r :: st) sh pp mm := by
  intro rs H locs lsR hR hp hS hl hlen hol hos
  have hR0 := hR
  obtain ⟨hlen0, hI, hP, hD⟩ := hR
  obtain ⟨hov, hos⟩ := List.forall_mem_cons.mp hos
  obtain ⟨hoi, hos⟩ := List.forall_mem_cons.mp hos
  obtain ⟨-, hos⟩ := List.forall_mem_cons.mp hos
  obtain ⟨hk1, hk2⟩ := zEl_iff hk
  obtain ⟨h13, hlt⟩ := zHI_hi (a := r) hI (by omega)
  obtain ⟨q, hq, hq1, hq2⟩ := zcl_el hk1 hk2
  obtain ⟨a13, alt⟩ := zHI_hi (a := a) hI (by omega)
  have hn : zn32 i := hoi
  rw [zLn_Le] at h1
  show W p l e R s m args below meth c H locs _ _ Q (F0 m pc lsR (zVal fA qv rs (zR a) :: .int (Int32.ofInt i) :: zVal fA qv rs (zR r) :: st.map (zVal fA qv rs)))
  rw [zRf_ref (show r ≠ 0 by omega), zRf_ref (show a ≠ 0 by omega)]
  refine va_astq hC.1 hC.2.1 hC.2.2.2.2.2.1 hP hD hS (r - 13) (zKd sh r - 21) (a - 13) (zEl (zKd sh r)) (r := q) (n := zLe sh r) (vs := zFs fA rs (zFT.getD (zKd sh a) []) pp mm a) (f := fun j => zRo fA rs (pp r (j : Int))) (by rw [zW_get h13 (by omega), zEn_ref hk1]) (by rw [hq1]; exact zTys_ref hk1 hk2) (by rw [zW_get a13 (by omega), zEn_obj (by omega), hka]) hq (zo_in hn h0 h1) hd (fun H1 locs1 hP1 hD1 hS1 => ?_)
  refine K rs H1 locs1 lsR (zRl_upp hR0 h13 alt ?_ hP1 hD1 hlt) hp hS1 hl hlen hol hos
  rw [zEn_ref hk1]
  congr 7
  funext j
  rw [zo_nat hn]
  unfold va_up
  by_cases h : j = i.toNat
  · rw [if_pos h, show (j : Int) = i by omega, zupp_eq]
    unfold zRo
    rw [if_neg (by omega)]
  · rw [if_neg h, zupp_ni (by omega)]
theorem z_len {r : Nat} (hC : zCx p R s m args meth c D dA fA qv s0 L xs x) (hd : decode x.2.1 pc = .ok (.arraylength, 1)) (hk : 20 ≤ zKd sh r) (hk2 : zKd sh r < 50) (hk3 : zKd sh r ≠ 31) (K : zG p l e R s m args below meth c Q D dA fA qv s0 L xs n0 z0 rs0 x (pc + 1) ls (zI (zLn sh r) :: st) sh pp mm) : zG p l e R s m args below meth c Q D dA fA qv s0 L xs n0 z0 rs0 x pc ls (zR r :: st) sh pp mm := by
  intro rs H locs lsR hR hp hS hl hlen hol hos
  obtain ⟨hlen0, hI, hP, hD⟩ := hR
  obtain ⟨-, hos⟩ := List.forall_mem_cons.mp hos
  by_cases hlow : zKd sh r < 30
  · obtain ⟨h13, hlt⟩ := zHI_hi (a := r) hI hlow
    have hok := zHI_ok hI hlow
    unfold zKok at hok
    dsimp only at hok
    have hb : zLe sh r ≤ 100000 := by omega
    have k1 := K rs H locs lsR ⟨hlen0, hI, hP, hD⟩ hp hS hl hlen hol (List.forall_mem_cons.mpr ⟨show zn32 (zLn sh r) by rw [zLn_Le]; exact ⟨by omega, by omega⟩, hos⟩)
    show W p l e R s m args below meth c H locs _ _ Q (F0 m pc lsR (zVal fA qv rs (zR r) :: st.map (zVal fA qv rs)))
    rw [zRf_ref (show r ≠ 0 by omega)]
    have hv : Int32.ofNat (zLe sh r) = Int32.ofInt (zLn sh r) := by rw [zLn_Le, zo_ofNat]
    have hk4 : zKd sh r = 20 ∨ zKd sh r = 21 ∨ zKd sh r = 22 ∨ (24 ≤ zKd sh r ∧ zKd sh r ≤ 27) := by omega
    rcases hk4 with h | h | h | ⟨h, h'⟩
    · exact va_alen hC.1 hC.2.1 hC.2.2.2.2.2.1 hP (r - 13) 0 (by rw [zW_get h13 (by omega), zEn_int (by omega), h]) rfl hv hd k1
    · exact va_alen hC.1 hC.2.1 hC.2.2.2.2.2.1 hP (r - 13) 1 (by rw [zW_get h13 (by omega), zEn_lng h]) rfl hv hd k1
    · exact va_alen hC.1 hC.2.1 hC.2.2.2.2.2.1 hP (r - 13) 2 (by rw [zW_get h13 (by omega), zEn_int (by omega), h]) rfl hv hd k1
    · exact va_alen hC.1 hC.2.1 hC.2.2.2.2.2.1 hP (r - 13) (zKd sh r - 21) (by rw [zW_get h13 (by omega), zEn_ref h]) (zTys_ref h h') hv hd k1
  · have hr := zHI_lo (a := r) hI (by omega) (by omega)
    have hkk := zHI_kd hI hr
    have hc := zS0_c (L := L) hr
    rw [← hkk.1] at hc
    have hL : L ≤ 2560 := hC.2.2.2.2.2.2.2.2.2.2.2
    have hb : zLe (zS0 L) r ≤ 2560 := by
      have h : r = 0 ∨ r = 1 ∨ r = 2 ∨ r = 3 ∨ r = 4 ∨ r = 5 ∨ r = 6 ∨ r = 7 ∨ r = 8 ∨ r = 9 ∨ r = 10 ∨ r = 11 ∨ r = 12 := by omega
      rcases h with rfl | rfl | rfl | rfl | rfl | rfl | rfl | rfl | rfl | rfl | rfl | rfl | rfl <;> (simp [zLe, zS0]; try exact hL)
    have k1 := K rs H locs lsR ⟨hlen0, hI, hP, hD⟩ hp hS hl hlen hol (List.forall_mem_cons.mpr ⟨show zn32 (zLn sh r) by rw [zLn_Le, hkk.2]; exact ⟨by omega, by omega⟩, hos⟩)
    show W p l e R s m args below meth c H locs _ _ Q (F0 m pc lsR (zVal fA qv rs (zR r) :: st.map (zVal fA qv rs)))
    rw [zRf_ref (show r ≠ 0 by omega), show zAd fA rs r = fA r by unfold zAd; rw [if_pos hr]]
    have hv : Int32.ofNat (zLe (zS0 L) r) = Int32.ofInt (zLn sh r) := by rw [zLn_Le, hkk.2, zo_ofNat]
    obtain ⟨hT, hSt, -⟩ := hC.2.2.2.2.2.2.1
    have hk4 : zKd sh r = 30 ∨ zKd sh r = 32 := by omega
    rcases hk4 with h | h
    · have h2 := hc.1 h
      exact va_tlen hC.1 hC.2.1 (hT r h2.1 h2.2) hS hv hd k1
    · have h2 := hc.2.2.1 h
      obtain ⟨-, -, -, hB⟩ := hSt.1 (r - 9) (by omega)
      have e : [4, 5, 4, 3].getD (r - 9) 0 = zLe (zS0 L) r := by
        have h : r = 9 ∨ r = 10 ∨ r = 11 ∨ r = 12 := by omega
        rcases h with rfl | rfl | rfl | rfl <;> rfl
      rw [e] at hB
      dsimp only at hB
      rw [show 9 + (r - 9) = r by omega] at hB
      exact va_tlen hC.1 hC.2.1 hB hS hv hd k1
end
