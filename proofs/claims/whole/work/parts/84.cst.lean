/-! ===== copies, strings, statics ===== -/
section
variable {p : Program} {l : Launch} {e : Env} {R : Room} {s : State} {m : MethodId} {args : Array Value} {below : List Frame} {meth : Method} {c : Code} {Q : State → Prop} {D : va_G} {dA : Nat → ClassId} {fA : Nat → Nat} {qv : Value} {s0 L : Nat} {xs : Nat → Int32} {n0 z0 : Nat} {rs0 : List Nat} {x : zMI}
variable {pc nx : Nat} {ls ls1 st st1 : List zV} {sh sh1 : zSh} {pp pp1 : zPp} {mm mm1 : zMm} {fr : Nat}
theorem zcpy_fun {s1 d : Nat} {sp dp n : Int} (hsp : 0 ≤ sp) (hdp : 0 ≤ dp) (hn : 0 ≤ n) (F : Nat → Int32) (hF : ∀ j : Nat, (j : Int) < sp + n → F j = Int32.ofInt (mm s1 (j : Int))) : (fun j : Nat => Int32.ofInt (zcpy mm s1 sp d dp n d (j : Int))) = va_cpy F (fun j : Nat => Int32.ofInt (mm d (j : Int))) sp.toNat dp.toNat n.toNat := by
  funext j
  unfold va_cpy zcpy
  by_cases h : dp ≤ (j : Int) ∧ (j : Int) < dp + n
  · rw [if_pos ⟨rfl, h.1, h.2⟩, if_pos (by omega), hF _ (by omega)]
    congr 2
    omega
  · rw [if_neg (by intro h2; exact h h2.2), if_neg (by omega)]
theorem zHI_cpy {s1 d : Nat} {sp dp n : Int} (h : zHI L xs sh pp mm) (hd : 13 ≤ d) (hk : zKd sh d ≠ 21) (hs : zKd sh s1 ≠ 21) : zHI L xs sh pp (zcpy mm s1 sp d dp n) := by
  refine ⟨h.1, h.2.1, fun b hb j hj => ?_, h.2.2.2.1, h.2.2.2.2.1, fun b j => ?_⟩
  · have e : zcpy mm s1 sp d dp n b j = mm b j := by unfold zcpy; rw [if_neg (by omega)]
    rw [e]
    exact h.2.2.1 b hb j hj
  · unfold zcpy
    split
    · rename_i e1
      rw [e1.1, zRg_n _ _ hk]
      exact (zRg_n _ _ hs).mp (h.2.2.2.2.2 s1 _)
    · exact h.2.2.2.2.2 b j
/-- arraycopy from a constant array of ints to one of ours -/
theorem zcopyT {H : Heap} {locs : List Loc} {kc nc : Nat} {lsR : Array Slot} {rest : List Value} {own : String} {index b0 N0 : Nat} {f : Nat → Int32} {ws : va_W} {a q1 : Nat} {c1 : ClassId} {n1 : Nat} {g : Nat → Int32} {tys : List (ClassId × FieldType)} {t1 : Nat} {SP DP NN : Int32} (hexec : p.tables.exec = Jvm.exec) (hml : c.maxLocals = lsR.size) (hown : s.vm.findClass own = some m.cls) (hlink : (Cond.methodLink own index arraycopyName).before args s = true) (hnat : (Cond.native arraycopyName).before args s = true) (hstat : (Cond.static arraycopyName).before args s = true) (hini : (Cond.initialized "java/lang/System").before args s = true)
    (hK : va_K D vwCl tys s) (hP : va_P D vwCl ws H) (hD : va_D (fun q => s0 ≤ q) ws) (hS : va_S (fun q => s0 ≤ q) s.heap H locs) (hT : va_T .int b0 N0 (fun j => .int (f j)) (fun q => s0 ≤ q) s s.heap) (ha1 : ws[q1]? = some (a, .inl (c1, n1, .inl g))) (ht1 : tys[t1]? = some (c1, .int)) (h1 : ¬ SP < 0) (h2 : ¬ DP < 0) (h3 : ¬ NN < 0) (h4 : SP.toNatClampNeg + NN.toNatClampNeg ≤ N0) (h5 : DP.toNatClampNeg + NN.toNatClampNeg ≤ n1)
    (hframes : 1 ≤ R.frames) (hlocals : (rest.map fun v => v.category).sum + (nativeFrameWords "java/lang/System" "arraycopy" 5 + 11) ≤ R.locals) (hdg : decode c.code pc = .ok (.invokestatic index, 3))
    (kk : ∀ (H1 : Heap) (locs1 : List Loc), va_P D vwCl (ws.set q1 (a, .inl (c1, n1, .inl (va_cpy f g SP.toNatClampNeg DP.toNatClampNeg NN.toNatClampNeg)))) H1 → va_D (fun q => s0 ≤ q) (ws.set q1 (a, .inl (c1, n1, .inl (va_cpy f g SP.toNatClampNeg DP.toNatClampNeg NN.toNatClampNeg)))) → va_S (fun q => s0 ≤ q) s.heap H1 locs1 → W p l e R s m args below meth c H1 locs1 kc nc Q (F0 m (pc + 3) lsR rest)) :
    W p l e R s m args below meth c H locs kc nc Q (F0 m pc lsR (.int NN :: .int DP :: .ref a :: .int SP :: .ref b0 :: rest)) := by
  have nn : ∀ z : Int32, ¬ z < 0 → z.toInt = (z.toNatClampNeg : Int) := fun z hz => by
    have hz0 : (0 : Int) ≤ z.toInt := by
      have h := mt Int32.lt_iff_toInt_lt.mpr hz
      rw [show (0 : Int32).toInt = 0 from rfl] at h
      omega
    show z.toInt = ((z.toInt.toNat : Nat) : Int)
    omega
  obtain ⟨scr, hs1, ⟨hs6, k0, hk0, cm0, hkk0⟩, hs3, hs4, -, hs5, hs7⟩ := hT
  have hc0 : H[b0]? = some scr := (hS.2.1 b0 (Array.getElem?_eq_some_iff.mp hs1).1 hs7).trans hs1
  have hc1 : H[a]? = some (vp_cell c1 (n1, .inl g)) := hP q1 _ ha1
  have hal : a < H.size := (Array.getElem?_eq_some_iff.mp hc1).1
  obtain ⟨-, k1, hk1, cm1, hkk1⟩ := (hK.2 t1 _ ht1).1 n1 (fun j => .int (g j))
  have hcop : copied scr (vp_cell c1 (n1, .inl g)) SP DP NN = vp_cell c1 (n1, .inl (va_cpy f g SP.toNatClampNeg DP.toNatClampNeg NN.toNatClampNeg)) := va_copiedX (fun z => .int z) scr c1 f g hs5 h4
  intro T hTH X
  subst hTH
  have hsrc : ∀ i, i < NN.toNatClampNeg → scr.slots.getD (SP.toNatClampNeg + i) .null = .int (f (SP.toNatClampNeg + i)) := fun i hi => by
    rw [Array.getD_eq_getD_getElem?, hs5 _ (by omega)]
    rfl
  obtain ⟨vm', X', step⟩ := X.arraycopy hexec hown hlink hnat hstat hini (src := b0) (dst := a) (cs := scr) (cd := vp_cell c1 (n1, .inl g)) (srcPos := SP) (destPos := DP) (n := NN) hc0 hc1
    hs6 (fun _ h => by cases h) hs3 (fun h => by cases h) hk0 hk1 hkk0 hkk1 (by simp [refKind]) h1 h2 h3
    (by rw [nn SP h1, nn NN h3]; omega)
    (by rw [nn DP h2, nn NN h3]; show ¬ _ > ((arrV c1 n1 (fun j => .int (g j))).slots.size : Int); rw [arrV_size]; omega)
    (fun vm₁ _ i hi => ⟨by rw [hsrc i hi]; rfl, by rw [hsrc i hi]; exact trivial⟩)
    (g := F0 m pc lsR (.int NN :: .int DP :: .ref a :: .int SP :: .ref b0 :: rest)) rfl hml.symm (rest := rest) rfl hdg hframes (by show 2 * 0 + _ + _ ≤ _; omega)
  rw [hcop] at X' step
  have oq : ∀ q : Nat, q ≠ a → (T.heap.setIfInBounds a (vp_cell c1 (n1, .inl (va_cpy f g SP.toNatClampNeg DP.toNatClampNeg NN.toNatClampNeg))))[q]? = T.heap[q]? := fun q hq => Array.getElem?_setIfInBounds_ne (Ne.symm hq)
  have hself : (T.heap.setIfInBounds a (vp_cell c1 (n1, .inl (va_cpy f g SP.toNatClampNeg DP.toNatClampNeg NN.toNatClampNeg))))[a]? = some (vp_cell c1 (n1, .inl (va_cpy f g SP.toNatClampNeg DP.toNatClampNeg NN.toNatClampNeg))) := by simp [hal]
  obtain ⟨t, a1, b1⟩ := kk (T.heap.setIfInBounds a (vp_cell c1 (n1, .inl (va_cpy f g SP.toNatClampNeg DP.toNatClampNeg NN.toNatClampNeg)))) _ (hP.set hD ha1 hself oq) (hD.set ha1) ⟨by rw [Array.size_setIfInBounds]; exact hS.1, fun q g1 g2 => (oq q (fun e1 => g2 (e1 ▸ hD.2 q1 _ ha1))).trans (hS.2.1 q g1 g2), fun q hq => by
      rcases List.mem_append.mp hq with h | h
      · exact hS.2.2 q h
      · obtain ⟨z, -, hz⟩ := List.mem_map.mp h
        rw [← hz]
        exact hD.2 q1 _ ha1⟩ ((T.setVm vm').setCell a (vp_cell c1 (n1, .inl (va_cpy f g SP.toNatClampNeg DP.toNatClampNeg NN.toNatClampNeg)))) rfl X'
  exact ⟨t, step t a1, b1⟩
theorem z_copy {s1 d k idx : Nat} {sp dp n : Int} (hC : zCx p R s m args meth c D dA fA qv s0 L xs x) (hd : decode x.2.1 pc = .ok (.invokestatic idx, 3)) (he : (x.2.2.2.2.1, idx, k) ∈ zCpL) (hks : zKd sh s1 = 20 ∨ zKd sh s1 = 30) (hkd : zKd sh d = 20) (hne : s1 ≠ d) (h0 : 0 ≤ sp) (h1 : 0 ≤ dp) (h2 : 0 ≤ n) (h3 : sp + n ≤ zLn sh s1) (h4 : dp + n ≤ zLn sh d) (hst : (st.map zCat).sum ≤ 8) (hfr : 1 ≤ x.2.2.2.2.2.1) (hlo : 26 ≤ x.2.2.2.2.2.2.1)
    (K : zG p l e R s m args below meth c Q D dA fA qv s0 L xs n0 z0 rs0 x (pc + 3) ls st sh pp (zcpy mm s1 sp d dp n)) : zG p l e R s m args below meth c Q D dA fA qv s0 L xs n0 z0 rs0 x pc ls (zI n :: zI dp :: zR d :: zI sp :: zR s1 :: st) sh pp mm := by
  intro rs H locs lsR hR hp hS hl hlen hol hos
  have hR0 := hR
  obtain ⟨hlen0, hI, hP, hD⟩ := hR
  obtain ⟨o1, hos⟩ := List.forall_mem_cons.mp hos
  obtain ⟨o2, hos⟩ := List.forall_mem_cons.mp hos
  obtain ⟨-, hos⟩ := List.forall_mem_cons.mp hos
  obtain ⟨o3, hos⟩ := List.forall_mem_cons.mp hos
  obtain ⟨-, hos⟩ := List.forall_mem_cons.mp hos
  have n1 : zn32 n := o1
  have n2 : zn32 dp := o2
  have n3 : zn32 sp := o3
  have h := zCpL_ok _ he
  simp only [zLkP, decide_eq_true_eq, zAtW] at h
  obtain ⟨d13, dlt⟩ := zHI_hi (a := d) hI (by omega)
  rw [zLn_Le] at h3 h4
  have hfr2 : 1 ≤ R.frames := by have := hC.2.2.2.2.2.2.2.2.2.1; omega
  have hlo2 : ((st.map (zVal fA qv rs)).map fun v => v.category).sum + (nativeFrameWords "java/lang/System" "arraycopy" 5 + 11) ≤ R.locals := by
    rw [zcats (zqv hC) rs st]
    have h6 := hC.2.2.2.2.2.2.2.2.2.2.1
    have h7 : nativeFrameWords "java/lang/System" "arraycopy" 5 ≤ 7 := by decide
    omega
  have hge : ∀ y : Int, zn32 y → 0 ≤ y → ¬ Int32.ofInt y < 0 := fun y hy h8 => by rw [← zo_0, zo_lt hy zn0]; omega
  have hwd : (zW dA fA rs sh pp mm)[d - 13]? = some (zAd fA rs d, .inl (dA 20, zLe sh d, .inl (fun j => Int32.ofInt (mm d (j : Int))))) := by rw [zW_get d13 (by omega), zEn_int (by omega), hkd]
  have hend : ∀ (F : Nat → Int32) (hF : ∀ j : Nat, (j : Int) < sp + n → F j = Int32.ofInt (mm s1 (j : Int))) (H1 : Heap), va_P D vwCl ((zW dA fA rs sh pp mm).set (d - 13) (zAd fA rs d, .inl (dA 20, zLe sh d, .inl (va_cpy F (fun j => Int32.ofInt (mm d (j : Int))) (Int32.ofInt sp).toNatClampNeg (Int32.ofInt dp).toNatClampNeg (Int32.ofInt n).toNatClampNeg)))) H1 → va_D (fun q => s0 ≤ q) ((zW dA fA rs sh pp mm).set (d - 13) (zAd fA rs d, .inl (dA 20, zLe sh d, .inl (va_cpy F (fun j => Int32.ofInt (mm d (j : Int))) (Int32.ofInt sp).toNatClampNeg (Int32.ofInt dp).toNatClampNeg (Int32.ofInt n).toNatClampNeg)))) → zRl D dA fA s0 L xs rs sh pp (zcpy mm s1 sp d dp n) H1 := by
    intro F hF H1 hP1 hD1
    have e8 : (zW dA fA rs sh pp mm).set (d - 13) (zAd fA rs d, .inl (dA 20, zLe sh d, .inl (va_cpy F (fun j => Int32.ofInt (mm d (j : Int))) (Int32.ofInt sp).toNatClampNeg (Int32.ofInt dp).toNatClampNeg (Int32.ofInt n).toNatClampNeg))) = zW dA fA rs sh pp (zcpy mm s1 sp d dp n) := by
      refine zW_set d13 (by omega) ?_ (fun _ _ _ => rfl) (fun b hb j => by unfold zcpy; rw [if_neg (by intro h9; exact hb h9.1)])
      rw [zEn_int (by omega), hkd, zcpy_fun h0 h1 h2 F hF, zo_nat n1, zo_nat n2, zo_nat n3]
    rw [e8] at hP1 hD1
    exact ⟨hlen0, zHI_cpy hI d13 (by omega) (by omega), hP1, hD1⟩
  show W p l e R s m args below meth c H locs _ _ Q (F0 m pc lsR (.int (Int32.ofInt n) :: .int (Int32.ofInt dp) :: zVal fA qv rs (zR d) :: .int (Int32.ofInt sp) :: zVal fA qv rs (zR s1) :: st.map (zVal fA qv rs)))
  rw [zRf_ref (show d ≠ 0 by omega)]
  rcases hks with hks | hks
  · obtain ⟨s13, slt⟩ := zHI_hi (a := s1) hI (by omega)
    rw [zRf_ref (show s1 ≠ 0 by omega)]
    refine va_copyi hC.1 hC.2.1 (by rw [hC.2.2.1]; exact hl.1.symm) hC.2.2.2.1 (hC.2.2.2.2.1 _ (zMem h rfl)) (hC.2.2.2.2.1 _ zCpW.1) (hC.2.2.2.2.1 _ zCpW.2.1) (hC.2.2.2.2.1 _ zCpW.2.2) hC.2.2.2.2.2.1 hP hD hS (s1 - 13) (d - 13) 0 0 (n0 := zLe sh s1) (f := fun j => Int32.ofInt (mm s1 (j : Int))) (by rw [zW_get s13 (by omega), zEn_int (by omega), hks]) hwd rfl rfl rfl (hge sp n3 h0) (hge dp n2 h1) (hge n n1 h2) (by rw [zo_nat n3, zo_nat n1]; omega) (by rw [zo_nat n2, zo_nat n1]; omega) (fun _ _ => rfl) hfr2 hlo2 hd (fun H1 locs1 hP1 hD1 hS1 => ?_)
    exact K rs H1 locs1 lsR (hend _ (fun _ _ => rfl) H1 hP1 hD1) hp hS1 hl hlen hol hos
  · have sr := zHI_lo (a := s1) hI (by omega) (by omega)
    have hkk := zHI_kd hI sr
    have hc := (zS0_c (L := L) sr).1 (by rw [← hkk.1]; exact hks)
    rw [zRf_ref (show s1 ≠ 0 by omega), show zAd fA rs s1 = fA s1 by unfold zAd; rw [if_pos sr]]
    rw [hkk.2] at h3
    refine zcopyT hC.1 (by rw [hC.2.2.1]; exact hl.1.symm) hC.2.2.2.1 (hC.2.2.2.2.1 _ (zMem h rfl)) (hC.2.2.2.2.1 _ zCpW.1) (hC.2.2.2.2.1 _ zCpW.2.1) (hC.2.2.2.2.1 _ zCpW.2.2) hC.2.2.2.2.2.1 hP hD hS (hC.2.2.2.2.2.2.1.1 s1 hc.1 hc.2) hwd (t1 := 0) rfl (hge sp n3 h0) (hge dp n2 h1) (hge n n1 h2) (by rw [zo_nat n3, zo_nat n1]; omega) (by rw [zo_nat n2, zo_nat n1]; omega) hfr2 hlo2 (by rw [hC.2.1]; exact hd) (fun H1 locs1 hP1 hD1 hS1 => ?_)
    exact K rs H1 locs1 lsR (hend _ (fun j hj => by rw [(hI.2.2.1 s1 sr j (by omega)).1]) H1 hP1 hD1) hp hS1 hl hlen hol hos
end
