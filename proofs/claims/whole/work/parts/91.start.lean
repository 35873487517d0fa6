/-! ===== the law's start ===== -/
def zF : List Cond := flatC (Jvm.Cond.and given_1 narrow_1)
theorem zF_arr : ∀ a, a < 5 → 2 ≤ a → (Cond.arrayOf (.static "TwoKnobs" (zSn a) "[I") .int) ∈ zF ∧ (Cond.eq (.length (.static "TwoKnobs" (zSn a) "[I")) (.int (Int32.ofNat 9))) ∈ zF := by decide +kernel
theorem zF_el : ∀ a, a < 5 → 2 ≤ a → ∀ j, j < 9 → (Cond.eq (.elem (.static "TwoKnobs" (zSn a) "[I") (.int (Int32.ofNat j))) (.int (Int32.ofInt ((zK0.getD a []).getD j 0)))) ∈ zF := by decide +kernel
theorem zF_cs : (Cond.eq (.static "java/lang/String" "COMPACT_STRINGS" "Z") (.int 1)) ∈ zF ∧ (Cond.isRef (.static "jdk/internal/util/Preconditions" "SIOOBE_FORMATTER" "Ljava/util/function/BiFunction;")) ∈ zF := by decide +kernel
theorem zF_s1 : ∀ i, i < 4 → (Cond.exactly (.string RX8 (zSi (5 + i))) "java/lang/String") ∈ zF ∧ (Cond.eq (.field (.string RX8 (zSi (5 + i))) "java/lang/String" "coder" "B") (.int 0)) ∈ zF ∧ (Cond.arrayOf (.field (.string RX8 (zSi (5 + i))) "java/lang/String" "value" "[B") .byte) ∈ zF ∧ (Cond.eq (.length (.field (.string RX8 (zSi (5 + i))) "java/lang/String" "value" "[B")) (.int (Int32.ofNat ([4, 5, 4, 3].getD i 0)))) ∈ zF := by decide +kernel
theorem zF_s2 : ∀ i, i < 4 → ∀ j, j < [4, 5, 4, 3].getD i 0 → (Cond.eq (.elem (.field (.string RX8 (zSi (5 + i))) "java/lang/String" "value" "[B") (.int (Int32.ofNat j))) (.int ((zByt.getD i []).getD j 0))) ∈ zF := by decide +kernel
theorem zF_s3 : ∀ i, i < 4 → ∀ j, j < 4 → i ≠ j → (Cond.not (.eq (.string RX8 (zSi (5 + i))) (.string RX8 (zSi (5 + j))))) ∈ zF ∨ (Cond.not (.eq (.string RX8 (zSi (5 + j))) (.string RX8 (zSi (5 + i))))) ∈ zF := by decide +kernel
theorem zL_st : ∀ a, a < 5 → 2 ≤ a → (Cond.laysStatic "TwoKnobs" (zSn a) "[I") ∈ lw_tbl := by decide +kernel
theorem zL_ini : (Cond.initialized "TwoKnobs") ∈ lw_tbl ∧ (Cond.initialized "java/lang/String") ∈ lw_tbl ∧ (Cond.initialized "jdk/internal/util/Preconditions") ∈ lw_tbl ∧ (Cond.laysStatic "java/lang/String" "COMPACT_STRINGS" "Z") ∈ lw_tbl ∧ (Cond.laysStatic "jdk/internal/util/Preconditions" "SIOOBE_FORMATTER" "Ljava/util/function/BiFunction;") ∈ lw_tbl := by decide +kernel
theorem zL_str : ∀ a, a < 9 → 5 ≤ a → (Cond.stringRef RX8 (zSi a) (zSx a)) ∈ lw_tbl := by decide +kernel
theorem zK0_sm : ∀ l ∈ zK0, ∀ y ∈ l, 0 ≤ y ∧ y ≤ 127 := by decide +kernel
theorem zM0_n (xs : Nat → Int32) (a : Nat) (i : Int) : zn32 (zM0 xs a i) := by
  unfold zM0
  split
  · exact zr32 _
  · have h : ∀ l : List Int, (∀ y ∈ l, 0 ≤ y ∧ y ≤ 127) → ∀ n, 0 ≤ l.getD n 0 ∧ l.getD n 0 ≤ 127 := by
      intro l hl n
      rw [List.getD_eq_getElem?_getD]
      cases hn : l[n]? with
      | none => exact ⟨by decide, by decide⟩
      | some y => exact hl y (List.mem_of_getElem? hn)
    have h2 : ∀ y ∈ zK0.getD a [], 0 ≤ y ∧ y ≤ 127 := by
      rw [List.getD_eq_getElem?_getD]
      cases hn : zK0[a]? with
      | none => intro y hy; cases hy
      | some l => exact zK0_sm l (List.mem_of_getElem? hn)
    have h3 := h _ h2 i.toNat
    exact ⟨by omega, by omega⟩
theorem zHI_0 (L : Nat) (xs : Nat → Int32) : zHI L xs (zS0 L) zP0 (zM0 xs) := by
  refine ⟨Nat.le_refl 13, fun _ _ => rfl, fun _ _ _ _ => ⟨rfl, rfl⟩, fun a q ha hq => ?_, fun a i => ?_, fun a i => ?_⟩
  · rw [List.getElem?_eq_none (show (zS0 L).length ≤ a from ha)] at hq
    cases hq
  · unfold zP0
    show _ < 13
    split <;> omega
  · have h : zKd (zS0 L) a ≠ 21 := by
      by_cases ha : a < 13
      · have := zS0_kd (L := L) a ha; omega
      · unfold zKd
        rw [List.getElem?_eq_none (show (zS0 L).length ≤ a by show 13 ≤ a; omega)]
        decide
    exact (zRg_n _ _ h).mpr (zM0_n xs a i)
section
variable {p : Program} {e : Env} {s : State} {m : MethodId} {below : List Frame} {meth : Method} {c : Code} {b L : Nat} {xs : Nat → Int32}
theorem zK_start (hts : ∀ w ∈ zTb, w.before #[Value.ref b] s = true) : ∃ (D : va_G) (dA : Nat → ClassId), va_K D vwCl (zTys dA) s := by
  have hk : ∀ kd : Nat, ∃ q : ClassId × (Nat → Nat), ∀ r, vwCl[kd]? = some r → u_Kn s r.1 r.2.1 r.2.2 q.1 q.2 := by
    intro kd
    cases hv : vwCl[kd]? with
    | none => exact ⟨(0, fun _ => 0), fun r h => by cases h⟩
    | some r =>
      have hkd : kd < 13 := (List.getElem?_eq_some_iff.mp hv).1
      have h1 := zCn_cl kd hkd
      rw [hv] at h1
      have h2 : r.1 = zCn kd := Option.some.inj h1
      obtain ⟨cC, iS, h⟩ := u_known (C := r.1) (T := r.2.1) (N := r.2.2) hts (zInW r (List.mem_of_getElem? hv)) (by rw [h2]; exact hts _ (zInst kd hkd).1)
      exact ⟨(cC, iS), fun r' hr => by cases hr; exact h⟩
  obtain ⟨f, hf⟩ := Classical.axiomOfChoice hk
  obtain ⟨c0, k0, m0, a1, a2, a3⟩ := Cond.arrayClass_spec (hts _ zArrC.1)
  obtain ⟨c1, k1, m1, b1, b2, b3⟩ := Cond.arrayClass_spec (hts _ zArrC.2.1)
  obtain ⟨c2, k2, m2, d1, d2, d3⟩ := Cond.arrayClass_spec (hts _ zArrC.2.2)
  have hob : ∀ k : Nat, ∃ cA : ClassId, 24 ≤ k → k < 28 → ArrOfT s cA (.object (zCn (zEl k))) ∧ va_RA s cA (.object (zCn (zEl k))) := by
    intro k
    by_cases hk1 : 24 ≤ k ∧ k < 28
    · obtain ⟨comp, cA, kA, g1, -, g3, g4, g5⟩ := Cond.arrayOver_spec (hts _ (zArrO k hk1.2 hk1.1))
      exact ⟨cA, fun _ _ => ⟨fun N z => ⟨(fun k h => by cases h), kA, g3, comp, g4⟩, kA, comp, g3, g4, g1, g5⟩⟩
    · exact ⟨0, fun h1 h2 => absurd ⟨h1, h2⟩ hk1⟩
  obtain ⟨g, hg⟩ := Classical.axiomOfChoice hob
  refine ⟨(fun k => (f k).1, fun k => (f k).2), (fun k => if k = 20 then c0 else if k = 21 then c1 else if k = 22 then c2 else g k), fun k q hq => hf k q hq, fun k q hq => ?_⟩
  have hk7 : k < 7 := (List.getElem?_eq_some_iff.mp hq).1
  have h7 : k = 0 ∨ k = 1 ∨ k = 2 ∨ k = 3 ∨ k = 4 ∨ k = 5 ∨ k = 6 := by omega
  rcases h7 with rfl | rfl | rfl | rfl | rfl | rfl | rfl <;> cases hq
  · exact ⟨fun N z => ⟨(fun k h => by cases h), k0, a2, m0, a3⟩, a1⟩
  · exact ⟨fun N z => ⟨(fun k h => by cases h), k1, b2, m1, b3⟩, b1⟩
  · exact ⟨fun N z => ⟨(fun k h => by cases h), k2, d2, m2, d3⟩, d1⟩
  · exact hg 24 (by decide) (by decide)
  · exact hg 25 (by decide) (by decide)
  · exact hg 26 (by decide) (by decide)
  · exact hg 27 (by decide) (by decide)
theorem zCs_start (C0 : lw_At p s m meth c b L xs) : ∃ (fA : Nat → Nat) (qv : Value), fA 1 = b ∧ zCsE fA qv s.heap.size L xs s := by
  obtain ⟨hx, hb, hr, hml, hown, hts, hX, hbl, hlocks, hgv⟩ := C0
  have hF : ∀ w ∈ zF, w.before #[Value.ref b] s = true := flat_of_before _ hgv
  have hA : ∀ a : Nat, a < s.heap.size → ¬ (fun q => s.heap.size ≤ q) a := fun a h => Nat.not_le.mpr h
  have hst : ∀ a : Nat, ∃ t : Nat, 2 ≤ a → a < 5 → (Term.static "TwoKnobs" (zSn a) "[I").eval #[Value.ref b] s none [] s = some (.ref t) ∧ va_T .int t 9 (fun j => .int (Int32.ofInt ((zK0.getD a []).getD j 0))) (fun q => s.heap.size ≤ q) s s.heap := by
    intro a
    by_cases ha : 2 ≤ a ∧ a < 5
    · obtain ⟨t, h1, h2⟩ := va_Tof (tm := .static "TwoKnobs" (zSn a) "[I") (N := 9) (f := fun j => .int (Int32.ofInt ((zK0.getD a []).getD j 0))) (A := fun q => s.heap.size ≤ q) (by decide) (hF _ (zF_arr a ha.2 ha.1).1) (va_eqv (hF _ (zF_arr a ha.2 ha.1).2) rfl) (fun j hj => va_eqv (hF _ (zF_el a ha.2 ha.1 j hj)) rfl) hA
      exact ⟨t, fun _ _ => ⟨h1, h2⟩⟩
    · exact ⟨0, fun h1 h2 => absurd ⟨h1, h2⟩ ha⟩
  obtain ⟨tS, htS⟩ := Classical.axiomOfChoice hst
  obtain ⟨adK, adV, hSt, hSe⟩ := vk_Sof (N := 4) (tm := fun i => .string RX8 (zSi (5 + i))) (len := [4, 5, 4, 3]) (byt := zByt) (A := fun q => s.heap.size ≤ q) (by decide) (fun i hi => hF _ (zF_s1 i hi).1) (fun i hi => hF _ (zF_s1 i hi).2.1) (fun i hi => hF _ (zF_s1 i hi).2.2.1) (fun i hi => hF _ (zF_s1 i hi).2.2.2) (fun i hi j hj => hF _ (zF_s2 i hi j hj)) (fun i j hi hj hne => (zF_s3 i hi j hj hne).imp (hF _) (hF _)) hA
  have hq := va_Zqof (A := fun q => s.heap.size ≤ q) (hts _ zL_ini.2.2.2.2) (hts _ zL_ini.2.2.1) (hF _ zF_cs.2) hA
  obtain ⟨qv, hqv, hqz⟩ : ∃ qv : Value, (qv = .null ∨ ∃ t : Nat, qv = .ref t) ∧ va_Z "jdk/internal/util/Preconditions" "SIOOBE_FORMATTER" "Ljava/util/function/BiFunction;" qv (fun q => s.heap.size ≤ q) s s.heap := by
    rcases hq with h | ⟨t, h⟩
    · exact ⟨.null, Or.inl rfl, h⟩
    · exact ⟨.ref t, Or.inr ⟨t, rfl⟩, h⟩
  refine ⟨fun a => if a = 1 then b else if a < 5 then tS a else if a < 9 then adK (a - 5) else adV (a - 9), qv, rfl, fun a h1 h4 => ?_, ?_, fun a h5 h8 => ?_, fun a h2 h4 => ?_, ?_, hqz, hqv⟩
  · by_cases ha : a = 1
    · subst ha
      obtain ⟨scr, g1, g2, g3, g4, g5⟩ := hX
      refine ⟨scr, g1, g2, g3, by rw [g4]; exact Nat.le_refl _, by rw [g4]; rfl, fun j hj => ?_, hA b hbl⟩
      rw [g5 j hj]
      show some (Value.int (xs j)) = some (.int (Int32.ofInt (xs ((j : Int)).toNat).toInt))
      rw [Int.toNat_natCast, Int32.ofInt_toInt]
    · have h9 := (htS a (by omega) (by omega)).2
      have e1 : zLe (zS0 L) a = 9 := by
        have h : a = 2 ∨ a = 3 ∨ a = 4 := by omega
        rcases h with rfl | rfl | rfl <;> rfl
      have e2 : (fun j : Nat => Value.int (Int32.ofInt (zM0 xs a (j : Int)))) = (fun j : Nat => .int (Int32.ofInt ((zK0.getD a []).getD j 0))) := by
        funext j
        unfold zM0
        rw [if_neg ha, Int.toNat_natCast]
      rw [e1, e2]
      dsimp only
      rw [if_neg ha, if_pos (by omega)]
      exact h9
  · refine ⟨fun i hi => ?_, fun i j hi hj h => ?_⟩
    · dsimp only
      rw [if_neg (by omega), if_neg (by omega), if_pos (by omega), if_neg (by omega), if_neg (by omega), if_neg (by omega), show 5 + i - 5 = i by omega, show 9 + i - 9 = i by omega]
      exact hSt.1 i hi
    · dsimp only at h
      rw [if_neg (by omega), if_neg (by omega), if_pos (by omega), if_neg (by omega), if_neg (by omega), if_pos (by omega), show 5 + i - 5 = i by omega, show 5 + j - 5 = j by omega] at h
      exact hSt.2 i j hi hj h
  · dsimp only
    rw [if_neg (by omega), if_neg (by omega), if_pos (by omega)]
    have h9 := hSe (a - 5) (by omega)
    rw [show 5 + (a - 5) = a by omega] at h9
    exact vk_R.of (hts _ (zL_str a (by omega) h5)) h9
  · dsimp only
    rw [if_neg (by omega), if_pos (by omega)]
    exact va_Zref (hts _ (zL_st a (by omega) h2)) (hts _ zL_ini.1) (htS a h2 (by omega)).1 hA
  · exact va_Zof (hts _ zL_ini.2.2.2.1) (hts _ zL_ini.2.1) (va_eqv (hF _ zF_cs.1) rfl) hA
/-- the law's walk, out of a run of the small machine -/
theorem z_whole (l : Launch) (hL : L ≤ 2560) (hz : zS 273 0 [zR 1, zU, zU, zU] [] (zS0 L) zP0 (zM0 xs) (fun v sh _ _ => v = zI 1 ∧ sh.length ≤ 600013 ∧ zSm sh ≤ 7302250)) (C0 : lw_At p s m meth c b L xs) : W p l e room_1 s m #[Value.ref b] below meth c s.heap [] 0 0 (lw_Z below #[Value.ref b] s) (entryFrame m ([Value.ref b] : List Value).toArray 4) := by
  obtain ⟨n, v, sh', pp', mm', hrun, hv, hs1, hs2⟩ := hz
  subst hv
  obtain ⟨fA, qv, hfb, hcs⟩ := zCs_start C0
  obtain ⟨hx, hb, hr, hml, hown, hts, hX, hbl, hlocks, hgv⟩ := C0
  have hts2 : ∀ w ∈ zTb, w.before #[Value.ref b] s = true := fun w hw => hts w (List.mem_filter.mp hw).1
  obtain ⟨D, dA, hK⟩ := zK_start hts2
  have hC : zCx p room_1 s m #[Value.ref b] meth c D dA fA qv s.heap.size L xs zx273 := ⟨hx, hb, hml, hown, hts2, hK, hcs, fun h => absurd h (by decide), Nat.le_refl _, by decide, by decide, hL⟩
  have hck := zu273
  have hR : zRl D dA fA s.heap.size L xs [] (zS0 L) zP0 (zM0 xs) s.heap := ⟨rfl, zHI_0 L xs, (by intro k q h; cases h), (by constructor; (· intro i j p q h; cases h); (· intro k q h; cases h))⟩
  have hend : ∀ (pc : Nat) (i : zIns) (ls st : List zV), zCode 273 pc = some i → zAct i pc ls st sh' pp' mm' = some (.inl (zI 1, sh', pp', mm')) → zG p l e room_1 s m #[Value.ref b] below meth c (lw_Z below #[Value.ref b] s) D dA fA qv s.heap.size L xs 13 (zSm (zS0 L)) [] zx273 pc ls st sh' pp' mm' := by
    intro pc i ls st hc ha rs H locs lsR hR1 hp hS hl hlen hol hos
    have hcki := hck.2 _ (zCode_mem hck.1 hc)
    obtain ⟨ins, nx0, a, b0, c0, k, mk⟩ := i
    unfold zCk at hcki
    simp only [Bool.and_eq_true] at hcki
    obtain ⟨⟨⟨hd, hil⟩, hir⟩, hcki⟩ := hcki
    replace hd := of_decide_eq_true hd
    cases ins
    case ireturn =>
      replace hd := zdec (n := 1) hil hd
      obtain ⟨rfl, hd⟩ := hd
      replace ha : (show Option zRes from match (generalizing := false) st with
        | [.inl (.inl x)] => if zRt b0 x then some (.inl (zI x, sh', pp', mm')) else none
        | _ => none) = _ := ha
      split at ha
      · split at ha
        · cases ha
          refine va_forget (fun q hq => hS.2.2 q hq) ?_
          refine W.widen (k := 600000) (n := 7302250) (by omega) (by omega) ?_
          exact lw_ret hx hb hr hlocks hd
        · cases ha
      · cases ha
    all_goals
      exfalso
      unfold zAct at ha
      simp only [zBin, zBinL, zBinS, zLd, zLdL, zLdA, zSto, zStoA, zStoL, zGet, zPut, zAld, zAldL, zAldR, zAst, zAstL, zAstR, zLen, zNewA, zCopy, zSwT, zIV, zCall, zGo] at ha
      (repeat' split at ha) <;> (simp only [Option.some.injEq, Sum.inl.injEq, Prod.mk.injEq, reduceCtorEq] at ha) <;> (try (cases ha.1))
  have hg := z_sim l D dA fA qv s.heap.size L xs n 273 zx273 0 _ [] _ _ _ (zI 1) sh' pp' mm' hrun hck.1 hck.2 p e room_1 s m #[Value.ref b] below meth c (lw_Z below #[Value.ref b] s) 13 (zSm (zS0 L)) [] hC hend (Nat.le_refl 13) (Nat.le_refl _) (by show sh'.length - 13 ≤ 600000; omega) (by show zSm sh' - _ ≤ 7302250; omega)
  have hel := lv_entry [Value.ref b] (n := 4) (Nat.le_of_ble_eq_true rfl)
  rw [lg_entry_eq]
  have k := hg [] s.heap [] ((lg_sl [Value.ref b] ++ List.replicate (4 - (lg_sl [Value.ref b]).length) Slot.unset).toArray) hR ⟨[], rfl⟩ va_S.rf (by
    have e1 : zLv fA qv [] 0 [zR 1, zU, zU, zU] = lv_args 0 [Value.ref b] := by
      show [(0, va_rf (zRo fA [] 1))] = [(0, Value.ref b)]
      rw [← hfb]; rfl
    rw [e1]; exact hel) rfl (fun w hw => by
    rcases List.mem_cons.mp hw with rfl | hw
    · show 1 < 13; decide
    · rcases List.mem_cons.mp hw with rfl | hw
      · trivial
      · rcases List.mem_cons.mp hw with rfl | hw
        · trivial
        · rcases List.mem_cons.mp hw with rfl | hw
          · trivial
          · cases hw) (fun _ h => by cases h)
  rw [show (zS0 L).length - 13 = 0 from rfl, Nat.sub_self] at k
  exact k
end
