/-! ===== each instruction of the small machine is the machine's ===== -/
theorem zStL_ok : ∀ e ∈ zStL, e.1 = 8 ∧ e.2.1 = zSi e.2.2 ∧ 5 ≤ e.2.2 ∧ e.2.2 ≤ 8 := by decide +kernel
theorem zK0_e {a : Nat} (h : 5 ≤ a) (h2 : a ≤ 8) (i : Nat) : (zK0.getD a []).getD i 0 = 0 := by
  have : a = 5 ∨ a = 6 ∨ a = 7 ∨ a = 8 := by omega
  rcases this with rfl | rfl | rfl | rfl <;> rfl
section
variable {nx : Nat} {ls st : List zV} {sh : zSh} {pp : zPp} {mm : zMm} {r : Nat × List zV × List zV × zHp}
theorem zBin_inv {f : Int → Int → Int} (h : zBin f nx ls st sh pp mm = some (.inr (.inl r))) : ∃ a b st2, st = zI b :: zI a :: st2 ∧ r = (nx, ls, zI (f a b) :: st2, sh, pp, mm) := by
  unfold zBin at h
  split at h
  · simp only [zGo, Option.some.injEq, Sum.inr.injEq, Sum.inl.injEq] at h
    exact ⟨_, _, _, rfl, h.symm⟩
  · cases h
theorem zBinL_inv {f : Int → Int → Int} (h : zBinL f nx ls st sh pp mm = some (.inr (.inl r))) : ∃ a b st2, st = zL b :: zL a :: st2 ∧ r = (nx, ls, zL (f a b) :: st2, sh, pp, mm) := by
  unfold zBinL at h
  split at h
  · simp only [zGo, Option.some.injEq, Sum.inr.injEq, Sum.inl.injEq] at h
    exact ⟨_, _, _, rfl, h.symm⟩
  · cases h
theorem zBinS_inv {f : Int → Int → Int} (h : zBinS f nx ls st sh pp mm = some (.inr (.inl r))) : ∃ a b st2, st = zI b :: zL a :: st2 ∧ r = (nx, ls, zL (f a b) :: st2, sh, pp, mm) := by
  unfold zBinS at h
  split at h
  · simp only [zGo, Option.some.injEq, Sum.inr.injEq, Sum.inl.injEq] at h
    exact ⟨_, _, _, rfl, h.symm⟩
  · cases h
theorem zLd_inv {i : Nat} (h : zLd ls i nx st sh pp mm = some (.inr (.inl r))) : ∃ a, ls[i]? = some (zI a) ∧ r = (nx, ls, zI a :: st, sh, pp, mm) := by
  unfold zLd at h
  split at h
  · rename_i hi
    simp only [zGo, Option.some.injEq, Sum.inr.injEq, Sum.inl.injEq] at h
    exact ⟨_, hi, h.symm⟩
  · cases h
theorem zLdL_inv {i : Nat} (h : zLdL ls i nx st sh pp mm = some (.inr (.inl r))) : ∃ a, ls[i]? = some (zL a) ∧ r = (nx, ls, zL a :: st, sh, pp, mm) := by
  unfold zLdL at h
  split at h
  · rename_i hi
    simp only [zGo, Option.some.injEq, Sum.inr.injEq, Sum.inl.injEq] at h
    exact ⟨_, hi, h.symm⟩
  · cases h
theorem zLdA_inv {i : Nat} (h : zLdA ls i nx st sh pp mm = some (.inr (.inl r))) : ∃ v, ((∃ a, v = zR a) ∨ v = zQ) ∧ ls[i]? = some v ∧ r = (nx, ls, v :: st, sh, pp, mm) := by
  unfold zLdA at h
  split at h
  · rename_i hi
    simp only [zGo, Option.some.injEq, Sum.inr.injEq, Sum.inl.injEq] at h
    exact ⟨_, Or.inl ⟨_, rfl⟩, hi, h.symm⟩
  · rename_i hi
    simp only [zGo, Option.some.injEq, Sum.inr.injEq, Sum.inl.injEq] at h
    exact ⟨_, Or.inr rfl, hi, h.symm⟩
  · cases h
theorem zSto_inv {i : Nat} (h : zSto ls i nx st sh pp mm = some (.inr (.inl r))) : ∃ a st2, st = zI a :: st2 ∧ i < ls.length ∧ r = (nx, zSt1 ls i (zI a), st2, sh, pp, mm) := by
  unfold zSto at h
  split at h
  · split at h
    · rename_i hi
      simp only [zGo, Option.some.injEq, Sum.inr.injEq, Sum.inl.injEq] at h
      exact ⟨_, _, rfl, hi, h.symm⟩
    · cases h
  · cases h
theorem zStoA_inv {i : Nat} (h : zStoA ls i nx st sh pp mm = some (.inr (.inl r))) : ∃ a st2, st = zR a :: st2 ∧ i < ls.length ∧ r = (nx, zSt1 ls i (zR a), st2, sh, pp, mm) := by
  unfold zStoA at h
  split at h
  · split at h
    · rename_i hi
      simp only [zGo, Option.some.injEq, Sum.inr.injEq, Sum.inl.injEq] at h
      exact ⟨_, _, rfl, hi, h.symm⟩
    · cases h
  · cases h
theorem zStoL_inv {i : Nat} (h : zStoL ls i nx st sh pp mm = some (.inr (.inl r))) : ∃ a st2, st = zL a :: st2 ∧ i + 1 < ls.length ∧ r = (nx, zSt2 ls i (zL a), st2, sh, pp, mm) := by
  unfold zStoL at h
  split at h
  · split at h
    · rename_i hi
      simp only [zGo, Option.some.injEq, Sum.inr.injEq, Sum.inl.injEq] at h
      exact ⟨_, _, rfl, hi, h.symm⟩
    · cases h
  · cases h
theorem zGet_inv {kd sl c : Nat} (h : zGet kd sl c nx ls st sh pp mm = some (.inr (.inl r))) : ∃ a st2, st = zR a :: st2 ∧ zKd sh a = kd ∧ r = (nx, ls, zFv c a sl pp mm :: st2, sh, pp, mm) := by
  unfold zGet at h
  split at h
  · split at h
    · rename_i hi
      simp only [zGo, Option.some.injEq, Sum.inr.injEq, Sum.inl.injEq] at h
      exact ⟨_, _, rfl, hi, h.symm⟩
    · cases h
  · cases h
theorem zPut_inv {kd sl c : Nat} (h : zPut kd sl c nx ls st sh pp mm = some (.inr (.inl r))) : ∃ v a st2 pp1 mm1, st = v :: zR a :: st2 ∧ zKd sh a = kd ∧ ((∃ y : Int, v = zI y ∧ pp1 = pp ∧ mm1 = zupd mm a sl y ∧ (c = 0 ∨ (c = 3 ∧ (y = 0 ∨ y = 1)))) ∨ (∃ b : Nat, v = zR b ∧ pp1 = zupp pp a sl b ∧ mm1 = mm ∧ c = 2)) ∧ r = (nx, ls, st2, sh, pp1, mm1) := by
  unfold zPut at h
  split at h
  · split at h
    · rename_i hi
      simp only [zGo, Option.some.injEq, Sum.inr.injEq, Sum.inl.injEq] at h
      exact ⟨_, _, _, _, _, rfl, hi.1, Or.inl ⟨_, rfl, rfl, rfl, hi.2⟩, h.symm⟩
    · cases h
  · split at h
    · rename_i hi
      simp only [zGo, Option.some.injEq, Sum.inr.injEq, Sum.inl.injEq] at h
      exact ⟨_, _, _, _, _, rfl, hi.1, Or.inr ⟨_, rfl, rfl, rfl, hi.2⟩, h.symm⟩
    · cases h
  · cases h
theorem zAld_inv {k1 k2 : Nat} (h : zAld k1 k2 nx ls st sh pp mm = some (.inr (.inl r))) : ∃ i a st2, st = zI i :: zR a :: st2 ∧ (zKd sh a = k1 ∨ zKd sh a = k2) ∧ 0 ≤ i ∧ i < zLn sh a ∧ r = (nx, ls, zI (mm a i) :: st2, sh, pp, mm) := by
  unfold zAld at h
  split at h
  · split at h
    · rename_i hi
      simp only [zGo, Option.some.injEq, Sum.inr.injEq, Sum.inl.injEq] at h
      exact ⟨_, _, _, rfl, hi.1, hi.2.1, hi.2.2, h.symm⟩
    · cases h
  · cases h
theorem zAldL_inv (h : zAldL nx ls st sh pp mm = some (.inr (.inl r))) : ∃ i a st2, st = zI i :: zR a :: st2 ∧ zKd sh a = 21 ∧ 0 ≤ i ∧ i < zLn sh a ∧ r = (nx, ls, zL (mm a i) :: st2, sh, pp, mm) := by
  unfold zAldL at h
  split at h
  · split at h
    · rename_i hi
      simp only [zGo, Option.some.injEq, Sum.inr.injEq, Sum.inl.injEq] at h
      exact ⟨_, _, _, rfl, hi.1, hi.2.1, hi.2.2, h.symm⟩
    · cases h
  · cases h
theorem zAldR_inv (h : zAldR nx ls st sh pp mm = some (.inr (.inl r))) : ∃ i a st2, st = zI i :: zR a :: st2 ∧ zEl (zKd sh a) ≠ 98 ∧ 0 ≤ i ∧ i < zLn sh a ∧ r = (nx, ls, zR (pp a i) :: st2, sh, pp, mm) := by
  unfold zAldR at h
  split at h
  · split at h
    · rename_i hi
      simp only [zGo, Option.some.injEq, Sum.inr.injEq, Sum.inl.injEq] at h
      exact ⟨_, _, _, rfl, hi.1, hi.2.1, hi.2.2, h.symm⟩
    · cases h
  · cases h
theorem zAst_inv {k1 : Nat} (h : zAst k1 nx ls st sh pp mm = some (.inr (.inl r))) : ∃ v i a st2, st = zI v :: zI i :: zR a :: st2 ∧ zKd sh a = k1 ∧ 0 ≤ i ∧ i < zLn sh a ∧ (k1 = 22 → v = 0 ∨ v = 1) ∧ r = (nx, ls, st2, sh, pp, zupd mm a i v) := by
  unfold zAst at h
  split at h
  · split at h
    · rename_i hi
      simp only [zGo, Option.some.injEq, Sum.inr.injEq, Sum.inl.injEq] at h
      exact ⟨_, _, _, _, rfl, hi.1, hi.2.1, hi.2.2.1, hi.2.2.2, h.symm⟩
    · cases h
  · cases h
theorem zAstL_inv (h : zAstL nx ls st sh pp mm = some (.inr (.inl r))) : ∃ v i a st2, st = zL v :: zI i :: zR a :: st2 ∧ zKd sh a = 21 ∧ 0 ≤ i ∧ i < zLn sh a ∧ r = (nx, ls, st2, sh, pp, zupd mm a i v) := by
  unfold zAstL at h
  split at h
  · split at h
    · rename_i hi
      simp only [zGo, Option.some.injEq, Sum.inr.injEq, Sum.inl.injEq] at h
      exact ⟨_, _, _, _, rfl, hi.1, hi.2.1, hi.2.2, h.symm⟩
    · cases h
  · cases h
theorem zAstR_inv (h : zAstR nx ls st sh pp mm = some (.inr (.inl r))) : ∃ v i a st2, st = zR v :: zI i :: zR a :: st2 ∧ zEl (zKd sh a) ≠ 98 ∧ zKd sh v = zEl (zKd sh a) ∧ 0 ≤ i ∧ i < zLn sh a ∧ r = (nx, ls, st2, sh, zupp pp a i v, mm) := by
  unfold zAstR at h
  split at h
  · split at h
    · rename_i hi
      simp only [zGo, Option.some.injEq, Sum.inr.injEq, Sum.inl.injEq] at h
      exact ⟨_, _, _, _, rfl, hi.1, hi.2.1, hi.2.2.1, hi.2.2.2, h.symm⟩
    · cases h
  · cases h
theorem zLen_inv (h : zLen nx ls st sh pp mm = some (.inr (.inl r))) : ∃ a st2, st = zR a :: st2 ∧ 20 ≤ zKd sh a ∧ zKd sh a < 50 ∧ zKd sh a ≠ 31 ∧ r = (nx, ls, zI (zLn sh a) :: st2, sh, pp, mm) := by
  unfold zLen at h
  split at h
  · split at h
    · rename_i hi
      simp only [zGo, Option.some.injEq, Sum.inr.injEq, Sum.inl.injEq] at h
      exact ⟨_, _, rfl, hi.1, hi.2.1, hi.2.2, h.symm⟩
    · cases h
  · cases h
theorem zNewA_inv {kd : Nat} (h : zNewA kd nx ls st sh pp mm = some (.inr (.inl r))) : ∃ n st2, st = zI n :: st2 ∧ 0 ≤ n ∧ n ≤ 100000 ∧ r = (nx, ls, zR sh.length :: st2, sh ++ [(kd, n.toNat)], zclp pp sh.length, zclr mm sh.length) := by
  unfold zNewA at h
  split at h
  · split at h
    · rename_i hi
      simp only [zGo, Option.some.injEq, Sum.inr.injEq, Sum.inl.injEq] at h
      exact ⟨_, _, rfl, hi.1, hi.2, h.symm⟩
    · cases h
  · cases h
theorem zCopy_inv (h : zCopy nx ls st sh pp mm = some (.inr (.inl r))) : ∃ n dp d sp s1 st2, st = zI n :: zI dp :: zR d :: zI sp :: zR s1 :: st2 ∧ (zKd sh s1 = 20 ∨ zKd sh s1 = 30) ∧ zKd sh d = 20 ∧ s1 ≠ d ∧ 0 ≤ sp ∧ 0 ≤ dp ∧ 0 ≤ n ∧ sp + n ≤ zLn sh s1 ∧ dp + n ≤ zLn sh d ∧ (st2.map zCat).sum ≤ 8 ∧ r = (nx, ls, st2, sh, pp, zcpy mm s1 sp d dp n) := by
  unfold zCopy at h
  split at h
  · split at h
    · rename_i hi
      simp only [zGo, Option.some.injEq, Sum.inr.injEq, Sum.inl.injEq] at h
      exact ⟨_, _, _, _, _, _, rfl, hi.1, hi.2.1, hi.2.2.1, hi.2.2.2.1, hi.2.2.2.2.1, hi.2.2.2.2.2.1, hi.2.2.2.2.2.2.1, hi.2.2.2.2.2.2.2.1, hi.2.2.2.2.2.2.2.2, h.symm⟩
    · cases h
  · cases h
theorem zSwT_inv {pc : Nat} {off : Int} (h : zSwT pc off ls st sh pp mm = some (.inr (.inl r))) : (pc : Int) + off = ((((pc : Int) + off).toNat : Nat) : Int) ∧ r = (((pc : Int) + off).toNat, ls, st, sh, pp, mm) := by
  unfold zSwT at h
  split at h
  · rename_i hi
    simp only [zGo, Option.some.injEq, Sum.inr.injEq, Sum.inl.injEq] at h
    exact ⟨by omega, h.symm⟩
  · cases h
theorem zGo_inv (h : zGo nx ls st sh pp mm = some (.inr (.inl r))) : r = (nx, ls, st, sh, pp, mm) := by
  simp only [zGo, Option.some.injEq, Sum.inr.injEq, Sum.inl.injEq] at h
  exact h.symm
end
section
variable {p : Program} {l : Launch} {e : Env} {R : Room} {s : State} {m : MethodId} {args : Array Value} {below : List Frame} {meth : Method} {c : Code} {Q : State → Prop} {D : va_G} {dA : Nat → ClassId} {fA : Nat → Nat} {qv : Value} {s0 L : Nat} {xs : Nat → Int32} {n0 z0 : Nat} {rs0 : List Nat} {x : zMI}
variable {pc nx : Nat} {ls ls1 st st1 : List zV} {sh sh1 : zSh} {pp pp1 : zPp} {mm mm1 : zMm} {fr : Nat}
theorem z_cmp {cX : Int32 → Int32 → Prop} {a b : Int} {t : Nat} {P : Bool} (row : ∀ {H : Heap} {locs : List Loc} {k n : Nat} {lsR : Array Slot} {X Y : Int32} {rest : List Value}, (cX X Y → W p l e R s m args below meth c H locs k n Q (F0 m t lsR rest)) → (¬ cX X Y → W p l e R s m args below meth c H locs k n Q (F0 m (pc + 3) lsR rest)) → W p l e R s m args below meth c H locs k n Q (F0 m pc lsR (.int Y :: .int X :: rest)))
    (hf : zn32 a → zn32 b → (cX (Int32.ofInt a) (Int32.ofInt b) ↔ P = true)) (K1 : P = true → zG p l e R s m args below meth c Q D dA fA qv s0 L xs n0 z0 rs0 x t ls st sh pp mm) (K2 : P = false → zG p l e R s m args below meth c Q D dA fA qv s0 L xs n0 z0 rs0 x (pc + 3) ls st sh pp mm) : zG p l e R s m args below meth c Q D dA fA qv s0 L xs n0 z0 rs0 x pc ls (zI b :: zI a :: st) sh pp mm := by
  intro rs H locs lsR hR hp hS hl hlen hol hos
  obtain ⟨h1, hos⟩ := List.forall_mem_cons.mp hos
  obtain ⟨h2, hos⟩ := List.forall_mem_cons.mp hos
  refine row (X := Int32.ofInt a) (Y := Int32.ofInt b) (fun hc => ?_) (fun hc => ?_)
  · exact K1 ((hf h2 h1).mp hc) rs H locs lsR hR hp hS hl hlen hol hos
  · refine K2 ?_ rs H locs lsR hR hp hS hl hlen hol hos
    cases hP : P with
    | false => rfl
    | true => exact absurd ((hf h2 h1).mpr hP) hc
theorem z_cmp1 {cX : Int32 → Prop} {a : Int} {t : Nat} {P : Bool} (row : ∀ {H : Heap} {locs : List Loc} {k n : Nat} {lsR : Array Slot} {X : Int32} {rest : List Value}, (cX X → W p l e R s m args below meth c H locs k n Q (F0 m t lsR rest)) → (¬ cX X → W p l e R s m args below meth c H locs k n Q (F0 m (pc + 3) lsR rest)) → W p l e R s m args below meth c H locs k n Q (F0 m pc lsR (.int X :: rest)))
    (hf : zn32 a → (cX (Int32.ofInt a) ↔ P = true)) (K1 : P = true → zG p l e R s m args below meth c Q D dA fA qv s0 L xs n0 z0 rs0 x t ls st sh pp mm) (K2 : P = false → zG p l e R s m args below meth c Q D dA fA qv s0 L xs n0 z0 rs0 x (pc + 3) ls st sh pp mm) : zG p l e R s m args below meth c Q D dA fA qv s0 L xs n0 z0 rs0 x pc ls (zI a :: st) sh pp mm := by
  intro rs H locs lsR hR hp hS hl hlen hol hos
  obtain ⟨h2, hos⟩ := List.forall_mem_cons.mp hos
  refine row (X := Int32.ofInt a) (fun hc => ?_) (fun hc => ?_)
  · exact K1 ((hf h2).mp hc) rs H locs lsR hR hp hS hl hlen hol hos
  · refine K2 ?_ rs H locs lsR hR hp hS hl hlen hol hos
    cases hP : P with
    | false => rfl
    | true => exact absurd ((hf h2).mpr hP) hc
theorem z_icmp {cd : ClassFile.Cond} {a b off : Int} {t : Nat} (hC : zCx p R s m args meth c D dA fA qv s0 L xs x) (hd : decode x.2.1 pc = .ok (.if_icmp cd off, 3)) (ht : (pc : Int) + off = (t : Int)) (K1 : zCd cd a b = true → zG p l e R s m args below meth c Q D dA fA qv s0 L xs n0 z0 rs0 x t ls st sh pp mm) (K2 : zCd cd a b = false → zG p l e R s m args below meth c Q D dA fA qv s0 L xs n0 z0 rs0 x (pc + 3) ls st sh pp mm) : zG p l e R s m args below meth c Q D dA fA qv s0 L xs n0 z0 rs0 x pc ls (zI b :: zI a :: st) sh pp mm := by
  cases cd
  · exact z_cmp (fun k1 k2 => lv_icmp_eq hC.1 hC.2.1 hd ht k1 k2) (fun ha hb => by rw [zo_eq ha hb]; simp [zCd]) K1 K2
  · exact z_cmp (fun k1 k2 => lv_icmp_ne hC.1 hC.2.1 hd ht k1 (fun h => k2 (fun hn => hn h))) (fun ha hb => by rw [zo_eq ha hb]; simp [zCd]) K1 K2
  · exact z_cmp (fun k1 k2 => lv_icmp_lt hC.1 hC.2.1 hd ht k1 k2) (fun ha hb => by rw [zo_lt ha hb]; simp [zCd]) K1 K2
  · exact z_cmp (fun k1 k2 => lv_icmp_ge hC.1 hC.2.1 hd ht k1 k2) (fun ha hb => by first | (rw [ge_iff_le, zo_le hb ha]; simp [zCd]) | (rw [zo_le hb ha]; simp [zCd])) K1 K2
  · exact z_cmp (fun k1 k2 => lv_icmp_gt hC.1 hC.2.1 hd ht k1 k2) (fun ha hb => by first | (rw [gt_iff_lt, zo_lt hb ha]; simp [zCd]) | (rw [zo_lt hb ha]; simp [zCd])) K1 K2
  · exact z_cmp (fun k1 k2 => lv_icmp_le hC.1 hC.2.1 hd ht k1 k2) (fun ha hb => by rw [zo_le ha hb]; simp [zCd]) K1 K2
theorem z_if0 {cd : ClassFile.Cond} {a off : Int} {t : Nat} (hC : zCx p R s m args meth c D dA fA qv s0 L xs x) (hd : decode x.2.1 pc = .ok (.ifCond cd off, 3)) (ht : (pc : Int) + off = (t : Int)) (K1 : zCd cd a 0 = true → zG p l e R s m args below meth c Q D dA fA qv s0 L xs n0 z0 rs0 x t ls st sh pp mm) (K2 : zCd cd a 0 = false → zG p l e R s m args below meth c Q D dA fA qv s0 L xs n0 z0 rs0 x (pc + 3) ls st sh pp mm) : zG p l e R s m args below meth c Q D dA fA qv s0 L xs n0 z0 rs0 x pc ls (zI a :: st) sh pp mm := by
  cases cd
  · exact z_cmp1 (fun k1 k2 => lv_if_eq hC.1 hC.2.1 hd ht k1 k2) (fun ha => by rw [← zo_0, zo_eq ha zn0]; simp [zCd]) K1 K2
  · exact z_cmp1 (fun k1 k2 => lv_if_ne hC.1 hC.2.1 hd ht k1 (fun h => k2 (fun hn => hn h))) (fun ha => by rw [← zo_0, zo_eq ha zn0]; simp [zCd]) K1 K2
  · exact z_cmp1 (fun k1 k2 => lv_if_lt hC.1 hC.2.1 hd ht k1 k2) (fun ha => by rw [← zo_0, zo_lt ha zn0]; simp [zCd]) K1 K2
  · exact z_cmp1 (fun k1 k2 => lv_if_ge hC.1 hC.2.1 hd ht k1 k2) (fun ha => by rw [← zo_0]; first | (rw [ge_iff_le, zo_le zn0 ha]; simp [zCd]) | (rw [zo_le zn0 ha]; simp [zCd])) K1 K2
  · exact z_cmp1 (fun k1 k2 => lv_if_gt hC.1 hC.2.1 hd ht k1 k2) (fun ha => by rw [← zo_0]; first | (rw [gt_iff_lt, zo_lt zn0 ha]; simp [zCd]) | (rw [zo_lt zn0 ha]; simp [zCd])) K1 K2
  · exact z_cmp1 (fun k1 k2 => lv_if_le hC.1 hC.2.1 hd ht k1 k2) (fun ha => by rw [← zo_0, zo_le ha zn0]; simp [zCd]) K1 K2
theorem z_getS {r sl c0 k idx : Nat} (hC : zCx p R s m args meth c D dA fA qv s0 L xs x) (hd : decode x.2.1 pc = .ok (.getfield idx, 3)) (he : (x.2.2.2.2.1, idx, sl, k) ∈ zSFL) (hc0 : c0 + 2 * sl = 2) (hk : zKd sh r = 31) (K : zG p l e R s m args below meth c Q D dA fA qv s0 L xs n0 z0 rs0 x (pc + 3) ls (zFv c0 r sl pp mm :: st) sh pp mm) : zG p l e R s m args below meth c Q D dA fA qv s0 L xs n0 z0 rs0 x pc ls (zR r :: st) sh pp mm := by
  intro rs H locs lsR hR hp hS hl hlen hol hos
  have hI := hR.2.1
  obtain ⟨-, hos⟩ := List.forall_mem_cons.mp hos
  have h := zSFL_ok _ he
  simp only [zLkS, Bool.or_eq_true, Bool.and_eq_true, decide_eq_true_eq, zAtW] at h
  have hr := zHI_lo (a := r) hI (by omega) (by omega)
  have hkk := zHI_kd hI hr
  have hc := (zS0_c (L := L) hr).2.1 (by rw [← hkk.1]; exact hk)
  obtain ⟨hO, hco, hva, -⟩ := hC.2.2.2.2.2.2.1.2.1.1 (r - 5) (by omega)
  dsimp only at hco hva
  rw [show 5 + (r - 5) = r by omega] at hco hva
  rw [show 9 + (r - 5) = r + 4 by omega] at hva
  show W p l e R s m args below meth c H locs _ _ Q (F0 m pc lsR (zVal fA qv rs (zR r) :: st.map (zVal fA qv rs)))
  rw [zRf_ref (show r ≠ 0 by omega), show zAd fA rs r = fA r by unfold zAd; rw [if_pos hr]]
  rcases h with ⟨h0, hw⟩ | ⟨h0, hw⟩
  · subst h0
    have hc2 : c0 = 2 := by omega
    subst hc2
    have e8 : zFv 2 r 0 pp mm = zR (r + 4) := by
      show zR (pp r 0) = zR (r + 4)
      rw [(hI.2.2.1 r hr 0 (by decide)).2]
      unfold zP0
      rw [if_pos ⟨hc, rfl⟩]
    rw [e8] at K
    have k1 := K rs H locs lsR hR hp hS hl hlen hol (List.forall_mem_cons.mpr ⟨show r + 4 < sh.length by have := hI.1; omega, hos⟩)
    refine vk_getf hC.1 hC.2.1 hva hS hC.2.2.2.1 (hC.2.2.2.2.1 _ (zMem hw rfl)) (fun _ h => h) hd ?_
    rw [List.map_cons, zRf_ref (show r + 4 ≠ 0 by omega), show zAd fA rs (r + 4) = fA (r + 4) by unfold zAd; rw [if_pos (by omega)]] at k1
    exact k1
  · subst h0
    have hc2 : c0 = 0 := by omega
    subst hc2
    have e8 : zFv 0 r 1 pp mm = zI 0 := by
      show zI (mm r 1) = zI 0
      rw [(hI.2.2.1 r hr 1 (by decide)).1]
      unfold zM0
      rw [if_neg (by omega), zK0_e hc.1 hc.2]
    rw [e8] at K
    have k1 := K rs H locs lsR hR hp hS hl hlen hol (List.forall_mem_cons.mpr ⟨zn0, hos⟩)
    exact vk_getf hC.1 hC.2.1 hco hS hC.2.2.2.1 (hC.2.2.2.2.1 _ (zMem hw rfl)) (fun _ h => h) hd k1
theorem z_gst {a b c0 idx : Nat} {k : Int} {v : zV} (hC : zCx p R s m args meth c D dA fA qv s0 L xs x) (hd : decode x.2.1 pc = .ok (.getstatic idx, 3)) (he : (x.2.2.2.2.1, idx, a, b, c0, k) ∈ zSL) (hv : v = if c0 = 0 then zI k else if c0 = 2 then zR a else zQ) (K : zG p l e R s m args below meth c Q D dA fA qv s0 L xs n0 z0 rs0 x (pc + 3) ls (v :: st) sh pp mm) : zG p l e R s m args below meth c Q D dA fA qv s0 L xs n0 z0 rs0 x pc ls st sh pp mm := by
  intro rs H locs lsR hR hp hS hl hlen hol hos
  have hI := hR.2.1
  have h := zSL_ok _ he
  simp only [zLkT, Bool.or_eq_true, Bool.and_eq_true, decide_eq_true_eq, zAtW] at h
  obtain ⟨-, -, -, hst, hcs, hfm, -⟩ := hC.2.2.2.2.2.2.1
  rcases h with (⟨⟨⟨h1, h2⟩, h3⟩, h4⟩ | ⟨⟨h1, h2⟩, h4⟩) | ⟨h1, h4⟩
  · subst h1
    have e8 : v = zR a := by rw [hv]; rfl
    subst e8
    have k1 := K rs H locs lsR hR hp hS hl hlen hol (List.forall_mem_cons.mpr ⟨show a < sh.length by have := hI.1; omega, hos⟩)
    rw [List.map_cons, zRf_ref (show a ≠ 0 by omega), show zAd fA rs a = fA a by unfold zAd; rw [if_pos (by omega)]] at k1
    rcases h4 with ⟨-, hw⟩ | ⟨-, hw⟩
    · exact va_gets hC.1 hC.2.1 (hst a h2 h3) hS hC.2.2.2.1 (hC.2.2.2.2.1 _ (zMem hw rfl)) (fun _ h => h) hd k1
    · exact va_getsN hC.1 hC.2.1 (hst a h2 h3) hS hC.2.2.2.1 (hC.2.2.2.2.1 _ (zMem hw rfl)) (fun _ h => h) hd k1
  · subst h1; subst h2
    have e8 : v = zI 1 := by rw [hv]; rfl
    subst e8
    have k1 := K rs H locs lsR hR hp hS hl hlen hol (List.forall_mem_cons.mpr ⟨⟨by decide, by decide⟩, hos⟩)
    exact va_gets hC.1 hC.2.1 hcs hS hC.2.2.2.1 (hC.2.2.2.2.1 _ (zMem h4 rfl)) (fun _ h => h) hd k1
  · subst h1
    have e8 : v = zQ := by rw [hv]; rfl
    subst e8
    have k1 := K rs H locs lsR hR hp hS hl hlen hol (List.forall_mem_cons.mpr ⟨trivial, hos⟩)
    exact va_gets hC.1 hC.2.1 hfm hS hC.2.2.2.1 (hC.2.2.2.2.1 _ (zMem h4 rfl)) (fun _ h => h) hd k1
end
