/-! ===== instructions that read or write cells ===== -/
theorem zgetD {l : List Nat} {i d d' : Nat} (h : i < l.length) : l.getD i d = l.getD i d' := by simp [List.getD_eq_getElem?_getD, List.getElem?_eq_getElem h]
theorem zInW : ∀ q ∈ vwCl, ∀ w ∈ u_ws q.1 q.2.1 q.2.2, w ∈ zTb := by decide +kernel
theorem zFT_len : ∀ kd, kd < 13 → (vwCl[kd]?).map (fun q => q.2.2) = some (zFT.getD kd []).length := by decide +kernel
theorem zCn_cl : ∀ kd, kd < 13 → (vwCl[kd]?).map (fun q => q.1) = some (zCn kd) := by decide +kernel
theorem zFL_n1 : ∀ e ∈ zFL, e.2.2.2.2.1 ≠ 1 := by decide +kernel
def zTy0 (kd k : Nat) : FieldType := match kd with
  | 0 => tyX0 k
  | 1 => tyX1 k
  | 2 => tyX2 k
  | 3 => tyX3 k
  | 4 => tyX4 k
  | 5 => tyX5 k
  | 6 => tyX6 k
  | 7 => tyX7 k
  | 8 => tyX8 k
  | 9 => tyX9 k
  | 10 => tyX10 k
  | 11 => tyX11 k
  | _ => tyX12 k
theorem zTy0_ok : ∀ kd, kd < 13 → ∀ q, vwCl[kd]? = some q → ∀ k, k < q.2.2 → parseFieldDescriptor (q.2.1 k).2.2.1 = some (zTy0 kd k) := by
  intro kd hkd q hq
  have h : kd = 0 ∨ kd = 1 ∨ kd = 2 ∨ kd = 3 ∨ kd = 4 ∨ kd = 5 ∨ kd = 6 ∨ kd = 7 ∨ kd = 8 ∨ kd = 9 ∨ kd = 10 ∨ kd = 11 ∨ kd = 12 := by omega
  rcases h with rfl | rfl | rfl | rfl | rfl | rfl | rfl | rfl | rfl | rfl | rfl | rfl | rfl <;> (cases hq; first | exact tyX0_ok | exact tyX1_ok | exact tyX2_ok | exact tyX3_ok | exact tyX4_ok | exact tyX5_ok | exact tyX6_ok | exact tyX7_ok | exact tyX8_ok | exact tyX9_ok | exact tyX10_ok | exact tyX11_ok | exact tyX12_ok)
theorem zNm_ok : ∀ kd, kd < 13 → ∀ q, vwCl[kd]? = some q → ∀ a, a < q.2.2 → ∀ b, b < q.2.2 → a ≠ b → (q.2.1 a).2.1 ≠ (q.2.1 b).2.1 := by
  intro kd hkd q hq
  have h : kd = 0 ∨ kd = 1 ∨ kd = 2 ∨ kd = 3 ∨ kd = 4 ∨ kd = 5 ∨ kd = 6 ∨ kd = 7 ∨ kd = 8 ∨ kd = 9 ∨ kd = 10 ∨ kd = 11 ∨ kd = 12 := by omega
  rcases h with rfl | rfl | rfl | rfl | rfl | rfl | rfl | rfl | rfl | rfl | rfl | rfl | rfl <;> (cases hq; first | exact nmX0 | exact nmX1 | exact nmX2 | exact nmX3 | exact nmX4 | exact nmX5 | exact nmX6 | exact nmX7 | exact nmX8 | exact nmX9 | exact nmX10 | exact nmX11 | exact nmX12)
/-- a field's type by its number in zFT: 0 int, 2 a reference, 3 boolean -/
def zTyc (t : FieldType) : Nat := match t with
  | .int => 0
  | .long => 1
  | .boolean => 3
  | .object _ => 2
  | .array _ => 2
  | _ => 9
theorem zTyc_ok : ∀ kd, kd < 13 → ∀ k, k < (zFT.getD kd []).length → zTyc (zTy0 kd k) = (zFT.getD kd []).getD k 9 := by decide +kernel
section
variable {sh : zSh} {pp : zPp} {mm : zMm} {L : Nat} {xs : Nat → Int32} {a : Nat}
theorem zHI_kd (h : zHI L xs sh pp mm) (ha : a < 13) : zKd sh a = zKd (zS0 L) a ∧ zLe sh a = zLe (zS0 L) a := by
  unfold zKd zLe
  rw [h.2.1 a ha]
  exact ⟨rfl, rfl⟩
theorem zS0_kd : ∀ a, a < 13 → 30 ≤ zKd (zS0 L) a := by
  intro a ha
  have h : a = 0 ∨ a = 1 ∨ a = 2 ∨ a = 3 ∨ a = 4 ∨ a = 5 ∨ a = 6 ∨ a = 7 ∨ a = 8 ∨ a = 9 ∨ a = 10 ∨ a = 11 ∨ a = 12 := by omega
  rcases h with rfl | rfl | rfl | rfl | rfl | rfl | rfl | rfl | rfl | rfl | rfl | rfl | rfl <;> exact Nat.le_of_ble_eq_true rfl
theorem zHI_hi (h : zHI L xs sh pp mm) (hk : zKd sh a < 30) : 13 ≤ a ∧ a < sh.length := by
  constructor
  · refine Nat.le_of_not_lt fun ha => ?_
    have h1 := (zHI_kd h ha).1
    have h2 := zS0_kd (L := L) a ha
    omega
  · refine Nat.lt_of_not_le fun ha => ?_
    unfold zKd at hk
    rw [List.getElem?_eq_none ha] at hk
    simp at hk
theorem zHI_lo (h : zHI L xs sh pp mm) (hk : 30 ≤ zKd sh a) (hk2 : zKd sh a < 99) : a < 13 := by
  refine Nat.lt_of_not_le fun ha => ?_
  cases hq : sh[a]? with
  | none => unfold zKd at hk2; rw [hq] at hk2; simp at hk2
  | some q =>
    have h1 := h.2.2.2.1 a q ha hq
    have h2 : zKd sh a = q.1 := by unfold zKd; rw [hq]
    unfold zKok at h1
    omega
theorem zHI_ok (h : zHI L xs sh pp mm) (hk : zKd sh a < 30) : zKok (zKd sh a, zLe sh a) := by
  obtain ⟨h1, h2⟩ := zHI_hi h hk
  have hq : sh[a]? = some sh[a] := List.getElem?_eq_getElem h2
  have e : (zKd sh a, zLe sh a) = sh[a] := by unfold zKd zLe; rw [hq]
  rw [e]
  exact h.2.2.2.1 a _ h1 hq
theorem zHI_upd {i v : Int} (h : zHI L xs sh pp mm) (ha : 13 ≤ a) (hv : zRg (zKd sh a) v) : zHI L xs sh pp (zupd mm a i v) := by
  refine ⟨h.1, h.2.1, fun b hb j hj => ?_, h.2.2.2.1, h.2.2.2.2.1, fun b j => ?_⟩
  · rw [zupd_na (by omega)]
    exact h.2.2.1 b hb j hj
  · unfold zupd
    split
    · rename_i e; rw [e.1]; exact hv
    · exact h.2.2.2.2.2 b j
theorem zHI_upp {i : Int} {v : Nat} (h : zHI L xs sh pp mm) (ha : 13 ≤ a) (hv : v < sh.length) : zHI L xs sh (zupp pp a i v) mm := by
  refine ⟨h.1, h.2.1, fun b hb j hj => ?_, h.2.2.2.1, fun b j => ?_, h.2.2.2.2.2⟩
  · rw [zupp_na (by omega)]
    exact h.2.2.1 b hb j hj
  · unfold zupp
    split
    · exact hv
    · exact h.2.2.2.2.1 b j
theorem zHI_new {q : Nat × Nat} (h : zHI L xs sh pp mm) (hq : zKok q) : zHI L xs (sh ++ [q]) (zclp pp sh.length) (zclr mm sh.length) := by
  have hlen := h.1
  refine ⟨by rw [List.length_append]; omega, fun b hb => ?_, fun b hb j hj => ?_, fun b r hb hr => ?_, fun b j => ?_, fun b j => ?_⟩
  · rw [List.getElem?_append_left (by omega)]
    exact h.2.1 b hb
  · unfold zclr zclp
    rw [if_neg (by omega), if_neg (by omega)]
    exact h.2.2.1 b hb j hj
  · by_cases hl : b < sh.length
    · rw [List.getElem?_append_left hl] at hr
      exact h.2.2.2.1 b r hb hr
    · rw [List.getElem?_append_right (by omega)] at hr
      have hz : b - sh.length < 1 := (List.getElem?_eq_some_iff.mp hr).1
      rw [show b - sh.length = 0 by omega] at hr
      cases hr
      exact hq
  · unfold zclp
    rw [List.length_append]
    split
    · omega
    · have := h.2.2.2.2.1 b j
      omega
  · unfold zclr
    split
    · unfold zRg; split <;> exact ⟨by decide, by decide⟩
    · rename_i hb
      have e : zKd (sh ++ [q]) b = zKd sh b ∨ (sh.length < b ∧ zKd (sh ++ [q]) b = 99 ∧ zKd sh b = 99) := by
        by_cases hl : b < sh.length
        · left; unfold zKd; rw [List.getElem?_append_left hl]
        · right
          refine ⟨by omega, ?_, ?_⟩
          · unfold zKd; rw [List.getElem?_eq_none (by rw [List.length_append, List.length_singleton]; omega)]
          · unfold zKd; rw [List.getElem?_eq_none (by omega)]
      have h2 := h.2.2.2.2.2 b j
      rcases e with e | ⟨-, e1, e2⟩
      · rw [e]; exact h2
      · rw [e1]; rw [e2] at h2; exact h2
theorem zRg_n (k : Nat) (x : Int) (hk : k ≠ 21) : zRg k x ↔ zn32 x := by unfold zRg; rw [if_neg hk]
end
section
variable {p : Program} {l : Launch} {e : Env} {R : Room} {s : State} {m : MethodId} {args : Array Value} {below : List Frame} {meth : Method} {c : Code} {Q : State → Prop} {D : va_G} {dA : Nat → ClassId} {fA : Nat → Nat} {qv : Value} {s0 L : Nat} {xs : Nat → Int32} {n0 z0 : Nat} {rs0 : List Nat} {x : zMI}
variable {pc nx : Nat} {ls ls1 st st1 : List zV} {sh sh1 : zSh} {pp pp1 : zPp} {mm mm1 : zMm} {fr : Nat}
theorem zRl_upd {rs : List Nat} {H H1 : Heap} {a : Nat} {i v : Int} (hR : zRl D dA fA s0 L xs rs sh pp mm H) (ha : 13 ≤ a) (hv : zRg (zKd sh a) v) {e1 : va_E} (he : zEn dA fA rs sh pp (zupd mm a i v) a = e1) (hP : va_P D vwCl ((zW dA fA rs sh pp mm).set (a - 13) (zAd fA rs a, e1)) H1) (hD : va_D (fun q => s0 ≤ q) ((zW dA fA rs sh pp mm).set (a - 13) (zAd fA rs a, e1))) (hl : a < sh.length) : zRl D dA fA s0 L xs rs sh pp (zupd mm a i v) H1 := by
  have e : (zW dA fA rs sh pp mm).set (a - 13) (zAd fA rs a, e1) = zW dA fA rs sh pp (zupd mm a i v) := zW_set ha (by rw [← hR.1]; exact hl) he (fun _ _ _ => rfl) (fun b hb j => zupd_na hb)
  rw [e] at hP hD
  exact ⟨hR.1, zHI_upd hR.2.1 ha hv, hP, hD⟩
theorem zRl_upp {rs : List Nat} {H H1 : Heap} {a v : Nat} {i : Int} (hR : zRl D dA fA s0 L xs rs sh pp mm H) (ha : 13 ≤ a) (hv : v < sh.length) {e1 : va_E} (he : zEn dA fA rs sh (zupp pp a i v) mm a = e1) (hP : va_P D vwCl ((zW dA fA rs sh pp mm).set (a - 13) (zAd fA rs a, e1)) H1) (hD : va_D (fun q => s0 ≤ q) ((zW dA fA rs sh pp mm).set (a - 13) (zAd fA rs a, e1))) (hl : a < sh.length) : zRl D dA fA s0 L xs rs sh (zupp pp a i v) mm H1 := by
  have e : (zW dA fA rs sh pp mm).set (a - 13) (zAd fA rs a, e1) = zW dA fA rs sh (zupp pp a i v) mm := zW_set ha (by rw [← hR.1]; exact hl) he (fun b hb j => zupp_na hb) (fun _ _ _ => rfl)
  rw [e] at hP hD
  exact ⟨hR.1, zHI_upp hR.2.1 ha hv, hP, hD⟩
theorem zRf_ref {rs : List Nat} {r : Nat} (h : r ≠ 0) : zVal fA qv rs (zR r) = .ref (zAd fA rs r) := by
  show va_rf (zRo fA rs r) = _
  unfold zRo
  rw [if_neg h]
  rfl
theorem z_get {r kd sl c0 k idx : Nat} (hC : zCx p R s m args meth c D dA fA qv s0 L xs x) (hd : decode x.2.1 pc = .ok (.getfield idx, 3)) (he : (x.2.2.2.2.1, idx, kd, sl, c0, k) ∈ zFL) (hk : zKd sh r = kd) (K : zG p l e R s m args below meth c Q D dA fA qv s0 L xs n0 z0 rs0 x (pc + 3) ls (zFv c0 r sl pp mm :: st) sh pp mm) : zG p l e R s m args below meth c Q D dA fA qv s0 L xs n0 z0 rs0 x pc ls (zR r :: st) sh pp mm := by
  intro rs H locs lsR hR hp hS hl hlen hol hos
  obtain ⟨hlen0, hI, hP, hD⟩ := hR
  have hn1 := zFL_n1 _ he
  have h := zFL_ok _ he
  simp only [zLkF, Bool.and_eq_true, decide_eq_true_eq, zAtW] at h hn1
  obtain ⟨⟨⟨hw, hsl⟩, hty⟩, hkd⟩ := h
  subst hk
  obtain ⟨h13, hlt⟩ := zHI_hi hI (show zKd sh r < 30 by omega)
  obtain ⟨q, hq⟩ : ∃ q, vwCl[zKd sh r]? = some q := by
    have h1 := zFT_len _ hkd
    cases h2 : vwCl[zKd sh r]? with
    | none => rw [h2] at h1; cases h1
    | some q => exact ⟨q, rfl⟩
  have hN : q.2.2 = (zFT.getD (zKd sh r) []).length := by
    have h1 := zFT_len _ hkd
    rw [hq] at h1
    exact Option.some.inj h1
  have hfd : zFd (zKd sh r) sl = q.2.1 sl := by unfold zFd; rw [hq]
  have hval : zVal fA qv rs (zFv c0 r sl pp mm) = zFl fA rs ((zFT.getD (zKd sh r) []).getD sl 0) pp mm r sl := by
    have e : (zFT.getD (zKd sh r) []).getD sl 0 = c0 := by
      rw [← hty]; exact zgetD hsl
    rw [e]
    unfold zFv zFl
    by_cases h2 : c0 = 2
    · rw [if_pos h2, if_pos h2]; rfl
    · rw [if_neg h2, if_neg h2, if_neg hn1]; rfl
  have hokv : zOk sh.length (zFv c0 r sl pp mm) := by
    unfold zFv
    by_cases h2 : c0 = 2
    · rw [if_pos h2]; exact hI.2.2.2.2.1 _ _
    · rw [if_neg h2, if_neg hn1]; exact (zRg_n _ _ (by omega)).mp (hI.2.2.2.2.2 r sl)
  have k1 := K rs H locs lsR ⟨hlen0, hI, hP, hD⟩ hp hS hl hlen hol (List.forall_mem_cons.mpr ⟨hokv, (List.forall_mem_cons.mp hos).2⟩)
  show W p l e R s m args below meth c H locs _ _ Q (F0 m pc lsR (zVal fA qv rs (zR r) :: st.map (zVal fA qv rs)))
  rw [zRf_ref (show r ≠ 0 by omega)]
  refine va_get (C := q.1) (T := q.2.1) (N := q.2.2) (ref := (q.2.1 sl).1) hC.1 hC.2.1 hC.2.2.2.2.1 (zInW q (List.mem_of_getElem? hq)) hC.2.2.2.1 hC.2.2.2.2.2.1 hP (r - 13) (fs := zFs fA rs (zFT.getD (zKd sh r) []) pp mm r) (by rw [zW_get h13 (by omega), zEn_obj hkd]) hq sl (by omega) ?_ (fun _ h => h) (v := zVal fA qv rs (zFv c0 r sl pp mm)) ?_ hd k1
  · rw [← hfd]
    exact hC.2.2.2.2.1 _ (zMem hw rfl)
  · rw [hval]
    exact zFs_get hsl
theorem z_put {r kd sl c0 k idx : Nat} {v : zV} (hC : zCx p R s m args meth c D dA fA qv s0 L xs x) (hd : decode x.2.1 pc = .ok (.putfield idx, 3)) (he : (x.2.2.2.2.1, idx, kd, sl, c0, k) ∈ zFL) (hfin : (zFd kd sl).2.2.2 = false ∨ (x.1.name = "<init>" ∧ (zFd kd sl).1 = zCn x.2.2.2.2.1)) (hk : zKd sh r = kd)
    (hv : (∃ y : Int, v = zI y ∧ pp1 = pp ∧ mm1 = zupd mm r sl y ∧ (c0 = 0 ∨ (c0 = 3 ∧ (y = 0 ∨ y = 1)))) ∨ (∃ a : Nat, v = zR a ∧ pp1 = zupp pp r sl a ∧ mm1 = mm ∧ c0 = 2)) (K : zG p l e R s m args below meth c Q D dA fA qv s0 L xs n0 z0 rs0 x (pc + 3) ls st sh pp1 mm1) : zG p l e R s m args below meth c Q D dA fA qv s0 L xs n0 z0 rs0 x pc ls (v :: zR r :: st) sh pp mm := by
  intro rs H locs lsR hR hp hS hl hlen hol hos
  have hR0 := hR
  obtain ⟨hlen0, hI, hP, hD⟩ := hR
  have h := zFL_ok _ he
  simp only [zLkF, Bool.and_eq_true, decide_eq_true_eq, zAtW] at h
  obtain ⟨⟨⟨hw, hsl⟩, hty⟩, hkd⟩ := h
  subst hk
  obtain ⟨h13, hlt⟩ := zHI_hi hI (show zKd sh r < 30 by omega)
  obtain ⟨q, hq⟩ : ∃ q, vwCl[zKd sh r]? = some q := by
    have h1 := zFT_len _ hkd
    cases h2 : vwCl[zKd sh r]? with
    | none => rw [h2] at h1; cases h1
    | some q => exact ⟨q, rfl⟩
  have hN : q.2.2 = (zFT.getD (zKd sh r) []).length := by
    have h1 := zFT_len _ hkd
    rw [hq] at h1
    exact Option.some.inj h1
  have hfd : zFd (zKd sh r) sl = q.2.1 sl := by unfold zFd; rw [hq]
  have hct : zTyc (zTy0 (zKd sh r) sl) = c0 := (zTyc_ok _ hkd _ hsl).trans hty
  have ec : (zFT.getD (zKd sh r) []).getD sl 0 = c0 := by
    rw [← hty]; exact zgetD hsl
  obtain ⟨hov, hos⟩ := List.forall_mem_cons.mp hos
  obtain ⟨-, hos⟩ := List.forall_mem_cons.mp hos
  have hpd : parseFieldDescriptor (q.2.1 sl).2.2.1 = some (zTy0 (zKd sh r) sl) := zTy0_ok _ hkd q hq sl (by omega)
  have hnar : narrow (zTy0 (zKd sh r) sl) (zVal fA qv rs v) = zVal fA qv rs v ∧ fits (zTy0 (zKd sh r) sl) (zVal fA qv rs v) = true := by
    rcases hv with ⟨y, rfl, -, -, h0 | ⟨h3, h01⟩⟩ | ⟨a, rfl, -, -, h2⟩
    · rw [h0] at hct
      cases ht : zTy0 (zKd sh r) sl <;> rw [ht] at hct <;> first | (cases hct; done) | skip
      exact ⟨rfl, rfl⟩
    · rw [h3] at hct
      cases ht : zTy0 (zKd sh r) sl <;> rw [ht] at hct <;> first | (cases hct; done) | skip
      rcases h01 with rfl | rfl
      · exact ⟨show narrow FieldType.boolean (.int (Int32.ofInt 0)) = .int (Int32.ofInt 0) by decide, show fits FieldType.boolean (.int (Int32.ofInt 0)) = true by decide⟩
      · exact ⟨show narrow FieldType.boolean (.int (Int32.ofInt 1)) = .int (Int32.ofInt 1) by decide, show fits FieldType.boolean (.int (Int32.ofInt 1)) = true by decide⟩
    · rw [h2] at hct
      rcases va_rf_or (zRo fA rs a) with hz | ⟨b, hz⟩ <;> (show narrow _ (va_rf (zRo fA rs a)) = _ ∧ fits _ (va_rf (zRo fA rs a)) = true; show narrow _ (va_rf (zRo fA rs a)) = va_rf (zRo fA rs a) ∧ _; rw [hz]; cases ht : zTy0 (zKd sh r) sl <;> rw [ht] at hct <;> first | (cases hct; done) | exact ⟨rfl, rfl⟩)
  have hnew : (zFs fA rs (zFT.getD (zKd sh r) []) pp mm r).set sl (zVal fA qv rs v) = zFs fA rs (zFT.getD (zKd sh r) []) pp1 mm1 r := by
    rcases hv with ⟨y, rfl, rfl, rfl, h0⟩ | ⟨a, rfl, rfl, rfl, h2⟩
    · refine zFs_set hsl ?_ (fun _ _ => rfl) (fun j hj => zupd_ni (by omega))
      unfold zFl
      rw [ec, if_neg (by omega), zupd_eq]
      rfl
    · refine zFs_set hsl ?_ (fun j hj => zupp_ni (by omega)) (fun _ _ => rfl)
      unfold zFl
      rw [ec, if_pos h2, zupp_eq]
      rfl
  have hend : ∀ (H1 : Heap), va_P D vwCl ((zW dA fA rs sh pp mm).set (r - 13) (zAd fA rs r, .inr (zKd sh r, (zFs fA rs (zFT.getD (zKd sh r) []) pp mm r).set sl (zVal fA qv rs v)))) H1 → va_D (fun q => s0 ≤ q) ((zW dA fA rs sh pp mm).set (r - 13) (zAd fA rs r, .inr (zKd sh r, (zFs fA rs (zFT.getD (zKd sh r) []) pp mm r).set sl (zVal fA qv rs v)))) → zRl D dA fA s0 L xs rs sh pp1 mm1 H1 := by
    intro H1 hP1 hD1
    rw [hnew] at hP1 hD1
    rcases hv with ⟨y, rfl, rfl, rfl, h0⟩ | ⟨a, rfl, rfl, rfl, h2⟩
    · exact zRl_upd hR0 h13 ((zRg_n _ _ (by omega)).mpr hov) (zEn_obj hkd) hP1 hD1 hlt
    · exact zRl_upp hR0 h13 hov (zEn_obj hkd) hP1 hD1 hlt
  show W p l e R s m args below meth c H locs _ _ Q (F0 m pc lsR (zVal fA qv rs v :: zVal fA qv rs (zR r) :: st.map (zVal fA qv rs)))
  rw [zRf_ref (show r ≠ 0 by omega)]
  have hlink : (Cond.fieldLink (zCn x.2.2.2.2.1) idx (q.2.1 sl).1 (q.2.1 sl).2.1 (q.2.1 sl).2.2.1).before args s = true := by
    rw [← hfd]
    exact hC.2.2.2.2.1 _ (zMem hw rfl)
  have hws : (zW dA fA rs sh pp mm)[r - 13]? = some (zAd fA rs r, .inr (zKd sh r, zFs fA rs (zFT.getD (zKd sh r) []) pp mm r)) := by rw [zW_get h13 (by omega), zEn_obj hkd]
  cases hf : (q.2.1 sl).2.2.2 with
  | false =>
    refine va_put (C := q.1) (T := q.2.1) (N := q.2.2) (ref := (q.2.1 sl).1) hC.1 hC.2.1 hC.2.2.2.2.1 (zInW q (List.mem_of_getElem? hq)) (zTy0 (zKd sh r)) (zTy0_ok _ hkd q hq) (zNm_ok _ hkd q hq) hC.2.2.2.1 hC.2.2.2.2.2.1 hP hD hS (r - 13) hws hq sl (by omega) hlink (fun _ h => h) hf hpd hnar.1 hnar.2 (by rw [zFs_len]; exact hsl) hd (fun H1 locs1 hP1 hD1 hS1 => ?_)
    exact K rs H1 locs1 lsR (hend H1 hP1 hD1) hp hS1 hl hlen hol hos
  | true =>
    rw [hfd, hf] at hfin
    rcases hfin with hfin | hfin
    · cases hfin
    refine va_putF (C := q.1) (T := q.2.1) (N := q.2.2) (ref := (q.2.1 sl).1) hC.1 hC.2.1 hC.2.2.2.2.1 (zInW q (List.mem_of_getElem? hq)) (zTy0 (zKd sh r)) (zTy0_ok _ hkd q hq) (zNm_ok _ hkd q hq) hC.2.2.2.1 hC.2.2.2.2.2.1 hP hD hS (r - 13) hws hq sl (by omega) hlink (fun _ h => h) hf (hC.2.2.2.2.2.2.2.1 hfin.1) hfin.2 hpd hnar.1 hnar.2 (by rw [zFs_len]; exact hsl) hd (fun H1 locs1 hP1 hD1 hS1 => ?_)
    exact K rs H1 locs1 lsR (hend H1 hP1 hD1) hp hS1 hl hlen hol hos
end
