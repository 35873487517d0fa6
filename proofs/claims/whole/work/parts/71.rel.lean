/-! ===== how the small machine's cells lie in the machine's heap ===== -/
def zFT : List (List Nat) := [[2, 0], [2, 2, 0, 0, 3, 3, 2, 2, 0, 2, 2, 0], [2, 2, 2, 2], [2, 2, 0, 0, 2, 2], [0, 0, 0, 0, 0, 0, 0, 0, 0], [2, 2], [0, 3, 3, 0, 2, 2, 2, 2, 2, 2, 3, 2, 2, 2, 0, 0, 0, 2], [2, 2, 2], [2, 2, 2, 0, 0, 3, 2, 0, 0, 2, 2, 2, 0, 0], [2, 2, 2, 2, 2, 2, 2, 0], [0, 0, 2, 0], [2, 2, 2, 2, 2, 2, 2, 2, 2], [2, 2, 2, 2, 2, 2, 0, 0, 0, 0, 0, 0, 0, 0, 0, 2, 2, 2, 2, 2, 0, 0, 0, 0, 0, 0, 3, 2, 2, 2, 2, 2, 2, 2, 2, 2]]
def zLe (sh : zSh) (r : Nat) : Nat := match sh[r]? with
  | some q => q.2
  | none => 0
theorem zLn_Le (sh : zSh) (r : Nat) : zLn sh r = (zLe sh r : Int) := by
  unfold zLn zLe
  cases sh[r]? <;> rfl
def zAd (fA : Nat → Nat) (rs : List Nat) (a : Nat) : Nat := if a < 13 then fA a else rs.getD (a - 13) 0
def zRo (fA : Nat → Nat) (rs : List Nat) (a : Nat) : Option Nat := if a = 0 then none else some (zAd fA rs a)
def zVal (fA : Nat → Nat) (qv : Value) (rs : List Nat) (v : zV) : Value := match v with
  | .inl (.inl x) => .int (Int32.ofInt x)
  | .inl (.inr x) => .long (Int64.ofInt x)
  | .inr (.inl a) => va_rf (zRo fA rs a)
  | .inr (.inr _) => qv
def zFl (fA : Nat → Nat) (rs : List Nat) (t : Nat) (pp : zPp) (mm : zMm) (a i : Nat) : Value := if t = 2 then va_rf (zRo fA rs (pp a (i : Int))) else .int (Int32.ofInt (mm a (i : Int)))
def zFs (fA : Nat → Nat) (rs : List Nat) (ft : List Nat) (pp : zPp) (mm : zMm) (a : Nat) : List Value := (List.range ft.length).map (fun i => zFl fA rs (ft.getD i 0) pp mm a i)
def zEn (dA : Nat → ClassId) (fA : Nat → Nat) (rs : List Nat) (sh : zSh) (pp : zPp) (mm : zMm) (a : Nat) : va_E :=
  if zKd sh a < 13 then .inr (zKd sh a, zFs fA rs (zFT.getD (zKd sh a) []) pp mm a)
  else if zKd sh a = 21 then .inl (dA 21, zLe sh a, .inr (.inl (fun j => Int64.ofInt (mm a (j : Int)))))
  else if zKd sh a < 24 then .inl (dA (zKd sh a), zLe sh a, .inl (fun j => Int32.ofInt (mm a (j : Int))))
  else .inl (dA (zKd sh a), zLe sh a, .inr (.inr (.inr (.inr (fun j => zRo fA rs (pp a (j : Int)))))))
def zW (dA : Nat → ClassId) (fA : Nat → Nat) (rs : List Nat) (sh : zSh) (pp : zPp) (mm : zMm) : va_W := (List.range rs.length).map (fun k => (rs.getD k 0, zEn dA fA rs sh pp mm (13 + k)))
def zTys (dA : Nat → ClassId) : List (ClassId × FieldType) := [(dA 20, .int), (dA 21, .long), (dA 22, .boolean), (dA 24, .object RX10), (dA 25, .object RX9), (dA 26, .object RX8), (dA 27, .object RX1)]
def zRg (k : Nat) (x : Int) : Prop := if k = 21 then zn64 x else zn32 x
def zKok (q : Nat × Nat) : Prop := (q.1 < 13 ∧ q.2 = (zFT.getD q.1 []).length) ∨ ((q.1 = 20 ∨ q.1 = 21 ∨ q.1 = 22 ∨ q.1 = 24 ∨ q.1 = 25 ∨ q.1 = 26 ∨ q.1 = 27) ∧ q.2 ≤ 100000)
/-- what holds of the small heap in itself -/
def zHI (L : Nat) (xs : Nat → Int32) (sh : zSh) (pp : zPp) (mm : zMm) : Prop :=
  13 ≤ sh.length ∧ (∀ a, a < 13 → sh[a]? = (zS0 L)[a]?) ∧ (∀ a, a < 13 → ∀ i : Int, 0 ≤ i → mm a i = zM0 xs a i ∧ pp a i = zP0 a i) ∧ (∀ (a : Nat) (q : Nat × Nat), 13 ≤ a → sh[a]? = some q → zKok q) ∧ (∀ (a : Nat) (i : Int), pp a i < sh.length) ∧ ∀ (a : Nat) (i : Int), zRg (zKd sh a) (mm a i)
def zRl (D : va_G) (dA : Nat → ClassId) (fA : Nat → Nat) (s0 L : Nat) (xs : Nat → Int32) (rs : List Nat) (sh : zSh) (pp : zPp) (mm : zMm) (H : Heap) : Prop :=
  sh.length = 13 + rs.length ∧ zHI L xs sh pp mm ∧ va_P D vwCl (zW dA fA rs sh pp mm) H ∧ va_D (fun q => s0 ≤ q) (zW dA fA rs sh pp mm)
def zOk (n : Nat) (v : zV) : Prop := match v with
  | .inl (.inl x) => zn32 x
  | .inl (.inr x) => zn64 x
  | .inr (.inl a) => a < n
  | .inr (.inr _) => True
def zLv (fA : Nat → Nat) (qv : Value) (rs : List Nat) : Nat → List zV → List (Nat × Value)
  | _, [] => []
  | i, v :: vs => if zIsU v then zLv fA qv rs (i + 1) vs else (i, zVal fA qv rs v) :: zLv fA qv rs (i + 1) vs
-- lists by places
theorem zmap_set {α : Type} {f g : Nat → α} {n q : Nat} {x : α} (hq : q < n) (h1 : g q = x) (h2 : ∀ k, k < n → k ≠ q → g k = f k) : ((List.range n).map f).set q x = (List.range n).map g := by
  apply List.ext_getElem?
  intro i
  rw [List.getElem?_set]
  by_cases hi : q = i
  · subst hi
    rw [if_pos rfl, if_pos (by simpa using hq), List.getElem?_map, List.getElem?_range hq]
    simp [h1]
  · rw [if_neg hi, List.getElem?_map, List.getElem?_map]
    by_cases hn : i < n
    · rw [List.getElem?_range hn]
      simp [h2 i hn (fun e => hi e.symm)]
    · rw [List.getElem?_eq_none (by simpa using hn)]
      rfl
theorem zmap_get {α : Type} {f : Nat → α} {n q : Nat} (hq : q < n) : ((List.range n).map f)[q]? = some (f q) := by
  rw [List.getElem?_map, List.getElem?_range hq]
  rfl
section
variable {dA : Nat → ClassId} {fA : Nat → Nat} {qv : Value} {rs : List Nat} {sh : zSh} {pp pp1 : zPp} {mm mm1 : zMm} {a b : Nat}
theorem zAd_hi (h : 13 ≤ a) : zAd fA rs a = rs.getD (a - 13) 0 := by unfold zAd; rw [if_neg (by omega)]
theorem zAd_app (r : List Nat) (h : a < 13 + rs.length) : zAd fA (rs ++ r) a = zAd fA rs a := by
  unfold zAd
  by_cases h2 : a < 13
  · rw [if_pos h2, if_pos h2]
  · rw [if_neg h2, if_neg h2, List.getD_eq_getElem?_getD, List.getD_eq_getElem?_getD, List.getElem?_append_left (by omega)]
theorem zRo_app (r : List Nat) (h : a < 13 + rs.length) : zRo fA (rs ++ r) a = zRo fA rs a := by
  unfold zRo
  rw [zAd_app r h]
theorem zVal_app (r : List Nat) {v : zV} (h : zOk (13 + rs.length) v) : zVal fA qv (rs ++ r) v = zVal fA qv rs v := by
  rcases v with (x | x) | (x | x)
  · rfl
  · rfl
  · show va_rf _ = va_rf _
    rw [zRo_app r h]
  · rfl
theorem zW_get (h : 13 ≤ a) (h2 : a < 13 + rs.length) : (zW dA fA rs sh pp mm)[a - 13]? = some (zAd fA rs a, zEn dA fA rs sh pp mm a) := by
  unfold zW
  rw [zmap_get (by omega), zAd_hi h, show 13 + (a - 13) = a by omega]
theorem zEn_obj (h : zKd sh a < 13) : zEn dA fA rs sh pp mm a = .inr (zKd sh a, zFs fA rs (zFT.getD (zKd sh a) []) pp mm a) := by unfold zEn; rw [if_pos h]
theorem zEn_lng (h : zKd sh a = 21) : zEn dA fA rs sh pp mm a = .inl (dA 21, zLe sh a, .inr (.inl (fun j => Int64.ofInt (mm a (j : Int))))) := by unfold zEn; rw [if_neg (by omega), if_pos h]
theorem zEn_int (h : zKd sh a = 20 ∨ zKd sh a = 22) : zEn dA fA rs sh pp mm a = .inl (dA (zKd sh a), zLe sh a, .inl (fun j => Int32.ofInt (mm a (j : Int)))) := by unfold zEn; rw [if_neg (by omega), if_neg (by omega), if_pos (by omega)]
theorem zEn_ref (h : 24 ≤ zKd sh a) : zEn dA fA rs sh pp mm a = .inl (dA (zKd sh a), zLe sh a, .inr (.inr (.inr (.inr (fun j => zRo fA rs (pp a (j : Int))))))) := by unfold zEn; rw [if_neg (by omega), if_neg (by omega), if_neg (by omega)]
theorem zEn_same (hp : ∀ i, pp1 a i = pp a i) (hm : ∀ i, mm1 a i = mm a i) : zEn dA fA rs sh pp1 mm1 a = zEn dA fA rs sh pp mm a := by
  unfold zEn zFs zFl
  simp only [hp, hm]
/-- one cell changes -/
theorem zW_set {e : va_E} (h : 13 ≤ a) (h2 : a < 13 + rs.length) (he : zEn dA fA rs sh pp1 mm1 a = e) (hp : ∀ b, b ≠ a → ∀ i, pp1 b i = pp b i) (hm : ∀ b, b ≠ a → ∀ i, mm1 b i = mm b i) : (zW dA fA rs sh pp mm).set (a - 13) (zAd fA rs a, e) = zW dA fA rs sh pp1 mm1 := by
  unfold zW
  refine zmap_set (by omega) ?_ (fun k _ hk => ?_)
  · rw [show 13 + (a - 13) = a by omega, he, zAd_hi h]
  · rw [zEn_same (hp _ (by omega)) (hm _ (by omega))]
/-- a cell is new -/
theorem zW_push {q : Nat} {x : Nat × Nat} {e : va_E} (hl : sh.length = 13 + rs.length) (hv : ∀ (a : Nat) (i : Int), pp a i < sh.length) (he : zEn dA fA (rs ++ [q]) (sh ++ [x]) pp1 mm1 sh.length = e) (hp : ∀ b, b ≠ sh.length → ∀ i, pp1 b i = pp b i) (hm : ∀ b, b ≠ sh.length → ∀ i, mm1 b i = mm b i) : zW dA fA (rs ++ [q]) (sh ++ [x]) pp1 mm1 = zW dA fA rs sh pp mm ++ [(q, e)] := by
  unfold zW
  rw [List.length_append, List.length_singleton, List.range_succ, List.map_append]
  congr 1
  · refine List.map_congr_left fun k hk => ?_
    have hk2 : k < rs.length := List.mem_range.mp hk
    have hkd : zKd (sh ++ [x]) (13 + k) = zKd sh (13 + k) := by unfold zKd; rw [List.getElem?_append_left (by omega)]
    have hle : zLe (sh ++ [x]) (13 + k) = zLe sh (13 + k) := by unfold zLe; rw [List.getElem?_append_left (by omega)]
    have hro : ∀ i : Int, zRo fA (rs ++ [q]) (pp (13 + k) i) = zRo fA rs (pp (13 + k) i) := fun i => zRo_app _ (by rw [← hl]; exact hv _ _)
    rw [zEn_same (pp := pp) (mm := mm) (hp _ (by omega)) (hm _ (by omega))]
    have hg : (rs ++ [q]).getD k 0 = rs.getD k 0 := by rw [List.getD_eq_getElem?_getD, List.getD_eq_getElem?_getD, List.getElem?_append_left hk2]
    unfold zEn zFs zFl
    simp only [hkd, hle, hro, hg]
  · rw [List.map_singleton, ← hl, he, List.getD_eq_getElem?_getD, List.getElem?_append_right (by omega)]
    simp
theorem zFs_get {ft : List Nat} {i : Nat} (h : i < ft.length) : (zFs fA rs ft pp mm a)[i]? = some (zFl fA rs (ft.getD i 0) pp mm a i) := by
  unfold zFs
  rw [zmap_get h]
theorem zFs_set {ft : List Nat} {i : Nat} {v : Value} (h : i < ft.length) (hv : zFl fA rs (ft.getD i 0) pp1 mm1 a i = v) (hp : ∀ j : Nat, j ≠ i → pp1 a j = pp a j) (hm : ∀ j : Nat, j ≠ i → mm1 a j = mm a j) : (zFs fA rs ft pp mm a).set i v = zFs fA rs ft pp1 mm1 a := by
  unfold zFs
  refine zmap_set h hv (fun k _ hk => ?_)
  unfold zFl
  rw [hp k hk, hm k hk]
theorem zFs_len {ft : List Nat} : (zFs fA rs ft pp mm a).length = ft.length := by unfold zFs; simp
end
