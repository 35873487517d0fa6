/-! the small machine: values with a kind number, cells as rows of whole numbers -/
abbrev zV : Type := Nat × Int
def zI (x : Int) : zV := (0, x)
def zL (x : Int) : zV := (1, x)
def zR (x : Int) : zV := (2, x)
def zQ : zV := (3, 0)
def zU : zV := (9, 0)
abbrev zH : Type := List (Nat × Nat) × (Nat → Nat → Int)
abbrev zIns : Type := Instr × Nat × Nat × Nat × Nat × Int
abbrev zRes : Type := (zV × zH) ⊕ ((Nat × List zV × List zV × zH) ⊕ (Nat × List zV × List zV × Nat))
abbrev zMI : Type := MethodName × ByteArray × Nat × Option FieldType × Nat × Nat × Nat × List (Nat × zIns)
def zw32 (x : Int) : Int := (x + 2147483648) % 4294967296 - 2147483648
def zw64 (x : Int) : Int := (x + 9223372036854775808) % 18446744073709551616 - 9223372036854775808
def zand (x y : Int) : Int := (Int32.ofInt x &&& Int32.ofInt y).toInt
def zor (x y : Int) : Int := (Int32.ofInt x ||| Int32.ofInt y).toInt
def zxor (x y : Int) : Int := (Int32.ofInt x ^^^ Int32.ofInt y).toInt
def zshl (x y : Int) : Int := (Int32.ofInt x <<< (Int32.ofInt y &&& 31)).toInt
def zshr (x y : Int) : Int := (Int32.ofInt x >>> (Int32.ofInt y &&& 31)).toInt
def zushr (x y : Int) : Int := ((Int32.ofInt x).toUInt32 >>> ((Int32.ofInt y).toUInt32 &&& Int32.toUInt32 31)).toInt32.toInt
def zland (x y : Int) : Int := (Int64.ofInt x &&& Int64.ofInt y).toInt
def zlor (x y : Int) : Int := (Int64.ofInt x ||| Int64.ofInt y).toInt
def zlshl (x y : Int) : Int := (Int64.ofInt x <<< ((Int32.ofInt y).toInt64 &&& 63)).toInt
def zlshr (x y : Int) : Int := (Int64.ofInt x >>> ((Int32.ofInt y).toInt64 &&& 63)).toInt
def zlushr (x y : Int) : Int := ((Int64.ofInt x).toUInt64 >>> ((Int32.ofInt y).toInt64.toUInt64 &&& Int64.toUInt64 63)).toInt64.toInt
def zi2c (x : Int) : Int := ((Int32.ofInt x).toUInt32 % 65536).toInt32.toInt
def zcmp (x y : Int) : Int := if x < y then -1 else if x = y then 0 else 1
def zupd (mm : Nat → Nat → Int) (a i : Nat) (v : Int) : Nat → Nat → Int := fun b j => if b = a ∧ j = i then v else mm b j
def zclr (mm : Nat → Nat → Int) (a : Nat) : Nat → Nat → Int := fun b j => if b = a then 0 else mm b j
def zcpy (mm : Nat → Nat → Int) (s sp d dp n : Nat) : Nat → Nat → Int := fun b j => if b = d ∧ dp ≤ j ∧ j < dp + n then mm s (sp + (j - dp)) else mm b j
def zCat (v : zV) : Nat := if v.1 = 1 then 2 else 1
def zTg (c : Nat) : Nat := if c = 3 then 0 else c
def zEl (kd : Nat) : Nat := if kd = 24 then 10 else if kd = 25 then 9 else if kd = 26 then 8 else if kd = 27 then 1 else 98
def zGo (nx : Nat) (ls st : List zV) (h : zH) : Option zRes := some (.inr (.inl (nx, ls, st, h)))
def zClr (ls : List zV) (i : Nat) : List zV := match i with
  | 0 => ls
  | j + 1 => match ls[j]? with
    | some v => if v.1 = 1 then ls.set j zU else ls
    | none => ls
def zSt1 (ls : List zV) (i : Nat) (v : zV) : List zV := (zClr ls i).set i v
def zSt2 (ls : List zV) (i : Nat) (v : zV) : List zV := ((zClr ls i).set i v).set (i + 1) zU
def zLay : List zV → List zV
  | [] => []
  | v :: vs => if v.1 = 1 then v :: zU :: zLay vs else v :: zLay vs
def zPad (mx : Nat) (l : List zV) : List zV := l ++ List.replicate (mx - l.length) zU
def zCall (callee n mx nx : Nat) (st : List zV) : Option zRes :=
  if n ≤ st.length ∧ ((st.drop n).map zCat).sum ≤ 8 ∧ (zLay (st.take n).reverse).length ≤ mx ∧ (∀ v ∈ st.take n, v.1 < 4) then some (.inr (.inr (callee, zPad mx (zLay (st.take n).reverse), st.drop n, nx))) else none
def zKd (h : zH) (r : Int) : Nat := match h.1[r.toNat]? with
  | some q => q.1
  | none => 99
def zLn (h : zH) (r : Int) : Nat := match h.1[r.toNat]? with
  | some q => q.2
  | none => 0
def zPush (r : zV) (st : List zV) : List zV := if r.1 = 9 then st else r :: st
def zCd (c : ClassFile.Cond) (x y : Int) : Bool := match c with
  | .eq => decide (x = y)
  | .ne => decide (x ≠ y)
  | .lt => decide (x < y)
  | .ge => decide (y ≤ x)
  | .gt => decide (y < x)
  | .le => decide (x ≤ y)
def zRt (b : Nat) (x : Int) : Bool := if b = 3 then decide (x = 0 ∨ x = 1) else if b = 4 then decide (-128 ≤ x ∧ x ≤ 127) else if b = 5 then decide (0 ≤ x ∧ x ≤ 65535) else true
def zLd (ls : List zV) (i t : Nat) (nx : Nat) (st : List zV) (h : zH) : Option zRes := match ls[i]? with
  | some v => if v.1 = t then zGo nx ls (v :: st) h else none
  | none => none
def zLdA (ls : List zV) (i : Nat) (nx : Nat) (st : List zV) (h : zH) : Option zRes := match ls[i]? with
  | some v => if v.1 = 2 ∨ v.1 = 3 then zGo nx ls (v :: st) h else none
  | none => none
def zBin (f : Int → Int → Int) (nx : Nat) (ls st : List zV) (h : zH) : Option zRes := match st with
  | (0, y) :: (0, x) :: st => zGo nx ls (zI (f x y) :: st) h
  | _ => none
def zBinL (f : Int → Int → Int) (nx : Nat) (ls st : List zV) (h : zH) : Option zRes := match st with
  | (1, y) :: (1, x) :: st => zGo nx ls (zL (f x y) :: st) h
  | _ => none
def zBinS (f : Int → Int → Int) (nx : Nat) (ls st : List zV) (h : zH) : Option zRes := match st with
  | (0, y) :: (1, x) :: st => zGo nx ls (zL (f x y) :: st) h
  | _ => none
def zSto (ls : List zV) (i t : Nat) (nx : Nat) (st : List zV) (h : zH) : Option zRes := match st with
  | v :: st => if v.1 = t ∧ i < ls.length then zGo nx (zSt1 ls i v) st h else none
  | _ => none
def zStoA (ls : List zV) (i : Nat) (nx : Nat) (st : List zV) (h : zH) : Option zRes := match st with
  | v :: st => if v.1 = 2 ∧ i < ls.length then zGo nx (zSt1 ls i v) st h else none
  | _ => none
def zStoL (ls : List zV) (i : Nat) (nx : Nat) (st : List zV) (h : zH) : Option zRes := match st with
  | v :: st => if v.1 = 1 ∧ i + 1 < ls.length then zGo nx (zSt2 ls i v) st h else none
  | _ => none
def zGet (kd sl c nx : Nat) (ls st : List zV) (h : zH) : Option zRes := match st with
  | (2, r) :: st => if zKd h r = kd then zGo nx ls ((zTg c, h.2 r.toNat sl) :: st) h else none
  | _ => none
def zPut (kd sl c nx : Nat) (ls st : List zV) (h : zH) : Option zRes := match st with
  | (t, x) :: (2, r) :: st => if zKd h r = kd ∧ 13 ≤ r.toNat ∧ t = zTg c ∧ (c = 3 → x = 0 ∨ x = 1) then zGo nx ls st (h.1, zupd h.2 r.toNat sl x) else none
  | _ => none
def zAld (k1 k2 t nx : Nat) (ls st : List zV) (h : zH) : Option zRes := match st with
  | (0, i) :: (2, r) :: st => if (zKd h r = k1 ∨ zKd h r = k2) ∧ 0 ≤ i ∧ i < zLn h r then zGo nx ls ((t, h.2 r.toNat i.toNat) :: st) h else none
  | _ => none
def zAldR (nx : Nat) (ls st : List zV) (h : zH) : Option zRes := match st with
  | (0, i) :: (2, r) :: st => if zEl (zKd h r) ≠ 98 ∧ 0 ≤ i ∧ i < zLn h r then zGo nx ls (zR (h.2 r.toNat i.toNat) :: st) h else none
  | _ => none
def zAst (k1 t nx : Nat) (ls st : List zV) (h : zH) : Option zRes := match st with
  | (t1, x) :: (0, i) :: (2, r) :: st => if zKd h r = k1 ∧ t1 = t ∧ 13 ≤ r.toNat ∧ 0 ≤ i ∧ i < zLn h r ∧ (k1 = 22 → x = 0 ∨ x = 1) then zGo nx ls st (h.1, zupd h.2 r.toNat i.toNat x) else none
  | _ => none
def zAstR (nx : Nat) (ls st : List zV) (h : zH) : Option zRes := match st with
  | (2, x) :: (0, i) :: (2, r) :: st => if zEl (zKd h r) ≠ 98 ∧ zKd h x = zEl (zKd h r) ∧ 13 ≤ r.toNat ∧ 13 ≤ x.toNat ∧ 0 ≤ i ∧ i < zLn h r then zGo nx ls st (h.1, zupd h.2 r.toNat i.toNat x) else none
  | _ => none
def zLen (nx : Nat) (ls st : List zV) (h : zH) : Option zRes := match st with
  | (2, r) :: st => if 20 ≤ zKd h r ∧ zKd h r < 50 ∧ zKd h r ≠ 31 then zGo nx ls (zI (zLn h r) :: st) h else none
  | _ => none
def zNewA (kd nx : Nat) (ls st : List zV) (h : zH) : Option zRes := match st with
  | (0, n) :: st => if 0 ≤ n ∧ n ≤ 100000 then zGo nx ls (zR h.1.length :: st) (h.1 ++ [(kd, n.toNat)], zclr h.2 h.1.length) else none
  | _ => none
def zCopy (nx : Nat) (ls st : List zV) (h : zH) : Option zRes := match st with
  | (0, n) :: (0, dp) :: (2, d) :: (0, sp) :: (2, s) :: st => if (zKd h s = 20 ∨ zKd h s = 30) ∧ zKd h d = 20 ∧ 13 ≤ d.toNat ∧ 0 ≤ sp ∧ 0 ≤ dp ∧ 0 ≤ n ∧ sp + n ≤ zLn h s ∧ dp + n ≤ zLn h d ∧ (st.map zCat).sum ≤ 8 then zGo nx ls st (h.1, zcpy h.2 s.toNat sp.toNat d.toNat dp.toNat n.toNat) else none
  | _ => none
def zSwT (pc : Nat) (off : Int) (ls st : List zV) (h : zH) : Option zRes := if 0 ≤ (pc : Int) + off then zGo ((pc : Int) + off).toNat ls st h else none
def zIV (callee n mx nx : Nat) (kd : Int) (st : List zV) (h : zH) : Option zRes := match st[n]? with
  | some (2, r) => if zKd h r = kd.toNat ∧ r.toNat ≠ 0 then zCall callee (n + 1) mx nx st else none
  | _ => none
def zAct (i : zIns) (pc : Nat) (ls st : List zV) (h : zH) : Option zRes := match i with
  | (ins, nx, a, b, c, k) => match ins with
    | .iconst n => zGo nx ls (zI n :: st) h
    | .bipush n => zGo nx ls (zI n :: st) h
    | .sipush n => zGo nx ls (zI n :: st) h
    | .ldc _ => if a = 0 then zGo nx ls (zI k :: st) h else zGo nx ls (zR b :: st) h
    | .ldc_w _ => zGo nx ls (zI k :: st) h
    | .lconst n => zGo nx ls (zL (n : Nat) :: st) h
    | .ldc2_w _ => zGo nx ls (zL k :: st) h
    | .aconst_null => zGo nx ls (zR 0 :: st) h
    | .iload_n n => zLd ls n 0 nx st h
    | .iload n => zLd ls n 0 nx st h
    | .lload_n n => zLd ls n 1 nx st h
    | .lload n => zLd ls n 1 nx st h
    | .aload_n n => zLdA ls n nx st h
    | .aload n => zLdA ls n nx st h
    | .istore_n n => zSto ls n 0 nx st h
    | .istore n => zSto ls n 0 nx st h
    | .lstore_n n => zStoL ls n nx st h
    | .lstore n => zStoL ls n nx st h
    | .astore_n n => zStoA ls n nx st h
    | .astore n => zStoA ls n nx st h
    | .iinc n d => match ls[n]? with
      | some (0, x) => zGo nx (zSt1 ls n (zI (zw32 (x + d)))) st h
      | _ => none
    | .iadd => zBin (fun x y => zw32 (x + y)) nx ls st h
    | .isub => zBin (fun x y => zw32 (x - y)) nx ls st h
    | .imul => zBin (fun x y => zw32 (x * y)) nx ls st h
    | .iand => zBin zand nx ls st h
    | .ior => zBin zor nx ls st h
    | .ixor => zBin zxor nx ls st h
    | .ishl => zBin zshl nx ls st h
    | .ishr => zBin zshr nx ls st h
    | .iushr => zBin zushr nx ls st h
    | .idiv => match st with
      | (0, y) :: (0, x) :: st => if y = 0 then none else zGo nx ls (zI (zw32 (x.tdiv y)) :: st) h
      | _ => none
    | .irem => match st with
      | (0, y) :: (0, x) :: st => if y = 0 then none else zGo nx ls (zI (x.tmod y) :: st) h
      | _ => none
    | .ineg => match st with
      | (0, x) :: st => zGo nx ls (zI (zw32 (-x)) :: st) h
      | _ => none
    | .ladd => zBinL (fun x y => zw64 (x + y)) nx ls st h
    | .lsub => zBinL (fun x y => zw64 (x - y)) nx ls st h
    | .lmul => zBinL (fun x y => zw64 (x * y)) nx ls st h
    | .land => zBinL zland nx ls st h
    | .lor => zBinL zlor nx ls st h
    | .lshl => zBinS zlshl nx ls st h
    | .lshr => zBinS zlshr nx ls st h
    | .lushr => zBinS zlushr nx ls st h
    | .ldiv => match st with
      | (1, y) :: (1, x) :: st => if y = 0 then none else zGo nx ls (zL (zw64 (x.tdiv y)) :: st) h
      | _ => none
    | .lrem => match st with
      | (1, y) :: (1, x) :: st => if y = 0 then none else zGo nx ls (zL (x.tmod y) :: st) h
      | _ => none
    | .lcmp => match st with
      | (1, y) :: (1, x) :: st => zGo nx ls (zI (zcmp x y) :: st) h
      | _ => none
    | .i2l => match st with
      | (0, x) :: st => zGo nx ls (zL x :: st) h
      | _ => none
    | .l2i => match st with
      | (1, x) :: st => zGo nx ls (zI (zw32 x) :: st) h
      | _ => none
    | .i2c => match st with
      | (0, x) :: st => zGo nx ls (zI (zi2c x) :: st) h
      | _ => none
    | .ifCond cd _ => match st with
      | (0, x) :: st => if zCd cd x 0 then zGo a ls st h else zGo nx ls st h
      | _ => none
    | .if_icmp cd _ => match st with
      | (0, y) :: (0, x) :: st => if zCd cd x y then zGo a ls st h else zGo nx ls st h
      | _ => none
    | .goto _ => zGo a ls st h
    | .ifnull _ => match st with
      | (2, r) :: st => if r.toNat = 0 then zGo a ls st h else zGo nx ls st h
      | _ => none
    | .ifnonnull _ => match st with
      | (2, r) :: st => if r.toNat = 0 then zGo nx ls st h else zGo a ls st h
      | _ => none
    | .tableswitch dflt lo hi offs => match st with
      | (0, x) :: st => if x < lo ∨ hi < x then zSwT pc dflt ls st h else match offs[(x - lo).toNat]? with
        | some off => zSwT pc off ls st h
        | none => none
      | _ => none
    | .lookupswitch dflt ps => match st with
      | (0, x) :: st => zSwT pc (Op.lookupswitch.offset ps.toList dflt x) ls st h
      | _ => none
    | .getfield _ => zGet a b c nx ls st h
    | .putfield _ => zPut a b c nx ls st h
    | .getstatic _ => if c = 0 then zGo nx ls (zI k :: st) h else if c = 2 then zGo nx ls (zR a :: st) h else zGo nx ls (zQ :: st) h
    | .new _ => zGo nx ls (zR h.1.length :: st) (h.1 ++ [(a, b)], zclr h.2 h.1.length)
    | .newarray _ => zNewA a nx ls st h
    | .anewarray _ => zNewA a nx ls st h
    | .arraylength => zLen nx ls st h
    | .iaload => zAld 20 30 0 nx ls st h
    | .laload => zAld 21 21 1 nx ls st h
    | .baload => zAld 22 32 0 nx ls st h
    | .aaload => zAldR nx ls st h
    | .iastore => zAst 20 0 nx ls st h
    | .lastore => zAst 21 1 nx ls st h
    | .bastore => zAst 22 0 nx ls st h
    | .aastore => zAstR nx ls st h
    | .dup => match st with
      | v :: st => if v.1 = 0 ∨ v.1 = 2 then zGo nx ls (v :: v :: st) h else none
      | _ => none
    | .pop => match st with
      | v :: st => if v.1 = 0 ∨ v.1 = 2 then zGo nx ls st h else none
      | _ => none
    | .dup2 => match st with
      | v :: w :: st => if (v.1 = 0 ∨ v.1 = 2) ∧ (w.1 = 0 ∨ w.1 = 2) then zGo nx ls (v :: w :: v :: w :: st) h else none
      | _ => none
    | .ireturn => match st with
      | [(0, x)] => if zRt b x then some (.inl (zI x, h)) else none
      | _ => none
    | .lreturn => match st with
      | [(1, x)] => some (.inl (zL x, h))
      | _ => none
    | .areturn => match st with
      | [(2, x)] => some (.inl (zR x, h))
      | _ => none
    | .return_ => match st with
      | [] => some (.inl (zU, h))
      | _ => none
    | .invokestatic _ => if b = 77 then zCopy nx ls st h else zCall a b c nx st
    | .invokespecial _ => if b = 78 then (match st with
      | (2, r) :: st => if r.toNat ≠ 0 ∧ (st.map zCat).sum ≤ 8 then zGo nx ls st h else none
      | _ => none) else zIV a b c nx k st h
    | .invokevirtual _ => zIV a b c nx k st h
    | _ => none
