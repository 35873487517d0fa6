/-! the small machine: values, cells as functions of address and place, references apart from numbers -/
abbrev zV : Type := (Int ⊕ Int) ⊕ (Nat ⊕ Bool)
def zI (x : Int) : zV := .inl (.inl x)
def zL (x : Int) : zV := .inl (.inr x)
def zR (a : Nat) : zV := .inr (.inl a)
def zU : zV := .inr (.inr false)
def zQ : zV := .inr (.inr true)
abbrev zSh : Type := List (Nat × Nat)
abbrev zPp : Type := Nat → Int → Nat
abbrev zMm : Type := Nat → Int → Int
abbrev zIns : Type := Instr × Nat × Nat × Nat × Nat × Int × Nat
abbrev zHp : Type := zSh × zPp × zMm
abbrev zRes : Type := (zV × zHp) ⊕ ((Nat × List zV × List zV × zHp) ⊕ (Nat × List zV × List zV × Nat))
abbrev zMI : Type := MethodName × ByteArray × Nat × Option FieldType × Nat × Nat × Nat × List (Nat × zIns)
def zw32 (x : Int) : Int := (x + 2147483648) % 4294967296 - 2147483648
def zw64 (x : Int) : Int := (x + 9223372036854775808) % 18446744073709551616 - 9223372036854775808
def zand (x y : Int) : Int := (Int32.ofInt x &&& Int32.ofInt y).toInt
def zor (x y : Int) : Int := (Int32.ofInt x ||| Int32.ofInt y).toInt
def zxor (x y : Int) : Int := (Int32.ofInt x ^^^ Int32.ofInt y).toInt
def zshl (x y : Int) : Int := (Int32.ofInt x <<< (Int32.ofInt y &&& 31)).toInt
def zshr (x y : Int) : Int := (Int32.ofInt x >>> (Int32.ofInt y &&& 31)).toInt
def zushr (x y : Int) : Int := ((Int32.ofInt x).toUInt32 >>> ((Int32.ofInt y).toUInt32 &&& Int32.toUInt32 31)).toInt32.toInt
def zland (x y : Int) : Int := (Int64.ofInt x &&& Int64.ofInt y).toInt
def zlor (x y : Int) : Int := (Int64.ofInt x ||| Int64.ofInt y).toInt
def zlshl (x y : Int) : Int := (Int64.ofInt x <<< ((Int32.ofInt y).toInt64 &&& 63)).toInt
def zlshr (x y : Int) : Int := (Int64.ofInt x >>> ((Int32.ofInt y).toInt64 &&& 63)).toInt
def zlushr (x y : Int) : Int := ((Int64.ofInt x).toUInt64 >>> ((Int32.ofInt y).toInt64.toUInt64 &&& Int64.toUInt64 63)).toInt64.toInt
def zi2c (x : Int) : Int := ((Int32.ofInt x).toUInt32 % 65536).toInt32.toInt
def zcmp (x y : Int) : Int := if x < y then -1 else if x = y then 0 else 1
def zupd (mm : zMm) (a : Nat) (i : Int) (v : Int) : zMm := fun b j => if b = a ∧ j = i then v else mm b j
def zupp (pp : zPp) (a : Nat) (i : Int) (v : Nat) : zPp := fun b j => if b = a ∧ j = i then v else pp b j
def zclr (mm : zMm) (a : Nat) : zMm := fun b j => if b = a then 0 else mm b j
def zclp (pp : zPp) (a : Nat) : zPp := fun b j => if b = a then 0 else pp b j
def zcpy (mm : zMm) (s : Nat) (sp : Int) (d : Nat) (dp n : Int) : zMm := fun b j => if b = d ∧ dp ≤ j ∧ j < dp + n then mm s (sp + (j - dp)) else mm b j
def zIsL (v : zV) : Bool := match v with
  | .inl (.inr _) => true
  | _ => false
def zIsU (v : zV) : Bool := match v with
  | .inr (.inr false) => true
  | _ => false
def zCat (v : zV) : Nat := if zIsL v then 2 else 1
def zEl (kd : Nat) : Nat := if kd = 24 then 10 else if kd = 25 then 9 else if kd = 26 then 8 else if kd = 27 then 1 else 98
def zGo (nx : Nat) (ls st : List zV) (sh : zSh) (pp : zPp) (mm : zMm) : Option zRes := some (.inr (.inl (nx, ls, st, sh, pp, mm)))
def zMask : Nat → List zV → List zV
  | _, [] => []
  | m, v :: vs => (if m % 2 = 1 then v else zU) :: zMask (m / 2) vs
def zMk (i : zIns) : Nat := i.2.2.2.2.2.2
def zClr (ls : List zV) (i : Nat) : List zV := match i with
  | 0 => ls
  | j + 1 => match ls[j]? with
    | some v => if zIsL v then ls.set j zU else ls
    | none => ls
def zSt1 (ls : List zV) (i : Nat) (v : zV) : List zV := (zClr ls i).set i v
def zSt2 (ls : List zV) (i : Nat) (v : zV) : List zV := ((zClr ls i).set i v).set (i + 1) zU
def zLay : List zV → List zV
  | [] => []
  | v :: vs => if zIsL v then v :: zU :: zLay vs else v :: zLay vs
def zPad (mx : Nat) (l : List zV) : List zV := l ++ List.replicate (mx - l.length) zU
def zCall (callee n mx nx : Nat) (st : List zV) : Option zRes :=
  if n ≤ st.length ∧ ((st.drop n).map zCat).sum ≤ 8 ∧ (zLay (st.take n).reverse).length ≤ mx ∧ (st.take n).all (fun v => !zIsU v) = true then some (.inr (.inr (callee, zPad mx (zLay (st.take n).reverse), st.drop n, nx))) else none
def zKd (sh : zSh) (r : Nat) : Nat := match sh[r]? with
  | some q => q.1
  | none => 99
def zLn (sh : zSh) (r : Nat) : Int := match sh[r]? with
  | some q => (q.2 : Int)
  | none => 0
def zPush (r : zV) (st : List zV) : List zV := if zIsU r then st else r :: st
def zCd (c : ClassFile.Cond) (x y : Int) : Bool := match c with
  | .eq => decide (x = y)
  | .ne => !decide (x = y)
  | .lt => decide (x < y)
  | .ge => !decide (x < y)
  | .gt => decide (y < x)
  | .le => !decide (y < x)
def zRt (b : Nat) (x : Int) : Bool := if b = 3 then decide (x = 0 ∨ x = 1) else if b = 4 then decide (-128 ≤ x ∧ x ≤ 127) else if b = 5 then decide (0 ≤ x ∧ x ≤ 65535) else true
def zLd (ls : List zV) (i : Nat) (nx : Nat) (st : List zV) (sh : zSh) (pp : zPp) (mm : zMm) : Option zRes := match ls[i]? with
  | some (.inl (.inl x)) => zGo nx ls (.inl (.inl x) :: st) sh pp mm
  | _ => none
def zLdL (ls : List zV) (i : Nat) (nx : Nat) (st : List zV) (sh : zSh) (pp : zPp) (mm : zMm) : Option zRes := match ls[i]? with
  | some (.inl (.inr x)) => zGo nx ls (.inl (.inr x) :: st) sh pp mm
  | _ => none
def zLdA (ls : List zV) (i : Nat) (nx : Nat) (st : List zV) (sh : zSh) (pp : zPp) (mm : zMm) : Option zRes := match ls[i]? with
  | some (.inr (.inl x)) => zGo nx ls (.inr (.inl x) :: st) sh pp mm
  | some (.inr (.inr true)) => zGo nx ls (.inr (.inr true) :: st) sh pp mm
  | _ => none
def zBin (f : Int → Int → Int) (nx : Nat) (ls st : List zV) (sh : zSh) (pp : zPp) (mm : zMm) : Option zRes := match st with
  | .inl (.inl y) :: .inl (.inl x) :: st => zGo nx ls (zI (f x y) :: st) sh pp mm
  | _ => none
def zBinL (f : Int → Int → Int) (nx : Nat) (ls st : List zV) (sh : zSh) (pp : zPp) (mm : zMm) : Option zRes := match st with
  | .inl (.inr y) :: .inl (.inr x) :: st => zGo nx ls (zL (f x y) :: st) sh pp mm
  | _ => none
def zBinS (f : Int → Int → Int) (nx : Nat) (ls st : List zV) (sh : zSh) (pp : zPp) (mm : zMm) : Option zRes := match st with
  | .inl (.inl y) :: .inl (.inr x) :: st => zGo nx ls (zL (f x y) :: st) sh pp mm
  | _ => none
def zSto (ls : List zV) (i : Nat) (nx : Nat) (st : List zV) (sh : zSh) (pp : zPp) (mm : zMm) : Option zRes := match st with
  | .inl (.inl x) :: st => if i < ls.length then zGo nx (zSt1 ls i (zI x)) st sh pp mm else none
  | _ => none
def zStoA (ls : List zV) (i : Nat) (nx : Nat) (st : List zV) (sh : zSh) (pp : zPp) (mm : zMm) : Option zRes := match st with
  | .inr (.inl x) :: st => if i < ls.length then zGo nx (zSt1 ls i (zR x)) st sh pp mm else none
  | _ => none
def zStoL (ls : List zV) (i : Nat) (nx : Nat) (st : List zV) (sh : zSh) (pp : zPp) (mm : zMm) : Option zRes := match st with
  | .inl (.inr x) :: st => if i + 1 < ls.length then zGo nx (zSt2 ls i (zL x)) st sh pp mm else none
  | _ => none
def zFv (c : Nat) (r : Nat) (sl : Nat) (pp : zPp) (mm : zMm) : zV := if c = 2 then zR (pp r sl) else if c = 1 then zL (mm r sl) else zI (mm r sl)
def zGet (kd sl c nx : Nat) (ls st : List zV) (sh : zSh) (pp : zPp) (mm : zMm) : Option zRes := match st with
  | .inr (.inl r) :: st => if zKd sh r = kd then zGo nx ls (zFv c r sl pp mm :: st) sh pp mm else none
  | _ => none
def zPut (kd sl c nx : Nat) (ls st : List zV) (sh : zSh) (pp : zPp) (mm : zMm) : Option zRes := match st with
  | .inl (.inl x) :: .inr (.inl r) :: st => if zKd sh r = kd ∧ (c = 0 ∨ (c = 3 ∧ (x = 0 ∨ x = 1))) then zGo nx ls st sh pp (zupd mm r sl x) else none
  | .inr (.inl a) :: .inr (.inl r) :: st => if zKd sh r = kd ∧ c = 2 then zGo nx ls st sh (zupp pp r sl a) mm else none
  | _ => none
def zAld (k1 k2 nx : Nat) (ls st : List zV) (sh : zSh) (pp : zPp) (mm : zMm) : Option zRes := match st with
  | .inl (.inl i) :: .inr (.inl r) :: st => if (zKd sh r = k1 ∨ zKd sh r = k2) ∧ 0 ≤ i ∧ i < zLn sh r then zGo nx ls (zI (mm r i) :: st) sh pp mm else none
  | _ => none
def zAldL (nx : Nat) (ls st : List zV) (sh : zSh) (pp : zPp) (mm : zMm) : Option zRes := match st with
  | .inl (.inl i) :: .inr (.inl r) :: st => if zKd sh r = 21 ∧ 0 ≤ i ∧ i < zLn sh r then zGo nx ls (zL (mm r i) :: st) sh pp mm else none
  | _ => none
def zAldR (nx : Nat) (ls st : List zV) (sh : zSh) (pp : zPp) (mm : zMm) : Option zRes := match st with
  | .inl (.inl i) :: .inr (.inl r) :: st => if zEl (zKd sh r) ≠ 98 ∧ 0 ≤ i ∧ i < zLn sh r then zGo nx ls (zR (pp r i) :: st) sh pp mm else none
  | _ => none
def zAst (k1 nx : Nat) (ls st : List zV) (sh : zSh) (pp : zPp) (mm : zMm) : Option zRes := match st with
  | .inl (.inl x) :: .inl (.inl i) :: .inr (.inl r) :: st => if zKd sh r = k1 ∧ 0 ≤ i ∧ i < zLn sh r ∧ (k1 = 22 → x = 0 ∨ x = 1) then zGo nx ls st sh pp (zupd mm r i x) else none
  | _ => none
def zAstL (nx : Nat) (ls st : List zV) (sh : zSh) (pp : zPp) (mm : zMm) : Option zRes := match st with
  | .inl (.inr x) :: .inl (.inl i) :: .inr (.inl r) :: st => if zKd sh r = 21 ∧ 0 ≤ i ∧ i < zLn sh r then zGo nx ls st sh pp (zupd mm r i x) else none
  | _ => none
def zAstR (nx : Nat) (ls st : List zV) (sh : zSh) (pp : zPp) (mm : zMm) : Option zRes := match st with
  | .inr (.inl x) :: .inl (.inl i) :: .inr (.inl r) :: st => if zEl (zKd sh r) ≠ 98 ∧ zKd sh x = zEl (zKd sh r) ∧ 0 ≤ i ∧ i < zLn sh r then zGo nx ls st sh (zupp pp r i x) mm else none
  | _ => none
def zLen (nx : Nat) (ls st : List zV) (sh : zSh) (pp : zPp) (mm : zMm) : Option zRes := match st with
  | .inr (.inl r) :: st => if 20 ≤ zKd sh r ∧ zKd sh r < 50 ∧ zKd sh r ≠ 31 then zGo nx ls (zI (zLn sh r) :: st) sh pp mm else none
  | _ => none
def zNewA (kd nx : Nat) (ls st : List zV) (sh : zSh) (pp : zPp) (mm : zMm) : Option zRes := match st with
  | .inl (.inl n) :: st => if 0 ≤ n ∧ n ≤ 100000 then zGo nx ls (zR sh.length :: st) (sh ++ [(kd, n.toNat)]) (zclp pp sh.length) (zclr mm sh.length) else none
  | _ => none
def zCopy (nx : Nat) (ls st : List zV) (sh : zSh) (pp : zPp) (mm : zMm) : Option zRes := match st with
  | .inl (.inl n) :: .inl (.inl dp) :: .inr (.inl d) :: .inl (.inl sp) :: .inr (.inl s) :: st => if (zKd sh s = 20 ∨ zKd sh s = 30) ∧ zKd sh d = 20 ∧ s ≠ d ∧ 0 ≤ sp ∧ 0 ≤ dp ∧ 0 ≤ n ∧ sp + n ≤ zLn sh s ∧ dp + n ≤ zLn sh d ∧ (st.map zCat).sum ≤ 8 then zGo nx ls st sh pp (zcpy mm s sp d dp n) else none
  | _ => none
def zSwT (pc : Nat) (off : Int) (ls st : List zV) (sh : zSh) (pp : zPp) (mm : zMm) : Option zRes := if 0 ≤ (pc : Int) + off then zGo ((pc : Int) + off).toNat ls st sh pp mm else none
def zIV (callee n mx nx : Nat) (kd : Int) (st : List zV) (sh : zSh) : Option zRes := match st[n]? with
  | some (.inr (.inl r)) => if zKd sh r = kd.toNat then zCall callee (n + 1) mx nx st else none
  | _ => none
def zAct (i : zIns) (pc : Nat) (ls st : List zV) (sh : zSh) (pp : zPp) (mm : zMm) : Option zRes := match i with
  | (ins, nx, a, b, c, k, _) => match ins with
    | .iconst n => zGo nx ls (zI n :: st) sh pp mm
    | .bipush n => zGo nx ls (zI n :: st) sh pp mm
    | .sipush n => zGo nx ls (zI n :: st) sh pp mm
    | .ldc _ => if a = 0 then zGo nx ls (zI k :: st) sh pp mm else zGo nx ls (zR b :: st) sh pp mm
    | .ldc_w _ => zGo nx ls (zI k :: st) sh pp mm
    | .lconst n => zGo nx ls (zL (n : Nat) :: st) sh pp mm
    | .ldc2_w _ => zGo nx ls (zL k :: st) sh pp mm
    | .aconst_null => zGo nx ls (zR 0 :: st) sh pp mm
    | .iload_n n => zLd ls n nx st sh pp mm
    | .iload n => zLd ls n nx st sh pp mm
    | .lload_n n => zLdL ls n nx st sh pp mm
    | .lload n => zLdL ls n nx st sh pp mm
    | .aload_n n => zLdA ls n nx st sh pp mm
    | .aload n => zLdA ls n nx st sh pp mm
    | .istore_n n => zSto ls n nx st sh pp mm
    | .istore n => zSto ls n nx st sh pp mm
    | .lstore_n n => zStoL ls n nx st sh pp mm
    | .lstore n => zStoL ls n nx st sh pp mm
    | .astore_n n => zStoA ls n nx st sh pp mm
    | .astore n => zStoA ls n nx st sh pp mm
    | .iinc n d => match ls[n]? with
      | some (.inl (.inl x)) => zGo nx (zSt1 ls n (zI (zw32 (x + d)))) st sh pp mm
      | _ => none
    | .iadd => zBin (fun x y => zw32 (x + y)) nx ls st sh pp mm
    | .isub => zBin (fun x y => zw32 (x - y)) nx ls st sh pp mm
    | .imul => zBin (fun x y => zw32 (x * y)) nx ls st sh pp mm
    | .iand => zBin zand nx ls st sh pp mm
    | .ior => zBin zor nx ls st sh pp mm
    | .ixor => zBin zxor nx ls st sh pp mm
    | .ishl => zBin zshl nx ls st sh pp mm
    | .ishr => zBin zshr nx ls st sh pp mm
    | .iushr => zBin zushr nx ls st sh pp mm
    | .idiv => match st with
      | .inl (.inl y) :: .inl (.inl x) :: st => if y = 0 then none else zGo nx ls (zI (zw32 (x.tdiv y)) :: st) sh pp mm
      | _ => none
    | .irem => match st with
      | .inl (.inl y) :: .inl (.inl x) :: st => if y = 0 then none else zGo nx ls (zI (x.tmod y) :: st) sh pp mm
      | _ => none
    | .ineg => match st with
      | .inl (.inl x) :: st => zGo nx ls (zI (zw32 (-x)) :: st) sh pp mm
      | _ => none
    | .ladd => zBinL (fun x y => zw64 (x + y)) nx ls st sh pp mm
    | .lsub => zBinL (fun x y => zw64 (x - y)) nx ls st sh pp mm
    | .lmul => zBinL (fun x y => zw64 (x * y)) nx ls st sh pp mm
    | .land => zBinL zland nx ls st sh pp mm
    | .lor => zBinL zlor nx ls st sh pp mm
    | .lshl => zBinS zlshl nx ls st sh pp mm
    | .lshr => zBinS zlshr nx ls st sh pp mm
    | .lushr => zBinS zlushr nx ls st sh pp mm
    | .ldiv => match st with
      | .inl (.inr y) :: .inl (.inr x) :: st => if y = 0 then none else zGo nx ls (zL (zw64 (x.tdiv y)) :: st) sh pp mm
      | _ => none
    | .lrem => match st with
      | .inl (.inr y) :: .inl (.inr x) :: st => if y = 0 then none else zGo nx ls (zL (x.tmod y) :: st) sh pp mm
      | _ => none
    | .lcmp => match st with
      | .inl (.inr y) :: .inl (.inr x) :: st => zGo nx ls (zI (zcmp x y) :: st) sh pp mm
      | _ => none
    | .i2l => match st with
      | .inl (.inl x) :: st => zGo nx ls (zL x :: st) sh pp mm
      | _ => none
    | .l2i => match st with
      | .inl (.inr x) :: st => zGo nx ls (zI (zw32 x) :: st) sh pp mm
      | _ => none
    | .i2c => match st with
      | .inl (.inl x) :: st => zGo nx ls (zI (zi2c x) :: st) sh pp mm
      | _ => none
    | .ifCond cd _ => match st with
      | .inl (.inl x) :: st => if zCd cd x 0 then zGo a ls st sh pp mm else zGo nx ls st sh pp mm
      | _ => none
    | .if_icmp cd _ => match st with
      | .inl (.inl y) :: .inl (.inl x) :: st => if zCd cd x y then zGo a ls st sh pp mm else zGo nx ls st sh pp mm
      | _ => none
    | .goto _ => zGo a ls st sh pp mm
    | .ifnull _ => match st with
      | .inr (.inl r) :: st => if r = 0 then zGo a ls st sh pp mm else zGo nx ls st sh pp mm
      | _ => none
    | .ifnonnull _ => match st with
      | .inr (.inl r) :: st => if r = 0 then zGo nx ls st sh pp mm else zGo a ls st sh pp mm
      | _ => none
    | .tableswitch dflt lo hi offs => match st with
      | .inl (.inl x) :: st => if x < lo ∨ hi < x then zSwT pc dflt ls st sh pp mm else match offs[(x - lo).toNat]? with
        | some off => zSwT pc off ls st sh pp mm
        | none => none
      | _ => none
    | .lookupswitch dflt ps => match st with
      | .inl (.inl x) :: st => zSwT pc (Op.lookupswitch.offset ps.toList dflt x) ls st sh pp mm
      | _ => none
    | .getfield _ => zGet a b c nx ls st sh pp mm
    | .putfield _ => zPut a b c nx ls st sh pp mm
    | .getstatic _ => if c = 0 then zGo nx ls (zI k :: st) sh pp mm else if c = 2 then zGo nx ls (zR a :: st) sh pp mm else zGo nx ls (zQ :: st) sh pp mm
    | .new _ => zGo nx ls (zR sh.length :: st) (sh ++ [(a, b)]) (zclp pp sh.length) (zclr mm sh.length)
    | .newarray _ => zNewA a nx ls st sh pp mm
    | .anewarray _ => zNewA a nx ls st sh pp mm
    | .arraylength => zLen nx ls st sh pp mm
    | .iaload => zAld 20 30 nx ls st sh pp mm
    | .laload => zAldL nx ls st sh pp mm
    | .baload => zAld 22 32 nx ls st sh pp mm
    | .aaload => zAldR nx ls st sh pp mm
    | .iastore => zAst 20 nx ls st sh pp mm
    | .lastore => zAstL nx ls st sh pp mm
    | .bastore => zAst 22 nx ls st sh pp mm
    | .aastore => zAstR nx ls st sh pp mm
    | .dup => match st with
      | .inl (.inl x) :: st => zGo nx ls (zI x :: zI x :: st) sh pp mm
      | .inr (.inl x) :: st => zGo nx ls (zR x :: zR x :: st) sh pp mm
      | _ => none
    | .pop => match st with
      | .inl (.inl _) :: st => zGo nx ls st sh pp mm
      | .inr (.inl _) :: st => zGo nx ls st sh pp mm
      | _ => none
    | .dup2 => match st with
      | .inl (.inl x) :: .inr (.inl y) :: st => zGo nx ls (zI x :: zR y :: zI x :: zR y :: st) sh pp mm
      | _ => none
    | .ireturn => match st with
      | [.inl (.inl x)] => if zRt b x then some (.inl (zI x, sh, pp, mm)) else none
      | _ => none
    | .lreturn => match st with
      | [.inl (.inr x)] => some (.inl (zL x, sh, pp, mm))
      | _ => none
    | .areturn => match st with
      | [.inr (.inl x)] => some (.inl (zR x, sh, pp, mm))
      | _ => none
    | .return_ => match st with
      | [] => some (.inl (zU, sh, pp, mm))
      | _ => none
    | .invokestatic _ => if b = 77 then zCopy nx ls st sh pp mm else zCall a b c nx st
    | .invokespecial _ => if b = 78 then (match st with
      | .inr (.inl r) :: st => if r ≠ 0 ∧ r < sh.length ∧ (st.map zCat).sum ≤ 8 then zGo nx ls st sh pp mm else none
      | _ => none) else zIV a b c nx k st sh
    | .invokevirtual _ => zIV a b c nx k st sh
    | _ => none
