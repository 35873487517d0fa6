/-! ===== links of the code by their places in the tables; what is checked of every instruction ===== -/
def zFL : List (Nat × Nat × Nat × Nat × Nat × Nat) := [(0, 9, 0, 0, 2, 333), (0, 15, 0, 1, 0, 335), (1, 9, 1, 0, 2, 462), (1, 15, 1, 1, 2, 465), (1, 18, 1, 2, 0, 467), (1, 22, 1, 3, 0, 469), (1, 25, 1, 4, 3, 471), (1, 29, 1, 5, 3, 473), (1, 35, 1, 6, 2, 475), (1, 39, 1, 7, 2, 476), (1, 42, 1, 8, 0, 477), (1, 45, 1, 9, 2, 478), (1, 48, 1, 10, 2, 479), (1, 51, 1, 11, 0, 480), (1, 58, 8, 3, 0, 376), (1, 67, 4, 4, 0, 438), (1, 82, 8, 0, 2, 370), (1, 89, 8, 1, 2, 372), (1, 92, 8, 2, 2, 374), (1, 123, 4, 0, 0, 430), (1, 139, 4, 1, 0, 432), (1, 142, 4, 2, 0, 434), (1, 145, 4, 3, 0, 436), (2, 12, 2, 0, 2, 349), (2, 18, 2, 1, 2, 351), (2, 21, 2, 2, 2, 353), (2, 24, 2, 3, 2, 354), (2, 31, 3, 0, 2, 299), (2, 41, 3, 1, 2, 301), (2, 44, 3, 2, 0, 303), (2, 48, 3, 3, 0, 305), (2, 58, 0, 1, 0, 336), (3, 9, 3, 0, 2, 298), (3, 15, 3, 1, 2, 300), (3, 18, 3, 2, 0, 302), (3, 22, 3, 3, 0, 304), (3, 25, 3, 4, 2, 306), (3, 29, 3, 5, 2, 307), (3, 48, 1, 0, 2, 463), (4, 7, 4, 0, 0, 429), (4, 13, 4, 1, 0, 431), (4, 16, 4, 2, 0, 433), (4, 19, 4, 3, 0, 435), (4, 22, 4, 4, 0, 437), (4, 25, 4, 5, 0, 439), (4, 28, 4, 6, 0, 440), (4, 31, 4, 7, 0, 441), (4, 34, 4, 8, 0, 442), (5, 9, 5, 0, 2, 931), (5, 16, 5, 1, 2, 932), (5, 40, 6, 3, 0, 218), (5, 44, 6, 9, 2, 229), (5, 47, 6, 6, 2, 223), (5, 50, 6, 4, 2, 220), (5, 56, 6, 7, 2, 225), (5, 59, 6, 8, 2, 227), (6, 9, 6, 0, 0, 211), (6, 15, 6, 1, 3, 213), (6, 19, 6, 2, 3, 215), (6, 22, 6, 3, 0, 217), (6, 25, 6, 4, 2, 219), (6, 29, 6, 5, 2, 221), (6, 32, 6, 6, 2, 222), (6, 35, 6, 7, 2, 224), (6, 38, 6, 8, 2, 226), (6, 41, 6, 9, 2, 228), (6, 44, 6, 10, 3, 230), (6, 47, 6, 11, 2, 231), (6, 50, 6, 12, 2, 232), (6, 53, 6, 13, 2, 233), (6, 56, 6, 14, 0, 234), (6, 59, 6, 15, 0, 235), (6, 62, 6, 16, 0, 236), (6, 65, 6, 17, 2, 237), (6, 69, 9, 4, 2, 175), (6, 74, 10, 3, 0, 143), (6, 109, 9, 3, 2, 172), (6, 112, 9, 0, 2, 166), (7, 11, 7, 0, 2, 281), (7, 15, 7, 1, 2, 282), (7, 19, 7, 2, 2, 283), (8, 9, 8, 0, 2, 369), (8, 15, 8, 1, 2, 371), (8, 18, 8, 2, 2, 373), (8, 21, 8, 3, 0, 375), (8, 25, 8, 4, 0, 377), (8, 28, 8, 5, 3, 379), (8, 32, 8, 6, 2, 381), (8, 35, 8, 7, 0, 382), (8, 38, 8, 8, 0, 383), (8, 41, 8, 9, 2, 384), (8, 44, 8, 10, 2, 385), (8, 47, 8, 11, 2, 386), (8, 50, 8, 12, 0, 387), (8, 53, 8, 13, 0, 388), (8, 56, 10, 2, 2, 140), (8, 61, 10, 3, 0, 142), (9, 9, 9, 0, 2, 164), (9, 17, 9, 1, 2, 167), (9, 24, 9, 2, 2, 169), (9, 28, 9, 3, 2, 171), (9, 31, 9, 4, 2, 174), (9, 34, 9, 5, 2, 177), (9, 37, 9, 6, 2, 179), (9, 40, 9, 7, 0, 181), (9, 63, 10, 3, 0, 144), (10, 9, 10, 3, 0, 141), (10, 15, 10, 1, 0, 138), (10, 18, 10, 0, 0, 137), (10, 21, 10, 2, 2, 139), (11, 10, 11, 0, 2, 506), (11, 16, 11, 1, 2, 507), (11, 20, 11, 2, 2, 508), (11, 26, 11, 3, 2, 509), (11, 32, 11, 4, 2, 510), (11, 39, 11, 5, 2, 511), (11, 46, 11, 6, 2, 512), (11, 53, 11, 7, 2, 513), (11, 60, 11, 8, 2, 514), (11, 76, 9, 0, 2, 165), (11, 89, 9, 1, 2, 168), (11, 93, 10, 3, 0, 145), (11, 115, 8, 4, 0, 378), (11, 130, 1, 0, 2, 464), (11, 136, 1, 2, 0, 468), (11, 139, 1, 1, 2, 466), (11, 147, 1, 3, 0, 470), (11, 154, 9, 2, 2, 170), (11, 176, 9, 3, 2, 173), (11, 179, 9, 4, 2, 176), (11, 186, 6, 0, 0, 212), (11, 189, 6, 2, 3, 216), (11, 205, 6, 1, 3, 214), (11, 214, 9, 6, 2, 180), (11, 217, 9, 7, 0, 182), (11, 223, 9, 5, 2, 178), (11, 233, 2, 0, 2, 350), (11, 237, 2, 1, 2, 352), (11, 240, 0, 1, 0, 337), (11, 245, 0, 0, 2, 334), (11, 261, 8, 5, 3, 380), (11, 264, 1, 5, 3, 474), (11, 274, 1, 4, 3, 472), (12, 7, 12, 0, 2, 1209), (12, 13, 12, 1, 2, 1210), (12, 16, 12, 2, 2, 1211), (12, 20, 12, 3, 2, 1212), (12, 23, 12, 4, 2, 1213), (12, 27, 12, 5, 2, 1214), (12, 30, 12, 15, 2, 1224), (12, 33, 12, 16, 2, 1225), (12, 36, 12, 17, 2, 1226), (12, 39, 12, 18, 2, 1227), (12, 42, 12, 19, 2, 1228), (12, 45, 12, 27, 2, 1236), (12, 48, 12, 28, 2, 1237), (12, 51, 12, 29, 2, 1238), (12, 54, 12, 30, 2, 1239), (12, 57, 12, 31, 2, 1240), (12, 60, 12, 32, 2, 1241), (12, 63, 12, 33, 2, 1242), (12, 67, 12, 34, 2, 1243), (12, 70, 12, 35, 2, 1244), (12, 109, 12, 6, 0, 1215), (12, 144, 12, 7, 0, 1216), (12, 170, 12, 8, 0, 1217), (12, 173, 12, 9, 0, 1218), (12, 176, 12, 10, 0, 1219), (12, 179, 12, 11, 0, 1220), (12, 191, 12, 14, 0, 1223), (12, 201, 12, 12, 0, 1221), (12, 208, 12, 13, 0, 1222), (12, 217, 12, 21, 0, 1230), (12, 220, 12, 24, 0, 1233), (12, 223, 12, 22, 0, 1231), (12, 226, 12, 23, 0, 1232), (12, 241, 12, 20, 0, 1229), (12, 247, 12, 25, 0, 1234), (12, 250, 12, 26, 3, 1235)]
def zSFL : List (Nat × Nat × Nat × Nat) := [(16, 9, 0, 1740), (16, 15, 1, 1741)]
def zSL : List (Nat × Nat × Nat × Nat × Nat × Int) := [(9, 44, 4, 156, 2, 1), (11, 66, 2, 538, 2, 0), (11, 69, 3, 540, 2, 0), (16, 38, 0, 619, 0, 1), (16, 1053, 0, 635, 3, 0)]
def zKL : List (Nat × Nat × Nat × Int) := [(0, 25, 348, 1073741823), (5, 15, 930, 36864), (5, 33, 948, 1000000), (6, 156, 938, 1000000), (7, 22, 984, 1000000), (11, 146, 795, 1000000), (12, 66, 1203, 36864), (12, 331, 1577, 1000000), (14, 265, 866, 1431655765), (14, 266, 867, 858993459), (14, 267, 868, 252645135)]
def zK2 : List (Nat × Nat × Nat × Int) := [(0, 32, 1054, 1073741823), (0, 48, 1196, 31), (2, 91, 1190, 31), (9, 70, 1179, 31), (10, 35, 1185, 31), (11, 254, 1174, 599), (12, 77, 1208, 1073741824), (12, 83, 1659, 2), (12, 119, 1323, 8), (12, 138, 1348, 3), (12, 140, 1443, 23), (12, 142, 1444, 15), (12, 157, 1357, 255), (12, 159, 1387, 97), (12, 161, 1388, 122), (12, 166, 1382, 48), (12, 168, 1383, 57), (12, 263, 1409, 9), (12, 284, 1484, (-23)), (12, 286, 1485, (-15)), (12, 345, 1602, 7), (12, 347, 1603, 6), (12, 353, 1614, (-1)), (12, 371, 1692, 40), (12, 379, 1734, 31), (12, 381, 1733, 599), (13, 18, 1739, 4294967295)]
def zStL : List (Nat × Nat × Nat) := [(8, 92, 5), (8, 98, 6), (8, 100, 7), (8, 102, 8)]
def zCL : List (Nat × Nat × Nat × Nat) := [(1, 32, 4, 423), (2, 9, 0, 327), (6, 153, 5, 924), (9, 15, 10, 130), (11, 7, 9, 124), (11, 24, 8, 201), (11, 30, 1, 203), (11, 36, 6, 205), (11, 43, 7, 275), (11, 50, 3, 292), (11, 57, 2, 321), (13, 7, 11, 116), (13, 10, 12, 1197)]
def zAL : List (Nat × Nat × Nat × Nat) := [(9, 15, 24, 130), (11, 7, 25, 124), (11, 24, 26, 201), (11, 30, 27, 203)]
def zCpL : List (Nat × Nat × Nat) := [(0, 26, 1083), (6, 141, 910), (7, 37, 1003), (9, 47, 158), (10, 29, 1152)]
def zOiL : List (Nat × Nat × Nat) := [(0, 3, 332), (1, 3, 422), (2, 3, 326), (3, 3, 297), (4, 1, 428), (5, 3, 929), (6, 3, 210), (7, 3, 280), (8, 3, 368), (9, 3, 129), (10, 3, 136), (11, 1, 121), (12, 1, 1202)]
def zAtr : List Nat := [1, 2, 2, 2, 2, 2, 2, 2, 2, 2, 2, 2, 2, 2, 2, 1, 2, 2, 2, 2, 2, 0, 0, 2, 2, 2, 2, 2, 2, 2, 1, 2, 2, 2, 2, 2, 2, 1, 2, 2, 2, 2, 0, 1, 2, 2, 1, 2, 2, 2, 2, 0, 0, 1, 2, 2, 2, 2, 2, 2, 2, 2, 2, 2, 2, 2, 2, 2, 2, 2, 0, 1, 2, 0, 2, 2, 0, 1, 2, 2, 2, 2, 2, 0, 0, 2, 2, 2, 0, 0, 2, 1, 2, 2, 2, 1, 2, 2, 2, 2, 2, 2, 1, 2, 2, 2, 2, 2, 2, 2, 2, 2, 2, 2, 2, 2, 2, 2, 2, 2, 2, 2, 2, 2, 2, 2, 2, 2, 2, 2, 2, 2, 2, 2, 2, 2, 2, 2, 2, 0, 0, 0, 0, 0, 0, 0, 2, 2, 2, 2, 1, 0, 2, 2, 2, 2, 2, 2, 2, 2, 2, 2, 2, 2, 2, 2, 2, 2, 2, 2, 0, 0, 2, 0, 0, 2, 2, 2, 2, 0, 2, 2, 2, 2, 2, 2, 2, 2, 2, 2, 0, 0, 0, 2, 2, 2, 2, 2, 2, 2, 2, 2, 2, 2, 2, 2, 2, 2, 2, 2, 2, 2, 2, 2, 2, 2, 0, 2, 2, 2, 2, 2, 2, 2, 2, 2, 2, 2, 2, 2, 2, 2, 2, 0, 0, 2, 2, 2, 2, 2, 2, 2, 2, 2, 2, 2, 2, 2, 2, 2, 2, 2, 2, 2, 2, 0, 0, 0, 0, 0, 0, 2, 2, 2, 2, 0, 0, 9, 9, 9, 9, 0, 0, 9]
def zAtW (k : Nat) (w : Cond) : Bool := decide (lw_tbl[k]? = some w)
def zFd (kd sl : Nat) : String × String × String × Bool := match vwCl[kd]? with
  | some r => r.2.1 sl
  | none => ("", "", "", false)
def zAn (k : Nat) : FieldType := if k = 20 then .int else if k = 21 then .long else if k = 22 then .boolean else if k = 24 then .object RX10 else if k = 25 then .object RX9 else if k = 26 then .object RX8 else .object RX1
def zCp : MethodName := ⟨"java/lang/System", "arraycopy", "(Ljava/lang/Object;ILjava/lang/Object;II)V"⟩
def zSn (k : Nat) : String := if k = 2 then "LEAST" else if k = 3 then "GREATEST" else "AT_FIRST"
def zSx (k : Nat) : String := if k = 5 then "turn" else if k = 6 then "shake" else if k = 7 then "loop" else "end"
def zRty (b : Nat) : Option FieldType := if b = 0 then some .int else if b = 3 then some .boolean else if b = 4 then some .byte else if b = 5 then some .char else none
def zIsRt (r : Option FieldType) : Bool := match r with
  | some (.object _) => true
  | some (.array _) => true
  | _ => false
def zNa (t : ArrayType) : Nat := match t with
  | .int => 20
  | .long => 21
  | .boolean => 22
  | _ => 99
def zKn (k : Nat) : String := if k = 31 then "java/lang/String" else zCn k
def zVd (a : Nat) : Bool := decide (a < 267 ∨ a = 271 ∨ a = 272)
/-- a call: the callee's entry, its room, its link -/
def zCkC (own fr lo idx a b c : Nat) : Bool := match zMs[a]? with
  | some y => zVd a && decide (y.2.2.1 = c) && decide (y.2.2.2.2.2.1 + 1 ≤ fr) && decide (8 + (c + 11) + y.2.2.2.2.2.2.1 ≤ lo) && decide ((parseMethodDescriptor y.1.desc).map (fun d => d.parameters.length) = some b) && zLMs.any (fun e => e.1 == own && e.2.1 == idx && e.2.2.1 == a)
  | none => false
/-- how long an instruction is (none: a switch) -/
def zIl (i : Instr) : Option Nat := match i with
  | .tableswitch _ _ _ _ => none
  | .lookupswitch _ _ => none
  | .bipush _ => some 2
  | .ldc _ => some 2
  | .iload _ => some 2
  | .lload _ => some 2
  | .aload _ => some 2
  | .istore _ => some 2
  | .lstore _ => some 2
  | .astore _ => some 2
  | .newarray _ => some 2
  | .sipush _ => some 3
  | .ldc_w _ => some 3
  | .ldc2_w _ => some 3
  | .iinc _ _ => some 3
  | .ifCond _ _ => some 3
  | .if_icmp _ _ => some 3
  | .goto _ => some 3
  | .ifnull _ => some 3
  | .ifnonnull _ => some 3
  | .getfield _ => some 3
  | .putfield _ => some 3
  | .getstatic _ => some 3
  | .new _ => some 3
  | .anewarray _ => some 3
  | .invokestatic _ => some 3
  | .invokespecial _ => some 3
  | .invokevirtual _ => some 3
  | _ => some 1
/-- a number that an instruction holds lies in its range -/
def zIr (i : Instr) : Bool := match i with
  | .iconst n => decide (-2147483648 ≤ n ∧ n ≤ 2147483647)
  | .bipush n => decide (-128 ≤ n ∧ n ≤ 127)
  | .sipush n => decide (-32768 ≤ n ∧ n ≤ 32767)
  | _ => true
def zCk (x : zMI) (q : Nat × zIns) : Bool := decide (decode x.2.1 q.1 = .ok (q.2.1, q.2.2.1 - q.1)) && (match zIl q.2.1 with
  | some n => decide (q.2.2.1 = q.1 + n)
  | none => true) && zIr q.2.1 && (match q, x with
  | (pc, (ins, _, a, b, c, k, _)), (y, _, _, ret, own, fr, lo, _) => match ins with
    | .getfield idx => if a = 31 then decide ((own, idx, b, k.toNat) ∈ zSFL) && decide (c + 2 * b = 2) else decide ((own, idx, a, b, c, k.toNat) ∈ zFL)
    | .putfield idx => decide ((own, idx, a, b, c, k.toNat) ∈ zFL) && (!(zFd a b).2.2.2 || (decide (y.name = "<init>") && decide ((zFd a b).1 = zCn own)))
    | .getstatic idx => decide ((own, idx, a, b, c, k) ∈ zSL)
    | .ldc idx => if a = 0 then decide ((own, idx, c, k) ∈ zKL) else decide ((own, idx, b) ∈ zStL)
    | .ldc_w idx => decide ((own, idx, c, k) ∈ zKL)
    | .ldc2_w idx => decide ((own, idx, c, k) ∈ zK2)
    | .new idx => decide ((own, idx, a, c) ∈ zCL) && decide (a < 13) && decide (b = (zFT.getD a []).length)
    | .anewarray idx => decide ((own, idx, a, c) ∈ zAL)
    | .newarray t => decide (a = zNa t) && decide (a < 23)
    | .ifCond _ off => decide ((pc : Int) + off = (a : Int))
    | .if_icmp _ off => decide ((pc : Int) + off = (a : Int))
    | .goto off => decide ((pc : Int) + off = (a : Int))
    | .ifnull off => decide ((pc : Int) + off = (a : Int))
    | .ifnonnull off => decide ((pc : Int) + off = (a : Int))
    | .lookupswitch _ ps => (ps.toList.zip (ps.toList.drop 1)).all (fun (a, next) => a.1 < next.1)
    | .ireturn => decide (ret = zRty b) && decide (ret ≠ none)
    | .lreturn => decide (ret = some .long)
    | .areturn => zIsRt ret
    | .return_ => decide (ret = none)
    | .invokestatic idx => if b = 77 then decide ((own, idx, k.toNat) ∈ zCpL) && decide (1 ≤ fr) && decide (26 ≤ lo) else zCkC own fr lo idx a b c && decide (zAtr.getD a 9 = 0)
    | .invokespecial idx => if b = 78 then decide ((own, idx, k.toNat) ∈ zOiL) && decide (1 ≤ fr) && decide (20 ≤ lo) else zCkC own fr lo idx a b c && decide (zAtr.getD a 9 = 1) && decide (k.toNat < 50)
    | .invokevirtual idx => zCkC own fr lo idx a b c && decide (zAtr.getD a 9 = 2) && decide (k.toNat < 13 ∨ k.toNat = 31) && decide (((zMs[a]?).map (fun z => zKn k.toNat == z.1.cls)) = some true)
    | _ => true)
/-- a method: its words' places, its class -/
def zCkM (mid : Nat) (x : zMI) : Bool := match zMp[mid]? with
  | some w => zAtW w.1 (.code x.1 x.2.1 x.2.2.1 x.2.2.2.1) && zAtW w.2.2.2 (.initialized x.1.cls) && plainFor x.1 && decide (x.1.cls ≠ "java/lang/invoke/MethodHandle") && decide (x.1.cls ≠ "java/lang/invoke/VarHandle") && decide (x.1.cls = zCn x.2.2.2.2.1) && (match zAtr.getD mid 9 with
    | 0 => zAtW w.2.1 (.static x.1)
    | 1 => zAtW w.2.1 (.instanceMethod x.1) && decide (x.1.name = "<init>") && decide (x.2.2.2.1 = none)
    | 2 => zAtW w.2.1 (.instanceMethod x.1) && zAtW w.2.2.1 (.selects x.1.cls x.1 x.1)
    | _ => false)
  | none => false
/-- the links themselves -/
def zLkF (e : Nat × Nat × Nat × Nat × Nat × Nat) : Bool := zAtW e.2.2.2.2.2 (.fieldLink (zCn e.1) e.2.1 (zFd e.2.2.1 e.2.2.2.1).1 (zFd e.2.2.1 e.2.2.2.1).2.1 (zFd e.2.2.1 e.2.2.2.1).2.2.1) && decide (e.2.2.2.1 < (zFT.getD e.2.2.1 []).length) && decide ((zFT.getD e.2.2.1 []).getD e.2.2.2.1 9 = e.2.2.2.2.1) && decide (e.2.2.1 < 13)
def zLkS (e : Nat × Nat × Nat × Nat) : Bool := (decide (e.2.2.1 = 0) && zAtW e.2.2.2 (.fieldLink (zCn e.1) e.2.1 "java/lang/String" "value" "[B")) || (decide (e.2.2.1 = 1) && zAtW e.2.2.2 (.fieldLink (zCn e.1) e.2.1 "java/lang/String" "coder" "B"))
def zLkT (e : Nat × Nat × Nat × Nat × Nat × Int) : Bool := match e with
  | (own, idx, a, b, c, k) => (decide (c = 2) && decide (2 ≤ a) && decide (a ≤ 4) && ((decide (k = 0) && zAtW b (.fieldLink (zCn own) idx "TwoKnobs" (zSn a) "[I")) || (decide (k = 1) && zAtW b (.fieldLinkNest (zCn own) idx "TwoKnobs" (zSn a) "[I" "TwoKnobs")))) || (decide (c = 0) && decide (k = 1) && zAtW b (.fieldLink (zCn own) idx "java/lang/String" "COMPACT_STRINGS" "Z")) || (decide (c = 3) && zAtW b (.fieldLink (zCn own) idx "jdk/internal/util/Preconditions" "SIOOBE_FORMATTER" "Ljava/util/function/BiFunction;"))
def zLkK (e : Nat × Nat × Nat × Int) : Bool := zAtW e.2.2.1 (.constant (zCn e.1) e.2.1 (Int32.ofInt e.2.2.2)) && decide (-2147483648 ≤ e.2.2.2 ∧ e.2.2.2 ≤ 2147483647)
def zLk2 (e : Nat × Nat × Nat × Int) : Bool := zAtW e.2.2.1 (.constantLong (zCn e.1) e.2.1 (Int64.ofInt e.2.2.2)) && decide (-9223372036854775808 ≤ e.2.2.2 ∧ e.2.2.2 ≤ 9223372036854775807)
def zLkC (e : Nat × Nat × Nat × Nat) : Bool := zAtW e.2.2.2 (.classLink (zCn e.1) e.2.1 (zCn e.2.2.1))
def zLkA (e : Nat × Nat × Nat × Nat) : Bool := decide (24 ≤ e.2.2.1) && decide (e.2.2.1 ≤ 27) && zAtW e.2.2.2 (.classLink (zCn e.1) e.2.1 (zCn (zEl e.2.2.1)))
def zLkP (e : Nat × Nat × Nat) : Bool := zAtW e.2.2 (.methodLink (zCn e.1) e.2.1 zCp)
def zLkO (e : Nat × Nat × Nat) : Bool := zAtW e.2.2 (.methodLink (zCn e.1) e.2.1 Lib.objectInit)
def zLkM (e : Nat × Nat × Nat × Nat × Nat) : Bool := match zMs[e.2.2.1]? with
  | some y => (decide (e.2.2.2.1 = 0) && zAtW e.2.2.2.2 (.methodLink (zCn e.1) e.2.1 y.1)) || (decide (e.2.2.2.1 = 1) && zAtW e.2.2.2.2 (.methodLinkNest (zCn e.1) e.2.1 y.1 "TwoKnobs"))
  | none => false

