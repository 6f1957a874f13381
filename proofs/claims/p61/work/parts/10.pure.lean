/-! THE PURE INTERPRETER over the tables: places instead of addresses, a memory that knows some cells -/
abbrev zM : Type := Nat → Nat → Option Int32
abbrev zLs : Type := List (Nat × Value)
/-- an outcome: 0 returned, c + 1 thrown zEx c; the value; the memory; how many places were made that nobody sees -/
abbrev zO4 : Type := Nat × Option Value × zM × Nat
/-- a step: goes on (pc, locals, stack, memory, made) .. or returns .. or throws .. or calls (method, pc behind, its locals, the stack below, made before) -/
abbrev zRes : Type := (Nat × zLs × List Value × zM × Nat) ⊕ (Option Value ⊕ (Nat ⊕ (Nat × Nat × zLs × List Value × Nat)))
def zup (I : zM) (a k : Nat) (x : Int32) : zM := fun b j => match Nat.beq b a with
  | true => match Nat.beq j k with
    | true => some x
    | false => I b j
  | false => I b j
def zcpm (I : zM) (s d n : Nat) : zM := fun b j => match Nat.beq b d with
  | true => match Nat.ble (j + 1) n with
    | true => I s j
    | false => I b j
  | false => I b j
/-- the offset of a place within a State: 0 the object, 1 to 10 its arrays -/
def zof (a : Nat) : Nat := match Nat.ble 1 a && Nat.ble a 44 with
  | true => (a - 1) % 11
  | false => match Nat.ble 47 a && Nat.ble a 134 with
    | true => (a - 47) % 11
    | false => 99
/-- a place's kind and length; sl is the length of the law's array -/
def zkd (sl a : Nat) : Option (Nat × Nat) := match zof a with
  | 0 => some (7, 16)
  | 1 => some (100, 8)
  | 2 => some (100, 8)
  | 3 => some (100, 8)
  | 99 => match a with
    | 0 => some (8, 11)
    | 45 => some (5, 3)
    | 46 => some (104, 8)
    | 135 => some (4, 12)
    | 136 => some (100, 8)
    | 137 => some (100, 8)
    | 138 => some (100, 8)
    | 139 => some (100, 8)
    | 140 => some (100, 8)
    | 141 => some (100, 8)
    | 142 => some (100, 256)
    | 143 => some (100, 2048)
    | 144 => some (6, 6)
    | 145 => some (102, 60)
    | 146 => some (100, 12)
    | 147 => some (100, 36)
    | 1000 => some (110, sl)
    | _ => none
  | _ => some (100, 12)
/-- the places that a place refers to -/
def zpd (a k : Nat) : Option Nat := match zof a with
  | 0 => match Nat.ble (k + 1) 10 with
    | true => some (a + 1 + k)
    | false => none
  | 99 => match a with
    | 0 => match k with
      | 0 => some 1
      | 1 => some 12
      | 2 => some 23
      | 3 => some 34
      | 4 => some 45
      | 5 => some 135
      | 6 => some 144
      | 7 => some 148
      | _ => none
    | 45 => match k with
      | 0 => some 46
      | _ => none
    | 46 => match Nat.ble (k + 1) 8 with
      | true => some (47 + 11 * k)
      | false => none
    | 135 => match k with
      | 0 => some 1
      | _ => match Nat.ble k 8 with
        | true => some (135 + k)
        | false => none
    | 144 => match Nat.ble (k + 1) 3 with
      | true => some (145 + k)
      | false => none
    | _ => none
  | _ => none
def zch (s : String) : List Int32 := s.toList.map (fun c => Int32.ofNat c.toNat)
/-- the digits of a number under 1000 -/
def zdg (x : Int32) : List Int32 := if x < 10 then [48 + x] else if x < 100 then [48 + x / 10, 48 + (x - x / 10 * 10)] else [48 + x / 100, 48 + (x / 10 - x / 100 * 10), 48 + (x - x / 10 * 10)]
/-- the text of a String's place: constants; the two that the law builds -/
def ztx (dy a : Nat) : Option (List Int32) := match Nat.ble 5000 a with
  | false => match Nat.ble 2000 a with
    | true => (zstr[a - 2000]?).map (fun q => zch q.2.2)
    | false => none
  | true => match Nat.beq a dy with
    | false => none
    | true => match Nat.ble 5100 a with
      | false => some (zch "wait;valve " ++ zdg (Int32.ofNat (a - 5000)) ++ zch " 3")
      | true => some (zch "pour 0 1/h;draw " ++ zdg (Int32.ofNat (a - 5100)) ++ zch " 2")
def zvt : Value → Nat
  | .int _ => 0
  | .long _ => 1
  | .float _ => 2
  | .double _ => 3
  | .ref _ => 4
  | _ => 5
def zld (ls : zLs) (i t : Nat) : Option Value := match zlk ls i with
  | some v => match Nat.beq (zvt v) t with
    | true => some v
    | false => none
  | none => none
def znx (pc : Nat) (ls : zLs) (st : List Value) (I : zM) : Option zRes := some (.inl (pc, ls, st, I, 0))
def zLd (pc : Nat) (ls : zLs) (st : List Value) (I : zM) (i t : Nat) : Option zRes := match zld ls i t with
  | some v => znx pc ls (v :: st) I
  | none => none
/-- a store: the local must lie within the method's locals -/
def zSt (pc nL : Nat) (ls : zLs) (st : List Value) (I : zM) (i t : Nat) : Option zRes := match st with
  | v :: r => match Nat.beq (zvt v) t && Nat.ble (i + (if t = 1 ∨ t = 3 then 2 else 1)) nL with
    | true => znx pc (if t = 1 ∨ t = 3 then zs2 ls i v else zs1 ls i v) r I
    | false => none
  | _ => none
def ztg (pc : Nat) (off : Int) : Option Nat := match (pc : Int) + off with
  | .ofNat t => some t
  | .negSucc _ => none
def zjmp (pc : Nat) (off : Int) (ls : zLs) (st : List Value) (I : zM) : Option zRes := match ztg pc off with
  | some t => znx t ls st I
  | none => none
def zc1 (c : ClassFile.Cond) (x y : Int32) : Bool := match c with
  | .eq => decide (x = y)
  | .ne => !decide (x = y)
  | .lt => decide (x < y)
  | .ge => decide (y ≤ x)
  | .gt => decide (y < x)
  | .le => decide (x ≤ y)
def zi2 (f : Int32 → Int32 → Int32) (pc : Nat) (ls : zLs) (st : List Value) (I : zM) : Option zRes := match st with
  | .int y :: .int x :: r => znx pc ls (.int (f x y) :: r) I
  | _ => none
def zl2 (f : Int64 → Int64 → Int64) (pc : Nat) (ls : zLs) (st : List Value) (I : zM) : Option zRes := match st with
  | .long y :: .long x :: r => znx pc ls (.long (f x y) :: r) I
  | _ => none
def zf2 (f : UInt32 → UInt32 → UInt32) (pc : Nat) (ls : zLs) (st : List Value) (I : zM) : Option zRes := match st with
  | .float y :: .float x :: r => match decide (f x y &&& 0x7fffffff ≤ 0x7f800000) with
    | true => znx pc ls (.float (f x y) :: r) I
    | false => none
  | _ => none
def zd2 (f : UInt64 → UInt64 → UInt64) (pc : Nat) (ls : zLs) (st : List Value) (I : zM) : Option zRes := match st with
  | .double y :: .double x :: r => match decide (f x y &&& 0x7fffffffffffffff ≤ 0x7ff0000000000000) with
    | true => znx pc ls (.double (f x y) :: r) I
    | false => none
  | _ => none
def zin (i : Int32) (n : Nat) : Bool := decide (0 ≤ i) && Nat.ble (i.toNatClampNeg + 1) n
def zcat (st : List Value) : Nat := (st.map fun v => v.category).sum
/-- the stack below a call is small -/
def zsm (st : List Value) : Bool := Nat.ble (zcat st) 8
/-- what is thrown, with its text, here -/
def zthr (mi pc x : Nat) : Bool := match zl mi (pc + 3), zl mi (pc + 4), zH mi with
  | some (.dup, 1, _, _, _), some (.ldc _, 2, 2, _, _), [] => match zl mi (pc + 6), zl mi (pc + 9) with
    | some (.invokespecial _, 3, y, 10, _), some (.athrow, 1, _, _, _) => Nat.beq x y
    | _, _ => false
  | some (.dup, 1, _, _, _), some (.ldc_w _, 3, 2, _, _), [] => match zl mi (pc + 7), zl mi (pc + 10) with
    | some (.invokespecial _, 3, y, 10, _), some (.athrow, 1, _, _, _) => Nat.beq x y
    | _, _ => false
  | _, _, _ => false

/-- the calls that are not walked: on the output's builder (place 148: 0 its length; 149 its characters) and on Strings -/
def zprim (dy c : Nat) (pc : Nat) (ls : zLs) (st : List Value) (I : zM) : Option zRes := match c with
  | 206 => match st with
    | .int x :: .ref 148 :: r => match decide (0 ≤ x ∧ x < 1000), I 148 0 with
      | true, some n => match decide (0 ≤ n ∧ n ≤ 60) with
        | true => some (.inl (pc, ls, .ref 148 :: r, zup ((zdg x).foldl (fun (q : zM × Nat) ch => (zup q.1 149 q.2 ch, q.2 + 1)) (I, n.toNatClampNeg)).1 148 0 (n + Int32.ofNat (zdg x).length), 1))
        | false => none
      | _, _ => none
    | _ => none
  | 205 => match st with
    | .int x :: .ref 148 :: r => match decide (0 ≤ x ∧ x < 128), I 148 0 with
      | true, some n => match decide (0 ≤ n ∧ n ≤ 60) with
        | true => some (.inl (pc, ls, .ref 148 :: r, zup (zup I 149 n.toNatClampNeg x) 148 0 (n + 1), 1))
        | false => none
      | _, _ => none
    | _ => none
  | 209 => match st with
    | .int x :: .ref 148 :: r => match decide (x = 0) with
      | true => znx pc ls r (zup I 148 0 0)
      | false => none
    | _ => none
  | 210 => match st with
    | .ref 148 :: r => match I 148 0 with
      | some n => znx pc ls (.int n :: r) I
      | none => none
    | _ => none
  | 208 => match st with
    | .int i :: .ref 148 :: r => match I 148 0, I 149 i.toNatClampNeg with
      | some n, some x => match decide (0 ≤ i ∧ i < n) with
        | true => znx pc ls (.int x :: r) I
        | false => none
      | _, _ => none
    | _ => none
  | 196 => match st with
    | .ref a :: r => match ztx dy a with
      | some t => znx pc ls (.int (Int32.ofNat t.length) :: r) I
      | none => none
    | _ => none
  | 197 => match st with
    | .int i :: .ref a :: r => match ztx dy a with
      | some t => match decide (0 ≤ i), t[i.toNatClampNeg]? with
        | true, some x => znx pc ls (.int x :: r) I
        | _, _ => none
      | none => none
    | _ => none
  | _ => none
/-- what is walked: methods of the class, of the law, two of the JDK -/
def zwalk (c : Nat) : Bool := Nat.ble (c + 1) 179 || Nat.beq c 194 || Nat.beq c 215
def zcall (c pc k : Nat) (st : List Value) : Option zRes := match zwalk c && zsm (st.drop k) && Nat.ble k st.length && Nat.ble (zcat (st.take k)) (zL c) with
  | true => some (.inr (.inr (.inr (c, pc, lv_args 0 (st.take k).reverse, st.drop k, 0))))
  | false => none
/-- a call's receiver: a place of the class that the method is of -/
def zrecv (sl c : Nat) (st : List Value) : Bool := match st.drop (zNP c) with
  | .ref a :: _ => match zkd sl a with
    | some (k, _) => Nat.ble (k + 1) 100 && decide (zcn k = zO c)
    | none => false
  | _ => false
def zldc (pc : Nat) (ls : zLs) (st : List Value) (I : zM) (r1 r2 : Nat) : Option zRes := match r1 with
  | 0 => znx pc ls (.int (Int32.ofNat r2) :: st) I
  | 1 => znx pc ls (.float (UInt32.ofNat r2) :: st) I
  | 2 => znx pc ls (.ref (2000 + r2) :: st) I
  | _ => none
/-- the two places where the law builds a text and runs it -/
def zcat2 (mi pc : Nat) (ls : zLs) (st : List Value) (r1 : Nat) : Option zRes := match Nat.beq mi 176, st with
  | true, [.ref 0] => match r1, pc with
    | 1, 297 => match zlk ls 3 with
      | some (.int p) => match decide (0 ≤ p ∧ p < 13) with
        | true => some (.inr (.inr (.inr (173, 355, [(0, .ref 0), (1, .ref (5000 + p.toNatClampNeg))], [], 1))))
        | false => none
      | _ => none
    | 1, 326 => match zlk ls 2 with
      | some (.int t) => match decide (0 ≤ t ∧ t < 9) with
        | true => some (.inr (.inr (.inr (173, 355, [(0, .ref 0), (1, .ref (5100 + t.toNatClampNeg))], [], 1))))
        | false => none
      | _ => none
    | _, _ => none
  | _, _ => none
/-- one instruction -/
def zstep (sl dy mi pc : Nat) (e : Instr × Nat × Nat × Nat × Nat) (ls : zLs) (st : List Value) (I : zM) : Option zRes := match e with
  | (i, len, r1, r2, _) => match i with
    | .iconst n => znx (pc + len) ls (.int (Int32.ofInt n) :: st) I
    | .bipush n => znx (pc + len) ls (.int (Int8.ofInt n).toInt32 :: st) I
    | .sipush n => znx (pc + len) ls (.int (Int16.ofInt n).toInt32 :: st) I
    | .lconst n => znx (pc + len) ls (.long (Int64.ofNat n.val) :: st) I
    | .fconst 0 => znx (pc + len) ls (.float FP.fconst0 :: st) I
    | .fconst 1 => znx (pc + len) ls (.float FP.fconst1 :: st) I
    | .fconst 2 => znx (pc + len) ls (.float FP.fconst2 :: st) I
    | .dconst 0 => znx (pc + len) ls (.double FP.dconst0 :: st) I
    | .dconst 1 => znx (pc + len) ls (.double FP.dconst1 :: st) I
    | .ldc _ => zldc (pc + len) ls st I r1 r2
    | .ldc_w _ => zldc (pc + len) ls st I r1 r2
    | .ldc2_w _ => match r1 with
      | 3 => znx (pc + len) ls (.long (Int64.ofNat r2) :: st) I
      | 4 => znx (pc + len) ls (.double (UInt64.ofNat r2) :: st) I
      | _ => none
    | .iload i => zLd (pc + len) ls st I i 0
    | .iload_n i => zLd (pc + len) ls st I i.val 0
    | .lload i => zLd (pc + len) ls st I i 1
    | .lload_n i => zLd (pc + len) ls st I i.val 1
    | .fload i => zLd (pc + len) ls st I i 2
    | .fload_n i => zLd (pc + len) ls st I i.val 2
    | .dload i => zLd (pc + len) ls st I i 3
    | .dload_n i => zLd (pc + len) ls st I i.val 3
    | .aload i => zLd (pc + len) ls st I i 4
    | .aload_n i => zLd (pc + len) ls st I i.val 4
    | .istore i => zSt (pc + len) (zL mi) ls st I i 0
    | .istore_n i => zSt (pc + len) (zL mi) ls st I i.val 0
    | .lstore i => zSt (pc + len) (zL mi) ls st I i 1
    | .lstore_n i => zSt (pc + len) (zL mi) ls st I i.val 1
    | .fstore i => zSt (pc + len) (zL mi) ls st I i 2
    | .fstore_n i => zSt (pc + len) (zL mi) ls st I i.val 2
    | .dstore i => zSt (pc + len) (zL mi) ls st I i 3
    | .dstore_n i => zSt (pc + len) (zL mi) ls st I i.val 3
    | .astore i => zSt (pc + len) (zL mi) ls st I i 4
    | .astore_n i => zSt (pc + len) (zL mi) ls st I i.val 4
    | .iinc i n => match zlk ls i with
      | some (.int x) => match Nat.ble (i + 1) (zL mi) with
        | true => znx (pc + len) (zs1 ls i (.int (x + Int32.ofInt n))) st I
        | false => none
      | _ => none
    | .iadd => zi2 (fun x y => x + y) (pc + len) ls st I
    | .isub => zi2 (fun x y => x - y) (pc + len) ls st I
    | .imul => zi2 (fun x y => x * y) (pc + len) ls st I
    | .iand => zi2 (fun x y => x &&& y) (pc + len) ls st I
    | .ior => zi2 (fun x y => x ||| y) (pc + len) ls st I
    | .ixor => zi2 (fun x y => x ^^^ y) (pc + len) ls st I
    | .ishl => zi2 (fun x y => x <<< (y &&& 31)) (pc + len) ls st I
    | .ishr => zi2 (fun x y => x >>> (y &&& 31)) (pc + len) ls st I
    | .iushr => zi2 (fun x y => (x.toUInt32 >>> (y.toUInt32 &&& Int32.toUInt32 31)).toInt32) (pc + len) ls st I
    | .idiv => match st with
      | .int y :: .int x :: r => match decide (y = 0) with
        | false => znx (pc + len) ls (.int (x / y) :: r) I
        | true => none
      | _ => none
    | .irem => match st with
      | .int y :: .int x :: r => match decide (y = 0) with
        | false => znx (pc + len) ls (.int (x - x / y * y) :: r) I
        | true => none
      | _ => none
    | .ineg => match st with
      | .int x :: r => znx (pc + len) ls (.int (-x) :: r) I
      | _ => none
    | .ladd => zl2 (fun x y => x + y) (pc + len) ls st I
    | .lmul => zl2 (fun x y => x * y) (pc + len) ls st I
    | .lor => zl2 (fun x y => x ||| y) (pc + len) ls st I
    | .lxor => zl2 (fun x y => x ^^^ y) (pc + len) ls st I
    | .lshl => match st with
      | .int y :: .long x :: r => znx (pc + len) ls (.long (x <<< (y.toInt64 &&& 63)) :: r) I
      | _ => none
    | .lushr => match st with
      | .int y :: .long x :: r => znx (pc + len) ls (.long ((x.toUInt64 >>> (y.toInt64.toUInt64 &&& Int64.toUInt64 63)).toInt64) :: r) I
      | _ => none
    | .i2l => match st with
      | .int x :: r => znx (pc + len) ls (.long x.toInt64 :: r) I
      | _ => none
    | .i2c => match st with
      | .int x :: r => znx (pc + len) ls (.int (x.toUInt32 % 65536).toInt32 :: r) I
      | _ => none
    | .i2f => match st with
      | .int x :: r => znx (pc + len) ls (.float (FP.i2f x) :: r) I
      | _ => none
    | .i2d => match st with
      | .int x :: r => znx (pc + len) ls (.double (FP.i2d x) :: r) I
      | _ => none
    | .f2i => match st with
      | .float x :: r => znx (pc + len) ls (.int (FP.f2i x) :: r) I
      | _ => none
    | .d2l => match st with
      | .double x :: r => znx (pc + len) ls (.long (FP.d2l x) :: r) I
      | _ => none
    | .fmul => zf2 FP.fmul (pc + len) ls st I
    | .fdiv => zf2 FP.fdiv (pc + len) ls st I
    | .fsub => zf2 FP.fsub (pc + len) ls st I
    | .dmul => zd2 FP.dmul (pc + len) ls st I
    | .ddiv => zd2 FP.ddiv (pc + len) ls st I
    | .dsub => zd2 FP.dsub (pc + len) ls st I
    | .fcmp o => match st with
      | .float y :: .float x :: r => znx (pc + len) ls (.int (Op.cmpValue (FP.fcmp x y) o) :: r) I
      | _ => none
    | .dcmp o => match st with
      | .double y :: .double x :: r => znx (pc + len) ls (.int (Op.cmpValue (FP.dcmp x y) o) :: r) I
      | _ => none
    | .lcmp => match st with
      | .long y :: .long x :: r => znx (pc + len) ls (.int (lg_cmp x y) :: r) I
      | _ => none
    | .dup => match st with
      | v :: r => match Nat.beq v.category 1 with
        | true => znx (pc + len) ls (v :: v :: r) I
        | false => none
      | _ => none
    | .pop => match st with
      | v :: r => match Nat.beq v.category 1 with
        | true => znx (pc + len) ls r I
        | false => none
      | _ => none
    | .dup2 => match st with
      | v :: u :: r => match Nat.beq v.category 1 && Nat.beq u.category 1 with
        | true => znx (pc + len) ls (v :: u :: v :: u :: r) I
        | false => none
      | _ => none
    | .ifCond c off => match ztg pc off with
      | some t => match st with
        | .int x :: r => match zc1 c x 0 with
          | true => znx t ls r I
          | false => znx (pc + len) ls r I
        | _ => none
      | none => none
    | .if_icmp c off => match ztg pc off with
      | some t => match st with
        | .int y :: .int x :: r => match zc1 c x y with
          | true => znx t ls r I
          | false => znx (pc + len) ls r I
        | _ => none
      | none => none
    | .goto off => zjmp pc off ls st I
    | .tableswitch dflt lo hi offs => match st with
      | .int x :: r => match decide (x.toInt < lo ∨ hi < x.toInt) with
        | true => zjmp pc dflt ls r I
        | false => match offs[(x.toInt - lo).toNat]? with
          | some off => zjmp pc off ls r I
          | none => none
      | _ => none
    | .lookupswitch dflt ps => match st with
      | .int x :: r => match (ps.toList.zip (ps.toList.drop 1)).all (fun (a, next) => a.1 < next.1) with
        | true => zjmp pc (Op.lookupswitch.offset ps.toList dflt x.toInt) ls r I
        | false => none
      | _ => none
    | .getfield _ => match st with
      | .ref a :: r => match zkd sl a with
        | some (k, _) => match Nat.beq k r1 && Nat.ble (r2 + 1) (zN r1) && Nat.ble (k + 1) 100 with
          | true => match zrf r1 r2 with
            | true => match zpd a r2 with
              | some q => znx (pc + len) ls (.ref q :: r) I
              | none => none
            | false => match I a r2 with
              | some x => znx (pc + len) ls (.int x :: r) I
              | none => none
          | false => none
        | none => none
      | _ => none
    | .putfield _ => match st with
      | .int x :: .ref a :: r => match zkd sl a with
        | some (k, _) => match Nat.beq k r1 && Nat.ble (r2 + 1) (zN r1) && Nat.ble (k + 1) 100 && !(zrf r1 r2) && decide (narrow (zty r1 r2) (.int x) = .int x) && fits (zty r1 r2) (.int x) with
          | true => znx (pc + len) ls r (zup I a r2 x)
          | false => none
        | none => none
      | _ => none
    | .iaload => match st with
      | .int i :: .ref a :: r => match zkd sl a with
        | some (k, n) => match (Nat.beq k 100 || Nat.beq k 110) && zin i n, I a i.toNatClampNeg with
          | true, some x => znx (pc + len) ls (.int x :: r) I
          | _, _ => none
        | none => none
      | _ => none
    | .caload => match st with
      | .int i :: .ref a :: r => match zkd sl a with
        | some (k, n) => match Nat.beq k 102 && zin i n, I a i.toNatClampNeg with
          | true, some x => znx (pc + len) ls (.int x :: r) I
          | _, _ => none
        | none => none
      | _ => none
    | .aaload => match st with
      | .int i :: .ref a :: r => match zkd sl a with
        | some (k, n) => match Nat.beq k 104 && zin i n, zpd a i.toNatClampNeg with
          | true, some q => znx (pc + len) ls (.ref q :: r) I
          | _, _ => none
        | none => none
      | _ => none
    | .iastore => match st with
      | .int x :: .int i :: .ref a :: r => match zkd sl a with
        | some (k, n) => match Nat.beq k 100 && zin i n with
          | true => znx (pc + len) ls r (zup I a i.toNatClampNeg x)
          | false => none
        | none => none
      | _ => none
    | .castore => match st with
      | .int x :: .int i :: .ref a :: r => match zkd sl a with
        | some (k, n) => match Nat.beq k 102 && zin i n with
          | true => znx (pc + len) ls r (zup I a i.toNatClampNeg (vp_nar .char x))
          | false => none
        | none => none
      | _ => none
    | .arraylength => match st with
      | .ref a :: r => match zkd sl a with
        | some (k, n) => match (Nat.beq k 100 || Nat.beq k 110) && Nat.ble n 2147483647 with
          | true => znx (pc + len) ls (.int (Int32.ofNat n) :: r) I
          | false => none
        | none => none
      | _ => none
    | .invokestatic _ => match r2 with
      | 0 => zcall r1 (pc + len) (zNP r1) st
      | 1 => zcall r1 (pc + len) (zNP r1) st
      | 2 => zcall r1 (pc + len) (zNP r1) st
      | 9 => match st with
        | .int n :: .int 0 :: .ref d :: .int 0 :: .ref s :: r => match zkd sl s, zkd sl d with
          | some (100, ns), some (100, nd) => match decide (0 ≤ n) && Nat.ble n.toNatClampNeg ns && Nat.ble n.toNatClampNeg nd && !(Nat.beq s d) && zsm r && (List.range n.toNatClampNeg).all (fun j => (I s j).isSome) with
            | true => znx (pc + len) ls r (zcpm I s d n.toNatClampNeg)
            | false => none
          | _, _ => none
        | _ => none
      | 13 => match r1 with
        | 0 => match zsm st with
          | true => zi2 (fun x y => if y < x then y else x) (pc + len) ls st I
          | false => none
        | 1 => match zsm st with
          | true => zi2 (fun x y => if x < y then y else x) (pc + len) ls st I
          | false => none
        | 2 => match st with
          | .int x :: r => match zsm r with
            | true => znx (pc + len) ls (.int (if 0 ≤ x then x else 0 - x) :: r) I
            | false => none
          | _ => none
        | _ => none
      | _ => none
    | .invokevirtual _ => match r2 with
      | 3 => match zwalk r1 with
        | true => match zrecv sl r1 st with
          | true => zcall r1 (pc + len) (zNP r1 + 1) st
          | false => none
        | false => match zsm st with
          | true => zprim dy r1 (pc + len) ls st I
          | false => none
      | _ => none
    | .ireturn => match st with
      | [.int x] => match zRt mi with
        | some ty => match decide (narrow ty (.int x) = .int x) with
          | true => some (.inr (.inl (some (.int x))))
          | false => none
        | none => none
      | _ => none
    | .lreturn => match st with
      | [.long x] => match decide (zRt mi = some .long) with
        | true => some (.inr (.inl (some (.long x))))
        | false => none
      | _ => none
    | .freturn => match st with
      | [.float x] => match decide (zRt mi = some .float) with
        | true => some (.inr (.inl (some (.float x))))
        | false => none
      | _ => none
    | .dreturn => match st with
      | [.double x] => match decide (zRt mi = some .double) with
        | true => some (.inr (.inl (some (.double x))))
        | false => none
      | _ => none
    | .areturn => match st with
      | [.ref a] => match zRt mi with
        | some (.object _) => some (.inr (.inl (some (.ref a))))
        | _ => none
      | _ => none
    | .return_ => match st with
      | [] => match zRt mi with
        | none => some (.inr (.inl none))
        | some _ => none
      | _ => none
    | .new _ => match r2 with
      | 1 => match zthr mi pc r1 && Nat.ble (zcat st) 100 with
        | true => some (.inr (.inr (.inl r1)))
        | false => none
      | 0 => zcat2 mi pc ls st r1
      | _ => none
    | _ => none
/-- the handler of what a call threw: its place, the locals without the one that keeps it -/
def zhd (c pc : Nat) : List (Nat × Nat × Nat × Nat) → Option Nat
  | [] => none
  | (a, b, h, t) :: r => match Nat.ble a pc && Nat.ble (pc + 1) b && Nat.beq t (zcc c) with
    | true => some h
    | false => zhd c pc r
def zcat3 (mi pc c : Nat) (ls : zLs) : Option (Nat × zLs) := match zhd c pc (zH mi) with
  | none => none
  | some h => match zl mi h with
    | some (.astore_n i, 1, _, _, _) => match Nat.ble (i.val + 1) (zL mi) with
      | true => some (h + 1, ls.filter (fun q => !(q.1 == i.val) && !(q.1 + 1 == i.val && q.2.category == 2)))
      | false => none
    | some (.astore i, 2, _, _, _) => match Nat.ble (i + 1) (zL mi) with
      | true => some (h + 2, ls.filter (fun q => !(q.1 == i) && !(q.1 + 1 == i && q.2.category == 2)))
      | false => none
    | _ => none
/-- some handler stands over this place -/
def zany (pc : Nat) (hs : List (Nat × Nat × Nat × Nat)) : Bool := hs.any (fun q => Nat.ble q.1 pc && Nat.ble (pc + 1) q.2.1)
def zadd (u : Nat) (o : zO4) : zO4 := (o.1, o.2.1, o.2.2.1, o.2.2.2 + u)
def zpush (v : Option Value) (st : List Value) : List Value := match v with
  | some x => x :: st
  | none => st
/-- which text the called method may know: the one that was built for it -/
def zdy (u dy : Nat) (ls : zLs) : Nat := match u with
  | 0 => dy
  | _ => match ls with
    | [_, (1, .ref a)] => a
    | _ => dy
/-- what a method that was given a built text may answer: an int -/
def zgd (u : Nat) (v : Option Value) : Bool := match u with
  | 0 => true
  | _ => match v with
    | some (.int _) => true
    | _ => false
/-- N steps, calls D deep -/
def zrun (sl : Nat) : Nat → Nat → Nat → Nat → Nat → zLs → List Value → zM → Option zO4
  | 0, _, _, _, _, _, _, _ => none
  | N + 1, D, dy, mi, pc, ls, st, I => match zl mi pc with
    | none => none
    | some e => match zstep sl dy mi pc e ls st I with
      | none => none
      | some (.inl (pc', ls', st', I', u)) => (zrun sl N D dy mi pc' ls' st' I').map (zadd u)
      | some (.inr (.inl v)) => some (0, v, I, 0)
      | some (.inr (.inr (.inl c))) => some (c + 1, none, I, 1)
      | some (.inr (.inr (.inr (m, pc', la, st', u0)))) => match D with
        | 0 => none
        | D' + 1 => match zrun sl N D' (zdy u0 dy la) m 0 la [] I with
          | none => none
          | some (0, v, I', u) => match zgd u0 v with
            | true => (zrun sl N (D' + 1) dy mi pc' ls (zpush v st') I').map (zadd (u + u0))
            | false => none
          | some (c + 1, _, I', u) => match zhd c pc (zH mi) with
            | none => match zany pc (zH mi) with
              | true => none
              | false => some (c + 1, none, I', u + u0)
            | some _ => match zcat3 mi pc c ls with
              | none => none
              | some (pc2, ls2) => (zrun sl N (D' + 1) dy mi pc2 ls2 [] I').map (zadd (u + u0))
