/-! THE TABLES AGREE with the bytes and with the tables' words: decided by the kernel -/
def zdc (mi : Nat) (e : zE) : Bool := match decode (zB mi) e.1 with
  | .ok q => decide (q = (e.2.1, e.2.2.1))
  | .error _ => false
def zN (ci : Nat) : Nat := match ci with
  | 0 => 4
  | 1 => 4
  | 4 => 12
  | 5 => 3
  | 6 => 6
  | 7 => 16
  | 8 => 11
  | _ => 0
def zcn (ci : Nat) : String := match ci with
  | 0 => RJ0
  | 1 => RJ4
  | 4 => RX0
  | 5 => RX1
  | 6 => RX2
  | 7 => RX3
  | _ => RX4
def zic : Nat → Nat := fun x => match x with
  | 0 => 83
  | 1 => 90
  | 2 => 95
  | 3 => 100
  | 4 => 142
  | _ => 268
def zhas (i : Nat) (w : Cond) : Bool := decide (lw_tbl[i]? = some w)
def zasb (y : MethodName) : MethodName := ⟨RJ5, y.name, y.desc⟩
def zwc (mi : Nat) (e : zE) : Bool := match e with
  | (_, i, _, r1, r2, r3) => match i with
    | .getfield idx => !(decide (r2 < zN r1)) || zhas r3 (.fieldLink (zO mi) idx (zT r1 r2).1 (zT r1 r2).2.1 (zT r1 r2).2.2.1)
    | .putfield idx => !(decide (r2 < zN r1)) || (zhas r3 (.fieldLink (zO mi) idx (zT r1 r2).1 (zT r1 r2).2.1 (zT r1 r2).2.2.1) && ((zT r1 r2).2.2.2 == false || (decide ((zY mi).name = "<init>") && decide ((zT r1 r2).1 = zO mi))))
    | .getstatic idx => match zst[r1]? with
      | some q => zhas r3 (.fieldLink (zO mi) idx q.1 q.2.1 q.2.2)
      | none => true
    | .ldc idx | .ldc_w idx | .ldc2_w idx => match r1 with
      | 0 => zhas r3 (.constant (zO mi) idx (Int32.ofNat r2))
      | 1 => zhas r3 (.constantFloat (zO mi) idx (UInt32.ofNat r2))
      | 2 => match zstr[r2]? with
        | some q => decide (q.1 = zO mi) && decide (q.2.1 = idx)
        | none => false
      | 3 => zhas r3 (.constantLong (zO mi) idx (Int64.ofNat r2))
      | 4 => zhas r3 (.constantDouble (zO mi) idx (UInt64.ofNat r2))
      | _ => true
    | .invokestatic idx => match r2 with
      | 0 => zhas r3 (.methodLink (zO mi) idx (zY r1))
      | 1 => zhas r3 (.methodLink (zO mi) idx (zY r1))
      | 2 => zhas r3 (.methodLinkNest (zO mi) idx (zY r1) RX4)
      | 9 => zhas r3 (.methodLink (zO mi) idx arraycopyName)
      | 13 => match r1 with
        | 0 => zhas r3 (.methodLink (zO mi) idx Lib.Math.min.name)
        | 1 => zhas r3 (.methodLink (zO mi) idx Lib.Math.max.name)
        | 2 => zhas r3 (.methodLink (zO mi) idx Lib.Math.abs.name)
        | _ => true
      | _ => true
    | .invokevirtual idx => match r2 with
      | 3 => zhas r3 (.methodLink (zO mi) idx (zY r1))
      | 4 => zhas r3 (.methodLink (zO mi) idx (zasb (zY r1)))
      | 12 => zhas r3 (.methodLink (zO mi) idx (zasb (zY r1)))
      | _ => true
    | .invokespecial idx => match r2 with
      | 5 => zhas r3 (.methodLink (zO mi) idx (zY r1))
      | 6 => zhas r3 (.methodLinkNest (zO mi) idx (zY r1) RX4)
      | 7 => zhas r3 (.methodLink (zO mi) idx objectInit)
      | 8 => zhas r3 (.methodLink (zO mi) idx (zY r1))
      | 10 => decide (zO mi = RX4) && decide (idx = zic r1) && decide (r1 < 6)
      | _ => true
    | .new idx => match r2 with
      | 0 => zhas r3 (.classLink (zO mi) idx (zcn r1))
      | 1 => zhas r3 (.classLink (zO mi) idx (zEx r1)) && decide (r1 < 6)
      | _ => true
    | .newarray _ => zhas r3 (.arrayClass (zaty r1))
    | .anewarray idx => zhas r3 (.classLink (zO mi) idx RX3)
    | _ => true
/-- a method's own words: its code, how it is called, what its class is -/
def zmc (mi : Nat) : Bool := match zi mi with
  | (y, _, ml, _, _, _, i2, i3, i4, np) =>
    (zhas i2 (.static y) || zhas i2 (.instanceMethod y)) && (i3 == 0 || zhas i3 (.selects y.cls y y) || zhas i3 (.selects RJ4 (zasb y) y)) && zhas i4 (.initialized y.cls) && decide (ml ≤ 40) &&
    decide ((parseMethodDescriptor y.desc).map (fun d => d.parameters.length) = some np) && plainName y.cls && decide (y.cls ≠ "java/lang/invoke/MethodHandle") && decide (y.cls ≠ "java/lang/invoke/VarHandle")
/-- a method's code, as the tables' words have it -/
def zcw (mi : Nat) : Cond := match zH mi with
  | [] => .code (zY mi) (zB mi) (zL mi) (zRt mi)
  | q :: r => .codeWith (zY mi) (zB mi) (zL mi) (zRt mi) (q :: r)
theorem ztab_len : ztab.length = 224 := by decide +kernel
theorem zall_nil {f : zE → Bool} {t : List zE} (h : t = []) : t.all f = true := by rw [h]; rfl
theorem zall_st {f : zE → Bool} {t : List zE} {j : Nat} (h : ((t.drop j).take 40).all f = true) (h2 : (t.drop (j + 40)).all f = true) : (t.drop j).all f = true := by
  rw [← List.take_append_drop 40 (t.drop j), List.all_append, h, List.drop_drop]
  simpa using h2
theorem zall_0 {f : zE → Bool} {t : List zE} (h : (t.drop 0).all f = true) : t.all f = true := h
