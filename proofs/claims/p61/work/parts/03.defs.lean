/-! THE PURE PICTURE: memory as functions of addresses, and the judgement zV over the kit's W -/
abbrev zR : Type := Option Value ⊕ Nat
abbrev zKT : Type := Nat → Option (Nat × Nat)
abbrev zPT : Type := Nat → Nat → Option Nat
abbrev zIT : Type := Nat → Nat → Int32
abbrev zLT : Type := Nat → Nat → Int64
abbrev zPost : Type := zR → Nat → zKT → zPT → zIT → zLT → Prop
/-- the heap's size at the law's entry; class numbers and slots; array classes; addresses of the given constants -/
abbrev zX : Type := Nat × va_G × (Nat → ClassId) × (Nat → Nat)
def zfind (pc : Nat) : List zE → Option (Instr × Nat × Nat × Nat × Nat)
  | [] => none
  | e :: t => match Nat.beq e.1 pc with
    | true => some e.2
    | false => zfind pc t
def zl (mi pc : Nat) : Option (Instr × Nat × Nat × Nat × Nat) := zfind pc (ztab.getD mi [])
def zi (mi : Nat) : zI := zinf.getD mi (yL_law, cL_law, 0, none, [], 0, 0, 0, 0, 0)
def zY (mi : Nat) : MethodName := (zi mi).1
def zB (mi : Nat) : ByteArray := (zi mi).2.1
def zL (mi : Nat) : Nat := (zi mi).2.2.1
def zRt (mi : Nat) : Option FieldType := (zi mi).2.2.2.1
def zH (mi : Nat) : List (Nat × Nat × Nat × Nat) := (zi mi).2.2.2.2.1
def zNP (mi : Nat) : Nat := (zi mi).2.2.2.2.2.2.2.2.2
def zO (mi : Nat) : String := (zY mi).cls
def zA (X : zX) : Nat → Prop := fun q => X.1 ≤ q
def zty (ci k : Nat) : FieldType := match ci with
  | 0 => tyJ0 k
  | 1 => tyJ4 k
  | 4 => tyX0 k
  | 5 => tyX1 k
  | 6 => tyX2 k
  | 7 => tyX3 k
  | _ => tyX4 k
def zrf (ci k : Nat) : Bool := (zty ci k).isReference
def zT (ci : Nat) : u_T := match ci with
  | 0 => TJ0
  | 1 => TJ4
  | 4 => TX0
  | 5 => TX1
  | 6 => TX2
  | 7 => TX3
  | _ => TX4
def zfv (ci k : Nat) (P : zPT) (I : zIT) (a : Nat) : Value := if zrf ci k = true then va_rf (P a k) else .int (I a k)
def zel (k : Nat) (P : zPT) (I : zIT) (L : zLT) (a j : Nat) : Value := if k = 104 then va_rf (P a j) else if k = 101 then .long (L a j) else .int (I a j)
def zaty (k : Nat) : FieldType := match k with
  | 100 => .int
  | 101 => .long
  | 102 => .char
  | 103 => .byte
  | 104 => .object RX3
  | 110 => .int
  | _ => .byte
/-- what a tracked address holds: own objects (under 100: the number of the class), own arrays (100 ..), arrays (110 ..) and Strings (120) that were there before -/
def zAt (X : zX) (U : State) (H : Heap) (P : zPT) (I : zIT) (L : zLT) (a k n : Nat) : Prop :=
  (k < 100 → zA X a ∧ ∃ r : vw_C, vwCl[k]? = some r ∧ n = r.2.2 ∧ t_OB a (X.2.1.1 k) r.2.2 (X.2.1.2 k) H (fun j => zfv k j P I a)) ∧
  (100 ≤ k → k < 110 → zA X a ∧ H[a]? = some (arrV (X.2.2.1 k) n (zel k P I L a))) ∧
  (110 ≤ k → k < 120 → ¬ zA X a ∧ ∃ cell : Cell, H[a]? = some cell ∧ U.isArrayOf cell (zaty k) ∧ cell.vm ≠ .unknown ∧ (n ≤ cell.slots.size ∧ cell.slots.size.toInt32 = Int32.ofNat n) ∧ ∀ j, j < n → cell.slots[j]? = some (.int (I a j))) ∧
  (120 ≤ k → ¬ zA X a ∧ ∃ cell : Cell, H[a]? = some cell ∧ cell.vm ≠ .unknown ∧ cell.vm.isStatics = false ∧ U.vm.findClass RJ0 = some cell.cls ∧ ∀ j, j < 2 → cell.slots[X.2.1.2 0 j]? = some (zfv 0 j P I a))
def zPic (X : zX) (U : State) (H : Heap) (n : Nat) (K : zKT) (P : zPT) (I : zIT) (L : zLT) : Prop :=
  H.size = n ∧ ∀ a k m, K a = some (k, m) → zAt X U H P I L a k m
def zTs : List Cond := lw_tbl.filter goodWord
def zisN : Cond → Bool
  | .methodLinkNest .. => true
  | .arrayOver (.object _) => true
  | _ => false
def zTf : List Cond := lw_tbl.filter (fun w => w.faceAtom || zisN w)
def ztys (X : zX) : List (ClassId × FieldType) := [(X.2.2.1 100, .int), (X.2.2.1 101, .long), (X.2.2.1 102, .char), (X.2.2.1 103, .byte), (X.2.2.1 104, .object RX3)]
/-- the JDK's tables of the ones and the tens of the numbers under 100 -/
def zdgO (j : Nat) : Int32 := Int32.ofNat (48 + j % 10)
def zdgT (j : Nat) : Int32 := Int32.ofNat (48 + j / 10)
def zStat (X : zX) (U : State) (H : Heap) : Prop :=
  va_Z "java/lang/String" "COMPACT_STRINGS" "Z" (.int 1) (zA X) U H ∧ va_Z "java/lang/Integer" "DigitOnes" "[B" (.ref (X.2.2.2 100)) (zA X) U H ∧ va_Z "java/lang/Integer" "DigitTens" "[B" (.ref (X.2.2.2 101)) (zA X) U H ∧
  (va_Zq "jdk/internal/util/Preconditions" "SIOOBE_FORMATTER" "Ljava/util/function/BiFunction;" (zA X) U H ∧ va_T .byte (X.2.2.2 100) 100 (fun j => .int (zdgO j)) (zA X) U H ∧ va_T .byte (X.2.2.2 101) 100 (fun j => .int (zdgT j)) (zA X) U H) ∧
  vx_Zq Bundle.tN "UNASSIGNED_STACK" Bundle.steD (zA X) U H ∧ vx_Zq Bundle.tN "SUPPRESSED_SENTINEL" Bundle.listD (zA X) U H
/-- what holds of the tables (and of the given constants) at every method's start -/
def zK (X : zX) (U : State) (H : Heap) : Prop :=
  X.1 ≤ H.size ∧ va_K X.2.1 vwCl (ztys X) U ∧ zStat X U H ∧ (∀ w ∈ zTf, va_Nw w U) ∧
  (∀ i j : Nat, i < 6 → j < 6 → i ≠ j → va_Nc (zEx i) (zEx j) U) ∧
  (∀ (i : Nat) (q : String × Nat × String), zstr[i]? = some q → vk_R q.1 q.2.1 q.2.2 (X.2.2.2 i) U)
def zS (p : Program) (l : Launch) (e : Env) (R : Room) (s : State) (m : MethodId) (args : Array Value) (below : List Frame) (meth : Method) (c : Code) (X : zX) (d mi : Nat) : Prop :=
  p.tables.exec = Jvm.exec ∧ c.code = zB mi ∧ c.maxLocals = zL mi ∧ s.vm.findClass (zO mi) = some m.cls ∧ (∀ w ∈ zTs, w.before args s = true) ∧ meth.sig.returnType = zRt mi ∧ meth.locks = false ∧
  c.exceptionTable.toList = tableOf (zH mi) ∧ meth.name = (zY mi).name ∧ d ≤ R.frames ∧ 60 * d ≤ R.locals ∧ zK X s s.heap ∧ l.stackTraces = false
def zD (X : zX) (s : State) (R : Room) (H : Heap) (locs : List Loc) (cells slots bc bs mc ms n : Nat) (K : zKT) (P : zPT) (I : zIT) (L : zLT) : Prop :=
  cells + bc ≤ mc ∧ slots + bs ≤ ms ∧ mc ≤ R.cells ∧ ms ≤ R.slots ∧ va_S (zA X) s.heap H locs ∧ zPic X s H n K P I L
def zQ (X : zX) (Post : zPost) : Array Value → State → Outcome → State → Prop := fun _ st o t =>
  (∃ (v : Option Value) (n : Nat) (K : zKT) (P : zPT) (I : zIT) (L : zLT), o = .returned v ∧ Post (.inl v) n K P I L ∧ zPic X t t.heap n K P I L) ∧ va_F (zA X) st t
def zXC (X : zX) (Post : zPost) : String → State → State → Prop := fun E st t =>
  (∃ (x n : Nat) (K : zKT) (P : zPT) (I : zIT) (L : zLT), zEx x = E ∧ x < 6 ∧ Post (.inr x) n K P I L ∧ zPic X t t.heap n K P I L) ∧ va_F (zA X) st t
/-- from pc on, with these locals, this stack and this memory, the method comes to an end with Post: it may go d calls deep and make bc cells of bs slots -/
def zV (l : Launch) (X : zX) (d bc bs mi pc : Nat) (ls : List (Nat × Value)) (st : List Value) (n : Nat) (K : zKT) (P : zPT) (I : zIT) (L : zLT) (Post : zPost) : Prop :=
  ∀ (p : Program) (e : Env) (R : Room) (s : State) (m : MethodId) (args : Array Value) (below : List Frame) (meth : Method) (c : Code) (H : Heap) (locs : List Loc) (cells slots mc ms : Nat) (lsr : Array Slot),
    zS p l e R s m args below meth c X d mi → zD X s R H locs cells slots bc bs mc ms n K P I L → lv_has lsr (zL mi) ls →
    W p l e R s m args below meth c H locs cells slots (vx_MQ below (zQ X Post) (zXC X Post) args s mc ms (zA X)) (F0 m pc lsr st)
/-- a method's contract -/
def zC (l : Launch) (X : zX) (d bc bs mi : Nat) (av : List Value) (n : Nat) (K : zKT) (P : zPT) (I : zIT) (L : zLT) (Post : zPost) : Prop :=
  zV l X d bc bs mi 0 (lv_args 0 av) [] n K P I L Post
