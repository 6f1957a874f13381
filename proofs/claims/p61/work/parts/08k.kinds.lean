/-! MORE CHECKS OF THE TABLES: what a call's kind asks of the called method, what a handler asks -/
def zkc (e : zE) : Bool := match e with
  | (_, .invokestatic _, _, r1, r2, _) => match r2 with
    | 0 => zhas (zi r1).2.2.2.2.2.2.1 (.static (zY r1)) && (zH r1).isEmpty && decide (r1 < 224) && decide (r1 ≠ 178)
    | 1 => zhas (zi r1).2.2.2.2.2.2.1 (.static (zY r1)) && !(zH r1).isEmpty && decide (r1 < 224) && decide (r1 ≠ 178)
    | 2 => zhas (zi r1).2.2.2.2.2.2.1 (.static (zY r1)) && (zH r1).isEmpty && decide (r1 < 224) && decide (r1 ≠ 178)
    | _ => true
  | (_, .invokevirtual _, _, r1, r2, _) => match r2 with
    | 3 => zhas (zi r1).2.2.2.2.2.2.1 (.instanceMethod (zY r1)) && zhas (zi r1).2.2.2.2.2.2.2.1 (.selects (zY r1).cls (zY r1) (zY r1)) && (zH r1).isEmpty && decide (r1 < 224) && decide (r1 ≠ 178)
    | 4 => zhas (zi r1).2.2.2.2.2.2.1 (.instanceMethod (zY r1)) && (zH r1).isEmpty && decide (r1 < 224) && decide (r1 ≠ 178)
    | 12 => zhas (zi r1).2.2.2.2.2.2.1 (.instanceMethod (zY r1)) && (zH r1).isEmpty && decide (r1 < 224) && decide (r1 ≠ 178)
    | _ => true
  | (_, .invokespecial _, _, r1, r2, _) => match r2 with
    | 5 => zhas (zi r1).2.2.2.2.2.2.1 (.instanceMethod (zY r1)) && decide ((zY r1).name = "<init>") && decide (zRt r1 = none) && (zH r1).isEmpty && decide (r1 < 224) && decide (r1 ≠ 178)
    | 6 => zhas (zi r1).2.2.2.2.2.2.1 (.instanceMethod (zY r1)) && decide ((zY r1).name = "<init>") && decide (zRt r1 = none) && (zH r1).isEmpty && decide (r1 < 224) && decide (r1 ≠ 178)
    | 8 => zhas (zi r1).2.2.2.2.2.2.1 (.instanceMethod (zY r1)) && decide ((zY r1).name ≠ "<init>") && (zH r1).isEmpty && decide (r1 < 224) && decide (r1 ≠ 178)
    | _ => true
  | _ => true
set_option maxRecDepth 200000 in
theorem zkc_all : ztab.all (fun t => t.all zkc) = true := by decide +kernel
def zcc (c : Nat) : Nat := match c with
  | 0 => 21
  | 1 => 13
  | 2 => 15
  | 3 => 26
  | 4 => 60
  | _ => 128
/-- the handlers are the law's, each for one of the six -/
def zhc (i : zI) : Bool := i.2.2.2.2.1.isEmpty || (decide (i.1.cls = zO 178) && i.2.2.2.2.1.all (fun q => (List.range 6).any (fun c => Nat.beq q.2.2.2 (zcc c))))
set_option maxRecDepth 200000 in
theorem zhc_all : zinf.all zhc = true := by decide +kernel
set_option maxRecDepth 200000 in
theorem zcl_in : ((List.range 6).all (fun c => decide (Cond.classLink (zO 178) (zcc c) (zEx c) ∈ lw_tbl) && decide (Cond.castable (zEx c) (zEx c) ∈ lw_tbl))) = true := by decide +kernel
