/-! CONTRACTS: reading a script -/
/-- the text alone is known -/
def zTM (t : List Int32) : zM := fun a k => if a = 144 ∧ k = 3 then some (Int32.ofNat t.length) else if a = 145 then t[k]? else none
/-- what a reading answers: well formed or not, length, commands, position, kinds and arguments -/
def zrdo (o : Option zO4) : Option (Nat × Option Int32 × List (Option Int32) × Nat) := o.map fun o => (o.1, (match o.2.1 with | some (.int x) => some x | _ => none), [o.2.2.1 144 3, o.2.2.1 144 4, o.2.2.1 144 5, o.2.2.1 146 0, o.2.2.1 146 1, o.2.2.1 147 0, o.2.2.1 147 1, o.2.2.1 147 2, o.2.2.1 147 3, o.2.2.1 147 4, o.2.2.1 147 5], o.2.2.2)
theorem zrd_q0 : zrdo (zrun 2147483648 2000 8 0 29 0 [(0, .ref 144)] [] (zTM (zch "q"))) = some (0, some 0, [some 1, some 0, some 0, none, none, none, none, none, none, none, none], 0) := by decide +kernel
theorem zrd_w0 : zrdo (zrun 2147483648 2000 8 0 29 0 [(0, .ref 144)] [] (zTM (zch "wait;tank 9"))) = some (0, some 1, [some 11, some 2, some 11, some 7, some 0, some 1, none, none, some 9, none, none], 0) := by decide +kernel
theorem zrd_d0 : zrdo (zrun 2147483648 2000 8 0 29 0 [(0, .ref 144)] [] (zTM (zch "draw 9 1"))) = some (0, some 1, [some 8, some 1, some 8, some 3, none, some 9, some 1, none, none, none, none], 0) := by decide +kernel
theorem zrd_v0 : (List.range 13).all (fun p => decide (zrdo (zrun 2147483648 3000 8 0 29 0 [(0, .ref 144)] [] (zTM (zch "wait;valve " ++ zdg (Int32.ofNat p) ++ zch " 3"))) = some (0, some 1, [some (if p < 10 then 14 else 15), some 2, some (if p < 10 then 14 else 15), some 7, some 4, some 1, none, none, some (Int32.ofNat p), some 3, none], 0))) = true := by decide +kernel
theorem zrd_p0 : (List.range 9).all (fun t => decide (zrdo (zrun 2147483648 3000 8 0 29 0 [(0, .ref 144)] [] (zTM (zch "pour 0 1/h;draw " ++ zdg (Int32.ofNat t) ++ zch " 2"))) = some (0, some 1, [some 19, some 2, some 19, some 2, some 3, some 0, some 1, some 128, some (Int32.ofNat t), some 2, none], 0))) = true := by decide +kernel
