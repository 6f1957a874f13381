/-! THE SITES OF THROWS: their words are in the tables -/
theorem zface_on {w : Cond} (h : w.faceAtom = true) : w.onTables = true := by
  cases w <;> first | rfl | (simp [Cond.faceAtom] at h; done)
def zsite (x : Nat) : Bool := (vx_atS RX4 (zic x) (zEx x) znames).all (fun w => decide (w ∈ lw_tbl) && (goodWord w || w.faceAtom) && vx_ot w) && (decide (Cond.initialized (zEx x) ∈ lw_tbl) && Bundle.fit (zEx x))
set_option maxRecDepth 200000 in
theorem zsite_0 : zsite 0 = true := by decide +kernel
set_option maxRecDepth 200000 in
theorem zsite_1 : zsite 1 = true := by decide +kernel
set_option maxRecDepth 200000 in
theorem zsite_2 : zsite 2 = true := by decide +kernel
set_option maxRecDepth 200000 in
theorem zsite_3 : zsite 3 = true := by decide +kernel
set_option maxRecDepth 200000 in
theorem zsite_5 : zsite 5 = true := by decide +kernel
def zsiteX : Bool := (zownX.filter vx_no).all (fun w => decide (w ∈ lw_tbl) && (goodWord w || w.faceAtom) && vx_ot w) && (decide (Cond.initialized zNS ∈ lw_tbl) && Bundle.fit zNS)
set_option maxRecDepth 200000 in
theorem zsiteX_ok : zsiteX = true := by decide +kernel
theorem zsite_ok {x : Nat} (h : x < 6) (h4 : x ≠ 4) : zsite x = true := by
  match x, h with
  | 0, _ => exact zsite_0
  | 1, _ => exact zsite_1
  | 2, _ => exact zsite_2
  | 3, _ => exact zsite_3
  | 4, _ => exact absurd rfl h4
  | 5, _ => exact zsite_5
  | n + 6, h => omega
