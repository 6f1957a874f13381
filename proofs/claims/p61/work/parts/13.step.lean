/-! A STEP OF THE INTERPRETER IS ONE OF zV -/
theorem zLd_inv {pc i t : Nat} {ls : zLs} {st : List Value} {I : zM} {r : zRes} (h : zLd pc ls st I i t = some r) : ∃ v, zlk ls i = some v ∧ zvt v = t ∧ r = .inl (pc, ls, v :: st, I, 0) := by
  unfold zLd zld at h
  cases hl : zlk ls i with
  | none => rw [hl] at h; cases h
  | some v =>
    rw [hl] at h
    simp only at h
    cases hb : Nat.beq (zvt v) t with
    | false => rw [hb] at h; cases h
    | true =>
      rw [hb] at h
      exact ⟨v, rfl, Nat.eq_of_beq_eq_true hb, (Option.some.inj h).symm⟩
theorem zSt_inv {pc nL i t : Nat} {ls : zLs} {st : List Value} {I : zM} {r : zRes} (h : zSt pc nL ls st I i t = some r) : ∃ v r0, st = v :: r0 ∧ zvt v = t ∧ i + (if t = 1 ∨ t = 3 then 2 else 1) ≤ nL ∧ r = .inl (pc, if t = 1 ∨ t = 3 then zs2 ls i v else zs1 ls i v, r0, I, 0) := by
  unfold zSt at h
  cases st with
  | nil => cases h
  | cons v r0 =>
    simp only at h
    cases hb : Nat.beq (zvt v) t && Nat.ble (i + (if t = 1 ∨ t = 3 then 2 else 1)) nL with
    | false => rw [hb] at h; cases h
    | true =>
      rw [hb] at h
      simp only [Bool.and_eq_true] at hb
      exact ⟨v, r0, rfl, Nat.eq_of_beq_eq_true hb.1, Nat.le_of_ble_eq_true hb.2, (Option.some.inj h).symm⟩
theorem zvt_0 {v : Value} (h : zvt v = 0) : ∃ x, v = .int x := by cases v <;> first | exact ⟨_, rfl⟩ | cases h
theorem zvt_1 {v : Value} (h : zvt v = 1) : ∃ x, v = .long x := by cases v <;> first | exact ⟨_, rfl⟩ | cases h
theorem zvt_2 {v : Value} (h : zvt v = 2) : ∃ x, v = .float x := by cases v <;> first | exact ⟨_, rfl⟩ | cases h
theorem zvt_3 {v : Value} (h : zvt v = 3) : ∃ x, v = .double x := by cases v <;> first | exact ⟨_, rfl⟩ | cases h
theorem zvt_4 {v : Value} (h : zvt v = 4) : ∃ x, v = .ref x := by cases v <;> first | exact ⟨_, rfl⟩ | cases h
theorem zi2_inv {f : Int32 → Int32 → Int32} {pc : Nat} {ls : zLs} {st : List Value} {I : zM} {r : zRes} (h : zi2 f pc ls st I = some r) : ∃ x y r0, st = .int y :: .int x :: r0 ∧ r = .inl (pc, ls, .int (f x y) :: r0, I, 0) := by
  unfold zi2 at h
  split at h
  · exact ⟨_, _, _, rfl, (Option.some.inj h).symm⟩
  · cases h
theorem zl2_inv {f : Int64 → Int64 → Int64} {pc : Nat} {ls : zLs} {st : List Value} {I : zM} {r : zRes} (h : zl2 f pc ls st I = some r) : ∃ x y r0, st = .long y :: .long x :: r0 ∧ r = .inl (pc, ls, .long (f x y) :: r0, I, 0) := by
  unfold zl2 at h
  split at h
  · exact ⟨_, _, _, rfl, (Option.some.inj h).symm⟩
  · cases h
theorem zf2_inv {f : UInt32 → UInt32 → UInt32} {pc : Nat} {ls : zLs} {st : List Value} {I : zM} {r : zRes} (h : zf2 f pc ls st I = some r) : ∃ x y r0, st = .float y :: .float x :: r0 ∧ vf_n32 (f x y) ∧ r = .inl (pc, ls, .float (f x y) :: r0, I, 0) := by
  unfold zf2 at h
  split at h
  · split at h
    · rename_i hd
      exact ⟨_, _, _, rfl, by unfold vf_n32; exact of_decide_eq_true hd, (Option.some.inj h).symm⟩
    · cases h
  · cases h
theorem zd2_inv {f : UInt64 → UInt64 → UInt64} {pc : Nat} {ls : zLs} {st : List Value} {I : zM} {r : zRes} (h : zd2 f pc ls st I = some r) : ∃ x y r0, st = .double y :: .double x :: r0 ∧ vf_n64 (f x y) ∧ r = .inl (pc, ls, .double (f x y) :: r0, I, 0) := by
  unfold zd2 at h
  split at h
  · split at h
    · rename_i hd
      exact ⟨_, _, _, rfl, by unfold vf_n64; exact of_decide_eq_true hd, (Option.some.inj h).symm⟩
    · cases h
  · cases h
theorem ztg_eq {pc t : Nat} {off : Int} (h : ztg pc off = some t) : (pc : Int) + off = (t : Int) := by
  unfold ztg at h
  split at h
  · rename_i u hu
    cases h
    exact hu
  · cases h
theorem zjmp_inv {pc : Nat} {off : Int} {ls : zLs} {st : List Value} {I : zM} {r : zRes} (h : zjmp pc off ls st I = some r) : ∃ t, ztg pc off = some t ∧ r = .inl (t, ls, st, I, 0) := by
  unfold zjmp at h
  split at h
  · rename_i t ht
    exact ⟨t, ht, (Option.some.inj h).symm⟩
  · cases h
theorem zldc_inv {pc r1 r2 : Nat} {ls : zLs} {st : List Value} {I : zM} {r : zRes} (h : zldc pc ls st I r1 r2 = some r) : (r1 = 0 ∧ r = .inl (pc, ls, .int (Int32.ofNat r2) :: st, I, 0)) ∨ (r1 = 1 ∧ r = .inl (pc, ls, .float (UInt32.ofNat r2) :: st, I, 0)) ∨ (r1 = 2 ∧ r = .inl (pc, ls, .ref (2000 + r2) :: st, I, 0)) := by
  unfold zldc at h
  split at h
  · exact Or.inl ⟨rfl, (Option.some.inj h).symm⟩
  · exact Or.inr (Or.inl ⟨rfl, (Option.some.inj h).symm⟩)
  · exact Or.inr (Or.inr ⟨rfl, (Option.some.inj h).symm⟩)
  · cases h
theorem zstr_lt {mi pc idx r2 r3 len : Nat} {op : Instr} (hz : zl mi pc = some (op, len, 2, r2, r3)) (ho : op = .ldc idx ∨ op = .ldc_w idx := by first | exact Or.inl rfl | exact Or.inr rfl) : r2 < 1000 := by
  obtain ⟨q, hq, -, -⟩ := zwc_str ho hz
  have h1 := (List.getElem?_eq_some_iff.mp hq).1
  have h2 : zstr.length = 40 := by decide +kernel
  omega
theorem zin_vp {i : Int32} {n : Nat} (h : zin i n = true) : vp_in i n := by
  unfold zin at h
  simp only [Bool.and_eq_true, decide_eq_true_eq] at h
  have h2 := Nat.le_of_ble_eq_true h.2
  rintro (h3 | h3)
  · exact (Int32.lt_irrefl (Int32.lt_of_lt_of_le h3 h.1)).elim
  · omega
section ZSTEP
variable {l : Launch} {X : zX} {sl dy d bc bs mi pc : Nat} {E : zEnv} {n : Nat} {K : zKT} {P : zPT} {Ir : zIT} {L : zLT} {Post : zPost}

theorem zq_iconst {j : Int} {len r1 r2 r3 pc1 u : Nat} {ls ls1 : zLs} {st st1 : List Value} {I I1 : zM} (hE : zEok X sl dy E) (hR : zRel E n K P Ir L I) (hz : zl mi pc = some (.iconst j, len, r1, r2, r3)) (hs : zstep sl dy mi pc (.iconst j, len, r1, r2, r3) ls st I = some (.inl (pc1, ls1, st1, I1, u)))
    (k : ∀ (n' : Nat) (K' : zKT) (P' : zPT) (Ir' : zIT) (L' : zLT), zRel E n' K' P' Ir' L' I1 → zV l X (d + 1) bc bs mi pc1 (zmL (zEr E) ls1) (zmS (zEr E) st1) n' K' P' Ir' L' Post) : zV l X (d + 1) bc bs mi pc (zmL (zEr E) ls) (zmS (zEr E) st) n K P Ir L Post := by
  obtain rfl : len = 1 := zlen_eq hz rfl
  cases hs
  exact zV_iconst hz rfl (k n K P Ir L hR)
theorem zq_bipush {j : Int} {len r1 r2 r3 pc1 u : Nat} {ls ls1 : zLs} {st st1 : List Value} {I I1 : zM} (hE : zEok X sl dy E) (hR : zRel E n K P Ir L I) (hz : zl mi pc = some (.bipush j, len, r1, r2, r3)) (hs : zstep sl dy mi pc (.bipush j, len, r1, r2, r3) ls st I = some (.inl (pc1, ls1, st1, I1, u)))
    (k : ∀ (n' : Nat) (K' : zKT) (P' : zPT) (Ir' : zIT) (L' : zLT), zRel E n' K' P' Ir' L' I1 → zV l X (d + 1) bc bs mi pc1 (zmL (zEr E) ls1) (zmS (zEr E) st1) n' K' P' Ir' L' Post) : zV l X (d + 1) bc bs mi pc (zmL (zEr E) ls) (zmS (zEr E) st) n K P Ir L Post := by
  obtain rfl : len = 2 := zlen_eq hz rfl
  cases hs
  exact zV_bipush hz rfl (k n K P Ir L hR)
theorem zq_sipush {j : Int} {len r1 r2 r3 pc1 u : Nat} {ls ls1 : zLs} {st st1 : List Value} {I I1 : zM} (hE : zEok X sl dy E) (hR : zRel E n K P Ir L I) (hz : zl mi pc = some (.sipush j, len, r1, r2, r3)) (hs : zstep sl dy mi pc (.sipush j, len, r1, r2, r3) ls st I = some (.inl (pc1, ls1, st1, I1, u)))
    (k : ∀ (n' : Nat) (K' : zKT) (P' : zPT) (Ir' : zIT) (L' : zLT), zRel E n' K' P' Ir' L' I1 → zV l X (d + 1) bc bs mi pc1 (zmL (zEr E) ls1) (zmS (zEr E) st1) n' K' P' Ir' L' Post) : zV l X (d + 1) bc bs mi pc (zmL (zEr E) ls) (zmS (zEr E) st) n K P Ir L Post := by
  obtain rfl : len = 3 := zlen_eq hz rfl
  cases hs
  exact zV_sipush hz rfl (k n K P Ir L hR)
theorem zq_lconst {j : Fin 2} {len r1 r2 r3 pc1 u : Nat} {ls ls1 : zLs} {st st1 : List Value} {I I1 : zM} (hE : zEok X sl dy E) (hR : zRel E n K P Ir L I) (hz : zl mi pc = some (.lconst j, len, r1, r2, r3)) (hs : zstep sl dy mi pc (.lconst j, len, r1, r2, r3) ls st I = some (.inl (pc1, ls1, st1, I1, u)))
    (k : ∀ (n' : Nat) (K' : zKT) (P' : zPT) (Ir' : zIT) (L' : zLT), zRel E n' K' P' Ir' L' I1 → zV l X (d + 1) bc bs mi pc1 (zmL (zEr E) ls1) (zmS (zEr E) st1) n' K' P' Ir' L' Post) : zV l X (d + 1) bc bs mi pc (zmL (zEr E) ls) (zmS (zEr E) st) n K P Ir L Post := by
  obtain rfl : len = 1 := zlen_eq hz rfl
  cases hs
  exact zV_lconst hz rfl (k n K P Ir L hR)
theorem zq_fconst {j : Fin 3} {len r1 r2 r3 pc1 u : Nat} {ls ls1 : zLs} {st st1 : List Value} {I I1 : zM} (hE : zEok X sl dy E) (hR : zRel E n K P Ir L I) (hz : zl mi pc = some (.fconst j, len, r1, r2, r3)) (hs : zstep sl dy mi pc (.fconst j, len, r1, r2, r3) ls st I = some (.inl (pc1, ls1, st1, I1, u)))
    (k : ∀ (n' : Nat) (K' : zKT) (P' : zPT) (Ir' : zIT) (L' : zLT), zRel E n' K' P' Ir' L' I1 → zV l X (d + 1) bc bs mi pc1 (zmL (zEr E) ls1) (zmS (zEr E) st1) n' K' P' Ir' L' Post) : zV l X (d + 1) bc bs mi pc (zmL (zEr E) ls) (zmS (zEr E) st) n K P Ir L Post := by
  obtain rfl : len = 1 := zlen_eq hz rfl
  match j, hz, hs with
  | 0, hz, hs => cases hs; exact zV_fconst0 hz (k n K P Ir L hR)
  | 1, hz, hs => cases hs; exact zV_fconst1 hz (k n K P Ir L hR)
  | 2, hz, hs => cases hs; exact zV_fconst2 hz (k n K P Ir L hR)
theorem zq_dconst {j : Fin 2} {len r1 r2 r3 pc1 u : Nat} {ls ls1 : zLs} {st st1 : List Value} {I I1 : zM} (hE : zEok X sl dy E) (hR : zRel E n K P Ir L I) (hz : zl mi pc = some (.dconst j, len, r1, r2, r3)) (hs : zstep sl dy mi pc (.dconst j, len, r1, r2, r3) ls st I = some (.inl (pc1, ls1, st1, I1, u)))
    (k : ∀ (n' : Nat) (K' : zKT) (P' : zPT) (Ir' : zIT) (L' : zLT), zRel E n' K' P' Ir' L' I1 → zV l X (d + 1) bc bs mi pc1 (zmL (zEr E) ls1) (zmS (zEr E) st1) n' K' P' Ir' L' Post) : zV l X (d + 1) bc bs mi pc (zmL (zEr E) ls) (zmS (zEr E) st) n K P Ir L Post := by
  obtain rfl : len = 1 := zlen_eq hz rfl
  match j, hz, hs with
  | 0, hz, hs => cases hs; exact zV_dconst0 hz (k n K P Ir L hR)
  | 1, hz, hs => cases hs; exact zV_dconst1 hz (k n K P Ir L hR)
theorem zq_ldc {j : Nat} {len r1 r2 r3 pc1 u : Nat} {ls ls1 : zLs} {st st1 : List Value} {I I1 : zM} (hE : zEok X sl dy E) (hR : zRel E n K P Ir L I) (hz : zl mi pc = some (.ldc j, len, r1, r2, r3)) (hs : zstep sl dy mi pc (.ldc j, len, r1, r2, r3) ls st I = some (.inl (pc1, ls1, st1, I1, u)))
    (k : ∀ (n' : Nat) (K' : zKT) (P' : zPT) (Ir' : zIT) (L' : zLT), zRel E n' K' P' Ir' L' I1 → zV l X (d + 1) bc bs mi pc1 (zmL (zEr E) ls1) (zmS (zEr E) st1) n' K' P' Ir' L' Post) : zV l X (d + 1) bc bs mi pc (zmL (zEr E) ls) (zmS (zEr E) st) n K P Ir L Post := by
  obtain rfl : len = 2 := zlen_eq hz rfl
  rcases zldc_inv hs with ⟨rfl, e⟩ | ⟨rfl, e⟩ | ⟨rfl, e⟩ <;> cases e
  · exact zV_ldcI hz (k n K P Ir L hR)
  · exact zV_ldcF hz (k n K P Ir L hR)
  · refine zV_ldcS hz ?_
    have := k n K P Ir L hR
    rw [show zmS (zEr E) (.ref (2000 + r2) :: st) = .ref (X.2.2.2 r2) :: zmS (zEr E) st from by rw [← hE.2.2.2.1 r2 (zstr_lt hz)]; rfl] at this
    exact this
theorem zq_ldc_w {j : Nat} {len r1 r2 r3 pc1 u : Nat} {ls ls1 : zLs} {st st1 : List Value} {I I1 : zM} (hE : zEok X sl dy E) (hR : zRel E n K P Ir L I) (hz : zl mi pc = some (.ldc_w j, len, r1, r2, r3)) (hs : zstep sl dy mi pc (.ldc_w j, len, r1, r2, r3) ls st I = some (.inl (pc1, ls1, st1, I1, u)))
    (k : ∀ (n' : Nat) (K' : zKT) (P' : zPT) (Ir' : zIT) (L' : zLT), zRel E n' K' P' Ir' L' I1 → zV l X (d + 1) bc bs mi pc1 (zmL (zEr E) ls1) (zmS (zEr E) st1) n' K' P' Ir' L' Post) : zV l X (d + 1) bc bs mi pc (zmL (zEr E) ls) (zmS (zEr E) st) n K P Ir L Post := by
  obtain rfl : len = 3 := zlen_eq hz rfl
  rcases zldc_inv hs with ⟨rfl, e⟩ | ⟨rfl, e⟩ | ⟨rfl, e⟩ <;> cases e
  · exact zV_ldcwI hz (k n K P Ir L hR)
  · exact zV_ldcwF hz (k n K P Ir L hR)
  · refine zV_ldcwS hz ?_
    have := k n K P Ir L hR
    rw [show zmS (zEr E) (.ref (2000 + r2) :: st) = .ref (X.2.2.2 r2) :: zmS (zEr E) st from by rw [← hE.2.2.2.1 r2 (zstr_lt hz)]; rfl] at this
    exact this
theorem zq_ldc2_w {j : Nat} {len r1 r2 r3 pc1 u : Nat} {ls ls1 : zLs} {st st1 : List Value} {I I1 : zM} (hE : zEok X sl dy E) (hR : zRel E n K P Ir L I) (hz : zl mi pc = some (.ldc2_w j, len, r1, r2, r3)) (hs : zstep sl dy mi pc (.ldc2_w j, len, r1, r2, r3) ls st I = some (.inl (pc1, ls1, st1, I1, u)))
    (k : ∀ (n' : Nat) (K' : zKT) (P' : zPT) (Ir' : zIT) (L' : zLT), zRel E n' K' P' Ir' L' I1 → zV l X (d + 1) bc bs mi pc1 (zmL (zEr E) ls1) (zmS (zEr E) st1) n' K' P' Ir' L' Post) : zV l X (d + 1) bc bs mi pc (zmL (zEr E) ls) (zmS (zEr E) st) n K P Ir L Post := by
  obtain rfl : len = 3 := zlen_eq hz rfl
  simp only [zstep] at hs
  split at hs
  · cases hs; exact zV_ldc2L hz (k n K P Ir L hR)
  · cases hs; exact zV_ldc2D hz (k n K P Ir L hR)
  · cases hs
theorem zq_iload {j : Nat} {len r1 r2 r3 pc1 u : Nat} {ls ls1 : zLs} {st st1 : List Value} {I I1 : zM} (hE : zEok X sl dy E) (hR : zRel E n K P Ir L I) (hz : zl mi pc = some (.iload j, len, r1, r2, r3)) (hs : zstep sl dy mi pc (.iload j, len, r1, r2, r3) ls st I = some (.inl (pc1, ls1, st1, I1, u)))
    (k : ∀ (n' : Nat) (K' : zKT) (P' : zPT) (Ir' : zIT) (L' : zLT), zRel E n' K' P' Ir' L' I1 → zV l X (d + 1) bc bs mi pc1 (zmL (zEr E) ls1) (zmS (zEr E) st1) n' K' P' Ir' L' Post) : zV l X (d + 1) bc bs mi pc (zmL (zEr E) ls) (zmS (zEr E) st) n K P Ir L Post := by
  obtain rfl : len = 2 := zlen_eq hz rfl
  obtain ⟨v, h1, h2, e⟩ := zLd_inv hs
  obtain ⟨x, rfl⟩ := zvt_0 h2
  cases e
  exact zV_iload hz (by rw [zlk_map, h1]; rfl) (k n K P Ir L hR)
theorem zq_iload_n {j : Fin 4} {len r1 r2 r3 pc1 u : Nat} {ls ls1 : zLs} {st st1 : List Value} {I I1 : zM} (hE : zEok X sl dy E) (hR : zRel E n K P Ir L I) (hz : zl mi pc = some (.iload_n j, len, r1, r2, r3)) (hs : zstep sl dy mi pc (.iload_n j, len, r1, r2, r3) ls st I = some (.inl (pc1, ls1, st1, I1, u)))
    (k : ∀ (n' : Nat) (K' : zKT) (P' : zPT) (Ir' : zIT) (L' : zLT), zRel E n' K' P' Ir' L' I1 → zV l X (d + 1) bc bs mi pc1 (zmL (zEr E) ls1) (zmS (zEr E) st1) n' K' P' Ir' L' Post) : zV l X (d + 1) bc bs mi pc (zmL (zEr E) ls) (zmS (zEr E) st) n K P Ir L Post := by
  obtain rfl : len = 1 := zlen_eq hz rfl
  obtain ⟨v, h1, h2, e⟩ := zLd_inv hs
  obtain ⟨x, rfl⟩ := zvt_0 h2
  cases e
  exact zV_iload_n hz (by rw [zlk_map, h1]; rfl) (k n K P Ir L hR)
theorem zq_lload {j : Nat} {len r1 r2 r3 pc1 u : Nat} {ls ls1 : zLs} {st st1 : List Value} {I I1 : zM} (hE : zEok X sl dy E) (hR : zRel E n K P Ir L I) (hz : zl mi pc = some (.lload j, len, r1, r2, r3)) (hs : zstep sl dy mi pc (.lload j, len, r1, r2, r3) ls st I = some (.inl (pc1, ls1, st1, I1, u)))
    (k : ∀ (n' : Nat) (K' : zKT) (P' : zPT) (Ir' : zIT) (L' : zLT), zRel E n' K' P' Ir' L' I1 → zV l X (d + 1) bc bs mi pc1 (zmL (zEr E) ls1) (zmS (zEr E) st1) n' K' P' Ir' L' Post) : zV l X (d + 1) bc bs mi pc (zmL (zEr E) ls) (zmS (zEr E) st) n K P Ir L Post := by
  obtain rfl : len = 2 := zlen_eq hz rfl
  obtain ⟨v, h1, h2, e⟩ := zLd_inv hs
  obtain ⟨x, rfl⟩ := zvt_1 h2
  cases e
  exact zV_lload hz (by rw [zlk_map, h1]; rfl) (k n K P Ir L hR)
theorem zq_lload_n {j : Fin 4} {len r1 r2 r3 pc1 u : Nat} {ls ls1 : zLs} {st st1 : List Value} {I I1 : zM} (hE : zEok X sl dy E) (hR : zRel E n K P Ir L I) (hz : zl mi pc = some (.lload_n j, len, r1, r2, r3)) (hs : zstep sl dy mi pc (.lload_n j, len, r1, r2, r3) ls st I = some (.inl (pc1, ls1, st1, I1, u)))
    (k : ∀ (n' : Nat) (K' : zKT) (P' : zPT) (Ir' : zIT) (L' : zLT), zRel E n' K' P' Ir' L' I1 → zV l X (d + 1) bc bs mi pc1 (zmL (zEr E) ls1) (zmS (zEr E) st1) n' K' P' Ir' L' Post) : zV l X (d + 1) bc bs mi pc (zmL (zEr E) ls) (zmS (zEr E) st) n K P Ir L Post := by
  obtain rfl : len = 1 := zlen_eq hz rfl
  obtain ⟨v, h1, h2, e⟩ := zLd_inv hs
  obtain ⟨x, rfl⟩ := zvt_1 h2
  cases e
  exact zV_lload_n hz (by rw [zlk_map, h1]; rfl) (k n K P Ir L hR)
theorem zq_fload {j : Nat} {len r1 r2 r3 pc1 u : Nat} {ls ls1 : zLs} {st st1 : List Value} {I I1 : zM} (hE : zEok X sl dy E) (hR : zRel E n K P Ir L I) (hz : zl mi pc = some (.fload j, len, r1, r2, r3)) (hs : zstep sl dy mi pc (.fload j, len, r1, r2, r3) ls st I = some (.inl (pc1, ls1, st1, I1, u)))
    (k : ∀ (n' : Nat) (K' : zKT) (P' : zPT) (Ir' : zIT) (L' : zLT), zRel E n' K' P' Ir' L' I1 → zV l X (d + 1) bc bs mi pc1 (zmL (zEr E) ls1) (zmS (zEr E) st1) n' K' P' Ir' L' Post) : zV l X (d + 1) bc bs mi pc (zmL (zEr E) ls) (zmS (zEr E) st) n K P Ir L Post := by
  obtain rfl : len = 2 := zlen_eq hz rfl
  obtain ⟨v, h1, h2, e⟩ := zLd_inv hs
  obtain ⟨x, rfl⟩ := zvt_2 h2
  cases e
  exact zV_fload hz (by rw [zlk_map, h1]; rfl) (k n K P Ir L hR)
theorem zq_fload_n {j : Fin 4} {len r1 r2 r3 pc1 u : Nat} {ls ls1 : zLs} {st st1 : List Value} {I I1 : zM} (hE : zEok X sl dy E) (hR : zRel E n K P Ir L I) (hz : zl mi pc = some (.fload_n j, len, r1, r2, r3)) (hs : zstep sl dy mi pc (.fload_n j, len, r1, r2, r3) ls st I = some (.inl (pc1, ls1, st1, I1, u)))
    (k : ∀ (n' : Nat) (K' : zKT) (P' : zPT) (Ir' : zIT) (L' : zLT), zRel E n' K' P' Ir' L' I1 → zV l X (d + 1) bc bs mi pc1 (zmL (zEr E) ls1) (zmS (zEr E) st1) n' K' P' Ir' L' Post) : zV l X (d + 1) bc bs mi pc (zmL (zEr E) ls) (zmS (zEr E) st) n K P Ir L Post := by
  obtain rfl : len = 1 := zlen_eq hz rfl
  obtain ⟨v, h1, h2, e⟩ := zLd_inv hs
  obtain ⟨x, rfl⟩ := zvt_2 h2
  cases e
  exact zV_fload_n hz (by rw [zlk_map, h1]; rfl) (k n K P Ir L hR)
theorem zq_dload {j : Nat} {len r1 r2 r3 pc1 u : Nat} {ls ls1 : zLs} {st st1 : List Value} {I I1 : zM} (hE : zEok X sl dy E) (hR : zRel E n K P Ir L I) (hz : zl mi pc = some (.dload j, len, r1, r2, r3)) (hs : zstep sl dy mi pc (.dload j, len, r1, r2, r3) ls st I = some (.inl (pc1, ls1, st1, I1, u)))
    (k : ∀ (n' : Nat) (K' : zKT) (P' : zPT) (Ir' : zIT) (L' : zLT), zRel E n' K' P' Ir' L' I1 → zV l X (d + 1) bc bs mi pc1 (zmL (zEr E) ls1) (zmS (zEr E) st1) n' K' P' Ir' L' Post) : zV l X (d + 1) bc bs mi pc (zmL (zEr E) ls) (zmS (zEr E) st) n K P Ir L Post := by
  obtain rfl : len = 2 := zlen_eq hz rfl
  obtain ⟨v, h1, h2, e⟩ := zLd_inv hs
  obtain ⟨x, rfl⟩ := zvt_3 h2
  cases e
  exact zV_dload hz (by rw [zlk_map, h1]; rfl) (k n K P Ir L hR)
theorem zq_dload_n {j : Fin 4} {len r1 r2 r3 pc1 u : Nat} {ls ls1 : zLs} {st st1 : List Value} {I I1 : zM} (hE : zEok X sl dy E) (hR : zRel E n K P Ir L I) (hz : zl mi pc = some (.dload_n j, len, r1, r2, r3)) (hs : zstep sl dy mi pc (.dload_n j, len, r1, r2, r3) ls st I = some (.inl (pc1, ls1, st1, I1, u)))
    (k : ∀ (n' : Nat) (K' : zKT) (P' : zPT) (Ir' : zIT) (L' : zLT), zRel E n' K' P' Ir' L' I1 → zV l X (d + 1) bc bs mi pc1 (zmL (zEr E) ls1) (zmS (zEr E) st1) n' K' P' Ir' L' Post) : zV l X (d + 1) bc bs mi pc (zmL (zEr E) ls) (zmS (zEr E) st) n K P Ir L Post := by
  obtain rfl : len = 1 := zlen_eq hz rfl
  obtain ⟨v, h1, h2, e⟩ := zLd_inv hs
  obtain ⟨x, rfl⟩ := zvt_3 h2
  cases e
  exact zV_dload_n hz (by rw [zlk_map, h1]; rfl) (k n K P Ir L hR)
theorem zq_aload {j : Nat} {len r1 r2 r3 pc1 u : Nat} {ls ls1 : zLs} {st st1 : List Value} {I I1 : zM} (hE : zEok X sl dy E) (hR : zRel E n K P Ir L I) (hz : zl mi pc = some (.aload j, len, r1, r2, r3)) (hs : zstep sl dy mi pc (.aload j, len, r1, r2, r3) ls st I = some (.inl (pc1, ls1, st1, I1, u)))
    (k : ∀ (n' : Nat) (K' : zKT) (P' : zPT) (Ir' : zIT) (L' : zLT), zRel E n' K' P' Ir' L' I1 → zV l X (d + 1) bc bs mi pc1 (zmL (zEr E) ls1) (zmS (zEr E) st1) n' K' P' Ir' L' Post) : zV l X (d + 1) bc bs mi pc (zmL (zEr E) ls) (zmS (zEr E) st) n K P Ir L Post := by
  obtain rfl : len = 2 := zlen_eq hz rfl
  obtain ⟨v, h1, h2, e⟩ := zLd_inv hs
  obtain ⟨x, rfl⟩ := zvt_4 h2
  cases e
  exact zV_aload hz (by rw [zlk_map, h1]; rfl) (k n K P Ir L hR)
theorem zq_aload_n {j : Fin 4} {len r1 r2 r3 pc1 u : Nat} {ls ls1 : zLs} {st st1 : List Value} {I I1 : zM} (hE : zEok X sl dy E) (hR : zRel E n K P Ir L I) (hz : zl mi pc = some (.aload_n j, len, r1, r2, r3)) (hs : zstep sl dy mi pc (.aload_n j, len, r1, r2, r3) ls st I = some (.inl (pc1, ls1, st1, I1, u)))
    (k : ∀ (n' : Nat) (K' : zKT) (P' : zPT) (Ir' : zIT) (L' : zLT), zRel E n' K' P' Ir' L' I1 → zV l X (d + 1) bc bs mi pc1 (zmL (zEr E) ls1) (zmS (zEr E) st1) n' K' P' Ir' L' Post) : zV l X (d + 1) bc bs mi pc (zmL (zEr E) ls) (zmS (zEr E) st) n K P Ir L Post := by
  obtain rfl : len = 1 := zlen_eq hz rfl
  obtain ⟨v, h1, h2, e⟩ := zLd_inv hs
  obtain ⟨x, rfl⟩ := zvt_4 h2
  cases e
  exact zV_aload_n hz (by rw [zlk_map, h1]; rfl) (k n K P Ir L hR)
theorem zq_istore {j : Nat} {len r1 r2 r3 pc1 u : Nat} {ls ls1 : zLs} {st st1 : List Value} {I I1 : zM} (hE : zEok X sl dy E) (hR : zRel E n K P Ir L I) (hz : zl mi pc = some (.istore j, len, r1, r2, r3)) (hs : zstep sl dy mi pc (.istore j, len, r1, r2, r3) ls st I = some (.inl (pc1, ls1, st1, I1, u)))
    (k : ∀ (n' : Nat) (K' : zKT) (P' : zPT) (Ir' : zIT) (L' : zLT), zRel E n' K' P' Ir' L' I1 → zV l X (d + 1) bc bs mi pc1 (zmL (zEr E) ls1) (zmS (zEr E) st1) n' K' P' Ir' L' Post) : zV l X (d + 1) bc bs mi pc (zmL (zEr E) ls) (zmS (zEr E) st) n K P Ir L Post := by
  obtain rfl : len = 2 := zlen_eq hz rfl
  obtain ⟨v, r0, rfl, h2, h3, e⟩ := zSt_inv hs
  obtain ⟨x, rfl⟩ := zvt_0 h2
  cases e
  exact zV_istore hz (by have h4 := h3; simp at h4; omega) (zs1_map (zEr E) ls _ (.int x)) (k n K P Ir L hR)
theorem zq_istore_n {j : Fin 4} {len r1 r2 r3 pc1 u : Nat} {ls ls1 : zLs} {st st1 : List Value} {I I1 : zM} (hE : zEok X sl dy E) (hR : zRel E n K P Ir L I) (hz : zl mi pc = some (.istore_n j, len, r1, r2, r3)) (hs : zstep sl dy mi pc (.istore_n j, len, r1, r2, r3) ls st I = some (.inl (pc1, ls1, st1, I1, u)))
    (k : ∀ (n' : Nat) (K' : zKT) (P' : zPT) (Ir' : zIT) (L' : zLT), zRel E n' K' P' Ir' L' I1 → zV l X (d + 1) bc bs mi pc1 (zmL (zEr E) ls1) (zmS (zEr E) st1) n' K' P' Ir' L' Post) : zV l X (d + 1) bc bs mi pc (zmL (zEr E) ls) (zmS (zEr E) st) n K P Ir L Post := by
  obtain rfl : len = 1 := zlen_eq hz rfl
  obtain ⟨v, r0, rfl, h2, h3, e⟩ := zSt_inv hs
  obtain ⟨x, rfl⟩ := zvt_0 h2
  cases e
  exact zV_istore_n hz (by have h4 := h3; simp at h4; omega) (zs1_map (zEr E) ls _ (.int x)) (k n K P Ir L hR)
theorem zq_lstore {j : Nat} {len r1 r2 r3 pc1 u : Nat} {ls ls1 : zLs} {st st1 : List Value} {I I1 : zM} (hE : zEok X sl dy E) (hR : zRel E n K P Ir L I) (hz : zl mi pc = some (.lstore j, len, r1, r2, r3)) (hs : zstep sl dy mi pc (.lstore j, len, r1, r2, r3) ls st I = some (.inl (pc1, ls1, st1, I1, u)))
    (k : ∀ (n' : Nat) (K' : zKT) (P' : zPT) (Ir' : zIT) (L' : zLT), zRel E n' K' P' Ir' L' I1 → zV l X (d + 1) bc bs mi pc1 (zmL (zEr E) ls1) (zmS (zEr E) st1) n' K' P' Ir' L' Post) : zV l X (d + 1) bc bs mi pc (zmL (zEr E) ls) (zmS (zEr E) st) n K P Ir L Post := by
  obtain rfl : len = 2 := zlen_eq hz rfl
  obtain ⟨v, r0, rfl, h2, h3, e⟩ := zSt_inv hs
  obtain ⟨x, rfl⟩ := zvt_1 h2
  cases e
  exact zV_lstore hz (by have h4 := h3; simp at h4; omega) (zs2_map (zEr E) ls _ (.long x)) (k n K P Ir L hR)
theorem zq_lstore_n {j : Fin 4} {len r1 r2 r3 pc1 u : Nat} {ls ls1 : zLs} {st st1 : List Value} {I I1 : zM} (hE : zEok X sl dy E) (hR : zRel E n K P Ir L I) (hz : zl mi pc = some (.lstore_n j, len, r1, r2, r3)) (hs : zstep sl dy mi pc (.lstore_n j, len, r1, r2, r3) ls st I = some (.inl (pc1, ls1, st1, I1, u)))
    (k : ∀ (n' : Nat) (K' : zKT) (P' : zPT) (Ir' : zIT) (L' : zLT), zRel E n' K' P' Ir' L' I1 → zV l X (d + 1) bc bs mi pc1 (zmL (zEr E) ls1) (zmS (zEr E) st1) n' K' P' Ir' L' Post) : zV l X (d + 1) bc bs mi pc (zmL (zEr E) ls) (zmS (zEr E) st) n K P Ir L Post := by
  obtain rfl : len = 1 := zlen_eq hz rfl
  obtain ⟨v, r0, rfl, h2, h3, e⟩ := zSt_inv hs
  obtain ⟨x, rfl⟩ := zvt_1 h2
  cases e
  exact zV_lstore_n hz (by have h4 := h3; simp at h4; omega) (zs2_map (zEr E) ls _ (.long x)) (k n K P Ir L hR)
theorem zq_fstore {j : Nat} {len r1 r2 r3 pc1 u : Nat} {ls ls1 : zLs} {st st1 : List Value} {I I1 : zM} (hE : zEok X sl dy E) (hR : zRel E n K P Ir L I) (hz : zl mi pc = some (.fstore j, len, r1, r2, r3)) (hs : zstep sl dy mi pc (.fstore j, len, r1, r2, r3) ls st I = some (.inl (pc1, ls1, st1, I1, u)))
    (k : ∀ (n' : Nat) (K' : zKT) (P' : zPT) (Ir' : zIT) (L' : zLT), zRel E n' K' P' Ir' L' I1 → zV l X (d + 1) bc bs mi pc1 (zmL (zEr E) ls1) (zmS (zEr E) st1) n' K' P' Ir' L' Post) : zV l X (d + 1) bc bs mi pc (zmL (zEr E) ls) (zmS (zEr E) st) n K P Ir L Post := by
  obtain rfl : len = 2 := zlen_eq hz rfl
  obtain ⟨v, r0, rfl, h2, h3, e⟩ := zSt_inv hs
  obtain ⟨x, rfl⟩ := zvt_2 h2
  cases e
  exact zV_fstore hz (by have h4 := h3; simp at h4; omega) (zs1_map (zEr E) ls _ (.float x)) (k n K P Ir L hR)
theorem zq_fstore_n {j : Fin 4} {len r1 r2 r3 pc1 u : Nat} {ls ls1 : zLs} {st st1 : List Value} {I I1 : zM} (hE : zEok X sl dy E) (hR : zRel E n K P Ir L I) (hz : zl mi pc = some (.fstore_n j, len, r1, r2, r3)) (hs : zstep sl dy mi pc (.fstore_n j, len, r1, r2, r3) ls st I = some (.inl (pc1, ls1, st1, I1, u)))
    (k : ∀ (n' : Nat) (K' : zKT) (P' : zPT) (Ir' : zIT) (L' : zLT), zRel E n' K' P' Ir' L' I1 → zV l X (d + 1) bc bs mi pc1 (zmL (zEr E) ls1) (zmS (zEr E) st1) n' K' P' Ir' L' Post) : zV l X (d + 1) bc bs mi pc (zmL (zEr E) ls) (zmS (zEr E) st) n K P Ir L Post := by
  obtain rfl : len = 1 := zlen_eq hz rfl
  obtain ⟨v, r0, rfl, h2, h3, e⟩ := zSt_inv hs
  obtain ⟨x, rfl⟩ := zvt_2 h2
  cases e
  exact zV_fstore_n hz (by have h4 := h3; simp at h4; omega) (zs1_map (zEr E) ls _ (.float x)) (k n K P Ir L hR)
theorem zq_dstore {j : Nat} {len r1 r2 r3 pc1 u : Nat} {ls ls1 : zLs} {st st1 : List Value} {I I1 : zM} (hE : zEok X sl dy E) (hR : zRel E n K P Ir L I) (hz : zl mi pc = some (.dstore j, len, r1, r2, r3)) (hs : zstep sl dy mi pc (.dstore j, len, r1, r2, r3) ls st I = some (.inl (pc1, ls1, st1, I1, u)))
    (k : ∀ (n' : Nat) (K' : zKT) (P' : zPT) (Ir' : zIT) (L' : zLT), zRel E n' K' P' Ir' L' I1 → zV l X (d + 1) bc bs mi pc1 (zmL (zEr E) ls1) (zmS (zEr E) st1) n' K' P' Ir' L' Post) : zV l X (d + 1) bc bs mi pc (zmL (zEr E) ls) (zmS (zEr E) st) n K P Ir L Post := by
  obtain rfl : len = 2 := zlen_eq hz rfl
  obtain ⟨v, r0, rfl, h2, h3, e⟩ := zSt_inv hs
  obtain ⟨x, rfl⟩ := zvt_3 h2
  cases e
  exact zV_dstore hz (by have h4 := h3; simp at h4; omega) (zs2_map (zEr E) ls _ (.double x)) (k n K P Ir L hR)
theorem zq_dstore_n {j : Fin 4} {len r1 r2 r3 pc1 u : Nat} {ls ls1 : zLs} {st st1 : List Value} {I I1 : zM} (hE : zEok X sl dy E) (hR : zRel E n K P Ir L I) (hz : zl mi pc = some (.dstore_n j, len, r1, r2, r3)) (hs : zstep sl dy mi pc (.dstore_n j, len, r1, r2, r3) ls st I = some (.inl (pc1, ls1, st1, I1, u)))
    (k : ∀ (n' : Nat) (K' : zKT) (P' : zPT) (Ir' : zIT) (L' : zLT), zRel E n' K' P' Ir' L' I1 → zV l X (d + 1) bc bs mi pc1 (zmL (zEr E) ls1) (zmS (zEr E) st1) n' K' P' Ir' L' Post) : zV l X (d + 1) bc bs mi pc (zmL (zEr E) ls) (zmS (zEr E) st) n K P Ir L Post := by
  obtain rfl : len = 1 := zlen_eq hz rfl
  obtain ⟨v, r0, rfl, h2, h3, e⟩ := zSt_inv hs
  obtain ⟨x, rfl⟩ := zvt_3 h2
  cases e
  exact zV_dstore_n hz (by have h4 := h3; simp at h4; omega) (zs2_map (zEr E) ls _ (.double x)) (k n K P Ir L hR)
theorem zq_astore {j : Nat} {len r1 r2 r3 pc1 u : Nat} {ls ls1 : zLs} {st st1 : List Value} {I I1 : zM} (hE : zEok X sl dy E) (hR : zRel E n K P Ir L I) (hz : zl mi pc = some (.astore j, len, r1, r2, r3)) (hs : zstep sl dy mi pc (.astore j, len, r1, r2, r3) ls st I = some (.inl (pc1, ls1, st1, I1, u)))
    (k : ∀ (n' : Nat) (K' : zKT) (P' : zPT) (Ir' : zIT) (L' : zLT), zRel E n' K' P' Ir' L' I1 → zV l X (d + 1) bc bs mi pc1 (zmL (zEr E) ls1) (zmS (zEr E) st1) n' K' P' Ir' L' Post) : zV l X (d + 1) bc bs mi pc (zmL (zEr E) ls) (zmS (zEr E) st) n K P Ir L Post := by
  obtain rfl : len = 2 := zlen_eq hz rfl
  obtain ⟨v, r0, rfl, h2, h3, e⟩ := zSt_inv hs
  obtain ⟨x, rfl⟩ := zvt_4 h2
  cases e
  exact zV_astore hz (by have h4 := h3; simp at h4; omega) (zs1_map (zEr E) ls _ (.ref x)) (k n K P Ir L hR)
theorem zq_astore_n {j : Fin 4} {len r1 r2 r3 pc1 u : Nat} {ls ls1 : zLs} {st st1 : List Value} {I I1 : zM} (hE : zEok X sl dy E) (hR : zRel E n K P Ir L I) (hz : zl mi pc = some (.astore_n j, len, r1, r2, r3)) (hs : zstep sl dy mi pc (.astore_n j, len, r1, r2, r3) ls st I = some (.inl (pc1, ls1, st1, I1, u)))
    (k : ∀ (n' : Nat) (K' : zKT) (P' : zPT) (Ir' : zIT) (L' : zLT), zRel E n' K' P' Ir' L' I1 → zV l X (d + 1) bc bs mi pc1 (zmL (zEr E) ls1) (zmS (zEr E) st1) n' K' P' Ir' L' Post) : zV l X (d + 1) bc bs mi pc (zmL (zEr E) ls) (zmS (zEr E) st) n K P Ir L Post := by
  obtain rfl : len = 1 := zlen_eq hz rfl
  obtain ⟨v, r0, rfl, h2, h3, e⟩ := zSt_inv hs
  obtain ⟨x, rfl⟩ := zvt_4 h2
  cases e
  exact zV_astore_n hz (by have h4 := h3; simp at h4; omega) (zs1_map (zEr E) ls _ (.ref x)) (k n K P Ir L hR)
theorem zq_iinc {j : Nat} {c : Int} {len r1 r2 r3 pc1 u : Nat} {ls ls1 : zLs} {st st1 : List Value} {I I1 : zM} (hE : zEok X sl dy E) (hR : zRel E n K P Ir L I) (hz : zl mi pc = some (.iinc j c, len, r1, r2, r3)) (hs : zstep sl dy mi pc (.iinc j c, len, r1, r2, r3) ls st I = some (.inl (pc1, ls1, st1, I1, u)))
    (k : ∀ (n' : Nat) (K' : zKT) (P' : zPT) (Ir' : zIT) (L' : zLT), zRel E n' K' P' Ir' L' I1 → zV l X (d + 1) bc bs mi pc1 (zmL (zEr E) ls1) (zmS (zEr E) st1) n' K' P' Ir' L' Post) : zV l X (d + 1) bc bs mi pc (zmL (zEr E) ls) (zmS (zEr E) st) n K P Ir L Post := by
  obtain rfl : len = 3 := zlen_eq hz rfl
  simp only [zstep] at hs
  split at hs
  · rename_i x hx
    split at hs
    · rename_i hb
      cases hs
      exact zV_iinc hz (by rw [zlk_map, hx]; rfl) rfl (Nat.le_of_ble_eq_true hb) (zs1_map (zEr E) ls _ (.int _)) (k n K P Ir L hR)
    · cases hs
  · cases hs
theorem zq_iadd {len r1 r2 r3 pc1 u : Nat} {ls ls1 : zLs} {st st1 : List Value} {I I1 : zM} (hE : zEok X sl dy E) (hR : zRel E n K P Ir L I) (hz : zl mi pc = some (.iadd, len, r1, r2, r3)) (hs : zstep sl dy mi pc (.iadd, len, r1, r2, r3) ls st I = some (.inl (pc1, ls1, st1, I1, u)))
    (k : ∀ (n' : Nat) (K' : zKT) (P' : zPT) (Ir' : zIT) (L' : zLT), zRel E n' K' P' Ir' L' I1 → zV l X (d + 1) bc bs mi pc1 (zmL (zEr E) ls1) (zmS (zEr E) st1) n' K' P' Ir' L' Post) : zV l X (d + 1) bc bs mi pc (zmL (zEr E) ls) (zmS (zEr E) st) n K P Ir L Post := by
  obtain rfl : len = 1 := zlen_eq hz rfl
  obtain ⟨x, y, r0, rfl, e⟩ := zi2_inv hs
  cases e
  exact zV_iadd hz (k n K P Ir L hR)
theorem zq_isub {len r1 r2 r3 pc1 u : Nat} {ls ls1 : zLs} {st st1 : List Value} {I I1 : zM} (hE : zEok X sl dy E) (hR : zRel E n K P Ir L I) (hz : zl mi pc = some (.isub, len, r1, r2, r3)) (hs : zstep sl dy mi pc (.isub, len, r1, r2, r3) ls st I = some (.inl (pc1, ls1, st1, I1, u)))
    (k : ∀ (n' : Nat) (K' : zKT) (P' : zPT) (Ir' : zIT) (L' : zLT), zRel E n' K' P' Ir' L' I1 → zV l X (d + 1) bc bs mi pc1 (zmL (zEr E) ls1) (zmS (zEr E) st1) n' K' P' Ir' L' Post) : zV l X (d + 1) bc bs mi pc (zmL (zEr E) ls) (zmS (zEr E) st) n K P Ir L Post := by
  obtain rfl : len = 1 := zlen_eq hz rfl
  obtain ⟨x, y, r0, rfl, e⟩ := zi2_inv hs
  cases e
  exact zV_isub hz (k n K P Ir L hR)
theorem zq_imul {len r1 r2 r3 pc1 u : Nat} {ls ls1 : zLs} {st st1 : List Value} {I I1 : zM} (hE : zEok X sl dy E) (hR : zRel E n K P Ir L I) (hz : zl mi pc = some (.imul, len, r1, r2, r3)) (hs : zstep sl dy mi pc (.imul, len, r1, r2, r3) ls st I = some (.inl (pc1, ls1, st1, I1, u)))
    (k : ∀ (n' : Nat) (K' : zKT) (P' : zPT) (Ir' : zIT) (L' : zLT), zRel E n' K' P' Ir' L' I1 → zV l X (d + 1) bc bs mi pc1 (zmL (zEr E) ls1) (zmS (zEr E) st1) n' K' P' Ir' L' Post) : zV l X (d + 1) bc bs mi pc (zmL (zEr E) ls) (zmS (zEr E) st) n K P Ir L Post := by
  obtain rfl : len = 1 := zlen_eq hz rfl
  obtain ⟨x, y, r0, rfl, e⟩ := zi2_inv hs
  cases e
  exact zV_imul hz (k n K P Ir L hR)
theorem zq_iand {len r1 r2 r3 pc1 u : Nat} {ls ls1 : zLs} {st st1 : List Value} {I I1 : zM} (hE : zEok X sl dy E) (hR : zRel E n K P Ir L I) (hz : zl mi pc = some (.iand, len, r1, r2, r3)) (hs : zstep sl dy mi pc (.iand, len, r1, r2, r3) ls st I = some (.inl (pc1, ls1, st1, I1, u)))
    (k : ∀ (n' : Nat) (K' : zKT) (P' : zPT) (Ir' : zIT) (L' : zLT), zRel E n' K' P' Ir' L' I1 → zV l X (d + 1) bc bs mi pc1 (zmL (zEr E) ls1) (zmS (zEr E) st1) n' K' P' Ir' L' Post) : zV l X (d + 1) bc bs mi pc (zmL (zEr E) ls) (zmS (zEr E) st) n K P Ir L Post := by
  obtain rfl : len = 1 := zlen_eq hz rfl
  obtain ⟨x, y, r0, rfl, e⟩ := zi2_inv hs
  cases e
  exact zV_iand hz (k n K P Ir L hR)
theorem zq_ior {len r1 r2 r3 pc1 u : Nat} {ls ls1 : zLs} {st st1 : List Value} {I I1 : zM} (hE : zEok X sl dy E) (hR : zRel E n K P Ir L I) (hz : zl mi pc = some (.ior, len, r1, r2, r3)) (hs : zstep sl dy mi pc (.ior, len, r1, r2, r3) ls st I = some (.inl (pc1, ls1, st1, I1, u)))
    (k : ∀ (n' : Nat) (K' : zKT) (P' : zPT) (Ir' : zIT) (L' : zLT), zRel E n' K' P' Ir' L' I1 → zV l X (d + 1) bc bs mi pc1 (zmL (zEr E) ls1) (zmS (zEr E) st1) n' K' P' Ir' L' Post) : zV l X (d + 1) bc bs mi pc (zmL (zEr E) ls) (zmS (zEr E) st) n K P Ir L Post := by
  obtain rfl : len = 1 := zlen_eq hz rfl
  obtain ⟨x, y, r0, rfl, e⟩ := zi2_inv hs
  cases e
  exact zV_ior hz (k n K P Ir L hR)
theorem zq_ixor {len r1 r2 r3 pc1 u : Nat} {ls ls1 : zLs} {st st1 : List Value} {I I1 : zM} (hE : zEok X sl dy E) (hR : zRel E n K P Ir L I) (hz : zl mi pc = some (.ixor, len, r1, r2, r3)) (hs : zstep sl dy mi pc (.ixor, len, r1, r2, r3) ls st I = some (.inl (pc1, ls1, st1, I1, u)))
    (k : ∀ (n' : Nat) (K' : zKT) (P' : zPT) (Ir' : zIT) (L' : zLT), zRel E n' K' P' Ir' L' I1 → zV l X (d + 1) bc bs mi pc1 (zmL (zEr E) ls1) (zmS (zEr E) st1) n' K' P' Ir' L' Post) : zV l X (d + 1) bc bs mi pc (zmL (zEr E) ls) (zmS (zEr E) st) n K P Ir L Post := by
  obtain rfl : len = 1 := zlen_eq hz rfl
  obtain ⟨x, y, r0, rfl, e⟩ := zi2_inv hs
  cases e
  exact zV_ixor hz (k n K P Ir L hR)
theorem zq_ishl {len r1 r2 r3 pc1 u : Nat} {ls ls1 : zLs} {st st1 : List Value} {I I1 : zM} (hE : zEok X sl dy E) (hR : zRel E n K P Ir L I) (hz : zl mi pc = some (.ishl, len, r1, r2, r3)) (hs : zstep sl dy mi pc (.ishl, len, r1, r2, r3) ls st I = some (.inl (pc1, ls1, st1, I1, u)))
    (k : ∀ (n' : Nat) (K' : zKT) (P' : zPT) (Ir' : zIT) (L' : zLT), zRel E n' K' P' Ir' L' I1 → zV l X (d + 1) bc bs mi pc1 (zmL (zEr E) ls1) (zmS (zEr E) st1) n' K' P' Ir' L' Post) : zV l X (d + 1) bc bs mi pc (zmL (zEr E) ls) (zmS (zEr E) st) n K P Ir L Post := by
  obtain rfl : len = 1 := zlen_eq hz rfl
  obtain ⟨x, y, r0, rfl, e⟩ := zi2_inv hs
  cases e
  exact zV_ishl hz (k n K P Ir L hR)
theorem zq_ishr {len r1 r2 r3 pc1 u : Nat} {ls ls1 : zLs} {st st1 : List Value} {I I1 : zM} (hE : zEok X sl dy E) (hR : zRel E n K P Ir L I) (hz : zl mi pc = some (.ishr, len, r1, r2, r3)) (hs : zstep sl dy mi pc (.ishr, len, r1, r2, r3) ls st I = some (.inl (pc1, ls1, st1, I1, u)))
    (k : ∀ (n' : Nat) (K' : zKT) (P' : zPT) (Ir' : zIT) (L' : zLT), zRel E n' K' P' Ir' L' I1 → zV l X (d + 1) bc bs mi pc1 (zmL (zEr E) ls1) (zmS (zEr E) st1) n' K' P' Ir' L' Post) : zV l X (d + 1) bc bs mi pc (zmL (zEr E) ls) (zmS (zEr E) st) n K P Ir L Post := by
  obtain rfl : len = 1 := zlen_eq hz rfl
  obtain ⟨x, y, r0, rfl, e⟩ := zi2_inv hs
  cases e
  exact zV_ishr hz (k n K P Ir L hR)
theorem zq_iushr {len r1 r2 r3 pc1 u : Nat} {ls ls1 : zLs} {st st1 : List Value} {I I1 : zM} (hE : zEok X sl dy E) (hR : zRel E n K P Ir L I) (hz : zl mi pc = some (.iushr, len, r1, r2, r3)) (hs : zstep sl dy mi pc (.iushr, len, r1, r2, r3) ls st I = some (.inl (pc1, ls1, st1, I1, u)))
    (k : ∀ (n' : Nat) (K' : zKT) (P' : zPT) (Ir' : zIT) (L' : zLT), zRel E n' K' P' Ir' L' I1 → zV l X (d + 1) bc bs mi pc1 (zmL (zEr E) ls1) (zmS (zEr E) st1) n' K' P' Ir' L' Post) : zV l X (d + 1) bc bs mi pc (zmL (zEr E) ls) (zmS (zEr E) st) n K P Ir L Post := by
  obtain rfl : len = 1 := zlen_eq hz rfl
  obtain ⟨x, y, r0, rfl, e⟩ := zi2_inv hs
  cases e
  exact zV_iushr hz rfl (k n K P Ir L hR)
theorem zq_idiv {len r1 r2 r3 pc1 u : Nat} {ls ls1 : zLs} {st st1 : List Value} {I I1 : zM} (hE : zEok X sl dy E) (hR : zRel E n K P Ir L I) (hz : zl mi pc = some (.idiv, len, r1, r2, r3)) (hs : zstep sl dy mi pc (.idiv, len, r1, r2, r3) ls st I = some (.inl (pc1, ls1, st1, I1, u)))
    (k : ∀ (n' : Nat) (K' : zKT) (P' : zPT) (Ir' : zIT) (L' : zLT), zRel E n' K' P' Ir' L' I1 → zV l X (d + 1) bc bs mi pc1 (zmL (zEr E) ls1) (zmS (zEr E) st1) n' K' P' Ir' L' Post) : zV l X (d + 1) bc bs mi pc (zmL (zEr E) ls) (zmS (zEr E) st) n K P Ir L Post := by
  obtain rfl : len = 1 := zlen_eq hz rfl
  simp only [zstep] at hs
  split at hs
  · split at hs
    · rename_i hd
      cases hs
      exact zV_idiv hz (of_decide_eq_false hd) (k n K P Ir L hR)
    · cases hs
  · cases hs
theorem zq_irem {len r1 r2 r3 pc1 u : Nat} {ls ls1 : zLs} {st st1 : List Value} {I I1 : zM} (hE : zEok X sl dy E) (hR : zRel E n K P Ir L I) (hz : zl mi pc = some (.irem, len, r1, r2, r3)) (hs : zstep sl dy mi pc (.irem, len, r1, r2, r3) ls st I = some (.inl (pc1, ls1, st1, I1, u)))
    (k : ∀ (n' : Nat) (K' : zKT) (P' : zPT) (Ir' : zIT) (L' : zLT), zRel E n' K' P' Ir' L' I1 → zV l X (d + 1) bc bs mi pc1 (zmL (zEr E) ls1) (zmS (zEr E) st1) n' K' P' Ir' L' Post) : zV l X (d + 1) bc bs mi pc (zmL (zEr E) ls) (zmS (zEr E) st) n K P Ir L Post := by
  obtain rfl : len = 1 := zlen_eq hz rfl
  simp only [zstep] at hs
  split at hs
  · split at hs
    · rename_i hd
      cases hs
      exact zV_irem hz (of_decide_eq_false hd) (k n K P Ir L hR)
    · cases hs
  · cases hs
theorem zq_ladd {len r1 r2 r3 pc1 u : Nat} {ls ls1 : zLs} {st st1 : List Value} {I I1 : zM} (hE : zEok X sl dy E) (hR : zRel E n K P Ir L I) (hz : zl mi pc = some (.ladd, len, r1, r2, r3)) (hs : zstep sl dy mi pc (.ladd, len, r1, r2, r3) ls st I = some (.inl (pc1, ls1, st1, I1, u)))
    (k : ∀ (n' : Nat) (K' : zKT) (P' : zPT) (Ir' : zIT) (L' : zLT), zRel E n' K' P' Ir' L' I1 → zV l X (d + 1) bc bs mi pc1 (zmL (zEr E) ls1) (zmS (zEr E) st1) n' K' P' Ir' L' Post) : zV l X (d + 1) bc bs mi pc (zmL (zEr E) ls) (zmS (zEr E) st) n K P Ir L Post := by
  obtain rfl : len = 1 := zlen_eq hz rfl
  obtain ⟨x, y, r0, rfl, e⟩ := zl2_inv hs
  cases e
  exact zV_ladd hz (k n K P Ir L hR)
theorem zq_lmul {len r1 r2 r3 pc1 u : Nat} {ls ls1 : zLs} {st st1 : List Value} {I I1 : zM} (hE : zEok X sl dy E) (hR : zRel E n K P Ir L I) (hz : zl mi pc = some (.lmul, len, r1, r2, r3)) (hs : zstep sl dy mi pc (.lmul, len, r1, r2, r3) ls st I = some (.inl (pc1, ls1, st1, I1, u)))
    (k : ∀ (n' : Nat) (K' : zKT) (P' : zPT) (Ir' : zIT) (L' : zLT), zRel E n' K' P' Ir' L' I1 → zV l X (d + 1) bc bs mi pc1 (zmL (zEr E) ls1) (zmS (zEr E) st1) n' K' P' Ir' L' Post) : zV l X (d + 1) bc bs mi pc (zmL (zEr E) ls) (zmS (zEr E) st) n K P Ir L Post := by
  obtain rfl : len = 1 := zlen_eq hz rfl
  obtain ⟨x, y, r0, rfl, e⟩ := zl2_inv hs
  cases e
  exact zV_lmul hz (k n K P Ir L hR)
theorem zq_lor {len r1 r2 r3 pc1 u : Nat} {ls ls1 : zLs} {st st1 : List Value} {I I1 : zM} (hE : zEok X sl dy E) (hR : zRel E n K P Ir L I) (hz : zl mi pc = some (.lor, len, r1, r2, r3)) (hs : zstep sl dy mi pc (.lor, len, r1, r2, r3) ls st I = some (.inl (pc1, ls1, st1, I1, u)))
    (k : ∀ (n' : Nat) (K' : zKT) (P' : zPT) (Ir' : zIT) (L' : zLT), zRel E n' K' P' Ir' L' I1 → zV l X (d + 1) bc bs mi pc1 (zmL (zEr E) ls1) (zmS (zEr E) st1) n' K' P' Ir' L' Post) : zV l X (d + 1) bc bs mi pc (zmL (zEr E) ls) (zmS (zEr E) st) n K P Ir L Post := by
  obtain rfl : len = 1 := zlen_eq hz rfl
  obtain ⟨x, y, r0, rfl, e⟩ := zl2_inv hs
  cases e
  exact zV_lor hz (k n K P Ir L hR)
theorem zq_lxor {len r1 r2 r3 pc1 u : Nat} {ls ls1 : zLs} {st st1 : List Value} {I I1 : zM} (hE : zEok X sl dy E) (hR : zRel E n K P Ir L I) (hz : zl mi pc = some (.lxor, len, r1, r2, r3)) (hs : zstep sl dy mi pc (.lxor, len, r1, r2, r3) ls st I = some (.inl (pc1, ls1, st1, I1, u)))
    (k : ∀ (n' : Nat) (K' : zKT) (P' : zPT) (Ir' : zIT) (L' : zLT), zRel E n' K' P' Ir' L' I1 → zV l X (d + 1) bc bs mi pc1 (zmL (zEr E) ls1) (zmS (zEr E) st1) n' K' P' Ir' L' Post) : zV l X (d + 1) bc bs mi pc (zmL (zEr E) ls) (zmS (zEr E) st) n K P Ir L Post := by
  obtain rfl : len = 1 := zlen_eq hz rfl
  obtain ⟨x, y, r0, rfl, e⟩ := zl2_inv hs
  cases e
  exact zV_lxor hz (k n K P Ir L hR)
theorem zq_ineg {len r1 r2 r3 pc1 u : Nat} {ls ls1 : zLs} {st st1 : List Value} {I I1 : zM} (hE : zEok X sl dy E) (hR : zRel E n K P Ir L I) (hz : zl mi pc = some (.ineg, len, r1, r2, r3)) (hs : zstep sl dy mi pc (.ineg, len, r1, r2, r3) ls st I = some (.inl (pc1, ls1, st1, I1, u)))
    (k : ∀ (n' : Nat) (K' : zKT) (P' : zPT) (Ir' : zIT) (L' : zLT), zRel E n' K' P' Ir' L' I1 → zV l X (d + 1) bc bs mi pc1 (zmL (zEr E) ls1) (zmS (zEr E) st1) n' K' P' Ir' L' Post) : zV l X (d + 1) bc bs mi pc (zmL (zEr E) ls) (zmS (zEr E) st) n K P Ir L Post := by
  obtain rfl : len = 1 := zlen_eq hz rfl
  simp only [zstep] at hs
  split at hs
  · cases hs; exact zV_ineg hz (k n K P Ir L hR)
  · cases hs
theorem zq_lshl {len r1 r2 r3 pc1 u : Nat} {ls ls1 : zLs} {st st1 : List Value} {I I1 : zM} (hE : zEok X sl dy E) (hR : zRel E n K P Ir L I) (hz : zl mi pc = some (.lshl, len, r1, r2, r3)) (hs : zstep sl dy mi pc (.lshl, len, r1, r2, r3) ls st I = some (.inl (pc1, ls1, st1, I1, u)))
    (k : ∀ (n' : Nat) (K' : zKT) (P' : zPT) (Ir' : zIT) (L' : zLT), zRel E n' K' P' Ir' L' I1 → zV l X (d + 1) bc bs mi pc1 (zmL (zEr E) ls1) (zmS (zEr E) st1) n' K' P' Ir' L' Post) : zV l X (d + 1) bc bs mi pc (zmL (zEr E) ls) (zmS (zEr E) st) n K P Ir L Post := by
  obtain rfl : len = 1 := zlen_eq hz rfl
  simp only [zstep] at hs
  split at hs
  · cases hs; exact zV_lshl hz (k n K P Ir L hR)
  · cases hs
theorem zq_lushr {len r1 r2 r3 pc1 u : Nat} {ls ls1 : zLs} {st st1 : List Value} {I I1 : zM} (hE : zEok X sl dy E) (hR : zRel E n K P Ir L I) (hz : zl mi pc = some (.lushr, len, r1, r2, r3)) (hs : zstep sl dy mi pc (.lushr, len, r1, r2, r3) ls st I = some (.inl (pc1, ls1, st1, I1, u)))
    (k : ∀ (n' : Nat) (K' : zKT) (P' : zPT) (Ir' : zIT) (L' : zLT), zRel E n' K' P' Ir' L' I1 → zV l X (d + 1) bc bs mi pc1 (zmL (zEr E) ls1) (zmS (zEr E) st1) n' K' P' Ir' L' Post) : zV l X (d + 1) bc bs mi pc (zmL (zEr E) ls) (zmS (zEr E) st) n K P Ir L Post := by
  obtain rfl : len = 1 := zlen_eq hz rfl
  simp only [zstep] at hs
  split at hs
  · cases hs; exact zV_lushr hz (k n K P Ir L hR)
  · cases hs
theorem zq_i2l {len r1 r2 r3 pc1 u : Nat} {ls ls1 : zLs} {st st1 : List Value} {I I1 : zM} (hE : zEok X sl dy E) (hR : zRel E n K P Ir L I) (hz : zl mi pc = some (.i2l, len, r1, r2, r3)) (hs : zstep sl dy mi pc (.i2l, len, r1, r2, r3) ls st I = some (.inl (pc1, ls1, st1, I1, u)))
    (k : ∀ (n' : Nat) (K' : zKT) (P' : zPT) (Ir' : zIT) (L' : zLT), zRel E n' K' P' Ir' L' I1 → zV l X (d + 1) bc bs mi pc1 (zmL (zEr E) ls1) (zmS (zEr E) st1) n' K' P' Ir' L' Post) : zV l X (d + 1) bc bs mi pc (zmL (zEr E) ls) (zmS (zEr E) st) n K P Ir L Post := by
  obtain rfl : len = 1 := zlen_eq hz rfl
  simp only [zstep] at hs
  split at hs
  · cases hs; exact zV_i2l hz (k n K P Ir L hR)
  · cases hs
theorem zq_i2f {len r1 r2 r3 pc1 u : Nat} {ls ls1 : zLs} {st st1 : List Value} {I I1 : zM} (hE : zEok X sl dy E) (hR : zRel E n K P Ir L I) (hz : zl mi pc = some (.i2f, len, r1, r2, r3)) (hs : zstep sl dy mi pc (.i2f, len, r1, r2, r3) ls st I = some (.inl (pc1, ls1, st1, I1, u)))
    (k : ∀ (n' : Nat) (K' : zKT) (P' : zPT) (Ir' : zIT) (L' : zLT), zRel E n' K' P' Ir' L' I1 → zV l X (d + 1) bc bs mi pc1 (zmL (zEr E) ls1) (zmS (zEr E) st1) n' K' P' Ir' L' Post) : zV l X (d + 1) bc bs mi pc (zmL (zEr E) ls) (zmS (zEr E) st) n K P Ir L Post := by
  obtain rfl : len = 1 := zlen_eq hz rfl
  simp only [zstep] at hs
  split at hs
  · cases hs; exact zV_i2f hz (k n K P Ir L hR)
  · cases hs
theorem zq_i2d {len r1 r2 r3 pc1 u : Nat} {ls ls1 : zLs} {st st1 : List Value} {I I1 : zM} (hE : zEok X sl dy E) (hR : zRel E n K P Ir L I) (hz : zl mi pc = some (.i2d, len, r1, r2, r3)) (hs : zstep sl dy mi pc (.i2d, len, r1, r2, r3) ls st I = some (.inl (pc1, ls1, st1, I1, u)))
    (k : ∀ (n' : Nat) (K' : zKT) (P' : zPT) (Ir' : zIT) (L' : zLT), zRel E n' K' P' Ir' L' I1 → zV l X (d + 1) bc bs mi pc1 (zmL (zEr E) ls1) (zmS (zEr E) st1) n' K' P' Ir' L' Post) : zV l X (d + 1) bc bs mi pc (zmL (zEr E) ls) (zmS (zEr E) st) n K P Ir L Post := by
  obtain rfl : len = 1 := zlen_eq hz rfl
  simp only [zstep] at hs
  split at hs
  · cases hs; exact zV_i2d hz (k n K P Ir L hR)
  · cases hs
theorem zq_f2i {len r1 r2 r3 pc1 u : Nat} {ls ls1 : zLs} {st st1 : List Value} {I I1 : zM} (hE : zEok X sl dy E) (hR : zRel E n K P Ir L I) (hz : zl mi pc = some (.f2i, len, r1, r2, r3)) (hs : zstep sl dy mi pc (.f2i, len, r1, r2, r3) ls st I = some (.inl (pc1, ls1, st1, I1, u)))
    (k : ∀ (n' : Nat) (K' : zKT) (P' : zPT) (Ir' : zIT) (L' : zLT), zRel E n' K' P' Ir' L' I1 → zV l X (d + 1) bc bs mi pc1 (zmL (zEr E) ls1) (zmS (zEr E) st1) n' K' P' Ir' L' Post) : zV l X (d + 1) bc bs mi pc (zmL (zEr E) ls) (zmS (zEr E) st) n K P Ir L Post := by
  obtain rfl : len = 1 := zlen_eq hz rfl
  simp only [zstep] at hs
  split at hs
  · cases hs; exact zV_f2i hz (k n K P Ir L hR)
  · cases hs
theorem zq_d2l {len r1 r2 r3 pc1 u : Nat} {ls ls1 : zLs} {st st1 : List Value} {I I1 : zM} (hE : zEok X sl dy E) (hR : zRel E n K P Ir L I) (hz : zl mi pc = some (.d2l, len, r1, r2, r3)) (hs : zstep sl dy mi pc (.d2l, len, r1, r2, r3) ls st I = some (.inl (pc1, ls1, st1, I1, u)))
    (k : ∀ (n' : Nat) (K' : zKT) (P' : zPT) (Ir' : zIT) (L' : zLT), zRel E n' K' P' Ir' L' I1 → zV l X (d + 1) bc bs mi pc1 (zmL (zEr E) ls1) (zmS (zEr E) st1) n' K' P' Ir' L' Post) : zV l X (d + 1) bc bs mi pc (zmL (zEr E) ls) (zmS (zEr E) st) n K P Ir L Post := by
  obtain rfl : len = 1 := zlen_eq hz rfl
  simp only [zstep] at hs
  split at hs
  · cases hs; exact zV_d2l hz (k n K P Ir L hR)
  · cases hs
theorem zq_lcmp {len r1 r2 r3 pc1 u : Nat} {ls ls1 : zLs} {st st1 : List Value} {I I1 : zM} (hE : zEok X sl dy E) (hR : zRel E n K P Ir L I) (hz : zl mi pc = some (.lcmp, len, r1, r2, r3)) (hs : zstep sl dy mi pc (.lcmp, len, r1, r2, r3) ls st I = some (.inl (pc1, ls1, st1, I1, u)))
    (k : ∀ (n' : Nat) (K' : zKT) (P' : zPT) (Ir' : zIT) (L' : zLT), zRel E n' K' P' Ir' L' I1 → zV l X (d + 1) bc bs mi pc1 (zmL (zEr E) ls1) (zmS (zEr E) st1) n' K' P' Ir' L' Post) : zV l X (d + 1) bc bs mi pc (zmL (zEr E) ls) (zmS (zEr E) st) n K P Ir L Post := by
  obtain rfl : len = 1 := zlen_eq hz rfl
  simp only [zstep] at hs
  split at hs
  · cases hs; exact zV_lcmp hz (k n K P Ir L hR)
  · cases hs
theorem zq_i2c {len r1 r2 r3 pc1 u : Nat} {ls ls1 : zLs} {st st1 : List Value} {I I1 : zM} (hE : zEok X sl dy E) (hR : zRel E n K P Ir L I) (hz : zl mi pc = some (.i2c, len, r1, r2, r3)) (hs : zstep sl dy mi pc (.i2c, len, r1, r2, r3) ls st I = some (.inl (pc1, ls1, st1, I1, u)))
    (k : ∀ (n' : Nat) (K' : zKT) (P' : zPT) (Ir' : zIT) (L' : zLT), zRel E n' K' P' Ir' L' I1 → zV l X (d + 1) bc bs mi pc1 (zmL (zEr E) ls1) (zmS (zEr E) st1) n' K' P' Ir' L' Post) : zV l X (d + 1) bc bs mi pc (zmL (zEr E) ls) (zmS (zEr E) st) n K P Ir L Post := by
  obtain rfl : len = 1 := zlen_eq hz rfl
  simp only [zstep] at hs
  split at hs
  · cases hs; exact zV_i2c hz rfl (k n K P Ir L hR)
  · cases hs
theorem zq_fcmp {c : CmpOp} {len r1 r2 r3 pc1 u : Nat} {ls ls1 : zLs} {st st1 : List Value} {I I1 : zM} (hE : zEok X sl dy E) (hR : zRel E n K P Ir L I) (hz : zl mi pc = some (.fcmp c, len, r1, r2, r3)) (hs : zstep sl dy mi pc (.fcmp c, len, r1, r2, r3) ls st I = some (.inl (pc1, ls1, st1, I1, u)))
    (k : ∀ (n' : Nat) (K' : zKT) (P' : zPT) (Ir' : zIT) (L' : zLT), zRel E n' K' P' Ir' L' I1 → zV l X (d + 1) bc bs mi pc1 (zmL (zEr E) ls1) (zmS (zEr E) st1) n' K' P' Ir' L' Post) : zV l X (d + 1) bc bs mi pc (zmL (zEr E) ls) (zmS (zEr E) st) n K P Ir L Post := by
  obtain rfl : len = 1 := zlen_eq hz rfl
  simp only [zstep] at hs
  split at hs
  · cases hs; exact zV_fcmp hz (k n K P Ir L hR)
  · cases hs
theorem zq_dcmp {c : CmpOp} {len r1 r2 r3 pc1 u : Nat} {ls ls1 : zLs} {st st1 : List Value} {I I1 : zM} (hE : zEok X sl dy E) (hR : zRel E n K P Ir L I) (hz : zl mi pc = some (.dcmp c, len, r1, r2, r3)) (hs : zstep sl dy mi pc (.dcmp c, len, r1, r2, r3) ls st I = some (.inl (pc1, ls1, st1, I1, u)))
    (k : ∀ (n' : Nat) (K' : zKT) (P' : zPT) (Ir' : zIT) (L' : zLT), zRel E n' K' P' Ir' L' I1 → zV l X (d + 1) bc bs mi pc1 (zmL (zEr E) ls1) (zmS (zEr E) st1) n' K' P' Ir' L' Post) : zV l X (d + 1) bc bs mi pc (zmL (zEr E) ls) (zmS (zEr E) st) n K P Ir L Post := by
  obtain rfl : len = 1 := zlen_eq hz rfl
  simp only [zstep] at hs
  split at hs
  · cases hs; exact zV_dcmp hz (k n K P Ir L hR)
  · cases hs
theorem zq_fmul {len r1 r2 r3 pc1 u : Nat} {ls ls1 : zLs} {st st1 : List Value} {I I1 : zM} (hE : zEok X sl dy E) (hR : zRel E n K P Ir L I) (hz : zl mi pc = some (.fmul, len, r1, r2, r3)) (hs : zstep sl dy mi pc (.fmul, len, r1, r2, r3) ls st I = some (.inl (pc1, ls1, st1, I1, u)))
    (k : ∀ (n' : Nat) (K' : zKT) (P' : zPT) (Ir' : zIT) (L' : zLT), zRel E n' K' P' Ir' L' I1 → zV l X (d + 1) bc bs mi pc1 (zmL (zEr E) ls1) (zmS (zEr E) st1) n' K' P' Ir' L' Post) : zV l X (d + 1) bc bs mi pc (zmL (zEr E) ls) (zmS (zEr E) st) n K P Ir L Post := by
  obtain rfl : len = 1 := zlen_eq hz rfl
  obtain ⟨x, y, r0, rfl, hn, e⟩ := zf2_inv hs
  cases e
  exact zV_fmul hz hn (k n K P Ir L hR)
theorem zq_fdiv {len r1 r2 r3 pc1 u : Nat} {ls ls1 : zLs} {st st1 : List Value} {I I1 : zM} (hE : zEok X sl dy E) (hR : zRel E n K P Ir L I) (hz : zl mi pc = some (.fdiv, len, r1, r2, r3)) (hs : zstep sl dy mi pc (.fdiv, len, r1, r2, r3) ls st I = some (.inl (pc1, ls1, st1, I1, u)))
    (k : ∀ (n' : Nat) (K' : zKT) (P' : zPT) (Ir' : zIT) (L' : zLT), zRel E n' K' P' Ir' L' I1 → zV l X (d + 1) bc bs mi pc1 (zmL (zEr E) ls1) (zmS (zEr E) st1) n' K' P' Ir' L' Post) : zV l X (d + 1) bc bs mi pc (zmL (zEr E) ls) (zmS (zEr E) st) n K P Ir L Post := by
  obtain rfl : len = 1 := zlen_eq hz rfl
  obtain ⟨x, y, r0, rfl, hn, e⟩ := zf2_inv hs
  cases e
  exact zV_fdiv hz hn (k n K P Ir L hR)
theorem zq_fsub {len r1 r2 r3 pc1 u : Nat} {ls ls1 : zLs} {st st1 : List Value} {I I1 : zM} (hE : zEok X sl dy E) (hR : zRel E n K P Ir L I) (hz : zl mi pc = some (.fsub, len, r1, r2, r3)) (hs : zstep sl dy mi pc (.fsub, len, r1, r2, r3) ls st I = some (.inl (pc1, ls1, st1, I1, u)))
    (k : ∀ (n' : Nat) (K' : zKT) (P' : zPT) (Ir' : zIT) (L' : zLT), zRel E n' K' P' Ir' L' I1 → zV l X (d + 1) bc bs mi pc1 (zmL (zEr E) ls1) (zmS (zEr E) st1) n' K' P' Ir' L' Post) : zV l X (d + 1) bc bs mi pc (zmL (zEr E) ls) (zmS (zEr E) st) n K P Ir L Post := by
  obtain rfl : len = 1 := zlen_eq hz rfl
  obtain ⟨x, y, r0, rfl, hn, e⟩ := zf2_inv hs
  cases e
  exact zV_fsub hz hn (k n K P Ir L hR)
theorem zq_dmul {len r1 r2 r3 pc1 u : Nat} {ls ls1 : zLs} {st st1 : List Value} {I I1 : zM} (hE : zEok X sl dy E) (hR : zRel E n K P Ir L I) (hz : zl mi pc = some (.dmul, len, r1, r2, r3)) (hs : zstep sl dy mi pc (.dmul, len, r1, r2, r3) ls st I = some (.inl (pc1, ls1, st1, I1, u)))
    (k : ∀ (n' : Nat) (K' : zKT) (P' : zPT) (Ir' : zIT) (L' : zLT), zRel E n' K' P' Ir' L' I1 → zV l X (d + 1) bc bs mi pc1 (zmL (zEr E) ls1) (zmS (zEr E) st1) n' K' P' Ir' L' Post) : zV l X (d + 1) bc bs mi pc (zmL (zEr E) ls) (zmS (zEr E) st) n K P Ir L Post := by
  obtain rfl : len = 1 := zlen_eq hz rfl
  obtain ⟨x, y, r0, rfl, hn, e⟩ := zd2_inv hs
  cases e
  exact zV_dmul hz hn (k n K P Ir L hR)
theorem zq_ddiv {len r1 r2 r3 pc1 u : Nat} {ls ls1 : zLs} {st st1 : List Value} {I I1 : zM} (hE : zEok X sl dy E) (hR : zRel E n K P Ir L I) (hz : zl mi pc = some (.ddiv, len, r1, r2, r3)) (hs : zstep sl dy mi pc (.ddiv, len, r1, r2, r3) ls st I = some (.inl (pc1, ls1, st1, I1, u)))
    (k : ∀ (n' : Nat) (K' : zKT) (P' : zPT) (Ir' : zIT) (L' : zLT), zRel E n' K' P' Ir' L' I1 → zV l X (d + 1) bc bs mi pc1 (zmL (zEr E) ls1) (zmS (zEr E) st1) n' K' P' Ir' L' Post) : zV l X (d + 1) bc bs mi pc (zmL (zEr E) ls) (zmS (zEr E) st) n K P Ir L Post := by
  obtain rfl : len = 1 := zlen_eq hz rfl
  obtain ⟨x, y, r0, rfl, hn, e⟩ := zd2_inv hs
  cases e
  exact zV_ddiv hz hn (k n K P Ir L hR)
theorem zq_dsub {len r1 r2 r3 pc1 u : Nat} {ls ls1 : zLs} {st st1 : List Value} {I I1 : zM} (hE : zEok X sl dy E) (hR : zRel E n K P Ir L I) (hz : zl mi pc = some (.dsub, len, r1, r2, r3)) (hs : zstep sl dy mi pc (.dsub, len, r1, r2, r3) ls st I = some (.inl (pc1, ls1, st1, I1, u)))
    (k : ∀ (n' : Nat) (K' : zKT) (P' : zPT) (Ir' : zIT) (L' : zLT), zRel E n' K' P' Ir' L' I1 → zV l X (d + 1) bc bs mi pc1 (zmL (zEr E) ls1) (zmS (zEr E) st1) n' K' P' Ir' L' Post) : zV l X (d + 1) bc bs mi pc (zmL (zEr E) ls) (zmS (zEr E) st) n K P Ir L Post := by
  obtain rfl : len = 1 := zlen_eq hz rfl
  obtain ⟨x, y, r0, rfl, hn, e⟩ := zd2_inv hs
  cases e
  exact zV_dsub hz hn (k n K P Ir L hR)
theorem zq_dup {len r1 r2 r3 pc1 u : Nat} {ls ls1 : zLs} {st st1 : List Value} {I I1 : zM} (hE : zEok X sl dy E) (hR : zRel E n K P Ir L I) (hz : zl mi pc = some (.dup, len, r1, r2, r3)) (hs : zstep sl dy mi pc (.dup, len, r1, r2, r3) ls st I = some (.inl (pc1, ls1, st1, I1, u)))
    (k : ∀ (n' : Nat) (K' : zKT) (P' : zPT) (Ir' : zIT) (L' : zLT), zRel E n' K' P' Ir' L' I1 → zV l X (d + 1) bc bs mi pc1 (zmL (zEr E) ls1) (zmS (zEr E) st1) n' K' P' Ir' L' Post) : zV l X (d + 1) bc bs mi pc (zmL (zEr E) ls) (zmS (zEr E) st) n K P Ir L Post := by
  obtain rfl : len = 1 := zlen_eq hz rfl
  simp only [zstep] at hs
  split at hs
  · split at hs
    · rename_i hb
      cases hs; exact zV_dup hz (by rw [zmv_cat]; exact Nat.eq_of_beq_eq_true hb) (k n K P Ir L hR)
    · cases hs
  · cases hs
theorem zq_pop {len r1 r2 r3 pc1 u : Nat} {ls ls1 : zLs} {st st1 : List Value} {I I1 : zM} (hE : zEok X sl dy E) (hR : zRel E n K P Ir L I) (hz : zl mi pc = some (.pop, len, r1, r2, r3)) (hs : zstep sl dy mi pc (.pop, len, r1, r2, r3) ls st I = some (.inl (pc1, ls1, st1, I1, u)))
    (k : ∀ (n' : Nat) (K' : zKT) (P' : zPT) (Ir' : zIT) (L' : zLT), zRel E n' K' P' Ir' L' I1 → zV l X (d + 1) bc bs mi pc1 (zmL (zEr E) ls1) (zmS (zEr E) st1) n' K' P' Ir' L' Post) : zV l X (d + 1) bc bs mi pc (zmL (zEr E) ls) (zmS (zEr E) st) n K P Ir L Post := by
  obtain rfl : len = 1 := zlen_eq hz rfl
  simp only [zstep] at hs
  split at hs
  · split at hs
    · rename_i hb
      cases hs; exact zV_pop hz (by rw [zmv_cat]; exact Nat.eq_of_beq_eq_true hb) (k n K P Ir L hR)
    · cases hs
  · cases hs
theorem zq_dup2 {len r1 r2 r3 pc1 u : Nat} {ls ls1 : zLs} {st st1 : List Value} {I I1 : zM} (hE : zEok X sl dy E) (hR : zRel E n K P Ir L I) (hz : zl mi pc = some (.dup2, len, r1, r2, r3)) (hs : zstep sl dy mi pc (.dup2, len, r1, r2, r3) ls st I = some (.inl (pc1, ls1, st1, I1, u)))
    (k : ∀ (n' : Nat) (K' : zKT) (P' : zPT) (Ir' : zIT) (L' : zLT), zRel E n' K' P' Ir' L' I1 → zV l X (d + 1) bc bs mi pc1 (zmL (zEr E) ls1) (zmS (zEr E) st1) n' K' P' Ir' L' Post) : zV l X (d + 1) bc bs mi pc (zmL (zEr E) ls) (zmS (zEr E) st) n K P Ir L Post := by
  obtain rfl : len = 1 := zlen_eq hz rfl
  simp only [zstep] at hs
  split at hs
  · split at hs
    · rename_i hb
      simp only [Bool.and_eq_true] at hb
      cases hs; exact zV_dup2 hz (by rw [zmv_cat]; exact Nat.eq_of_beq_eq_true hb.1) (by rw [zmv_cat]; exact Nat.eq_of_beq_eq_true hb.2) (k n K P Ir L hR)
    · cases hs
  · cases hs
theorem zq_goto {off : Int} {len r1 r2 r3 pc1 u : Nat} {ls ls1 : zLs} {st st1 : List Value} {I I1 : zM} (hE : zEok X sl dy E) (hR : zRel E n K P Ir L I) (hz : zl mi pc = some (.goto off, len, r1, r2, r3)) (hs : zstep sl dy mi pc (.goto off, len, r1, r2, r3) ls st I = some (.inl (pc1, ls1, st1, I1, u)))
    (k : ∀ (n' : Nat) (K' : zKT) (P' : zPT) (Ir' : zIT) (L' : zLT), zRel E n' K' P' Ir' L' I1 → zV l X (d + 1) bc bs mi pc1 (zmL (zEr E) ls1) (zmS (zEr E) st1) n' K' P' Ir' L' Post) : zV l X (d + 1) bc bs mi pc (zmL (zEr E) ls) (zmS (zEr E) st) n K P Ir L Post := by
  obtain rfl : len = 3 := zlen_eq hz rfl
  obtain ⟨t, h1, e⟩ := zjmp_inv hs
  cases e
  exact zV_goto _ hz (ztg_eq h1) (k n K P Ir L hR)
theorem zq_ifCond {c : ClassFile.Cond} {off : Int} {len r1 r2 r3 pc1 u : Nat} {ls ls1 : zLs} {st st1 : List Value} {I I1 : zM} (hE : zEok X sl dy E) (hR : zRel E n K P Ir L I) (hz : zl mi pc = some (.ifCond c off, len, r1, r2, r3)) (hs : zstep sl dy mi pc (.ifCond c off, len, r1, r2, r3) ls st I = some (.inl (pc1, ls1, st1, I1, u)))
    (k : ∀ (n' : Nat) (K' : zKT) (P' : zPT) (Ir' : zIT) (L' : zLT), zRel E n' K' P' Ir' L' I1 → zV l X (d + 1) bc bs mi pc1 (zmL (zEr E) ls1) (zmS (zEr E) st1) n' K' P' Ir' L' Post) : zV l X (d + 1) bc bs mi pc (zmL (zEr E) ls) (zmS (zEr E) st) n K P Ir L Post := by
  obtain rfl : len = 3 := zlen_eq hz rfl
  match c, hz, hs with
  | .eq, hz, hs =>
    simp only [zstep] at hs
    split at hs
    · rename_i t ht
      split at hs
      · split at hs
        · rename_i hc
          cases hs
          refine zV_if_eq _ hz (ztg_eq ht) (fun _ => k n K P Ir L hR) (fun hn => absurd ?_ hn)
          simpa [zc1] using hc
        · rename_i hc
          cases hs
          refine zV_if_eq _ hz (ztg_eq ht) (fun hp => absurd hp ?_) (fun _ => k n K P Ir L hR)
          simpa [zc1] using hc
      · cases hs
    · cases hs
  | .ne, hz, hs =>
    simp only [zstep] at hs
    split at hs
    · rename_i t ht
      split at hs
      · split at hs
        · rename_i hc
          cases hs
          refine zV_if_ne _ hz (ztg_eq ht) (fun _ => k n K P Ir L hR) (fun hn => absurd hn ?_)
          simpa [zc1] using hc
        · rename_i hc
          cases hs
          refine zV_if_ne _ hz (ztg_eq ht) (fun hp => absurd ?_ hp) (fun _ => k n K P Ir L hR)
          simpa [zc1] using hc
      · cases hs
    · cases hs
  | .lt, hz, hs =>
    simp only [zstep] at hs
    split at hs
    · rename_i t ht
      split at hs
      · split at hs
        · rename_i hc
          cases hs
          refine zV_if_lt _ hz (ztg_eq ht) (fun _ => k n K P Ir L hR) (fun hn => absurd ?_ hn)
          simpa [zc1] using hc
        · rename_i hc
          cases hs
          refine zV_if_lt _ hz (ztg_eq ht) (fun hp => absurd hp ?_) (fun _ => k n K P Ir L hR)
          simpa [zc1] using hc
      · cases hs
    · cases hs
  | .ge, hz, hs =>
    simp only [zstep] at hs
    split at hs
    · rename_i t ht
      split at hs
      · split at hs
        · rename_i hc
          cases hs
          refine zV_if_ge _ hz (ztg_eq ht) (fun _ => k n K P Ir L hR) (fun hn => absurd ?_ hn)
          simpa [zc1] using hc
        · rename_i hc
          cases hs
          refine zV_if_ge _ hz (ztg_eq ht) (fun hp => absurd hp ?_) (fun _ => k n K P Ir L hR)
          simpa [zc1] using hc
      · cases hs
    · cases hs
  | .gt, hz, hs =>
    simp only [zstep] at hs
    split at hs
    · rename_i t ht
      split at hs
      · split at hs
        · rename_i hc
          cases hs
          refine zV_if_gt _ hz (ztg_eq ht) (fun _ => k n K P Ir L hR) (fun hn => absurd ?_ hn)
          simpa [zc1] using hc
        · rename_i hc
          cases hs
          refine zV_if_gt _ hz (ztg_eq ht) (fun hp => absurd hp ?_) (fun _ => k n K P Ir L hR)
          simpa [zc1] using hc
      · cases hs
    · cases hs
  | .le, hz, hs =>
    simp only [zstep] at hs
    split at hs
    · rename_i t ht
      split at hs
      · split at hs
        · rename_i hc
          cases hs
          refine zV_if_le _ hz (ztg_eq ht) (fun _ => k n K P Ir L hR) (fun hn => absurd ?_ hn)
          simpa [zc1] using hc
        · rename_i hc
          cases hs
          refine zV_if_le _ hz (ztg_eq ht) (fun hp => absurd hp ?_) (fun _ => k n K P Ir L hR)
          simpa [zc1] using hc
      · cases hs
    · cases hs
theorem zq_if_icmp {c : ClassFile.Cond} {off : Int} {len r1 r2 r3 pc1 u : Nat} {ls ls1 : zLs} {st st1 : List Value} {I I1 : zM} (hE : zEok X sl dy E) (hR : zRel E n K P Ir L I) (hz : zl mi pc = some (.if_icmp c off, len, r1, r2, r3)) (hs : zstep sl dy mi pc (.if_icmp c off, len, r1, r2, r3) ls st I = some (.inl (pc1, ls1, st1, I1, u)))
    (k : ∀ (n' : Nat) (K' : zKT) (P' : zPT) (Ir' : zIT) (L' : zLT), zRel E n' K' P' Ir' L' I1 → zV l X (d + 1) bc bs mi pc1 (zmL (zEr E) ls1) (zmS (zEr E) st1) n' K' P' Ir' L' Post) : zV l X (d + 1) bc bs mi pc (zmL (zEr E) ls) (zmS (zEr E) st) n K P Ir L Post := by
  obtain rfl : len = 3 := zlen_eq hz rfl
  match c, hz, hs with
  | .eq, hz, hs =>
    simp only [zstep] at hs
    split at hs
    · rename_i t ht
      split at hs
      · split at hs
        · rename_i hc
          cases hs
          refine zV_icmp_eq _ hz (ztg_eq ht) (fun _ => k n K P Ir L hR) (fun hn => absurd ?_ hn)
          simpa [zc1] using hc
        · rename_i hc
          cases hs
          refine zV_icmp_eq _ hz (ztg_eq ht) (fun hp => absurd hp ?_) (fun _ => k n K P Ir L hR)
          simpa [zc1] using hc
      · cases hs
    · cases hs
  | .ne, hz, hs =>
    simp only [zstep] at hs
    split at hs
    · rename_i t ht
      split at hs
      · split at hs
        · rename_i hc
          cases hs
          refine zV_icmp_ne _ hz (ztg_eq ht) (fun _ => k n K P Ir L hR) (fun hn => absurd hn ?_)
          simpa [zc1] using hc
        · rename_i hc
          cases hs
          refine zV_icmp_ne _ hz (ztg_eq ht) (fun hp => absurd ?_ hp) (fun _ => k n K P Ir L hR)
          simpa [zc1] using hc
      · cases hs
    · cases hs
  | .lt, hz, hs =>
    simp only [zstep] at hs
    split at hs
    · rename_i t ht
      split at hs
      · split at hs
        · rename_i hc
          cases hs
          refine zV_icmp_lt _ hz (ztg_eq ht) (fun _ => k n K P Ir L hR) (fun hn => absurd ?_ hn)
          simpa [zc1] using hc
        · rename_i hc
          cases hs
          refine zV_icmp_lt _ hz (ztg_eq ht) (fun hp => absurd hp ?_) (fun _ => k n K P Ir L hR)
          simpa [zc1] using hc
      · cases hs
    · cases hs
  | .ge, hz, hs =>
    simp only [zstep] at hs
    split at hs
    · rename_i t ht
      split at hs
      · split at hs
        · rename_i hc
          cases hs
          refine zV_icmp_ge _ hz (ztg_eq ht) (fun _ => k n K P Ir L hR) (fun hn => absurd ?_ hn)
          simpa [zc1] using hc
        · rename_i hc
          cases hs
          refine zV_icmp_ge _ hz (ztg_eq ht) (fun hp => absurd hp ?_) (fun _ => k n K P Ir L hR)
          simpa [zc1] using hc
      · cases hs
    · cases hs
  | .gt, hz, hs =>
    simp only [zstep] at hs
    split at hs
    · rename_i t ht
      split at hs
      · split at hs
        · rename_i hc
          cases hs
          refine zV_icmp_gt _ hz (ztg_eq ht) (fun _ => k n K P Ir L hR) (fun hn => absurd ?_ hn)
          simpa [zc1] using hc
        · rename_i hc
          cases hs
          refine zV_icmp_gt _ hz (ztg_eq ht) (fun hp => absurd hp ?_) (fun _ => k n K P Ir L hR)
          simpa [zc1] using hc
      · cases hs
    · cases hs
  | .le, hz, hs =>
    simp only [zstep] at hs
    split at hs
    · rename_i t ht
      split at hs
      · split at hs
        · rename_i hc
          cases hs
          refine zV_icmp_le _ hz (ztg_eq ht) (fun _ => k n K P Ir L hR) (fun hn => absurd ?_ hn)
          simpa [zc1] using hc
        · rename_i hc
          cases hs
          refine zV_icmp_le _ hz (ztg_eq ht) (fun hp => absurd hp ?_) (fun _ => k n K P Ir L hR)
          simpa [zc1] using hc
      · cases hs
    · cases hs
theorem zq_tableswitch {dflt lo hi : Int} {offs : Array Int} {len r1 r2 r3 pc1 u : Nat} {ls ls1 : zLs} {st st1 : List Value} {I I1 : zM} (hE : zEok X sl dy E) (hR : zRel E n K P Ir L I) (hz : zl mi pc = some (.tableswitch dflt lo hi offs, len, r1, r2, r3)) (hs : zstep sl dy mi pc (.tableswitch dflt lo hi offs, len, r1, r2, r3) ls st I = some (.inl (pc1, ls1, st1, I1, u)))
    (k : ∀ (n' : Nat) (K' : zKT) (P' : zPT) (Ir' : zIT) (L' : zLT), zRel E n' K' P' Ir' L' I1 → zV l X (d + 1) bc bs mi pc1 (zmL (zEr E) ls1) (zmS (zEr E) st1) n' K' P' Ir' L' Post) : zV l X (d + 1) bc bs mi pc (zmL (zEr E) ls) (zmS (zEr E) st) n K P Ir L Post := by
  simp only [zstep] at hs
  split at hs
  · split at hs
    · rename_i hd
      obtain ⟨t, h1, e⟩ := zjmp_inv hs
      cases e
      exact zV_tableOut _ hz (of_decide_eq_true hd) (ztg_eq h1) (k n K P Ir L hR)
    · rename_i hd
      have hd := of_decide_eq_false hd
      split at hs
      · rename_i off ho
        obtain ⟨t, h1, e⟩ := zjmp_inv hs
        cases e
        exact zV_tableIn _ hz (fun h => hd (Or.inl h)) (fun h => hd (Or.inr h)) ho (ztg_eq h1) (k n K P Ir L hR)
      · cases hs
  · cases hs
theorem zq_lookupswitch {dflt : Int} {ps : Array (Int × Int)} {len r1 r2 r3 pc1 u : Nat} {ls ls1 : zLs} {st st1 : List Value} {I I1 : zM} (hE : zEok X sl dy E) (hR : zRel E n K P Ir L I) (hz : zl mi pc = some (.lookupswitch dflt ps, len, r1, r2, r3)) (hs : zstep sl dy mi pc (.lookupswitch dflt ps, len, r1, r2, r3) ls st I = some (.inl (pc1, ls1, st1, I1, u)))
    (k : ∀ (n' : Nat) (K' : zKT) (P' : zPT) (Ir' : zIT) (L' : zLT), zRel E n' K' P' Ir' L' I1 → zV l X (d + 1) bc bs mi pc1 (zmL (zEr E) ls1) (zmS (zEr E) st1) n' K' P' Ir' L' Post) : zV l X (d + 1) bc bs mi pc (zmL (zEr E) ls) (zmS (zEr E) st) n K P Ir L Post := by
  simp only [zstep] at hs
  split at hs
  · split at hs
    · rename_i hd
      obtain ⟨t, h1, e⟩ := zjmp_inv hs
      cases e
      exact zV_lookup _ hz hd rfl (ztg_eq h1) (k n K P Ir L hR)
    · cases hs
  · cases hs
theorem zq_getfield {j : Nat} {len r1 r2 r3 pc1 u : Nat} {ls ls1 : zLs} {st st1 : List Value} {I I1 : zM} (hE : zEok X sl dy E) (hR : zRel E n K P Ir L I) (hz : zl mi pc = some (.getfield j, len, r1, r2, r3)) (hs : zstep sl dy mi pc (.getfield j, len, r1, r2, r3) ls st I = some (.inl (pc1, ls1, st1, I1, u)))
    (k : ∀ (n' : Nat) (K' : zKT) (P' : zPT) (Ir' : zIT) (L' : zLT), zRel E n' K' P' Ir' L' I1 → zV l X (d + 1) bc bs mi pc1 (zmL (zEr E) ls1) (zmS (zEr E) st1) n' K' P' Ir' L' Post) : zV l X (d + 1) bc bs mi pc (zmL (zEr E) ls) (zmS (zEr E) st) n K P Ir L Post := by
  obtain rfl : len = 3 := zlen_eq hz rfl
  simp only [zstep] at hs
  split at hs
  · rename_i a r
    split at hs
    · rename_i kk mm hk
      split at hs
      · rename_i hb
        simp only [Bool.and_eq_true] at hb
        obtain rfl := Nat.eq_of_beq_eq_true hb.1.1
        split at hs
        · rename_i hf
          split at hs
          · rename_i q hq
            cases hs
            exact zV_getR hz (zRel_K hE hR hk) (Nat.le_of_ble_eq_true hb.1.2) hf (zRel_P hE hR hq) (k n K P Ir L hR)
          · cases hs
        · rename_i hf
          split at hs
          · rename_i x hx
            cases hs
            refine zV_getI hz (zRel_K hE hR hk) (Nat.le_of_ble_eq_true hb.1.2) hf ?_
            rw [zRel_I hE hR hk hx]
            exact k n K P Ir L hR
          · cases hs
      · cases hs
    · cases hs
  · cases hs
theorem zq_putfield {j : Nat} {len r1 r2 r3 pc1 u : Nat} {ls ls1 : zLs} {st st1 : List Value} {I I1 : zM} (hE : zEok X sl dy E) (hR : zRel E n K P Ir L I) (hz : zl mi pc = some (.putfield j, len, r1, r2, r3)) (hs : zstep sl dy mi pc (.putfield j, len, r1, r2, r3) ls st I = some (.inl (pc1, ls1, st1, I1, u)))
    (k : ∀ (n' : Nat) (K' : zKT) (P' : zPT) (Ir' : zIT) (L' : zLT), zRel E n' K' P' Ir' L' I1 → zV l X (d + 1) bc bs mi pc1 (zmL (zEr E) ls1) (zmS (zEr E) st1) n' K' P' Ir' L' Post) : zV l X (d + 1) bc bs mi pc (zmL (zEr E) ls) (zmS (zEr E) st) n K P Ir L Post := by
  obtain rfl : len = 3 := zlen_eq hz rfl
  simp only [zstep] at hs
  split at hs
  · rename_i x a r
    split at hs
    · rename_i kk mm hk
      split at hs
      · rename_i hb
        simp only [Bool.and_eq_true, decide_eq_true_eq, Bool.not_eq_true'] at hb
        obtain ⟨⟨⟨⟨⟨b1, b2⟩, b3⟩, b4⟩, b5⟩, b6⟩ := hb
        obtain rfl := Nat.eq_of_beq_eq_true b1
        cases hs
        have ha : a < 148 := by
          rcases zkd_lt hk with h | ⟨-, h⟩
          · exact h
          · cases h
            exact absurd (Nat.le_of_ble_eq_true b3) (by decide)
        refine zV_putI hz (zRel_K hE hR hk) (Nat.le_of_ble_eq_true b2) b4 b5 b6 ?_
        have := k n K P _ L (zRel_up (k := r2) (x := x) ha hE.2.2.2.2 hR)
        rw [hE.1 a (Nat.lt_trans ha (by decide))]
        exact this
      · cases hs
    · cases hs
  · cases hs
theorem zq_iaload {len r1 r2 r3 pc1 u : Nat} {ls ls1 : zLs} {st st1 : List Value} {I I1 : zM} (hE : zEok X sl dy E) (hR : zRel E n K P Ir L I) (hz : zl mi pc = some (.iaload, len, r1, r2, r3)) (hs : zstep sl dy mi pc (.iaload, len, r1, r2, r3) ls st I = some (.inl (pc1, ls1, st1, I1, u)))
    (k : ∀ (n' : Nat) (K' : zKT) (P' : zPT) (Ir' : zIT) (L' : zLT), zRel E n' K' P' Ir' L' I1 → zV l X (d + 1) bc bs mi pc1 (zmL (zEr E) ls1) (zmS (zEr E) st1) n' K' P' Ir' L' Post) : zV l X (d + 1) bc bs mi pc (zmL (zEr E) ls) (zmS (zEr E) st) n K P Ir L Post := by
  obtain rfl : len = 1 := zlen_eq hz rfl
  simp only [zstep] at hs
  split at hs
  · rename_i i a r
    split at hs
    · rename_i kk mm hk
      split at hs
      · rename_i x hb hx
        simp only [Bool.and_eq_true, Bool.or_eq_true] at hb
        cases hs
        have e1 := zRel_I hE hR hk hx
        refine zV_iald hz (zRel_K hE hR hk) (hb.1.imp Nat.eq_of_beq_eq_true Nat.eq_of_beq_eq_true) (zin_vp hb.2) ?_
        rw [e1]
        exact k n K P Ir L hR
      · cases hs
    · cases hs
  · cases hs
theorem zq_caload {len r1 r2 r3 pc1 u : Nat} {ls ls1 : zLs} {st st1 : List Value} {I I1 : zM} (hE : zEok X sl dy E) (hR : zRel E n K P Ir L I) (hz : zl mi pc = some (.caload, len, r1, r2, r3)) (hs : zstep sl dy mi pc (.caload, len, r1, r2, r3) ls st I = some (.inl (pc1, ls1, st1, I1, u)))
    (k : ∀ (n' : Nat) (K' : zKT) (P' : zPT) (Ir' : zIT) (L' : zLT), zRel E n' K' P' Ir' L' I1 → zV l X (d + 1) bc bs mi pc1 (zmL (zEr E) ls1) (zmS (zEr E) st1) n' K' P' Ir' L' Post) : zV l X (d + 1) bc bs mi pc (zmL (zEr E) ls) (zmS (zEr E) st) n K P Ir L Post := by
  obtain rfl : len = 1 := zlen_eq hz rfl
  simp only [zstep] at hs
  split at hs
  · rename_i i a r
    split at hs
    · rename_i kk mm hk
      split at hs
      · rename_i x hb hx
        simp only [Bool.and_eq_true, Bool.or_eq_true] at hb
        cases hs
        have e1 := zRel_I hE hR hk hx
        obtain rfl := Nat.eq_of_beq_eq_true hb.1
        refine zV_cald hz (zRel_K hE hR hk) (zin_vp hb.2) ?_
        rw [e1]
        exact k n K P Ir L hR
      · cases hs
    · cases hs
  · cases hs
theorem zq_aaload {len r1 r2 r3 pc1 u : Nat} {ls ls1 : zLs} {st st1 : List Value} {I I1 : zM} (hE : zEok X sl dy E) (hR : zRel E n K P Ir L I) (hz : zl mi pc = some (.aaload, len, r1, r2, r3)) (hs : zstep sl dy mi pc (.aaload, len, r1, r2, r3) ls st I = some (.inl (pc1, ls1, st1, I1, u)))
    (k : ∀ (n' : Nat) (K' : zKT) (P' : zPT) (Ir' : zIT) (L' : zLT), zRel E n' K' P' Ir' L' I1 → zV l X (d + 1) bc bs mi pc1 (zmL (zEr E) ls1) (zmS (zEr E) st1) n' K' P' Ir' L' Post) : zV l X (d + 1) bc bs mi pc (zmL (zEr E) ls) (zmS (zEr E) st) n K P Ir L Post := by
  obtain rfl : len = 1 := zlen_eq hz rfl
  simp only [zstep] at hs
  split at hs
  · rename_i i a r
    split at hs
    · rename_i kk mm hk
      split at hs
      · rename_i q hb hq
        simp only [Bool.and_eq_true] at hb
        obtain rfl := Nat.eq_of_beq_eq_true hb.1
        cases hs
        exact zV_aald hz (zRel_K hE hR hk) (zin_vp hb.2) (zRel_P hE hR hq) (k n K P Ir L hR)
      · cases hs
    · cases hs
  · cases hs
theorem zq_iastore {len r1 r2 r3 pc1 u : Nat} {ls ls1 : zLs} {st st1 : List Value} {I I1 : zM} (hE : zEok X sl dy E) (hR : zRel E n K P Ir L I) (hz : zl mi pc = some (.iastore, len, r1, r2, r3)) (hs : zstep sl dy mi pc (.iastore, len, r1, r2, r3) ls st I = some (.inl (pc1, ls1, st1, I1, u)))
    (k : ∀ (n' : Nat) (K' : zKT) (P' : zPT) (Ir' : zIT) (L' : zLT), zRel E n' K' P' Ir' L' I1 → zV l X (d + 1) bc bs mi pc1 (zmL (zEr E) ls1) (zmS (zEr E) st1) n' K' P' Ir' L' Post) : zV l X (d + 1) bc bs mi pc (zmL (zEr E) ls) (zmS (zEr E) st) n K P Ir L Post := by
  obtain rfl : len = 1 := zlen_eq hz rfl
  simp only [zstep] at hs
  split at hs
  · rename_i x i a r
    split at hs
    · rename_i kk mm hk
      split at hs
      · rename_i hb
        simp only [Bool.and_eq_true] at hb
        obtain rfl := Nat.eq_of_beq_eq_true hb.1
        cases hs
        have ha : a < 148 := by
          rcases zkd_lt hk with h | ⟨-, h⟩
          · exact h
          · cases h
        refine zV_iast hz (zRel_K hE hR hk) (zin_vp hb.2) ?_
        have := k n K P _ L (zRel_up (k := i.toNatClampNeg) (x := x) ha hE.2.2.2.2 hR)
        rw [hE.1 a (Nat.lt_trans ha (by decide))]
        exact this
      · cases hs
    · cases hs
  · cases hs
theorem zq_castore {len r1 r2 r3 pc1 u : Nat} {ls ls1 : zLs} {st st1 : List Value} {I I1 : zM} (hE : zEok X sl dy E) (hR : zRel E n K P Ir L I) (hz : zl mi pc = some (.castore, len, r1, r2, r3)) (hs : zstep sl dy mi pc (.castore, len, r1, r2, r3) ls st I = some (.inl (pc1, ls1, st1, I1, u)))
    (k : ∀ (n' : Nat) (K' : zKT) (P' : zPT) (Ir' : zIT) (L' : zLT), zRel E n' K' P' Ir' L' I1 → zV l X (d + 1) bc bs mi pc1 (zmL (zEr E) ls1) (zmS (zEr E) st1) n' K' P' Ir' L' Post) : zV l X (d + 1) bc bs mi pc (zmL (zEr E) ls) (zmS (zEr E) st) n K P Ir L Post := by
  obtain rfl : len = 1 := zlen_eq hz rfl
  simp only [zstep] at hs
  split at hs
  · rename_i x i a r
    split at hs
    · rename_i kk mm hk
      split at hs
      · rename_i hb
        simp only [Bool.and_eq_true] at hb
        obtain rfl := Nat.eq_of_beq_eq_true hb.1
        cases hs
        have ha : a < 148 := by
          rcases zkd_lt hk with h | ⟨-, h⟩
          · exact h
          · cases h
        refine zV_cast hz (zRel_K hE hR hk) (zin_vp hb.2) ?_
        have := k n K P _ L (zRel_up (k := i.toNatClampNeg) (x := (vp_nar .char x)) ha hE.2.2.2.2 hR)
        rw [hE.1 a (Nat.lt_trans ha (by decide))]
        exact this
      · cases hs
    · cases hs
  · cases hs
theorem zq_arraylength {len r1 r2 r3 pc1 u : Nat} {ls ls1 : zLs} {st st1 : List Value} {I I1 : zM} (hE : zEok X sl dy E) (hR : zRel E n K P Ir L I) (hz : zl mi pc = some (.arraylength, len, r1, r2, r3)) (hs : zstep sl dy mi pc (.arraylength, len, r1, r2, r3) ls st I = some (.inl (pc1, ls1, st1, I1, u)))
    (k : ∀ (n' : Nat) (K' : zKT) (P' : zPT) (Ir' : zIT) (L' : zLT), zRel E n' K' P' Ir' L' I1 → zV l X (d + 1) bc bs mi pc1 (zmL (zEr E) ls1) (zmS (zEr E) st1) n' K' P' Ir' L' Post) : zV l X (d + 1) bc bs mi pc (zmL (zEr E) ls) (zmS (zEr E) st) n K P Ir L Post := by
  obtain rfl : len = 1 := zlen_eq hz rfl
  simp only [zstep] at hs
  split at hs
  · rename_i a r
    split at hs
    · rename_i kk mm hk
      split at hs
      · rename_i hb
        simp only [Bool.and_eq_true, Bool.or_eq_true] at hb
        cases hs
        exact zV_alen hz (zRel_K hE hR hk) (hb.1.elim (fun h => Or.inl (Nat.eq_of_beq_eq_true h)) (fun h => Or.inr (Or.inr (Or.inr (Or.inr (Or.inr (Or.inl (Nat.eq_of_beq_eq_true h)))))))) rfl (k n K P Ir L hR)
      · cases hs
    · cases hs
  · cases hs
end ZSTEP
