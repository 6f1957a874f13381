/-! THE ENTRY: classes, arrays, constants, and the memory that was there before -/
theorem zKn {s : State} {args : Array Value} (hts : ∀ w ∈ lw_tbl, w.before args s = true) : ∀ c : Nat, ∃ D : ClassId × (Nat → Nat), ∀ q : vw_C, vwCl[c]? = some q → u_Kn s q.1 q.2.1 q.2.2 D.1 D.2 := by
  intro c
  cases hc : vwCl[c]? with
  | none => exact ⟨(0, fun _ => 0), fun q h => by cases h⟩
  | some q =>
    have h1 := List.all_eq_true.mp zwC_all q (List.mem_of_getElem? hc)
    simp only [Bool.and_eq_true, decide_eq_true_eq] at h1
    have hin : ∀ w ∈ u_ws q.1 q.2.1 q.2.2, w ∈ lw_tbl := fun w hw => of_decide_eq_true (List.all_eq_true.mp h1.1 w hw)
    obtain ⟨cC, iS, hK⟩ := u_known (N := q.2.2) hts hin (hts _ h1.2)
    exact ⟨(cC, iS), fun q' h => by cases h; exact hK⟩
theorem zAr {s : State} {args : Array Value} (hts : ∀ w ∈ lw_tbl, w.before args s = true) : ∃ cA : Nat → ClassId, ∀ (k : Nat) (q : ClassId × FieldType), ([(cA 100, .int), (cA 101, .long), (cA 102, .char), (cA 103, .byte), (cA 104, .object RX3)] : List (ClassId × FieldType))[k]? = some q → ArrOfT s q.1 q.2 ∧ va_RA s q.1 q.2 := by
  obtain ⟨m1, m2, m3, m4, m5⟩ := zwA_all
  obtain ⟨c1, k1, p1, a1, b1, d1⟩ := Cond.arrayClass_spec (hts _ m1)
  obtain ⟨c2, k2, p2, a2, b2, d2⟩ := Cond.arrayClass_spec (hts _ m2)
  obtain ⟨c3, k3, p3, a3, b3, d3⟩ := Cond.arrayClass_spec (hts _ m3)
  obtain ⟨c4, k4, p4, a4, b4, d4⟩ := Cond.arrayClass_spec (hts _ m4)
  obtain ⟨p5, c5, k5, a5, -, b5, d5, e5⟩ := Cond.arrayOver_spec (hts _ m5)
  refine ⟨fun k => match k with
    | 100 => c1
    | 101 => c2
    | 102 => c3
    | 103 => c4
    | _ => c5, fun k q hq => ?_⟩
  match k, hq with
  | 0, hq => cases hq; exact ⟨fun n z => ⟨fun k h => (by cases h), k1, b1, p1, d1⟩, a1⟩
  | 1, hq => cases hq; exact ⟨fun n z => ⟨fun k h => (by cases h), k2, b2, p2, d2⟩, a2⟩
  | 2, hq => cases hq; exact ⟨fun n z => ⟨fun k h => (by cases h), k3, b3, p3, d3⟩, a3⟩
  | 3, hq => cases hq; exact ⟨fun n z => ⟨fun k h => (by cases h), k4, b4, p4, d4⟩, a4⟩
  | 4, hq => cases hq; exact ⟨fun n z => ⟨fun k h => (by cases h), k5, b5, p5, d5⟩, k5, p5, b5, d5, a5, e5⟩
  | k + 5, hq => simp at hq
/-- what holds of a String constant at the start -/
def zSc (s : State) (args : Array Value) (A : Nat → Prop) (q : Nat × Nat) (p : String × Nat × String) : Prop :=
  (Term.string p.1 p.2.1).eval args s none [] s = some (.ref q.1) ∧ va_O "java/lang/String" q.1 A s s.heap ∧ va_OF "java/lang/String" "coder" "B" (.int 0) q.1 A s s.heap ∧ va_OF "java/lang/String" "value" "[B" (.ref q.2) q.1 A s s.heap ∧ va_T .byte q.2 (zch p.2.2).length (fun j => .int ((zch p.2.2).getD j 0)) A s s.heap
theorem zSc_all {s : State} {args : Array Value} {A : Nat → Prop} (hg : (Jvm.Cond.and given_1 narrow_1).before args s = true) (hA : ∀ a : Nat, a < s.heap.size → ¬ A a) : ∀ i : Nat, ∃ q : Nat × Nat, ∀ p : String × Nat × String, zstr[i]? = some p → zSc s args A q p := by
  intro i
  cases hp : zstr[i]? with
  | none => exact ⟨(0, 0), fun p h => by cases h⟩
  | some p =>
    have hin := zwS_in hp
    have hw : ∀ w ∈ zwS p, w.before args s = true := fun w h => flat_of_before _ hg w (hin w h)
    have hln := (zstr_at hp).1
    have hel : ∀ j, j < (zch p.2.2).length → (Cond.eq (.elem (zvl (.string p.1 p.2.1)) (.int (Int32.ofNat j))) (.int ((zch p.2.2).getD j 0))).before args s = true := fun j hj =>
      hw _ (List.mem_cons_of_mem _ (List.mem_cons_of_mem _ (List.mem_cons_of_mem _ (List.mem_cons_of_mem _ (List.mem_map.mpr ⟨j, List.mem_range.mpr hj, rfl⟩)))))
    have h0 : (Cond.exactly (.string p.1 p.2.1) "java/lang/String").before args s = true := hw _ List.mem_cons_self
    have h1 : (Cond.eq (.field (.string p.1 p.2.1) "java/lang/String" "coder" "B") (.int 0)).before args s = true := hw _ (List.mem_cons_of_mem _ List.mem_cons_self)
    have h2 : (Cond.arrayOf (zvl (.string p.1 p.2.1)) .byte).before args s = true := hw _ (List.mem_cons_of_mem _ (List.mem_cons_of_mem _ List.mem_cons_self))
    have h3 : (Cond.eq (.length (zvl (.string p.1 p.2.1))) (.int (Int32.ofNat (zch p.2.2).length))).before args s = true := hw _ (List.mem_cons_of_mem _ (List.mem_cons_of_mem _ (List.mem_cons_of_mem _ List.mem_cons_self)))
    obtain ⟨a, c, cA, kA, q1, q2, q3, q4, q5, q6, -⟩ := Cond.exactly_spec (args := args) (first := s) (o := none) (s := s) (idx := []) (t := .string p.1 p.2.1) (cls := "java/lang/String") h0
    obtain ⟨t, ht, hT⟩ := va_Tof (f := fun j => .int ((zch p.2.2).getD j 0)) (A := A) (by omega) h2 (va_eqt h3) (fun j hj => va_eqt (hel j hj)) hA
    exact ⟨(a, t), fun p' h => by cases h; exact ⟨q1, ⟨cA, q3, q5, by rw [q6]; exact q2, hA a (Array.getElem?_eq_some_iff.mp q3).1⟩, vk_OFof q1 (va_eqt h1) hA, vk_OFof q1 ht hA, hT⟩⟩
theorem zdgs {s : State} {args : Array Value} {A : Nat → Prop} (hg : (Jvm.Cond.and given_1 narrow_1).before args s = true) (hA : ∀ a : Nat, a < s.heap.size → ¬ A a) {n : String} {f : Nat → Int32} {p : Nat} (he : (zgv.drop p).take 102 = zwD n f) : ∃ t : Nat, (Term.static "java/lang/Integer" n "[B").eval args s none [] s = some (.ref t) ∧ va_T .byte t 100 (fun j => .int (f j)) A s s.heap := by
  have hw : ∀ w ∈ zwD n f, w.before args s = true := fun w h => flat_of_before _ hg w (by
    rw [← he] at h
    exact List.mem_of_mem_drop (List.mem_of_mem_take h))
  have h2 : (Cond.arrayOf (.static "java/lang/Integer" n "[B") .byte).before args s = true := hw _ List.mem_cons_self
  have h3 : (Cond.eq (.length (.static "java/lang/Integer" n "[B")) (.int (Int32.ofNat 100))).before args s = true := hw _ (List.mem_cons_of_mem _ List.mem_cons_self)
  have hel : ∀ j, j < 100 → (Cond.eq (.elem (.static "java/lang/Integer" n "[B") (.int (Int32.ofNat j))) (.int (f j))).before args s = true := fun j hj =>
    hw _ (List.mem_cons_of_mem _ (List.mem_cons_of_mem _ (List.mem_map.mpr ⟨j, List.mem_range.mpr hj, rfl⟩)))
  exact va_Tof (f := fun j => .int (f j)) (A := A) (by decide) h2 (va_eqt h3) (fun j hj => va_eqt (hel j hj)) hA
/-! the memory -/
def zqS (ad : Nat → Nat × Nat) (a : Nat) : Bool := (List.range 40).any fun k => decide ((ad k).1 = a)
def zqB (ad : Nat → Nat × Nat) (a : Nat) : Bool := (List.range 40).any fun k => decide ((ad k).2 = a)
def zszH (H : Heap) (a : Nat) : Nat := match H[a]? with
  | some c => c.slots.size.toInt32.toNatClampNeg
  | none => 0
def zvI (v : Option Value) : Int32 := match v with
  | some (.int x) => x
  | _ => 0
def zvP (v : Option Value) : Option Nat := match v with
  | some (.ref x) => some x
  | _ => none
def zHv (H : Heap) (a j : Nat) : Option Value := match H[a]? with
  | some c => c.slots[j]?
  | none => none
def zK0 (ad : Nat → Nat × Nat) (H : Heap) (b L : Nat) : zKT := fun a => if a = b then some (110, L) else match zqS ad a with
  | true => some (120, 0)
  | false => match zqB ad a with
    | true => some (113, zszH H a)
    | false => none
def zP0 (H : Heap) (sv : Nat) : zPT := fun a k => match k with
  | 0 => zvP (zHv H a sv)
  | _ => none
def zI0 (ad : Nat → Nat × Nat) (H : Heap) (b : Nat) (xs : Nat → Int32) : zIT := fun a j => if a = b then xs j else match zqS ad a with
  | true => 0
  | false => zvI (zHv H a j)
theorem zqS_of {ad : Nat → Nat × Nat} {a : Nat} (h : zqS ad a = true) : ∃ k, k < 40 ∧ (ad k).1 = a := by
  obtain ⟨k, hk, e⟩ := List.any_eq_true.mp h
  exact ⟨k, List.mem_range.mp hk, of_decide_eq_true e⟩
theorem zqB_of {ad : Nat → Nat × Nat} {a : Nat} (h : zqB ad a = true) : ∃ k, k < 40 ∧ (ad k).2 = a := by
  obtain ⟨k, hk, e⟩ := List.any_eq_true.mp h
  exact ⟨k, List.mem_range.mp hk, of_decide_eq_true e⟩
theorem zqS_in {ad : Nat → Nat × Nat} {k : Nat} (h : k < 40) : zqS ad (ad k).1 = true := List.any_eq_true.mpr ⟨k, List.mem_range.mpr h, decide_eq_true rfl⟩
theorem zqB_in {ad : Nat → Nat × Nat} {k : Nat} (h : k < 40) : zqB ad (ad k).2 = true := List.any_eq_true.mpr ⟨k, List.mem_range.mpr h, decide_eq_true rfl⟩
/-- an array is no String -/
theorem znoS {s : State} {A : Nat → Prop} {C : ClassId} {a : Nat} {cell : Cell} {ty : FieldType} (hC : ClassAt s "java/lang/String" C) (hO : va_O "java/lang/String" a A s s.heap) (hc : s.heap[a]? = some cell) (h : s.isArrayOf cell ty) : False := by
  obtain ⟨c1, g1, -, g3, -⟩ := hO
  cases g1.symm.trans hc
  obtain ⟨hf, kC, hk, hkind⟩ := hC
  have e : C = cell.cls := Option.some.inj (hf.symm.trans g3)
  subst e
  obtain ⟨-, k2, hk2, comp, hkk⟩ := h
  cases hk.symm.trans hk2
  rw [hkind] at hkk
  cases hkk
theorem znoT {s : State} {cell : Cell} {t1 t2 : FieldType} (h1 : s.isArrayOf cell t1) (h2 : s.isArrayOf cell t2) : t1 = t2 := by
  obtain ⟨-, k1, e1, c1, q1⟩ := h1
  obtain ⟨-, k2, e2, c2, q2⟩ := h2
  cases e1.symm.trans e2
  rw [q1] at q2
  cases q2
  rfl
/-- a String's slots, by the table of its class -/
theorem zslot {s : State} {A : Nat → Prop} {i a : Nat} {o n d : String} {v : Value} {cell : Cell} (hS : SlotIs s o n d i) (hO : va_OF o n d v a A s s.heap) (hc : s.heap[a]? = some cell) : cell.slots[i]? = some v ∧ cell.vm ≠ .unknown := by
  obtain ⟨cf, kf, fi, fd, e1, rfl⟩ := hS
  obtain ⟨cf', k', i', f', cell', g1, -, g3, g4, g5, -⟩ := hO
  cases e1.symm.trans g1
  cases hc.symm.trans g3
  exact ⟨g5, g4⟩
theorem zentry {s : State} {args : Array Value} {b L : Nat} {xs : Nat → Int32} (hts : ∀ w ∈ lw_tbl, w.before args s = true) (hg : (Jvm.Cond.and given_1 narrow_1).before args s = true) (hX : va_X b L xs s s.heap) (hb : b < s.heap.size) :
    ∃ (X : zX) (K : zKT) (P : zPT) (I : zIT), X.1 = s.heap.size ∧ zK X s s.heap ∧ (∀ LL : zLT, zPic X s s.heap s.heap.size K P I LL) ∧ zIni X L s.heap.size b K P I := by
  have hA : ∀ a : Nat, a < s.heap.size → ¬ (fun q : Nat => s.heap.size ≤ q) a := fun a h => Nat.not_le.mpr h
  obtain ⟨D, hD⟩ := Classical.axiomOfChoice (zKn hts)
  obtain ⟨cA, hcA⟩ := zAr hts
  obtain ⟨ad, had⟩ := Classical.axiomOfChoice (zSc_all (A := fun q => s.heap.size ≤ q) hg hA)
  obtain ⟨tO, htO, hTO⟩ := zdgs (A := fun q => s.heap.size ≤ q) hg hA zwD_O
  obtain ⟨tT, htT, hTT⟩ := zdgs (A := fun q => s.heap.size ≤ q) hg hA zwD_T
  have hgv : ∀ {i : Nat} {w : Cond}, zgv[i]? = some w → w.before args s = true := fun h => flat_of_before _ hg _ (List.mem_of_getElem? h)
  obtain ⟨v4, v5, v6, v7⟩ := zgv_4
  have hp : ∀ k, k < 40 → ∃ p, zstr[k]? = some p := fun k hk => by
    rw [← zwS_len] at hk
    exact ⟨_, List.getElem?_eq_getElem hk⟩
  have hC0 : ClassAt s "java/lang/String" (D 0).1 := (hD 0 _ rfl).2
  have hs0 : SlotIs s "java/lang/String" "value" "[B" ((D 0).2 0) := (hD 0 _ rfl).1 0 (Nat.le_of_ble_eq_true rfl)
  have hs1 : SlotIs s "java/lang/String" "coder" "B" ((D 0).2 1) := (hD 0 _ rfl).1 1 (Nat.le_of_ble_eq_true rfl)
  have hnS : ∀ {a : Nat} {cell : Cell} {ty : FieldType}, s.heap[a]? = some cell → s.isArrayOf cell ty → zqS ad a = false := fun {a cell ty} h1 h2 => by
    cases hq : zqS ad a with
    | false => rfl
    | true =>
      obtain ⟨k, hk, e⟩ := zqS_of hq
      obtain ⟨p, hp⟩ := hp k hk
      obtain ⟨-, g2, -⟩ := had k p hp
      rw [e] at g2
      exact (znoS hC0 g2 h1 h2).elim
  have hbS : zqS ad b = false := by
    obtain ⟨scr, h1, h2, -⟩ := hX
    exact hnS h1 h2
  have hT : ∀ k p, zstr[k]? = some p → (ad k).2 ≠ b ∧ zqS ad (ad k).2 = false ∧ zszH s.heap (ad k).2 = (zch p.2.2).length := fun k p hp => by
    obtain ⟨-, -, -, -, cell, h1, h2, h3, h4, h5, h6, h7⟩ := had k p hp
    refine ⟨fun e => ?_, hnS h1 h2, ?_⟩
    · obtain ⟨scr, g1, g2, -⟩ := hX
      rw [e] at h1
      cases g1.symm.trans h1
      cases znoT g2 h2
    · have hl := (zstr_at hp).1
      unfold zszH
      rw [h1]
      show cell.slots.size.toInt32.toNatClampNeg = _
      rw [h5]
      exact zqn (by omega)
  have hSb : ∀ k p, zstr[k]? = some p → (ad k).1 ≠ b := fun k p hp e => by
    have h := zqS_in (ad := ad) (zwS_lt hp)
    rw [e, hbS] at h
    cases h
  have hval : ∀ k p, zstr[k]? = some p → zP0 s.heap ((D 0).2 0) (ad k).1 0 = some (ad k).2 := fun k p hp => by
    obtain ⟨-, ⟨cell, c1, -⟩, -, g4, -⟩ := had k p hp
    have h := (zslot hs0 g4 c1).1
    show zvP (zHv s.heap (ad k).1 ((D 0).2 0)) = _
    unfold zHv
    rw [c1]
    show zvP (cell.slots[(D 0).2 0]?) = _
    rw [h]
    rfl
  refine ⟨(s.heap.size, (fun c => (D c).1, fun c => (D c).2), cA, fun k => if k = 100 then tO else if k = 101 then tT else (ad k).1), zK0 ad s.heap b L, zP0 s.heap ((D 0).2 0), zI0 ad s.heap b xs, rfl, ?_, fun LL => ?_, ?_⟩
  · refine ⟨Nat.le_refl _, ⟨fun c q hq => hD c q hq, fun k q hk => hcA k q hk⟩, ⟨?_, ?_, ?_, ⟨?_, ?_, ?_⟩, ?_, ?_⟩, fun w hw => zNw_of (List.mem_filter.mp hw).2 (hts w (List.mem_filter.mp hw).1), fun i j hi hj hne => va_Nc.of (flat_of_before _ hg _ (zwN_in hi hj hne)), fun i q hq => ?_⟩
    · exact va_Zof (zwZ hts 0 rfl) (zwZ hts 1 rfl) (va_eqi (hgv v4)) hA
    · exact va_Zof (zwZ hts 2 rfl) (zwZ hts 4 rfl) htO hA
    · exact va_Zof (zwZ hts 3 rfl) (zwZ hts 4 rfl) htT hA
    · exact va_Zqof (zwZ hts 5 rfl) (zwZ hts 6 rfl) (hgv v7) hA
    · exact hTO
    · exact hTT
    · exact vx_Zqof (zwZ hts 7 rfl) (zwZ hts 9 rfl) (hgv v5) hA
    · exact vx_Zqof (zwZ hts 8 rfl) (zwZ hts 9 rfl) (hgv v6) hA
    · have hi := zwS_lt hq
      show vk_R q.1 q.2.1 q.2.2 (if i = 100 then tO else if i = 101 then tT else (ad i).1) s
      rw [if_neg (by omega), if_neg (by omega)]
      exact vk_R.of (hts _ (zstr_at hq).2.2) (had i q hq).1
  · refine ⟨rfl, fun a k m hk => ?_⟩
    unfold zK0 at hk
    split at hk
    · rename_i hab
      subst hab
      cases hk
      refine ⟨fun h => absurd h (by decide), fun _ h => absurd h (by decide), fun _ _ => ?_, fun h => absurd h (by decide)⟩
      obtain ⟨scr, h1, h2, h3, h4, h5⟩ := hX
      refine ⟨hA _ hb, scr, h1, h2, h3, ⟨Nat.le_of_eq h4.symm, by rw [h4]⟩, fun j hj => ?_⟩
      have e : zI0 ad s.heap a xs a j = xs j := if_pos rfl
      rw [e]
      exact h5 j hj
    · rename_i hab
      cases hq : zqS ad a with
      | true =>
        rw [hq] at hk
        cases hk
        obtain ⟨i, hi, e⟩ := zqS_of hq
        obtain ⟨p, hp⟩ := hp i hi
        have hv := hval i p hp
        obtain ⟨-, ⟨cell, c1, c2, c3, c4⟩, g3, g4, -⟩ := had i p hp
        rw [e] at c1 g3 g4 c4 hv
        obtain ⟨s0, hkn⟩ := zslot hs0 g4 c1
        obtain ⟨s1, -⟩ := zslot hs1 g3 c1
        refine ⟨fun h => absurd h (by decide), fun _ h => absurd h (by decide), fun _ h => absurd h (by decide), fun _ => ⟨c4, cell, c1, hkn, c2, c3, fun j hj => ?_⟩⟩
        rcases (show j = 0 ∨ j = 1 by omega) with rfl | rfl
        · have e0 : zfv 0 0 (zP0 s.heap ((D 0).2 0)) (zI0 ad s.heap b xs) a = va_rf (zP0 s.heap ((D 0).2 0) a 0) := rfl
          rw [e0, hv]
          exact s0
        · have e1 : zfv 0 1 (zP0 s.heap ((D 0).2 0)) (zI0 ad s.heap b xs) a = .int (zI0 ad s.heap b xs a 1) := rfl
          have e2 : zI0 ad s.heap b xs a 1 = 0 := by
            unfold zI0
            rw [if_neg hab, hq]
          rw [e1, e2]
          exact s1
      | false =>
        rw [hq] at hk
        cases hq2 : zqB ad a with
        | false => rw [hq2] at hk; cases hk
        | true =>
          rw [hq2] at hk
          cases hk
          obtain ⟨i, hi, e⟩ := zqB_of hq2
          obtain ⟨p, hp⟩ := hp i hi
          have hsz := (hT i p hp).2.2
          obtain ⟨-, -, -, -, cell, h1, h2, h3, h4, h5, h6, h7⟩ := had i p hp
          rw [e] at h1 h7 hsz
          rw [hsz]
          refine ⟨fun h => absurd h (by decide), fun _ h => absurd h (by decide), fun _ _ => ⟨h7, cell, h1, h2, h3, ⟨h4, h5⟩, fun j hj => ?_⟩, fun h => absurd h (by decide)⟩
          have e2 : zI0 ad s.heap b xs a j = (zch p.2.2).getD j 0 := by
            unfold zI0
            rw [if_neg hab, hq]
            show zvI (zHv s.heap a j) = _
            unfold zHv
            rw [h1]
            show zvI (cell.slots[j]?) = _
            rw [h6 j hj]
            rfl
          rw [e2]
          exact h6 j hj
  · refine ⟨hb, if_pos rfl, fun k q hq => ?_⟩
    have hi := zwS_lt hq
    have e : (if k = 100 then tO else if k = 101 then tT else (ad k).1) = (ad k).1 := (if_neg (by omega)).trans (if_neg (by omega))
    show zStr _ _ _ _ (if k = 100 then tO else if k = 101 then tT else (ad k).1) _
    rw [e]
    obtain ⟨n1, n2, n3⟩ := hT k q hq
    have hS1 := hSb k q hq
    have hv := hval k q hq
    obtain ⟨-, ⟨cell0, c1, -⟩, -, -, cell, h1, h2, h3, h4, h5, h6, h7⟩ := had k q hq
    refine ⟨(ad k).2, 120, 0, 113, (Array.getElem?_eq_some_iff.mp c1).1, (Array.getElem?_eq_some_iff.mp h1).1, ?_, Or.inl rfl, hv, ?_, Or.inl rfl, ?_, fun j x hj => ?_⟩
    · unfold zK0
      rw [if_neg hS1, zqS_in hi]
    · unfold zK0
      rw [if_neg n1, n2, zqB_in hi, n3]
    · unfold zI0
      rw [if_neg hS1, zqS_in hi]
    · obtain ⟨-, hr, -⟩ := zstr_at hq
      refine ⟨?_, hr x (List.mem_of_getElem? hj)⟩
      unfold zI0
      rw [if_neg n1, n2]
      show zvI (zHv s.heap (ad k).2 j) = _
      unfold zHv
      rw [h1]
      show zvI (cell.slots[j]?) = _
      rw [h6 j (List.getElem?_eq_some_iff.mp hj).1]
      show (zch q.2.2).getD j 0 = x
      rw [List.getD_eq_getElem?_getD, hj]
      rfl
