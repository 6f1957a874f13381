/-! MORE RULES: constants, copies, Math -/
set_option maxRecDepth 200000 in
theorem zcp_w : ([Cond.native arraycopyName, Cond.static arraycopyName, Cond.initialized "java/lang/System", Cond.static Lib.Math.min.name, Cond.static Lib.Math.max.name, Cond.static Lib.Math.abs.name, Cond.initialized "java/lang/Math",
    Cond.code Lib.Math.min.name Lib.Math.min.code 2 (some .int), Cond.code Lib.Math.max.name Lib.Math.max.code 2 (some .int), Cond.code Lib.Math.abs.name Lib.Math.abs.code 1 (some .int)].all (fun w => decide (w ∈ lw_tbl) && goodWord w)) = true := by decide +kernel
theorem zcp_in (k : Nat) {w : Cond} (h : [Cond.native arraycopyName, Cond.static arraycopyName, Cond.initialized "java/lang/System", Cond.static Lib.Math.min.name, Cond.static Lib.Math.max.name, Cond.static Lib.Math.abs.name, Cond.initialized "java/lang/Math",
    Cond.code Lib.Math.min.name Lib.Math.min.code 2 (some .int), Cond.code Lib.Math.max.name Lib.Math.max.code 2 (some .int), Cond.code Lib.Math.abs.name Lib.Math.abs.code 1 (some .int)][k]? = some w) : w ∈ zTs := by
  have h1 := List.all_eq_true.mp zcp_w w (List.mem_of_getElem? h)
  simp only [Bool.and_eq_true, decide_eq_true_eq] at h1
  exact List.mem_filter.mpr h1
theorem va_ldcwF {p : Program} {l : Launch} {e : Env} {R : Room} {s : State} {m : MethodId} {args : Array Value} {below : List Frame} {meth : Method} {c : Code} {T : State} {locs : List Loc} {cells slots : Nat} (X : Stand p l e R s m args below meth c T locs cells slots) (hexec : p.tables.exec = Jvm.exec) {own : String} {index : Nat} {v : UInt32} (hown : s.vm.findClass own = some m.cls)
    (hconst : (Cond.constantFloat own index v).before args s = true) {g : JFrame} (hg : g.method = m) (hdg : decode c.code g.pc = .ok (.ldc_w index, 3)) :
    ∀ target, Steps p.tables e below (T.setTop { g with pc := g.pc + 3, stack := .float v :: g.stack }) target → Steps p.tables e below (T.setTop g) target := by
  obtain ⟨k, cf, hk, hcf, hcp⟩ := Cond.constantFloat_spec hown hconst
  obtain ⟨k', hk', he⟩ := X.warmed.alike.2.2 _ _ hk
  intro target hrest
  subst hg
  jvm_step X.here [hexec, hdg, ldc_w.wp_float (s := T) (f := g) X.here.top hk' (by rw [he]; exact hcf) hcp]
  exact hrest
theorem znn {z : Int32} (hz : ¬ z < 0) : z.toInt = (z.toNatClampNeg : Int) := by
  have hz0 : (0 : Int) ≤ z.toInt := by simpa using Int32.le_iff_toInt_le.mp (Int32.not_lt.mp hz)
  show z.toInt = ((z.toInt.toNat : Nat) : Int)
  omega
/-- an array of ints is copied, from its start to another's start; everything else stays -/
theorem zcopyK {p : Program} {l : Launch} {e : Env} {R : Room} {s : State} {m : MethodId} {args : Array Value} {below : List Frame} {meth : Method} {c : Code} {H : Heap} {locs : List Loc} {cells slots : Nat} {Q : State → Prop} {cc : ByteArray} {pc : Nat} {ls : Array Slot} {rest : List Value}
    (hexec : p.tables.exec = Jvm.exec) (hb : c.code = cc) (hml : c.maxLocals = ls.size) {own : String} {index : Nat} (hown : s.vm.findClass own = some m.cls) (hlink : (Cond.methodLink own index arraycopyName).before args s = true) (hnat : (Cond.native arraycopyName).before args s = true) (hstat : (Cond.static arraycopyName).before args s = true) (hini : (Cond.initialized "java/lang/System").before args s = true)
    {a b na nb : Nat} {cA cB : ClassId} {f g : Nat → Int32} {ty : FieldType} (ha : H[a]? = some (arrV cA na (fun j => .int (f j)))) (hbb : H[b]? = some (arrV cB nb (fun j => .int (g j)))) (hA : ArrOfT s cA ty) (hprim : refKind ty = false) {hB : ArrOfT s cB ty}
    {n : Int32} (h3 : ¬ n < 0) (h4 : n.toNatClampNeg ≤ na) (h5 : n.toNatClampNeg ≤ nb) (hfit : ∀ i, i < n.toNatClampNeg → fits ty (.int (f i)) = true)
    (hframes : 1 ≤ R.frames) (hlocals : (rest.map fun v => v.category).sum + (nativeFrameWords "java/lang/System" "arraycopy" 5 + 11) ≤ R.locals) (hdg : decode cc pc = .ok (.invokestatic index, 3))
    (kk : ∀ (H1 : Heap) (L1 : List Loc), H1[b]? = some (arrV cB nb (fun j => .int (va_cpy f g 0 0 n.toNatClampNeg j))) → H1.size = H.size → (∀ q : Nat, q ≠ b → H1[q]? = H[q]?) → (∀ z ∈ L1, z.base = b) → W p l e R s m args below meth c H1 (locs ++ L1) cells slots Q (F0 m (pc + 3) ls rest)) :
    W p l e R s m args below meth c H locs cells slots Q (F0 m pc ls (.int n :: .int 0 :: .ref b :: .int 0 :: .ref a :: rest)) := by
  intro T hT X
  obtain ⟨-, k0, hk0, cm0, hkk0⟩ := hA na (fun j => .int (f j))
  obtain ⟨-, k1, hk1, cm1, hkk1⟩ := hB nb (fun j => .int (g j))
  have z0 : (0 : Int32).toNatClampNeg = 0 := rfl
  have zi0 : (0 : Int32).toInt = 0 := rfl
  obtain ⟨vm', X', step⟩ := X.arraycopy hexec hown hlink hnat hstat hini (src := a) (dst := b) (cs := arrV cA na (fun j => .int (f j))) (cd := arrV cB nb (fun j => .int (g j))) (srcPos := 0) (destPos := 0) (n := n) (by rw [hT]; exact ha) (by rw [hT]; exact hbb)
    (fun _ h => by cases h) (fun _ h => by cases h) (fun h => by cases h) (fun h => by cases h) hk0 hk1 hkk0 hkk1 (by simp [hprim]) (by decide) (by decide) h3
    (by rw [zi0, znn h3, arrV_size]; omega) (by rw [zi0, znn h3, arrV_size]; omega)
    (fun vm₁ _ i hi => by
      have e : (arrV cA na (fun j => .int (f j))).slots.getD ((0 : Int32).toNatClampNeg + i) .null = .int (f i) := by
        rw [z0, Nat.zero_add, Array.getD_eq_getD_getElem?, arrV_read _ _ (by omega)]
        rfl
      exact ⟨by rw [e]; exact hfit i hi, by rw [e]; exact trivial⟩)
    (g := F0 m pc ls (.int n :: .int 0 :: .ref b :: .int 0 :: .ref a :: rest)) rfl (by rw [hml]) (rest := rest) rfl (by rw [hb]; exact hdg) hframes (by show 2 * 0 + _ + _ ≤ _; omega)
  have e1 : copied (arrV cA na (fun j => .int (f j))) (arrV cB nb (fun j => .int (g j))) 0 0 n = arrV cB nb (fun j => .int (va_cpy f g 0 0 n.toNatClampNeg j)) := va_copied (fun z => .int z) cA cB f g (by rw [z0]; omega)
  rw [e1] at X' step
  have hl : b < H.size := (Array.getElem?_eq_some_iff.mp hbb).1
  have hheap : ((T.setVm vm').setCell b (arrV cB nb (fun j => .int (va_cpy f g 0 0 n.toNatClampNeg j)))).heap = H.setIfInBounds b (arrV cB nb (fun j => .int (va_cpy f g 0 0 n.toNatClampNeg j))) := by rw [← hT]; rfl
  obtain ⟨t, a1, b1⟩ := kk (H.setIfInBounds b (arrV cB nb (fun j => .int (va_cpy f g 0 0 n.toNatClampNeg j)))) _ (by simp [hl]) (by simp) (fun q hq => by simp [Array.getElem?_setIfInBounds, Ne.symm hq]) (fun z hz => by
    obtain ⟨w, -, hw⟩ := List.mem_map.mp hz
    rw [← hw]) _ hheap X'
  exact ⟨t, step t a1, b1⟩
section ZN
variable {l : Launch} {X : zX} {d bc bs mi pc : Nat} {ls : List (Nat × Value)} {st : List Value} {n : Nat} {K : zKT} {P : zPT} {I : zIT} {L : zLT} {Post : zPost} {r1 r2 r3 : Nat}
theorem zV_ldcI {idx : Nat} (h : zl mi pc = some (.ldc idx, 2, 0, r2, r3)) (k : zV l X d bc bs mi (pc + 2) ls (.int (Int32.ofNat r2) :: st) n K P I L Post) : zV l X d bc bs mi pc ls st n K P I L Post := fun p e R s m args below meth c H locs cells slots mc ms lsr S D hl => lv_ldc S.1 S.2.1 S.2.2.2.1 (S.2.2.2.2.1 _ (zTs_in (w := .constant (zO mi) idx (Int32.ofNat r2)) (i := r3) (zl_wc h) rfl)) (zl_dec h) (k p e R s m args below meth c H locs cells slots mc ms lsr S D hl)
theorem zV_ldcwI {idx : Nat} (h : zl mi pc = some (.ldc_w idx, 3, 0, r2, r3)) (k : zV l X d bc bs mi (pc + 3) ls (.int (Int32.ofNat r2) :: st) n K P I L Post) : zV l X d bc bs mi pc ls st n K P I L Post := fun p e R s m args below meth c H locs cells slots mc ms lsr S D hl => lv_ldcw S.1 S.2.1 S.2.2.2.1 (S.2.2.2.2.1 _ (zTs_in (w := .constant (zO mi) idx (Int32.ofNat r2)) (i := r3) (zl_wc h) rfl)) (zl_dec h) (k p e R s m args below meth c H locs cells slots mc ms lsr S D hl)
theorem zV_ldcF {idx : Nat} (h : zl mi pc = some (.ldc idx, 2, 1, r2, r3)) (k : zV l X d bc bs mi (pc + 2) ls (.float (UInt32.ofNat r2) :: st) n K P I L Post) : zV l X d bc bs mi pc ls st n K P I L Post := fun p e R s m args below meth c H locs cells slots mc ms lsr S D hl => lv_ldcf S.1 S.2.1 S.2.2.2.1 (S.2.2.2.2.1 _ (zTs_in (w := .constantFloat (zO mi) idx (UInt32.ofNat r2)) (i := r3) (zl_wc h) rfl)) (zl_dec h) (k p e R s m args below meth c H locs cells slots mc ms lsr S D hl)
theorem zV_ldcwF {idx : Nat} (h : zl mi pc = some (.ldc_w idx, 3, 1, r2, r3)) (k : zV l X d bc bs mi (pc + 3) ls (.float (UInt32.ofNat r2) :: st) n K P I L Post) : zV l X d bc bs mi pc ls st n K P I L Post := by
  intro p e R s m args below meth c H locs cells slots mc ms lsr S D hl T hT Z
  obtain ⟨t, a, b⟩ := k p e R s m args below meth c H locs cells slots mc ms lsr S D hl T hT Z
  exact ⟨t, va_ldcwF Z S.1 S.2.2.2.1 (S.2.2.2.2.1 _ (zTs_in (w := .constantFloat (zO mi) idx (UInt32.ofNat r2)) (i := r3) (zl_wc h) rfl)) (g := F0 m pc lsr st) rfl (by rw [S.2.1]; exact zl_dec h) t a, b⟩
theorem zV_ldc2L {idx : Nat} (h : zl mi pc = some (.ldc2_w idx, 3, 3, r2, r3)) (k : zV l X d bc bs mi (pc + 3) ls (.long (Int64.ofNat r2) :: st) n K P I L Post) : zV l X d bc bs mi pc ls st n K P I L Post := fun p e R s m args below meth c H locs cells slots mc ms lsr S D hl => lv_ldc2 S.1 S.2.1 S.2.2.2.1 (S.2.2.2.2.1 _ (zTs_in (w := .constantLong (zO mi) idx (Int64.ofNat r2)) (i := r3) (zl_wc h) rfl)) (zl_dec h) (k p e R s m args below meth c H locs cells slots mc ms lsr S D hl)
theorem zV_ldc2D {idx : Nat} (h : zl mi pc = some (.ldc2_w idx, 3, 4, r2, r3)) (k : zV l X d bc bs mi (pc + 3) ls (.double (UInt64.ofNat r2) :: st) n K P I L Post) : zV l X d bc bs mi pc ls st n K P I L Post := fun p e R s m args below meth c H locs cells slots mc ms lsr S D hl => lv_ldc2d S.1 S.2.1 S.2.2.2.1 (S.2.2.2.2.1 _ (zTs_in (w := .constantDouble (zO mi) idx (UInt64.ofNat r2)) (i := r3) (zl_wc h) rfl)) (zl_dec h) (k p e R s m args below meth c H locs cells slots mc ms lsr S D hl)
theorem zV_ldcS {idx : Nat} (h : zl mi pc = some (.ldc idx, 2, 2, r2, r3)) (k : zV l X d bc bs mi (pc + 2) ls (.ref (X.2.2.2 r2) :: st) n K P I L Post) : zV l X d bc bs mi pc ls st n K P I L Post := by
  intro p e R s m args below meth c H locs cells slots mc ms lsr S D hl
  obtain ⟨q, hq, h1, h2⟩ := zwc_str (Or.inl rfl) h
  have hs := S.2.2.2.2.2.2.2.2.2.2.2.1.2.2.2.2.2 r2 q hq
  rw [h1, h2] at hs
  exact va_ldcS S.1 S.2.1 S.2.2.2.1 hs (zl_dec h) (k p e R s m args below meth c H locs cells slots mc ms lsr S D hl)
theorem zV_ldcwS {idx : Nat} (h : zl mi pc = some (.ldc_w idx, 3, 2, r2, r3)) (k : zV l X d bc bs mi (pc + 3) ls (.ref (X.2.2.2 r2) :: st) n K P I L Post) : zV l X d bc bs mi pc ls st n K P I L Post := by
  intro p e R s m args below meth c H locs cells slots mc ms lsr S D hl T hT Z
  obtain ⟨q, hq, h1, h2⟩ := zwc_str (Or.inr rfl) h
  have hs := S.2.2.2.2.2.2.2.2.2.2.2.1.2.2.2.2.2 r2 q hq
  rw [h1, h2] at hs
  obtain ⟨t, a, b⟩ := k p e R s m args below meth c H locs cells slots mc ms lsr S D hl T hT Z
  exact ⟨t, Z.ldcStringW S.1 (own := zO mi) (index := idx) (a := X.2.2.2 r2) S.2.2.2.1 hs.1 hs.2 (g := F0 m pc lsr st) rfl (by rw [S.2.1]; exact zl_dec h) t a, b⟩
theorem zV_mmin {x y : Int32} {idx : Nat} (h : zl mi pc = some (.invokestatic idx, 3, 0, 13, r3)) (hW : (st.map fun v => v.category).sum ≤ 8) (k : zV l X (d + 1) bc bs mi (pc + 3) ls (.int (if y < x then y else x) :: st) n K P I L Post) : zV l X (d + 1) bc bs mi pc ls (.int y :: .int x :: st) n K P I L Post := by
  intro p e R s m args below meth c H locs cells slots mc ms lsr S D hl
  obtain ⟨hxx, hb, hml, hown, hts, hrt, hlk, htab, hnm, hdf, hdl, hKs, hst⟩ := id S
  obtain ⟨d1, d2, d3, d4, hS, hpic⟩ := id D
  exact va_mmin hxx hb (by rw [hl.1, hml]) hown (hts _ (zTs_in (w := .methodLink (zO mi) idx Lib.Math.min.name) (i := r3) (zl_wc h) rfl)) (hts _ (zcp_in 3 rfl)) (hts _ (zcp_in 6 rfl)) (hts _ (zcp_in 7 rfl)) (by omega) (by omega) (by omega) (by omega) (zl_dec h) (k p e R s m args below meth c H locs cells slots mc ms lsr S D hl)
theorem zV_mmax {x y : Int32} {idx : Nat} (h : zl mi pc = some (.invokestatic idx, 3, 1, 13, r3)) (hW : (st.map fun v => v.category).sum ≤ 8) (k : zV l X (d + 1) bc bs mi (pc + 3) ls (.int (if x < y then y else x) :: st) n K P I L Post) : zV l X (d + 1) bc bs mi pc ls (.int y :: .int x :: st) n K P I L Post := by
  intro p e R s m args below meth c H locs cells slots mc ms lsr S D hl
  obtain ⟨hxx, hb, hml, hown, hts, hrt, hlk, htab, hnm, hdf, hdl, hKs, hst⟩ := id S
  obtain ⟨d1, d2, d3, d4, hS, hpic⟩ := id D
  exact va_mmax hxx hb (by rw [hl.1, hml]) hown (hts _ (zTs_in (w := .methodLink (zO mi) idx Lib.Math.max.name) (i := r3) (zl_wc h) rfl)) (hts _ (zcp_in 4 rfl)) (hts _ (zcp_in 6 rfl)) (hts _ (zcp_in 8 rfl)) (by omega) (by omega) (by omega) (by omega) (zl_dec h) (k p e R s m args below meth c H locs cells slots mc ms lsr S D hl)
theorem zV_mabs {x : Int32} {idx : Nat} (h : zl mi pc = some (.invokestatic idx, 3, 2, 13, r3)) (hW : (st.map fun v => v.category).sum ≤ 8) (k : zV l X (d + 1) bc bs mi (pc + 3) ls (.int (if 0 ≤ x then x else 0 - x) :: st) n K P I L Post) : zV l X (d + 1) bc bs mi pc ls (.int x :: st) n K P I L Post := by
  intro p e R s m args below meth c H locs cells slots mc ms lsr S D hl
  obtain ⟨hxx, hb, hml, hown, hts, hrt, hlk, htab, hnm, hdf, hdl, hKs, hst⟩ := id S
  obtain ⟨d1, d2, d3, d4, hS, hpic⟩ := id D
  exact va_mabs hxx hb (by rw [hl.1, hml]) hown (hts _ (zTs_in (w := .methodLink (zO mi) idx Lib.Math.abs.name) (i := r3) (zl_wc h) rfl)) (hts _ (zcp_in 5 rfl)) (hts _ (zcp_in 6 rfl)) (hts _ (zcp_in 9 rfl)) (by omega) (by omega) (by omega) (by omega) (zl_dec h) (k p e R s m args below meth c H locs cells slots mc ms lsr S D hl)
/-- ints are copied from the start of one array to the start of another -/
def zuC (I : zIT) (a b k : Nat) : zIT := fun q => if q = b then va_cpy (I a) (I b) 0 0 k else I q
theorem zV_copy {a b na nb idx : Nat} {k : Int32} (h : zl mi pc = some (.invokestatic idx, 3, r1, 9, r3)) (hKa : K a = some (100, na)) (hKb : K b = some (100, nb)) (hab : a ≠ b) (hk : ¬ k < 0) (h1 : k.toNatClampNeg ≤ na) (h2 : k.toNatClampNeg ≤ nb) (hW : (st.map fun v => v.category).sum ≤ 8)
    (kk : zV l X (d + 1) bc bs mi (pc + 3) ls st n K P (zuC I a b k.toNatClampNeg) L Post) : zV l X (d + 1) bc bs mi pc ls (.int k :: .int 0 :: .ref b :: .int 0 :: .ref a :: st) n K P I L Post := by
  intro p e R s m args below meth c H locs cells slots mc ms lsr S D hl
  obtain ⟨hxx, hb, hml, hown, hts, hrt, hlk, htab, hnm, hdf, hdl, hKs, hst⟩ := id S
  obtain ⟨d1, d2, d3, d4, hS, hpic⟩ := id D
  obtain ⟨hAa, ha⟩ := (hpic.2 a 100 na hKa).2.1 (by decide) (by decide)
  obtain ⟨hAb, hbb⟩ := (hpic.2 b 100 nb hKb).2.1 (by decide) (by decide)
  have hlr : (st.map fun v => v.category).sum + (nativeFrameWords "java/lang/System" "arraycopy" 5 + 11) ≤ R.locals := by
    have : nativeFrameWords "java/lang/System" "arraycopy" 5 ≤ 30 := by decide
    omega
  refine zcopyK hxx hb (by rw [hl.1, hml]) hown (hts _ (zTs_in (w := .methodLink (zO mi) idx arraycopyName) (i := r3) (zl_wc h) rfl)) (hts _ (zcp_in 0 rfl)) (hts _ (zcp_in 1 rfl)) (hts _ (zcp_in 2 rfl)) (ty := .int) ha hbb (zK_arr hKs (Or.inl rfl)) rfl (hB := zK_arr hKs (Or.inl rfl)) hk h1 h2 (fun i _ => rfl) (by omega) hlr (zl_dec h) fun H1 L1 e1 z1 o1 hL1 => ?_
  refine kk p e R s m args below meth c H1 (locs ++ L1) cells slots mc ms lsr S ⟨d1, d2, d3, d4, ⟨by rw [z1]; exact hS.1, fun q g1 g2 => (o1 q (fun e => g2 (by rw [e]; exact hAb))).trans (hS.2.1 q g1 g2), fun q hq => ?_⟩, zPic_put hpic hKb ?_ z1 o1 (fun _ _ => rfl) (fun q hq => if_neg hq) (fun _ _ => rfl)⟩ hl
  · rcases List.mem_append.mp hq with h | h
    · exact hS.2.2 q h
    · rw [hL1 q h]; exact hAb
  · refine ⟨fun q => absurd q (by omega), fun _ _ => ⟨hAb, ?_⟩, fun q => absurd q (by omega), fun q => absurd q (by omega)⟩
    rw [e1]
    congr 2
    funext j
    simp [zel, zuC]
end ZN
