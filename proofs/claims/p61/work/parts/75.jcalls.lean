/-! CALLS AMONG THE JDK'S METHODS ON TEXTS; copies of bytes -/
def zux (mk : Nat) : Cond := match mk with
  | 188 => .selects RJ4 (zasb (zY 188)) (zY 188)
  | 189 => .selects RJ4 (zasb (zY 189)) (zY 189)
  | 210 => .selects RJ4 (zasb (zY 210)) (zY 210)
  | k => .privateMethod (zY k)
def zus (mk : Nat) : List Cond := [.sameMethod RJ5 RJ5 (zY mk).name (zY mk).desc, .instanceMethod (zasb (zY mk)), .instanceMethod (zY mk)]
def zuc (mk : Nat) : Nat := match mk with
  | 210 => 180
  | k => k
def zUs : List Nat := [181, 182, 188, 189, 190, 191, 210]
set_option maxRecDepth 200000 in
theorem zus_all : (zUs.all fun mk => ((zus mk).all fun w => decide (w ∈ lw_tbl) && goodWord w) && decide (zY (zuc mk) = zasb (zY mk)) && decide (zuc mk < 224) && decide (zuc mk ≠ 178) && (zH (zuc mk)).isEmpty) = true := by decide +kernel
set_option maxRecDepth 200000 in
theorem zux_all : (zUs.all fun mk => decide (zux mk ∈ lw_tbl)) = true := by decide +kernel
theorem zsel_priv {y : MethodName} {C : String} {c : ClassId} {s : State} {args : Array Value} (hy : y.cls ≠ "java/lang/invoke/MethodHandle" ∧ y.cls ≠ "java/lang/invoke/VarHandle") (hsm : (Cond.sameMethod y.cls y.cls y.name y.desc).before args s = true) (hpriv : (Cond.privateMethod y).before args s = true) (hinst : (Cond.instanceMethod y).before args s = true) (hc : s.vm.findClass C = some c) : (Cond.selects C y y).before args s = true := by
  obtain ⟨mk, methM, hnamed, hmethM, -, -⟩ := Cond.instanceMethod_spec hinst
  have hfound : s.methodFound? y.cls y.name y.desc = some mk := State.methodFound?_of_named hnamed hy
  obtain ⟨-, k, hk, hni⟩ := Cond.sameMethod_spec (findClass_of_methodNamed hnamed) hfound hsm
  have hsel : selectMethod {} s.vm c mk = .method mk := selectMethod_private hmethM (Cond.privateMethod_at hpriv mk methM hnamed hmethM)
  simp only [Cond.before, Cond.holds, Cond.value, hc, hfound, hnamed, hsel, hk]
  simp
  exact hni
theorem zsel {X : zX} {s : State} {args : Array Value} {mk : Nat} {c : ClassId} (hmk : mk ∈ zUs) (hts : ∀ w ∈ zTs, w.before args s = true) (hKs : zK X s s.heap) (hc : s.vm.findClass RJ4 = some c) : (Cond.selects RJ4 (zasb (zY mk)) (zY mk)).before args s = true := by
  have hall := List.all_eq_true.mp zus_all mk hmk
  simp only [Bool.and_eq_true, decide_eq_true_eq] at hall
  obtain ⟨⟨⟨⟨u1, -⟩, -⟩, -⟩, -⟩ := hall
  have hus : ∀ w ∈ zus mk, w.before args s = true := fun w hw => hts w (zu_of u1 w hw)
  have hx : zux mk ∈ lw_tbl := of_decide_eq_true (List.all_eq_true.mp zux_all mk hmk)
  have h1 := hus _ (List.mem_of_getElem? (i := 0) rfl)
  have h2 := hus _ (List.mem_of_getElem? (i := 2) rfl)
  have priv : ∀ k, mk = k → (k = 181 ∨ k = 182 ∨ k = 190 ∨ k = 191) → (Cond.privateMethod (zY k)).before args s = true := fun k e hk => by
    subst e
    have e2 : zux mk = .privateMethod (zY mk) := by rcases hk with rfl | rfl | rfl | rfl <;> rfl
    rw [e2] at hx
    exact va_Nw.use rfl (hKs.2.2.2.1 _ (List.mem_filter.mpr ⟨hx, rfl⟩))
  have pub : ∀ w, zux mk = w → goodWord w = true → w.before args s = true := fun w e hg => hts w (List.mem_filter.mpr ⟨by rw [← e]; exact hx, hg⟩)
  simp only [zUs, List.mem_cons, List.not_mem_nil, or_false] at hmk
  rcases hmk with rfl | rfl | rfl | rfl | rfl | rfl | rfl
  · exact zsel_priv ⟨by decide, by decide⟩ h1 (priv 181 rfl (by decide)) h2 hc
  · exact zsel_priv ⟨by decide, by decide⟩ h1 (priv 182 rfl (by decide)) h2 hc
  · exact pub _ rfl rfl
  · exact pub _ rfl rfl
  · exact zsel_priv ⟨by decide, by decide⟩ h1 (priv 190 rfl (by decide)) h2 hc
  · exact zsel_priv ⟨by decide, by decide⟩ h1 (priv 191 rfl (by decide)) h2 hc
  · exact pub _ rfl rfl
def zvs (mk : Nat) : List Cond := [.sameMethod (zY mk).cls (zY mk).cls (zY mk).name (zY mk).desc, .superclass RJ4 (zY mk).cls, .instanceMethod (zY mk)]
def zVs : List Nat := [180, 183, 184, 185, 186, 187]
set_option maxRecDepth 200000 in
theorem zvs_all : (zVs.all fun mk => (zvs mk).all fun w => decide (w ∈ lw_tbl) && goodWord w) = true := by decide +kernel
section ZJC
variable {l : Launch} {X : zX} {d bc bs bc1 bc2 bs1 bs2 mi pc : Nat} {ls : List (Nat × Value)} {st : List Value} {n : Nat} {K : zKT} {P : zPT} {I : zIT} {L : zLT} {Post Q : zPost} {r1 r2 r3 mk idx : Nat} {av rest : List Value}
/-- a method of the builder's superclass, or one named by the superclass -/
theorem zV_cu {a k : Nat} (h : zl mi pc = some (.invokevirtual idx, 3, mk, r2, r3)) (hr2 : r2 = 4 ∨ r2 = 12) (hmk : mk ∈ zUs) (hKa : K a = some (1, k)) (hav : av.length = zNP mk) (hlen : (lg_sl (.ref a :: av)).length ≤ zL mk) (hW : (rest.map fun v => v.category).sum ≤ 8) (hc : zC l X d bc1 bs1 mk (.ref a :: av) n K P I L Q)
    (kk : ∀ (v : Option Value) (n' : Nat) (K' : zKT) (P' : zPT) (I' : zIT) (L' : zLT), Q (.inl v) n' K' P' I' L' → zV l X (d + 1) bc2 bs2 mi (pc + 3) ls (v.toList ++ rest) n' K' P' I' L' Post)
    (kx : ∀ (x n' : Nat) (K' : zKT) (P' : zPT) (I' : zIT) (L' : zLT), x < 6 → Q (.inr x) n' K' P' I' L' → zXh l X (d + 1) bc2 bs2 mi pc ls x n' K' P' I' L' Post) :
    zV l X (d + 1) (bc1 + bc2) (bs1 + bs2) mi pc ls (av.reverse ++ .ref a :: rest) n K P I L Post := by
  intro p e R s m args below meth c H locs cells slots mc ms lsr S D hl
  have hk : zhas (zi mk).2.2.2.2.2.2.1 (.instanceMethod (zY mk)) = true ∧ (zH mk).isEmpty = true ∧ mk < 224 ∧ mk ≠ 178 := by
    have hk := zkc_at h
    rcases hr2 with rfl | rfl <;> (simp only [zkc, Bool.and_eq_true, decide_eq_true_eq] at hk; exact ⟨hk.1.1.1, hk.1.1.2, hk.1.2, hk.2⟩)
  obtain ⟨-, k2, k3, k4⟩ := hk
  have hw : zhas r3 (.methodLink (zO mi) idx (zasb (zY mk))) = true := by
    rcases hr2 with rfl | rfl
    · exact zl_wc h
    · exact zl_wc h
  obtain ⟨hxx, hb, hml, hown, hts, hrt, hlk, htab, hnm, hdf, hdl, hKs, hst⟩ := id S
  obtain ⟨d1, d2, d3, d4, hS, hpic⟩ := id D
  obtain ⟨r, cell, g1, g2, g3, g4⟩ := zown_at hKs hpic hKa (by decide)
  cases g1
  obtain ⟨i1, i2, i3, i4, i5, i6⟩ := zmI k3 k4
  obtain ⟨q1, q2⟩ := zroom k3 k4 hdf hdl bc1 bs1
  have hcw : zcw mk = .code (zY mk) (zB mk) (zL mk) (zRt mk) := zcw_nil k2
  have hall := List.all_eq_true.mp zus_all mk hmk
  simp only [Bool.and_eq_true, decide_eq_true_eq] at hall
  obtain ⟨⟨⟨⟨u1, u2⟩, u3⟩, u4⟩, u5⟩ := hall
  have hus : ∀ w ∈ zus mk, w.before args s = true := fun w hw => hts w (zu_of u1 w hw)
  have hcode : (Cond.code (zasb (zY mk)) (zB (zuc mk)) (zL (zuc mk)) (zRt (zuc mk))).before args s = true := by
    rw [← u2, ← zcw_nil u5]
    exact hts _ (zcw_in u3 u4)
  have cw : va_CU R s args (zO mi) RJ4 RJ5 idx (zasb (zY mk)) (zY mk) (zB mk) (zL mk) (zRt mk) (zcw mk :: zTs) (zRm d bc1 bs1) bc1 bs1 (zNP mk) := by
    refine ⟨⟨rfl, rfl, q1, q2, pay_in hts (zws_good k3 k4), by rw [hcw]; exact List.mem_cons_self⟩, by rw [← hcw]; exact hts _ (zcw_in k3 k4), hts _ (zTs_in i1 rfl), ⟨by decide, by decide⟩, fun sig hs => ?_, hts _ (zTs_in hw rfl), hus _ (List.mem_of_getElem? (i := 0) rfl), va_Decl.of (hus _ (List.mem_of_getElem? (i := 1) rfl)) hcode, zsel hmk hts hKs g4, hus _ (List.mem_of_getElem? (i := 2) rfl)⟩
    have hs : parseMethodDescriptor (zY mk).desc = some sig := hs
    rw [hs] at i3
    exact (Option.some.inj i3).symm
  exact zV_after S D hl (vx_runU (C := RJ4) (b := a) (As := av) (rest := rest) ⟨hxx, hb, hml, hown, hts⟩ (zMet k3 k4 hst hlen hc) cw
    ⟨zPc_blind, ⟨cell, g2, g3, g4⟩, fun _ hU hW => zPc_at hKs hS hpic hU hW⟩ rfl hav hl.1 rfl (by show 2 * 0 + _ ≤ 8; omega) (zl_dec h) ⟨by omega, by omega⟩) kk kx
/-- the superclass's own method -/
theorem zV_csu {a k : Nat} (h : zl mi pc = some (.invokespecial idx, 3, mk, 8, r3)) (ho : zO mi = RJ4) (hmk : mk ∈ zVs) (hKa : K a = some (1, k)) (hav : av.length = zNP mk) (hlen : (lg_sl (.ref a :: av)).length ≤ zL mk) (hW : (rest.map fun v => v.category).sum ≤ 8) (hc : zC l X d bc1 bs1 mk (.ref a :: av) n K P I L Q)
    (kk : ∀ (v : Option Value) (n' : Nat) (K' : zKT) (P' : zPT) (I' : zIT) (L' : zLT), Q (.inl v) n' K' P' I' L' → zV l X (d + 1) bc2 bs2 mi (pc + 3) ls (v.toList ++ rest) n' K' P' I' L' Post)
    (kx : ∀ (x n' : Nat) (K' : zKT) (P' : zPT) (I' : zIT) (L' : zLT), x < 6 → Q (.inr x) n' K' P' I' L' → zXh l X (d + 1) bc2 bs2 mi pc ls x n' K' P' I' L' Post) :
    zV l X (d + 1) (bc1 + bc2) (bs1 + bs2) mi pc ls (av.reverse ++ .ref a :: rest) n K P I L Post := by
  intro p e R s m args below meth c H locs cells slots mc ms lsr S D hl
  have hk := zkc_at h
  simp only [zkc, Bool.and_eq_true, decide_eq_true_eq] at hk
  obtain ⟨⟨⟨⟨k1, k5⟩, k2⟩, k3⟩, k4⟩ := hk
  have hw : zhas r3 (.methodLink (zO mi) idx (zY mk)) = true := zl_wc h
  obtain ⟨hxx, hb, hml, hown, hts, hrt, hlk, htab, hnm, hdf, hdl, hKs, hst⟩ := id S
  obtain ⟨d1, d2, d3, d4, hS, hpic⟩ := id D
  obtain ⟨r, cell, g1, g2, g3, g4⟩ := zown_at hKs hpic hKa (by decide)
  cases g1
  obtain ⟨i1, i2, i3, i4, i5, i6⟩ := zmI k3 k4
  obtain ⟨q1, q2⟩ := zroom k3 k4 hdf hdl bc1 bs1
  have hcw : zcw mk = .code (zY mk) (zB mk) (zL mk) (zRt mk) := zcw_nil k2
  have hvs : ∀ w ∈ zvs mk, w.before args s = true := fun w hw => hts w (zu_of (List.all_eq_true.mp zvs_all mk hmk) w hw)
  have cw : va_CS R s args (zO mi) idx (zY mk) (zB mk) (zL mk) (zRt mk) (zcw mk :: zTs) (zRm d bc1 bs1) bc1 bs1 (zNP mk) := by
    refine ⟨⟨rfl, rfl, q1, q2, pay_in hts (zws_good k3 k4), by rw [hcw]; exact List.mem_cons_self⟩, hts _ (zTs_in hw rfl), hvs _ (List.mem_of_getElem? (i := 0) rfl), by rw [ho]; exact hvs _ (List.mem_of_getElem? (i := 1) rfl), hvs _ (List.mem_of_getElem? (i := 2) rfl), hts _ (zTs_in i1 rfl), by rw [← hcw]; exact hts _ (zcw_in k3 k4), k5, fun sig hs => ?_⟩
    rw [hs] at i3
    exact (Option.some.inj i3).symm
  exact zV_after S D hl (vx_runSU (C := RJ4) (b := a) (As := av) (rest := rest) (hKs.2.1.1 1 _ rfl).2 ⟨hxx, hb, hml, hown, hts⟩ (zMet k3 k4 hst hlen hc) cw
    ⟨zPc_blind, ⟨cell, g2, g3, g4⟩, fun _ hU hW => zPc_at hKs hS hpic hU hW⟩ rfl hav hl.1 rfl (by show 2 * 0 + _ ≤ 8; omega) (zl_dec h) ⟨by omega, by omega⟩) kk kx
/-- the static that holds a formatter: null or not -/
theorem zV_gets3 (h : zl mi pc = some (.getstatic idx, 3, 3, r2, r3)) (k0 : zV l X d bc bs mi (pc + 3) ls (.null :: st) n K P I L Post) (k1 : ∀ t : Nat, zV l X d bc bs mi (pc + 3) ls (.ref t :: st) n K P I L Post) : zV l X d bc bs mi pc ls st n K P I L Post := by
  intro p e R s m args below meth c H locs cells slots mc ms lsr S D hl
  obtain ⟨hxx, hb, hml, hown, hts, hrt, hlk, htab, hnm, hdf, hdl, hKs, hst⟩ := id S
  obtain ⟨d1, d2, d3, d4, hS, hpic⟩ := id D
  have hw := hts _ (zTs_in (w := .fieldLink (zO mi) idx "jdk/internal/util/Preconditions" "SIOOBE_FORMATTER" "Ljava/util/function/BiFunction;") (i := r3) (zl_wc h) rfl)
  rcases hKs.2.2.1.2.2.2.1.1 with hz | ⟨t, hz⟩
  · exact va_gets hxx hb hz hS hown hw (fun _ q => q) (zl_dec h) (k0 p e R s m args below meth c H locs cells slots mc ms lsr S D hl)
  · exact va_gets hxx hb hz hS hown hw (fun _ q => q) (zl_dec h) (k1 t p e R s m args below meth c H locs cells slots mc ms lsr S D hl)
def zuB (I : zIT) (a b o k : Nat) : zIT := fun q => if q = b then va_cpy (I a) (I b) 0 o k else I q
/-- bytes are copied, from a row's start to a place of another, own row -/
theorem zV_copyB {a b ka na nb : Nat} {k o : Int32} (h : zl mi pc = some (.invokestatic idx, 3, r1, 9, r3)) (hKa : K a = some (ka, na)) (hka : ka = 103 ∨ ka = 113) (hKb : K b = some (103, nb)) (hk : ¬ k < 0) (ho : ¬ o < 0) (h1 : k.toNatClampNeg ≤ na) (h2 : o.toNatClampNeg + k.toNatClampNeg ≤ nb)
    (hfit : ∀ i, i < k.toNatClampNeg → fits .byte (.int (I a i)) = true) (hW : (st.map fun v => v.category).sum ≤ 8)
    (kk : zV l X (d + 1) bc bs mi (pc + 3) ls st n K P (zuB I a b o.toNatClampNeg k.toNatClampNeg) L Post) : zV l X (d + 1) bc bs mi pc ls (.int k :: .int o :: .ref b :: .int 0 :: .ref a :: st) n K P I L Post := by
  intro p e R s m args below meth c H locs cells slots mc ms lsr S D hl
  obtain ⟨hxx, hb, hml, hown, hts, hrt, hlk, htab, hnm, hdf, hdl, hKs, hst⟩ := id S
  obtain ⟨d1, d2, d3, d4, hS, hpic⟩ := id D
  obtain ⟨scr, c1, c2, c3, c4, c5⟩ := zAt_rd hKs (hpic.2 a ka na hKa) (by omega)
  have c2' : s.isArrayOf scr .byte := by rcases hka with rfl | rfl <;> exact c2
  have c5' : ∀ j, j < na → scr.slots[j]? = some (.int (I a j)) := fun j hj => by
    rw [c5 j hj]
    rcases hka with rfl | rfl <;> rfl
  obtain ⟨hAb, hbb⟩ := (hpic.2 b 103 nb hKb).2.1 (by decide) (by decide)
  have hbb : H[b]? = some (arrV (X.2.2.1 103) nb (fun j => .int (I b j))) := hbb
  have hlr : (st.map fun v => v.category).sum + (nativeFrameWords "java/lang/System" "arraycopy" 5 + 11) ≤ R.locals := by
    have : nativeFrameWords "java/lang/System" "arraycopy" 5 ≤ 30 := by decide
    omega
  have z0 : (0 : Int32).toNatClampNeg = 0 := rfl
  have zi0 : (0 : Int32).toInt = 0 := rfl
  have hK103 : ArrOfT s (X.2.2.1 103) .byte := zK_arr hKs (k := 103) (by omega)
  intro T hT Xs
  obtain ⟨hs6, k0, hk0, cm0, hkk0⟩ := c2'
  obtain ⟨-, k1, hk1, cm1, hkk1⟩ := hK103 nb (fun j => .int (I b j))
  obtain ⟨vm', X', step⟩ := Xs.arraycopy hxx hown (hts _ (zTs_in (w := .methodLink (zO mi) idx arraycopyName) (i := r3) (zl_wc h) rfl)) (hts _ (zcp_in 0 rfl)) (hts _ (zcp_in 1 rfl)) (hts _ (zcp_in 2 rfl)) (src := a) (dst := b) (cs := scr) (cd := arrV (X.2.2.1 103) nb (fun j => .int (I b j))) (srcPos := 0) (destPos := o) (n := k) (by rw [hT]; exact c1) (by rw [hT]; exact hbb)
    hs6 (fun _ h => by cases h) c3 (fun h => by cases h) hk0 hk1 hkk0 hkk1 (by simp [refKind]) (by decide) ho hk
    (by rw [zi0, znn hk]; have := c4.1; omega) (by rw [znn ho, znn hk, arrV_size]; omega)
    (fun vm₁ _ i hi => by
      have e : scr.slots.getD ((0 : Int32).toNatClampNeg + i) .null = .int (I a i) := by
        rw [z0, Nat.zero_add, Array.getD_eq_getD_getElem?, c5' _ (by omega)]
        rfl
      exact ⟨by rw [e]; exact hfit i hi, by rw [e]; exact trivial⟩)
    (g := F0 m pc lsr (.int k :: .int o :: .ref b :: .int 0 :: .ref a :: st)) rfl (by rw [hl.1, hml]) (rest := st) rfl (by rw [hb]; exact zl_dec h) (by omega) (by show 2 * 0 + _ + _ ≤ _; omega)
  have e1 : copied scr (arrV (X.2.2.1 103) nb (fun j => .int (I b j))) 0 o k = arrV (X.2.2.1 103) nb (fun j => .int (va_cpy (I a) (I b) 0 o.toNatClampNeg k.toNatClampNeg j)) := va_copiedX (fun z => .int z) scr (X.2.2.1 103) (I a) (I b) c5' (by rw [z0]; omega)
  rw [e1] at X' step
  have hlb : b < H.size := (Array.getElem?_eq_some_iff.mp hbb).1
  have hheap : ((T.setVm vm').setCell b (arrV (X.2.2.1 103) nb (fun j => .int (va_cpy (I a) (I b) 0 o.toNatClampNeg k.toNatClampNeg j)))).heap = H.setIfInBounds b (arrV (X.2.2.1 103) nb (fun j => .int (va_cpy (I a) (I b) 0 o.toNatClampNeg k.toNatClampNeg j))) := by rw [← hT]; rfl
  have o1 : ∀ q : Nat, q ≠ b → (H.setIfInBounds b (arrV (X.2.2.1 103) nb (fun j => .int (va_cpy (I a) (I b) 0 o.toNatClampNeg k.toNatClampNeg j))))[q]? = H[q]? := fun q hq => by simp [Array.getElem?_setIfInBounds, Ne.symm hq]
  have hnew : zAt X s (H.setIfInBounds b (arrV (X.2.2.1 103) nb (fun j => .int (va_cpy (I a) (I b) 0 o.toNatClampNeg k.toNatClampNeg j)))) P (zuB I a b o.toNatClampNeg k.toNatClampNeg) L b 103 nb := by
    refine ⟨fun q => absurd q (by omega), fun _ _ => ⟨hAb, ?_⟩, fun q => absurd q (by omega), fun q => absurd q (by omega)⟩
    simp only [Array.getElem?_setIfInBounds, hlb, if_true]
    congr 2
    funext j
    simp [zel, zuB]
  obtain ⟨t, a1, b1⟩ := kk p e R s m args below meth c (H.setIfInBounds b (arrV (X.2.2.1 103) nb (fun j => .int (va_cpy (I a) (I b) 0 o.toNatClampNeg k.toNatClampNeg j)))) _ cells slots mc ms lsr S ⟨d1, d2, d3, d4, ⟨by simp; exact hS.1, fun q g1 g2 => (o1 q (fun e => g2 (by rw [e]; exact hAb))).trans (hS.2.1 q g1 g2), fun q hq => (by
    rcases List.mem_append.mp hq with h | h
    · exact hS.2.2 q h
    · obtain ⟨w, -, hw⟩ := List.mem_map.mp h
      rw [← hw]; exact hAb)⟩, zPic_put hpic hKb hnew (by simp) o1 (fun _ _ => rfl) (fun q hq => if_neg hq) (fun _ _ => rfl)⟩ hl _ hheap X'
  exact ⟨t, step t a1, b1⟩
/-- calls that change nothing -/
theorem zV_csq {v : Value} (h : zl mi pc = some (.invokestatic idx, 3, mk, 0, r3)) (hav : av.length = zNP mk) (hlen : (lg_sl av).length ≤ zL mk) (hW : (rest.map fun v => v.category).sum ≤ 8) (hc : zC l X d 0 0 mk av n K P I L (zSame n K P I L v)) (k : zV l X (d + 1) bc bs mi (pc + 3) ls (v :: rest) n K P I L Post) : zV l X (d + 1) bc bs mi pc ls (av.reverse ++ rest) n K P I L Post := by
  refine zV_bud (bc := 0 + bc) (bs := 0 + bs) (by omega) (by omega) (zV_cs h hav hlen hW hc ?_ (by rintro x n K P I L - ⟨hv, -⟩; cases hv))
  rintro v' n' K' P' I' L' ⟨hv, rfl, rfl, rfl, rfl, rfl⟩
  cases hv
  exact k
theorem zV_cuq {v : Value} {a k0 : Nat} (h : zl mi pc = some (.invokevirtual idx, 3, mk, r2, r3)) (hr2 : r2 = 4 ∨ r2 = 12) (hmk : mk ∈ zUs) (hKa : K a = some (1, k0)) (hav : av.length = zNP mk) (hlen : (lg_sl (.ref a :: av)).length ≤ zL mk) (hW : (rest.map fun v => v.category).sum ≤ 8) (hc : zC l X d 0 0 mk (.ref a :: av) n K P I L (zSame n K P I L v)) (k : zV l X (d + 1) bc bs mi (pc + 3) ls (v :: rest) n K P I L Post) : zV l X (d + 1) bc bs mi pc ls (av.reverse ++ .ref a :: rest) n K P I L Post := by
  refine zV_bud (bc := 0 + bc) (bs := 0 + bs) (by omega) (by omega) (zV_cu h hr2 hmk hKa hav hlen hW hc ?_ (by rintro x n K P I L - ⟨hv, -⟩; cases hv))
  rintro v' n' K' P' I' L' ⟨hv, rfl, rfl, rfl, rfl, rfl⟩
  cases hv
  exact k
theorem zV_csuq {v : Value} {a k0 : Nat} (h : zl mi pc = some (.invokespecial idx, 3, mk, 8, r3)) (ho : zO mi = RJ4) (hmk : mk ∈ zVs) (hKa : K a = some (1, k0)) (hav : av.length = zNP mk) (hlen : (lg_sl (.ref a :: av)).length ≤ zL mk) (hW : (rest.map fun v => v.category).sum ≤ 8) (hc : zC l X d 0 0 mk (.ref a :: av) n K P I L (zSame n K P I L v)) (k : zV l X (d + 1) bc bs mi (pc + 3) ls (v :: rest) n K P I L Post) : zV l X (d + 1) bc bs mi pc ls (av.reverse ++ .ref a :: rest) n K P I L Post := by
  refine zV_bud (bc := 0 + bc) (bs := 0 + bs) (by omega) (by omega) (zV_csu h ho hmk hKa hav hlen hW hc ?_ (by rintro x n K P I L - ⟨hv, -⟩; cases hv))
  rintro v' n' K' P' I' L' ⟨hv, rfl, rfl, rfl, rfl, rfl⟩
  cases hv
  exact k
theorem zV_cSq {v : Value} {a k0 m0 : Nat} (h : zl mi pc = some (.invokevirtual idx, 3, mk, 3, r3)) (hKa : K a = some (k0, m0)) (hk : k0 = 120 ∨ k0 = 0) (hco : zO mk = RJ0) (hav : av.length = zNP mk) (hlen : (lg_sl (.ref a :: av)).length ≤ zL mk) (hW : (rest.map fun v => v.category).sum ≤ 8) (hc : zC l X d 0 0 mk (.ref a :: av) n K P I L (zSame n K P I L v)) (k : zV l X (d + 1) bc bs mi (pc + 3) ls (v :: rest) n K P I L Post) : zV l X (d + 1) bc bs mi pc ls (av.reverse ++ .ref a :: rest) n K P I L Post := by
  refine zV_bud (bc := 0 + bc) (bs := 0 + bs) (by omega) (by omega) (zV_cvS h hKa hk hco hav hlen hW hc ?_ (by rintro x n K P I L - ⟨hv, -⟩; cases hv))
  rintro v' n' K' P' I' L' ⟨hv, rfl, rfl, rfl, rfl, rfl⟩
  cases hv
  exact k
/-- a field of a String, old or new -/
theorem zV_gSI {a k0 m0 : Nat} (h : zl mi pc = some (.getfield idx, 3, 0, 1, r3)) (hKa : K a = some (k0, m0)) (hk : k0 = 120 ∨ k0 = 0) (kk : zV l X d bc bs mi (pc + 3) ls (.int (I a 1) :: st) n K P I L Post) : zV l X d bc bs mi pc ls (.ref a :: st) n K P I L Post := by
  rcases hk with rfl | rfl
  · exact zV_getS h hKa (by decide) kk
  · exact zV_getI h hKa (by decide) rfl kk
theorem zV_gSR {a k0 m0 q : Nat} (h : zl mi pc = some (.getfield idx, 3, 0, 0, r3)) (hKa : K a = some (k0, m0)) (hk : k0 = 120 ∨ k0 = 0) (hp : P a 0 = some q) (kk : zV l X d bc bs mi (pc + 3) ls (.ref q :: st) n K P I L Post) : zV l X d bc bs mi pc ls (.ref a :: st) n K P I L Post := by
  rcases hk with rfl | rfl
  · refine zV_getS h hKa (by decide) ?_
    have e : zfv 0 0 P I a = .ref q := by
      unfold zfv
      rw [hp]
      rfl
    rw [e]
    exact kk
  · exact zV_getR h hKa (by decide) rfl hp kk
end ZJC
