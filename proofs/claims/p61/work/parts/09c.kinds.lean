/-! THE KINDS OF CALLS -/
theorem zkc_at {mi pc : Nat} {q : Instr × Nat × Nat × Nat × Nat} (h : zl mi pc = some q) : zkc (pc, q) = true := by
  have hm := zfind_mem h
  rw [List.getD_eq_getElem?_getD] at hm
  cases hg : ztab[mi]? with
  | none => rw [hg] at hm; cases hm
  | some t =>
    rw [hg] at hm
    exact List.all_eq_true.mp (List.all_eq_true.mp zkc_all t (List.mem_of_getElem? hg)) _ hm
theorem zcw_nil {mi : Nat} (h : (zH mi).isEmpty = true) : zcw mi = .code (zY mi) (zB mi) (zL mi) (zRt mi) := by
  unfold zcw
  cases hH : zH mi with
  | nil => rfl
  | cons a t => rw [hH] at h; cases h
theorem zcw_cons {mi : Nat} (h : (!(zH mi).isEmpty) = true) : zcw mi = .codeWith (zY mi) (zB mi) (zL mi) (zRt mi) (zH mi) := by
  unfold zcw
  cases hH : zH mi with
  | nil => rw [hH] at h; cases h
  | cons a t => rfl
section ZK
variable {l : Launch} {X : zX} {d bc1 bc2 bs1 bs2 mi pc : Nat} {ls : List (Nat × Value)} {n : Nat} {K : zKT} {P : zPT} {I : zIT} {L : zLT} {Post Q : zPost} {r3 mk idx : Nat} {av rest : List Value}
theorem zroom {R : Room} {d mk : Nat} (h : mk < 224) (hne : mk ≠ 178) (h1 : d + 1 ≤ R.frames) (h2 : 60 * (d + 1) ≤ R.locals) (bc bs : Nat) : (zRm d bc bs).frames + 1 ≤ R.frames ∧ 8 + (zL mk + 11) + (zRm d bc bs).locals ≤ R.locals := by
  have := (zmI h hne).2.1
  refine ⟨h1, ?_⟩
  show 8 + (zL mk + 11) + 60 * d ≤ R.locals
  omega
theorem zcallB {p : Program} {e : Env} {R : Room} {s : State} {m : MethodId} {args : Array Value} {below : List Frame} {meth : Method} {c : Code} (S : zS p l e R s m args below meth c X (d + 1) mi) (h : mk < 224) (hne : mk ≠ 178) (hH : (zH mk).isEmpty = true) (hl : (Cond.methodLink (zO mi) idx (zY mk)).before args s = true) :
    CallB R s args (zO mi) idx (zY mk) (zB mk) (zL mk) (zRt mk) (zcw mk :: zTs) (zRm d bc1 bs1) bc1 bs1 (zNP mk) := by
  obtain ⟨hxx, hb, hml, hown, hts, hrt, hlk, htab, hnm, hdf, hdl, hKs, hst⟩ := S
  obtain ⟨g1, g2, g3, g4, g5, g6⟩ := zmI h hne
  obtain ⟨q1, q2⟩ := zroom h hne hdf hdl bc1 bs1
  have hc : zcw mk = .code (zY mk) (zB mk) (zL mk) (zRt mk) := zcw_nil hH
  refine ⟨rfl, rfl, q1, q2, pay_in hts (zws_good h hne), by rw [hc]; exact List.mem_cons_self, by rw [← hc]; exact hts _ (zcw_in h hne), hts _ (zTs_in g1 rfl), ⟨g5, g6⟩, fun sig hs => ?_, hl⟩
  rw [hs] at g3
  exact (Option.some.inj g3).symm
theorem zpre {s : State} {H : Heap} {locs : List Loc} (hK : zK X s s.heap) (hS : va_S (zA X) s.heap H locs) (hpic : zPic X s H n K P I L) : PreS s H (zPc X av n K P I L) av := ⟨zPc_blind, fun _ hU hW => zPc_at hK hS hpic hU hW⟩
/-- a static method of the class itself or of another one, without handlers -/
theorem zV_cs (h : zl mi pc = some (.invokestatic idx, 3, mk, 0, r3)) (hav : av.length = zNP mk) (hlen : (lg_sl av).length ≤ zL mk) (hW : (rest.map fun v => v.category).sum ≤ 8) (hc : zC l X d bc1 bs1 mk av n K P I L Q)
    (kk : ∀ (v : Option Value) (n' : Nat) (K' : zKT) (P' : zPT) (I' : zIT) (L' : zLT), Q (.inl v) n' K' P' I' L' → zV l X (d + 1) bc2 bs2 mi (pc + 3) ls (v.toList ++ rest) n' K' P' I' L' Post)
    (kx : ∀ (x n' : Nat) (K' : zKT) (P' : zPT) (I' : zIT) (L' : zLT), x < 6 → Q (.inr x) n' K' P' I' L' → zXh l X (d + 1) bc2 bs2 mi pc ls x n' K' P' I' L' Post) :
    zV l X (d + 1) (bc1 + bc2) (bs1 + bs2) mi pc ls (av.reverse ++ rest) n K P I L Post := by
  intro p e R s m args below meth c H locs cells slots mc ms lsr S D hl
  have hk := zkc_at h
  simp only [zkc, Bool.and_eq_true, decide_eq_true_eq] at hk
  obtain ⟨⟨⟨k1, k2⟩, k3⟩, k4⟩ := hk
  have hw : zhas r3 (.methodLink (zO mi) idx (zY mk)) = true := zl_wc h
  obtain ⟨hxx, hb, hml, hown, hts, hrt, hlk, htab, hnm, hdf, hdl, hKs, hst⟩ := id S
  obtain ⟨d1, d2, d3, d4, hS, hpic⟩ := id D
  exact zV_after S D hl (vx_runS (As := av) (rest := rest) ⟨hxx, hb, hml, hown, hts⟩ (zMet k3 k4 hst hlen hc) ⟨zcallB S k3 k4 k2 (hts _ (zTs_in hw rfl)), hts _ (zTs_in k1 rfl)⟩ (zpre hKs hS hpic) rfl hav hl.1 rfl (by show 2 * 0 + _ ≤ 8; omega) (zl_dec h) ⟨by omega, by omega⟩) kk kx
/-- a static method with handlers -/
theorem zV_csx (h : zl mi pc = some (.invokestatic idx, 3, mk, 1, r3)) (hav : av.length = zNP mk) (hlen : (lg_sl av).length ≤ zL mk) (hW : (rest.map fun v => v.category).sum ≤ 8) (hc : zC l X d bc1 bs1 mk av n K P I L Q)
    (kk : ∀ (v : Option Value) (n' : Nat) (K' : zKT) (P' : zPT) (I' : zIT) (L' : zLT), Q (.inl v) n' K' P' I' L' → zV l X (d + 1) bc2 bs2 mi (pc + 3) ls (v.toList ++ rest) n' K' P' I' L' Post)
    (kx : ∀ (x n' : Nat) (K' : zKT) (P' : zPT) (I' : zIT) (L' : zLT), x < 6 → Q (.inr x) n' K' P' I' L' → zXh l X (d + 1) bc2 bs2 mi pc ls x n' K' P' I' L' Post) :
    zV l X (d + 1) (bc1 + bc2) (bs1 + bs2) mi pc ls (av.reverse ++ rest) n K P I L Post := by
  intro p e R s m args below meth c H locs cells slots mc ms lsr S D hl
  have hk := zkc_at h
  simp only [zkc, Bool.and_eq_true, decide_eq_true_eq] at hk
  obtain ⟨⟨⟨k1, k2⟩, k3⟩, k4⟩ := hk
  have hw : zhas r3 (.methodLink (zO mi) idx (zY mk)) = true := zl_wc h
  obtain ⟨hxx, hb, hml, hown, hts, hrt, hlk, htab, hnm, hdf, hdl, hKs, hst⟩ := id S
  obtain ⟨d1, d2, d3, d4, hS, hpic⟩ := id D
  obtain ⟨g1, g2, g3, g4, g5, g6⟩ := zmI k3 k4
  obtain ⟨q1, q2⟩ := zroom k3 k4 hdf hdl bc1 bs1
  have hcw : zcw mk = .codeWith (zY mk) (zB mk) (zL mk) (zRt mk) (zH mk) := zcw_cons k2
  have cw : vx_CSW R s args (zO mi) idx (zY mk) (zB mk) (zL mk) (zRt mk) (zH mk) (zcw mk :: zTs) (zRm d bc1 bs1) bc1 bs1 (zNP mk) := by
    refine ⟨⟨rfl, rfl, q1, q2, pay_in hts (zws_good k3 k4), by rw [hcw]; exact List.mem_cons_self⟩, by rw [← hcw]; exact hts _ (zcw_in k3 k4), hts _ (zTs_in g1 rfl), ⟨g5, g6⟩, fun sig hs => ?_, hts _ (zTs_in hw rfl), hts _ (zTs_in k1 rfl)⟩
    rw [hs] at g3
    exact (Option.some.inj g3).symm
  exact zV_after S D hl (vx_runSX (As := av) (rest := rest) ⟨hxx, hb, hml, hown, hts⟩ (zMet k3 k4 hst hlen hc) cw (zpre hKs hS hpic) rfl hav hl.1 rfl (by show 2 * 0 + _ ≤ 8; omega) (zl_dec h) ⟨by omega, by omega⟩) kk kx
/-- a private static method of a class of the same nest -/
theorem zV_csn (h : zl mi pc = some (.invokestatic idx, 3, mk, 2, r3)) (hav : av.length = zNP mk) (hlen : (lg_sl av).length ≤ zL mk) (hW : (rest.map fun v => v.category).sum ≤ 8) (hc : zC l X d bc1 bs1 mk av n K P I L Q)
    (kk : ∀ (v : Option Value) (n' : Nat) (K' : zKT) (P' : zPT) (I' : zIT) (L' : zLT), Q (.inl v) n' K' P' I' L' → zV l X (d + 1) bc2 bs2 mi (pc + 3) ls (v.toList ++ rest) n' K' P' I' L' Post)
    (kx : ∀ (x n' : Nat) (K' : zKT) (P' : zPT) (I' : zIT) (L' : zLT), x < 6 → Q (.inr x) n' K' P' I' L' → zXh l X (d + 1) bc2 bs2 mi pc ls x n' K' P' I' L' Post) :
    zV l X (d + 1) (bc1 + bc2) (bs1 + bs2) mi pc ls (av.reverse ++ rest) n K P I L Post := by
  intro p e R s m args below meth c H locs cells slots mc ms lsr S D hl
  have hk := zkc_at h
  simp only [zkc, Bool.and_eq_true, decide_eq_true_eq] at hk
  obtain ⟨⟨⟨k1, k2⟩, k3⟩, k4⟩ := hk
  have hw : zhas r3 (.methodLinkNest (zO mi) idx (zY mk) RX4) = true := zl_wc h
  obtain ⟨hxx, hb, hml, hown, hts, hrt, hlk, htab, hnm, hdf, hdl, hKs, hst⟩ := id S
  obtain ⟨d1, d2, d3, d4, hS, hpic⟩ := id D
  obtain ⟨g1, g2, g3, g4, g5, g6⟩ := zmI k3 k4
  obtain ⟨q1, q2⟩ := zroom k3 k4 hdf hdl bc1 bs1
  have hcw : zcw mk = .code (zY mk) (zB mk) (zL mk) (zRt mk) := zcw_nil k2
  have cw : va_CN R s args (zO mi) idx (zY mk) RX4 (zB mk) (zL mk) (zRt mk) (zcw mk :: zTs) (zRm d bc1 bs1) bc1 bs1 (zNP mk) := by
    refine ⟨⟨rfl, rfl, q1, q2, pay_in hts (zws_good k3 k4), by rw [hcw]; exact List.mem_cons_self⟩, by rw [← hcw]; exact hts _ (zcw_in k3 k4), hts _ (zTs_in g1 rfl), ⟨g5, g6⟩, fun sig hs => ?_, va_Nw.use rfl (hKs.2.2.2.1 _ (zTf_in hw rfl))⟩
    rw [hs] at g3
    exact (Option.some.inj g3).symm
  exact zV_after S D hl (vx_runSN (As := av) (rest := rest) ⟨hxx, hb, hml, hown, hts⟩ (zMet k3 k4 hst hlen hc) ⟨cw, hts _ (zTs_in k1 rfl), trivial⟩ (zpre hKs hS hpic) rfl hav hl.1 rfl (by show 2 * 0 + _ ≤ 8; omega) (zl_dec h) ⟨by omega, by omega⟩) kk kx
/-- an own object as a receiver -/
theorem zown_at {s : State} {H : Heap} {a ci k : Nat} (hK : zK X s s.heap) (hpic : zPic X s H n K P I L) (hKa : K a = some (ci, k)) (hci : ci < 100) : ∃ (r : vw_C) (cell : Cell), vwCl[ci]? = some r ∧ H[a]? = some cell ∧ cell.vm.isStatics = false ∧ s.vm.findClass r.1 = some cell.cls := by
  obtain ⟨hA, r, g1, g2, cell, q1, q2, q3, q4⟩ := (hpic.2 a ci k hKa).1 hci
  refine ⟨r, cell, g1, q1, by rw [q3]; rfl, ?_⟩
  rw [q2]
  exact (hK.2.1.1 ci r g1).2.1
/-- a method of the receiver's own class -/
theorem zV_cv {a ci k : Nat} (h : zl mi pc = some (.invokevirtual idx, 3, mk, 3, r3)) (hKa : K a = some (ci, k)) (hci : ci < 100) (hco : vwCl[ci]?.map (fun r => r.1) = some (zO mk)) (hav : av.length = zNP mk) (hlen : (lg_sl (.ref a :: av)).length ≤ zL mk) (hW : (rest.map fun v => v.category).sum ≤ 8) (hc : zC l X d bc1 bs1 mk (.ref a :: av) n K P I L Q)
    (kk : ∀ (v : Option Value) (n' : Nat) (K' : zKT) (P' : zPT) (I' : zIT) (L' : zLT), Q (.inl v) n' K' P' I' L' → zV l X (d + 1) bc2 bs2 mi (pc + 3) ls (v.toList ++ rest) n' K' P' I' L' Post)
    (kx : ∀ (x n' : Nat) (K' : zKT) (P' : zPT) (I' : zIT) (L' : zLT), x < 6 → Q (.inr x) n' K' P' I' L' → zXh l X (d + 1) bc2 bs2 mi pc ls x n' K' P' I' L' Post) :
    zV l X (d + 1) (bc1 + bc2) (bs1 + bs2) mi pc ls (av.reverse ++ .ref a :: rest) n K P I L Post := by
  intro p e R s m args below meth c H locs cells slots mc ms lsr S D hl
  have hk := zkc_at h
  simp only [zkc, Bool.and_eq_true, decide_eq_true_eq] at hk
  obtain ⟨⟨⟨⟨k1, k5⟩, k2⟩, k3⟩, k4⟩ := hk
  have hw : zhas r3 (.methodLink (zO mi) idx (zY mk)) = true := zl_wc h
  obtain ⟨hxx, hb, hml, hown, hts, hrt, hlk, htab, hnm, hdf, hdl, hKs, hst⟩ := id S
  obtain ⟨d1, d2, d3, d4, hS, hpic⟩ := id D
  obtain ⟨r, cell, g1, g2, g3, g4⟩ := zown_at hKs hpic hKa hci
  rw [g1] at hco
  have hro : r.1 = zO mk := Option.some.inj hco
  exact zV_after S D hl (vx_runV (C := zO mk) (b := a) (As := av) (rest := rest) ⟨hxx, hb, hml, hown, hts⟩ (zMet k3 k4 hst hlen hc) ⟨zcallB S k3 k4 k2 (hts _ (zTs_in hw rfl)), hts _ (zTs_in k1 rfl), hts _ (zTs_in k5 rfl)⟩
    ⟨zPc_blind, ⟨cell, g2, g3, by rw [← hro]; exact g4⟩, fun _ hU hW => zPc_at hKs hS hpic hU hW⟩ rfl hav hl.1 rfl (by show 2 * 0 + _ ≤ 8; omega) (zl_dec h) ⟨by omega, by omega⟩) kk kx
/-- a constructor -/
theorem zV_ci {a : Nat} (h : zl mi pc = some (.invokespecial idx, 3, mk, 5, r3)) (hav : av.length = zNP mk) (hlen : (lg_sl (.ref a :: av)).length ≤ zL mk) (hW : (rest.map fun v => v.category).sum ≤ 8) (hc : zC l X d bc1 bs1 mk (.ref a :: av) n K P I L Q)
    (kk : ∀ (v : Option Value) (n' : Nat) (K' : zKT) (P' : zPT) (I' : zIT) (L' : zLT), Q (.inl v) n' K' P' I' L' → zV l X (d + 1) bc2 bs2 mi (pc + 3) ls (v.toList ++ rest) n' K' P' I' L' Post)
    (kx : ∀ (x n' : Nat) (K' : zKT) (P' : zPT) (I' : zIT) (L' : zLT), x < 6 → Q (.inr x) n' K' P' I' L' → zXh l X (d + 1) bc2 bs2 mi pc ls x n' K' P' I' L' Post) :
    zV l X (d + 1) (bc1 + bc2) (bs1 + bs2) mi pc ls (av.reverse ++ .ref a :: rest) n K P I L Post := by
  intro p e R s m args below meth c H locs cells slots mc ms lsr S D hl
  have hk := zkc_at h
  simp only [zkc, Bool.and_eq_true, decide_eq_true_eq] at hk
  obtain ⟨⟨⟨⟨⟨k1, k5⟩, k6⟩, k2⟩, k3⟩, k4⟩ := hk
  have hw : zhas r3 (.methodLink (zO mi) idx (zY mk)) = true := zl_wc h
  obtain ⟨hxx, hb, hml, hown, hts, hrt, hlk, htab, hnm, hdf, hdl, hKs, hst⟩ := id S
  obtain ⟨d1, d2, d3, d4, hS, hpic⟩ := id D
  exact zV_after S D hl (vx_runI (b := a) (As := av) (rest := rest) ⟨hxx, hb, hml, hown, hts⟩ (zMet k3 k4 hst hlen hc) ⟨by have := zcallB (bc1 := bc1) (bs1 := bs1) S k3 k4 k2 (hts _ (zTs_in hw rfl)); rw [k6] at this; exact this, k5, hts _ (zTs_in k1 rfl)⟩
    (zpre (av := .ref a :: av) hKs hS hpic) rfl hav hl.1 rfl (by show 2 * 0 + _ ≤ 8; omega) (zl_dec h) ⟨by omega, by omega⟩) kk kx
/-- a private constructor of a class of the same nest -/
theorem zV_cin {a : Nat} (h : zl mi pc = some (.invokespecial idx, 3, mk, 6, r3)) (hav : av.length = zNP mk) (hlen : (lg_sl (.ref a :: av)).length ≤ zL mk) (hW : (rest.map fun v => v.category).sum ≤ 8) (hc : zC l X d bc1 bs1 mk (.ref a :: av) n K P I L Q)
    (kk : ∀ (v : Option Value) (n' : Nat) (K' : zKT) (P' : zPT) (I' : zIT) (L' : zLT), Q (.inl v) n' K' P' I' L' → zV l X (d + 1) bc2 bs2 mi (pc + 3) ls (v.toList ++ rest) n' K' P' I' L' Post)
    (kx : ∀ (x n' : Nat) (K' : zKT) (P' : zPT) (I' : zIT) (L' : zLT), x < 6 → Q (.inr x) n' K' P' I' L' → zXh l X (d + 1) bc2 bs2 mi pc ls x n' K' P' I' L' Post) :
    zV l X (d + 1) (bc1 + bc2) (bs1 + bs2) mi pc ls (av.reverse ++ .ref a :: rest) n K P I L Post := by
  intro p e R s m args below meth c H locs cells slots mc ms lsr S D hl
  have hk := zkc_at h
  simp only [zkc, Bool.and_eq_true, decide_eq_true_eq] at hk
  obtain ⟨⟨⟨⟨⟨k1, k5⟩, k6⟩, k2⟩, k3⟩, k4⟩ := hk
  have hw : zhas r3 (.methodLinkNest (zO mi) idx (zY mk) RX4) = true := zl_wc h
  obtain ⟨hxx, hb, hml, hown, hts, hrt, hlk, htab, hnm, hdf, hdl, hKs, hst⟩ := id S
  obtain ⟨d1, d2, d3, d4, hS, hpic⟩ := id D
  obtain ⟨g1, g2, g3, g4, g5, g6⟩ := zmI k3 k4
  obtain ⟨q1, q2⟩ := zroom k3 k4 hdf hdl bc1 bs1
  have hcw : zcw mk = .code (zY mk) (zB mk) (zL mk) (zRt mk) := zcw_nil k2
  have cw : va_CN R s args (zO mi) idx (zY mk) RX4 (zB mk) (zL mk) (zRt mk) (zcw mk :: zTs) (zRm d bc1 bs1) bc1 bs1 (zNP mk) := by
    refine ⟨⟨rfl, rfl, q1, q2, pay_in hts (zws_good k3 k4), by rw [hcw]; exact List.mem_cons_self⟩, by rw [← hcw]; exact hts _ (zcw_in k3 k4), hts _ (zTs_in g1 rfl), ⟨g5, g6⟩, fun sig hs => ?_, va_Nw.use rfl (hKs.2.2.2.1 _ (zTf_in hw rfl))⟩
    rw [hs] at g3
    exact (Option.some.inj g3).symm
  exact zV_after S D hl (vx_runIN (b := a) (As := av) (rest := rest) ⟨hxx, hb, hml, hown, hts⟩ (zMet k3 k4 hst hlen hc) ⟨by rw [k6] at cw; exact cw, k5, hts _ (zTs_in k1 rfl)⟩
    (zpre (av := .ref a :: av) hKs hS hpic) rfl hav hl.1 rfl (by show 2 * 0 + _ ≤ 8; omega) (zl_dec h) ⟨by omega, by omega⟩) kk kx
end ZK
