/-! MAKING, ENDS, THROWS, CALLS -/
theorem zins_of {a b : Cond} (h : ([a, b].all (fun w => decide (w ∈ lw_tbl) && goodWord w)) = true) : a ∈ zTs ∧ b ∈ zTs := ⟨zu_of h a List.mem_cons_self, zu_of h b (List.mem_cons_of_mem _ List.mem_cons_self)⟩
set_option maxRecDepth 200000 in
theorem zins_in {ci k : Nat} (h : k < zN ci) : Cond.instantiable (zcn ci) (zN ci) ∈ zTs ∧ Cond.initialized (zcn ci) ∈ zTs := by
  match ci, h with
  | 0, _ => exact zins_of (by decide +kernel)
  | 1, _ => exact zins_of (by decide +kernel)
  | 4, _ => exact zins_of (by decide +kernel)
  | 5, _ => exact zins_of (by decide +kernel)
  | 6, _ => exact zins_of (by decide +kernel)
  | 7, _ => exact zins_of (by decide +kernel)
  | 8, _ => exact zins_of (by decide +kernel)
  | 2, h => exact absurd h (by simp [zN])
  | 3, h => exact absurd h (by simp [zN])
  | n + 9, h => exact absurd h (by simp [zN])
theorem zdef_ok {ci j : Nat} (h : j < zN ci) : (if zrf ci j = true then Value.null else .int 0) = defaultValue (zty ci j) := by
  match ci, h with
  | 0, h => rcases (show j = 0 ∨ j = 1 ∨ j = 2 ∨ j = 3 by simp only [zN] at h; omega) with rfl | rfl | rfl | rfl <;> rfl
  | 1, h => rcases (show j = 0 ∨ j = 1 ∨ j = 2 ∨ j = 3 by simp only [zN] at h; omega) with rfl | rfl | rfl | rfl <;> rfl
  | 4, h => rcases (show j = 0 ∨ j = 1 ∨ j = 2 ∨ j = 3 ∨ j = 4 ∨ j = 5 ∨ j = 6 ∨ j = 7 ∨ j = 8 ∨ j = 9 ∨ j = 10 ∨ j = 11 by simp only [zN] at h; omega) with rfl | rfl | rfl | rfl | rfl | rfl | rfl | rfl | rfl | rfl | rfl | rfl <;> rfl
  | 5, h => rcases (show j = 0 ∨ j = 1 ∨ j = 2 by simp only [zN] at h; omega) with rfl | rfl | rfl <;> rfl
  | 6, h => rcases (show j = 0 ∨ j = 1 ∨ j = 2 ∨ j = 3 ∨ j = 4 ∨ j = 5 by simp only [zN] at h; omega) with rfl | rfl | rfl | rfl | rfl | rfl <;> rfl
  | 7, h => rcases (show j = 0 ∨ j = 1 ∨ j = 2 ∨ j = 3 ∨ j = 4 ∨ j = 5 ∨ j = 6 ∨ j = 7 ∨ j = 8 ∨ j = 9 ∨ j = 10 ∨ j = 11 ∨ j = 12 ∨ j = 13 ∨ j = 14 ∨ j = 15 by simp only [zN] at h; omega) with rfl | rfl | rfl | rfl | rfl | rfl | rfl | rfl | rfl | rfl | rfl | rfl | rfl | rfl | rfl | rfl <;> rfl
  | 8, h => rcases (show j = 0 ∨ j = 1 ∨ j = 2 ∨ j = 3 ∨ j = 4 ∨ j = 5 ∨ j = 6 ∨ j = 7 ∨ j = 8 ∨ j = 9 ∨ j = 10 by simp only [zN] at h; omega) with rfl | rfl | rfl | rfl | rfl | rfl | rfl | rfl | rfl | rfl | rfl <;> rfl
  | 2, h => exact absurd h (by simp [zN])
  | 3, h => exact absurd h (by simp [zN])
  | n + 9, h => exact absurd h (by simp [zN])
section ZC
variable {l : Launch} {X : zX} {d bc bs mi pc : Nat} {ls : List (Nat × Value)} {st : List Value} {n : Nat} {K : zKT} {P : zPT} {I : zIT} {L : zLT} {Post : zPost} {r1 r2 r3 : Nat}
theorem zV_new {idx ci : Nat} (h : zl mi pc = some (.new idx, 3, ci, 0, r3)) (hk : 0 < zN ci)
    (kk : zV l X d bc bs mi (pc + 3) ls (.ref n :: st) (n + 1) (zuK K n (ci, zN ci)) (z0P P n) (z0I I n) (z0L L n) Post) : zV l X d (bc + 1) (bs + zN ci) mi pc ls st n K P I L Post := by
  intro p e R s m' args below meth c H locs cells slots mc ms lsr S D hl
  obtain ⟨hx, hb, hml, hown, hts, hr, hlk, htab, hnm, hdf, hdl, hKs, hst⟩ := id S
  obtain ⟨d1, d2, d3, d4, hS, hpic⟩ := id D
  obtain ⟨hcl, hlt⟩ := zcl_ok hk
  obtain ⟨w1, w2⟩ := zins_in hk
  have hwc : zhas r3 (.classLink (zO mi) idx (zcn ci)) = true := by
    have h1 := zl_wc h
    unfold zwc at h1
    exact h1
  have hKn := hKs.2.1.1 ci _ hcl
  refine W.newcK hx hb hown (hts _ (zTs_in hwc rfl)) (hts _ w1) (hts _ w2) rfl (zl_dec h) (by omega) (by omega) hKn.2.1 hpic.1 fun H1 kC hkC e1 z1 o1 => ?_
  refine kk p e R s m' args below meth c H1 locs (cells + 1) (slots + zN ci) mc ms lsr S ⟨by omega, by omega, d3, d4, ⟨Nat.le_trans hS.1 (by rw [hpic.1]; omega), fun q h1 h2 => (o1 q (by have := hS.1; rw [hpic.1] at this; omega)).trans (hS.2.1 q h1 h2), hS.2.2⟩, zPic_new hpic ?_ z1 o1⟩ hl
  refine ⟨fun _ => ⟨?_, _, hcl, rfl, (u_born (zty ci) hts (zu_in hk) hKn hkC e1 (zty_ok hk)).to (fun j hj => ?_)⟩, fun q => absurd q (by omega), fun q => absurd q (by omega), fun q => absurd q (by omega)⟩
  · show X.1 ≤ n
    have := hKs.1
    have := hS.1
    rw [hpic.1] at this
    omega
  · rw [← zdef_ok hj]
    simp [zfv, z0P, z0I, va_rf]
theorem zV_newa {k N : Nat} {ty : ArrayType} {x : Int32} (h : zl mi pc = some (.newarray ty, 2, k, r2, r3)) (hk : k = 100 ∨ k = 101 ∨ k = 102 ∨ k = 103) (hty : newarray.typeOf ty = zaty k) (hx : ¬ x < 0) (hN : x.toNatClampNeg = N) (hbytes : N * componentBytes (newarray.typeOf ty) ≤ 536870912)
    (kk : zV l X d bc bs mi (pc + 2) ls (.ref n :: st) (n + 1) (zuK K n (k, N)) (z0P P n) (z0I I n) (z0L L n) Post) : zV l X d (bc + 1) (bs + N) mi pc ls (.int x :: st) n K P I L Post := by
  intro p e R s m' args below meth c H locs cells slots mc ms lsr S D hl
  obtain ⟨hxx, hb, hml, hown, hts, hr, hlk, htab, hnm, hdf, hdl, hKs, hst⟩ := id S
  obtain ⟨d1, d2, d3, d4, hS, hpic⟩ := id D
  have hwc : zhas r3 (.arrayClass (zaty k)) = true := by
    have h1 := zl_wc h
    unfold zwc at h1
    exact h1
  have harr : (Cond.arrayClass (newarray.typeOf ty)).before args s = true := by
    rw [hty]
    exact hts _ (zTs_in hwc rfl)
  refine va_newaK hxx hb harr rfl (zl_dec h) rfl hx hN hbytes (by omega) (by omega) hpic.1 fun H1 cA e1 z1 o1 hAr hNm => ?_
  have hcA : cA = X.2.2.1 k := by
    rw [hty] at hNm
    have h2 := hKs.2.1.2
    rcases hk with rfl | rfl | rfl | rfl
    · exact Option.some.inj (hNm.symm.trans (h2 0 _ rfl).2)
    · exact Option.some.inj (hNm.symm.trans (h2 1 _ rfl).2)
    · exact Option.some.inj (hNm.symm.trans (h2 2 _ rfl).2)
    · exact Option.some.inj (hNm.symm.trans (h2 3 _ rfl).2)
  subst hcA
  refine kk p e R s m' args below meth c H1 locs (cells + 1) (slots + N) mc ms lsr S ⟨by omega, by omega, d3, d4, ⟨Nat.le_trans hS.1 (by rw [hpic.1]; omega), fun q h1 h2 => (o1 q (by have := hS.1; rw [hpic.1] at this; omega)).trans (hS.2.1 q h1 h2), hS.2.2⟩, zPic_new hpic ?_ z1 o1⟩ hl
  refine ⟨fun q => absurd q (by omega), fun _ _ => ⟨?_, ?_⟩, fun q => absurd q (by omega), fun q => absurd q (by omega)⟩
  · show X.1 ≤ n
    have := hKs.1
    have := hS.1
    rw [hpic.1] at this
    omega
  · rw [e1, hty]
    congr 2
    funext j
    rcases hk with rfl | rfl | rfl | rfl <;> simp [zel, z0I, z0L, zaty, defaultValue]
/-- ends -/
theorem zV_ret {v : Int32} {ty : FieldType} (h : zl mi pc = some (.ireturn, 1, r1, r2, r3)) (hr : zRt mi = some ty) (hn : narrow ty (.int v) = .int v) (hp : Post (.inl (some (.int v))) n K P I L) : zV l X d bc bs mi pc ls [.int v] n K P I L Post := by
  intro p e R s m' args below meth c H locs cells slots mc ms lsr S D hl
  obtain ⟨d1, d2, d3, d4, hS, hpic⟩ := id D
  refine W.widen (k := mc) (n := ms) (by omega) (by omega) (vx_ret (W.zret S.1 S.2.1 (S.2.2.2.2.2.1.trans hr) hn (fun t ht hW => ⟨⟨_, n, K, P, I, L, rfl, hp, ?_⟩, hS.F ht⟩) hS.2.2 (zl_dec h) S.2.2.2.2.2.2.1))
  rw [ht]
  exact zPic_moved hW.alike hpic
theorem zV_lret {v : Int64} (h : zl mi pc = some (.lreturn, 1, r1, r2, r3)) (hr : zRt mi = some .long) (hp : Post (.inl (some (.long v))) n K P I L) : zV l X d bc bs mi pc ls [.long v] n K P I L Post := by
  intro p e R s m' args below meth c H locs cells slots mc ms lsr S D hl
  obtain ⟨d1, d2, d3, d4, hS, hpic⟩ := id D
  refine W.widen (k := mc) (n := ms) (by omega) (by omega) (vx_ret (W.lret S.1 S.2.1 (S.2.2.2.2.2.1.trans hr) (fun t ht hW => ⟨⟨_, n, K, P, I, L, rfl, hp, ?_⟩, hS.F ht⟩) hS.2.2 (zl_dec h) S.2.2.2.2.2.2.1))
  rw [ht]
  exact zPic_moved hW.alike hpic
theorem zV_fret {v : UInt32} (h : zl mi pc = some (.freturn, 1, r1, r2, r3)) (hr : zRt mi = some .float) (hp : Post (.inl (some (.float v))) n K P I L) : zV l X d bc bs mi pc ls [.float v] n K P I L Post := by
  intro p e R s m' args below meth c H locs cells slots mc ms lsr S D hl
  obtain ⟨d1, d2, d3, d4, hS, hpic⟩ := id D
  refine W.widen (k := mc) (n := ms) (by omega) (by omega) (vx_ret (W.fret S.1 S.2.1 (S.2.2.2.2.2.1.trans hr) (fun t ht hW => ⟨⟨_, n, K, P, I, L, rfl, hp, ?_⟩, hS.F ht⟩) hS.2.2 (zl_dec h) S.2.2.2.2.2.2.1))
  rw [ht]
  exact zPic_moved hW.alike hpic
theorem zV_dret {v : UInt64} (h : zl mi pc = some (.dreturn, 1, r1, r2, r3)) (hr : zRt mi = some .double) (hp : Post (.inl (some (.double v))) n K P I L) : zV l X d bc bs mi pc ls [.double v] n K P I L Post := by
  intro p e R s m' args below meth c H locs cells slots mc ms lsr S D hl
  obtain ⟨d1, d2, d3, d4, hS, hpic⟩ := id D
  refine W.widen (k := mc) (n := ms) (by omega) (by omega) (vx_ret (W.dret S.1 S.2.1 (S.2.2.2.2.2.1.trans hr) (fun t ht hW => ⟨⟨_, n, K, P, I, L, rfl, hp, ?_⟩, hS.F ht⟩) hS.2.2 (zl_dec h) S.2.2.2.2.2.2.1))
  rw [ht]
  exact zPic_moved hW.alike hpic
theorem zV_vret (h : zl mi pc = some (.return_, 1, r1, r2, r3)) (hr : zRt mi = none) (hp : Post (.inl none) n K P I L) : zV l X d bc bs mi pc ls [] n K P I L Post := by
  intro p e R s m' args below meth c H locs cells slots mc ms lsr S D hl
  obtain ⟨d1, d2, d3, d4, hS, hpic⟩ := id D
  refine W.widen (k := mc) (n := ms) (by omega) (by omega) (vx_ret (W.vret S.1 S.2.1 (S.2.2.2.2.2.1.trans hr) (fun t ht hW => ⟨⟨_, n, K, P, I, L, rfl, hp, ?_⟩, hS.F ht⟩) hS.2.2 (zl_dec h) S.2.2.2.2.2.2.1))
  rw [ht]
  exact zPic_moved hW.alike hpic
theorem zV_aret {a : Nat} {rt : FieldType} (h : zl mi pc = some (.areturn, 1, r1, r2, r3)) (hr : zRt mi = some rt) (hrt : (∃ n, rt = .object n) ∨ ∃ t, rt = .array t) (hp : Post (.inl (some (.ref a))) n K P I L) : zV l X d bc bs mi pc ls [.ref a] n K P I L Post := by
  intro p e R s m' args below meth c H locs cells slots mc ms lsr S D hl
  obtain ⟨d1, d2, d3, d4, hS, hpic⟩ := id D
  refine W.widen (k := mc) (n := ms) (by omega) (by omega) (vx_ret (W.aret S.1 S.2.1 (S.2.2.2.2.2.1.trans hr) hrt (Or.inr ⟨a, rfl⟩) (fun t ht hW => ⟨⟨_, n, K, P, I, L, rfl, hp, ?_⟩, hS.F ht⟩) hS.2.2 (zl_dec h) S.2.2.2.2.2.2.1))
  rw [ht]
  exact zPic_moved hW.alike hpic
/-- throws -/
theorem zwc_new {idx x len : Nat} (h : zl mi pc = some (.new idx, len, x, 1, r3)) : zhas r3 (.classLink (zO mi) idx (zEx x)) = true ∧ x < 6 := by
  have h1 := zl_wc h
  unfold zwc at h1
  simpa using h1
theorem zwc_site {idx x len : Nat} (h : zl mi pc = some (.invokespecial idx, len, x, 10, r3)) : zO mi = RX4 ∧ idx = zic x := by
  have h1 := zl_wc h
  unfold zwc at h1
  simp only [Bool.and_eq_true, decide_eq_true_eq] at h1
  exact h1.1
theorem zwc_str {idx i len : Nat} {op : Instr} (ho : op = .ldc idx ∨ op = .ldc_w idx) (h : zl mi pc = some (op, len, 2, i, r3)) : ∃ q, zstr[i]? = some q ∧ q.1 = zO mi ∧ q.2.1 = idx := by
  have h1 := zl_wc h
  unfold zwc at h1
  rcases ho with rfl | rfl <;>
  · simp only at h1
    split at h1
    · rename_i q hq
      simp only [Bool.and_eq_true, decide_eq_true_eq] at h1
      exact ⟨q, hq, h1.1, h1.2⟩
    · cases h1
theorem zV_throw {x ik is ic i w0 w1 w2 w3 w4 u1 u2 u4 t1 t2 t4 : Nat} (h0 : zl mi pc = some (.new ik, 3, x, 1, w0)) (h1 : zl mi (pc + 3) = some (.dup, 1, u1, t1, w1)) (h2 : zl mi (pc + 4) = some (.ldc is, 2, 2, i, w2)) (h3 : zl mi (pc + 6) = some (.invokespecial ic, 3, x, 10, w3)) (h4 : zl mi (pc + 9) = some (.athrow, 1, u4, t4, w4))
    (hH : zH mi = []) (hd : 6 ≤ d) (hr : (st.map fun v => v.category).sum ≤ 100) (hp : ∀ n', n ≤ n' → Post (.inr x) n' K P I L) : zV l X d (bc + 1) (bs + 6) mi pc ls st n K P I L Post := by
  intro p e R s m' args below meth c H locs cells slots mc ms lsr S D hl
  obtain ⟨hx, hb, hml, hown, hts, hrt, hlk, htab, hnm, hdf, hdl, hKs, hst⟩ := id S
  obtain ⟨d1, d2, d3, d4, hS, hpic⟩ := id D
  obtain ⟨g1, hx6⟩ := zwc_new h0
  obtain ⟨g2, rfl⟩ := zwc_site h3
  obtain ⟨⟨qo, qi, qt⟩, hq, rfl, rfl⟩ := zwc_str (Or.inl rfl) h2
  by_cases hx4 : x = 4
  · subst hx4
    have hs := zsiteX_ok
    unfold zsiteX at hs
    simp only [Bool.and_eq_true, decide_eq_true_eq] at hs
    obtain ⟨hs1, hs2, hs3⟩ := hs
    have hs1 := List.all_eq_true.mp hs1
    have hini : Cond.initialized (zNS) ∈ zTs := List.mem_filter.mpr ⟨hs2, rfl⟩
    have hcls := zTs_in g1 rfl
    rw [g2] at hcls hown
    have hstr := hKs.2.2.2.2.2 i _ hq
    dsimp only at hstr
    rw [g2] at hstr
    have hat : ∀ w ∈ zownX.filter vx_no, w.before args s = true := by
      intro w hw
      have hw1 := hs1 w hw
      simp only [Bool.and_eq_true, Bool.or_eq_true, decide_eq_true_eq] at hw1
      rcases hw1.1.2 with hg | hf
      · exact hts w (List.mem_filter.mpr ⟨hw1.1.1, hg⟩)
      · exact va_Nw.use (zface_on hf) (hKs.2.2.2.1 w (List.mem_filter.mpr ⟨hw1.1.1, by rw [hf]; rfl⟩))
    have hgood : ∀ w ∈ Cond.classLink RX4 ik (zNS) :: Cond.initialized (zNS) :: zownX.filter vx_no, vx_ot w = true := by
      intro w hw
      rcases List.mem_cons.mp hw with rfl | hw
      · rfl
      · rcases List.mem_cons.mp hw with rfl | hw
        · rfl
        · have hw1 := hs1 w hw
          simp only [Bool.and_eq_true] at hw1
          exact hw1.2
    refine zthrowX hx hb hst hown (hts _ hcls) (hts _ hini) hstr hat hgood hKs.2.2.1.2.2.2.2.1 hKs.2.2.1.2.2.2.2.2 hS (by rw [hl.1, hml]) (zl_dec h0) (zl_dec h1) (zl_dec h2) (zl_dec h3) (zl_dec h4)
      (by rw [htab, hH]; exact fun z hz => nomatch hz) (by show 2 + 3 < R.frames; omega) (by show _ + (13 * (2 + 1) + 43) ≤ R.locals; omega) (by omega) (by omega) hlk (fun t hW f1 f2 => ⟨⟨4, t.heap.size, K, P, I, L, rfl, hx6, hp _ (by rw [← hpic.1]; exact f1), zPic_moved hW (zPic_grown hpic f2)⟩, ?_⟩) hS.2.2 (by omega) (by omega)
    exact ⟨Nat.le_trans hS.1 f1, fun q q1 q2 => (f2 q (Nat.lt_of_lt_of_le q1 hS.1)).trans (hS.2.1 q q1 q2)⟩
  · skip
    have hs := zsite_ok hx6 hx4
    unfold zsite at hs
    simp only [Bool.and_eq_true, decide_eq_true_eq] at hs
    obtain ⟨hs1, hs2, hs3⟩ := hs
    have hs1 := List.all_eq_true.mp hs1
    have hini : Cond.initialized (zEx x) ∈ zTs := List.mem_filter.mpr ⟨hs2, rfl⟩
    have hcls := zTs_in g1 rfl
    rw [g2] at hcls hown
    have hstr := hKs.2.2.2.2.2 i _ hq
    dsimp only at hstr
    rw [g2] at hstr
    have hat : ∀ w ∈ vx_atS RX4 (zic x) (zEx x) znames, w.before args s = true := by
      intro w hw
      have hw1 := hs1 w hw
      simp only [Bool.and_eq_true, Bool.or_eq_true, decide_eq_true_eq] at hw1
      rcases hw1.1.2 with hg | hf
      · exact hts w (List.mem_filter.mpr ⟨hw1.1.1, hg⟩)
      · exact va_Nw.use (zface_on hf) (hKs.2.2.2.1 w (List.mem_filter.mpr ⟨hw1.1.1, by rw [hf]; rfl⟩))
    have hgood : ∀ w ∈ Cond.classLink RX4 ik (zEx x) :: Cond.initialized (zEx x) :: vx_atS RX4 (zic x) (zEx x) znames, vx_ot w = true := by
      intro w hw
      rcases List.mem_cons.mp hw with rfl | hw
      · rfl
      · rcases List.mem_cons.mp hw with rfl | hw
        · rfl
        · have hw1 := hs1 w hw
          simp only [Bool.and_eq_true] at hw1
          exact hw1.2
    refine vx_throwS (names := znames) hx hb hst hown hs3 znames_ok (hts _ hcls) (hts _ hini) hstr hat hgood hKs.2.2.1.2.2.2.2.1 hKs.2.2.1.2.2.2.2.2 hS (by rw [hl.1, hml]) (zl_dec h0) (zl_dec h1) (zl_dec h2) (zl_dec h3) (zl_dec h4)
      (by rw [htab, hH]; exact fun z hz => nomatch hz) (by show 2 + 3 < R.frames; omega) (by show _ + (13 * (2 + 1) + 43) ≤ R.locals; omega) (by omega) (by omega) hlk (fun t hW f1 f2 => ⟨⟨x, t.heap.size, K, P, I, L, rfl, hx6, hp _ (by rw [← hpic.1]; exact f1), zPic_moved hW (zPic_grown hpic f2)⟩, ?_⟩) hS.2.2 (by omega) (by omega)
    exact ⟨Nat.le_trans hS.1 f1, fun q q1 q2 => (f2 q (Nat.lt_of_lt_of_le q1 hS.1)).trans (hS.2.1 q q1 q2)⟩
theorem zV_throwW {x ik is ic i w0 w1 w2 w3 w4 u1 u2 u4 t1 t2 t4 : Nat} (h0 : zl mi pc = some (.new ik, 3, x, 1, w0)) (h1 : zl mi (pc + 3) = some (.dup, 1, u1, t1, w1)) (h2 : zl mi (pc + 4) = some (.ldc_w is, 3, 2, i, w2)) (h3 : zl mi (pc + 7) = some (.invokespecial ic, 3, x, 10, w3)) (h4 : zl mi (pc + 10) = some (.athrow, 1, u4, t4, w4))
    (hH : zH mi = []) (hd : 6 ≤ d) (hr : (st.map fun v => v.category).sum ≤ 100) (hp : ∀ n', n ≤ n' → Post (.inr x) n' K P I L) : zV l X d (bc + 1) (bs + 6) mi pc ls st n K P I L Post := by
  intro p e R s m' args below meth c H locs cells slots mc ms lsr S D hl
  obtain ⟨hx, hb, hml, hown, hts, hrt, hlk, htab, hnm, hdf, hdl, hKs, hst⟩ := id S
  obtain ⟨d1, d2, d3, d4, hS, hpic⟩ := id D
  obtain ⟨g1, hx6⟩ := zwc_new h0
  obtain ⟨g2, rfl⟩ := zwc_site h3
  obtain ⟨⟨qo, qi, qt⟩, hq, rfl, rfl⟩ := zwc_str (Or.inr rfl) h2
  by_cases hx4 : x = 4
  · subst hx4
    have hs := zsiteX_ok
    unfold zsiteX at hs
    simp only [Bool.and_eq_true, decide_eq_true_eq] at hs
    obtain ⟨hs1, hs2, hs3⟩ := hs
    have hs1 := List.all_eq_true.mp hs1
    have hini : Cond.initialized (zNS) ∈ zTs := List.mem_filter.mpr ⟨hs2, rfl⟩
    have hcls := zTs_in g1 rfl
    rw [g2] at hcls hown
    have hstr := hKs.2.2.2.2.2 i _ hq
    dsimp only at hstr
    rw [g2] at hstr
    have hat : ∀ w ∈ zownX.filter vx_no, w.before args s = true := by
      intro w hw
      have hw1 := hs1 w hw
      simp only [Bool.and_eq_true, Bool.or_eq_true, decide_eq_true_eq] at hw1
      rcases hw1.1.2 with hg | hf
      · exact hts w (List.mem_filter.mpr ⟨hw1.1.1, hg⟩)
      · exact va_Nw.use (zface_on hf) (hKs.2.2.2.1 w (List.mem_filter.mpr ⟨hw1.1.1, by rw [hf]; rfl⟩))
    have hgood : ∀ w ∈ Cond.classLink RX4 ik (zNS) :: Cond.initialized (zNS) :: zownX.filter vx_no, vx_ot w = true := by
      intro w hw
      rcases List.mem_cons.mp hw with rfl | hw
      · rfl
      · rcases List.mem_cons.mp hw with rfl | hw
        · rfl
        · have hw1 := hs1 w hw
          simp only [Bool.and_eq_true] at hw1
          exact hw1.2
    refine zthrowXW hx hb hst hown (hts _ hcls) (hts _ hini) hstr hat hgood hKs.2.2.1.2.2.2.2.1 hKs.2.2.1.2.2.2.2.2 hS (by rw [hl.1, hml]) (zl_dec h0) (zl_dec h1) (zl_dec h2) (zl_dec h3) (zl_dec h4)
      (by rw [htab, hH]; exact fun z hz => nomatch hz) (by show 2 + 3 < R.frames; omega) (by show _ + (13 * (2 + 1) + 43) ≤ R.locals; omega) (by omega) (by omega) hlk (fun t hW f1 f2 => ⟨⟨4, t.heap.size, K, P, I, L, rfl, hx6, hp _ (by rw [← hpic.1]; exact f1), zPic_moved hW (zPic_grown hpic f2)⟩, ?_⟩) hS.2.2 (by omega) (by omega)
    exact ⟨Nat.le_trans hS.1 f1, fun q q1 q2 => (f2 q (Nat.lt_of_lt_of_le q1 hS.1)).trans (hS.2.1 q q1 q2)⟩
  · skip
    have hs := zsite_ok hx6 hx4
    unfold zsite at hs
    simp only [Bool.and_eq_true, decide_eq_true_eq] at hs
    obtain ⟨hs1, hs2, hs3⟩ := hs
    have hs1 := List.all_eq_true.mp hs1
    have hini : Cond.initialized (zEx x) ∈ zTs := List.mem_filter.mpr ⟨hs2, rfl⟩
    have hcls := zTs_in g1 rfl
    rw [g2] at hcls hown
    have hstr := hKs.2.2.2.2.2 i _ hq
    dsimp only at hstr
    rw [g2] at hstr
    have hat : ∀ w ∈ vx_atS RX4 (zic x) (zEx x) znames, w.before args s = true := by
      intro w hw
      have hw1 := hs1 w hw
      simp only [Bool.and_eq_true, Bool.or_eq_true, decide_eq_true_eq] at hw1
      rcases hw1.1.2 with hg | hf
      · exact hts w (List.mem_filter.mpr ⟨hw1.1.1, hg⟩)
      · exact va_Nw.use (zface_on hf) (hKs.2.2.2.1 w (List.mem_filter.mpr ⟨hw1.1.1, by rw [hf]; rfl⟩))
    have hgood : ∀ w ∈ Cond.classLink RX4 ik (zEx x) :: Cond.initialized (zEx x) :: vx_atS RX4 (zic x) (zEx x) znames, vx_ot w = true := by
      intro w hw
      rcases List.mem_cons.mp hw with rfl | hw
      · rfl
      · rcases List.mem_cons.mp hw with rfl | hw
        · rfl
        · have hw1 := hs1 w hw
          simp only [Bool.and_eq_true] at hw1
          exact hw1.2
    refine vx_throwSW (names := znames) hx hb hst hown hs3 znames_ok (hts _ hcls) (hts _ hini) hstr hat hgood hKs.2.2.1.2.2.2.2.1 hKs.2.2.1.2.2.2.2.2 hS (by rw [hl.1, hml]) (zl_dec h0) (zl_dec h1) (zl_dec h2) (zl_dec h3) (zl_dec h4)
      (by rw [htab, hH]; exact fun z hz => nomatch hz) (by show 2 + 3 < R.frames; omega) (by show _ + (13 * (2 + 1) + 43) ≤ R.locals; omega) (by omega) (by omega) hlk (fun t hW f1 f2 => ⟨⟨x, t.heap.size, K, P, I, L, rfl, hx6, hp _ (by rw [← hpic.1]; exact f1), zPic_moved hW (zPic_grown hpic f2)⟩, ?_⟩) hS.2.2 (by omega) (by omega)
    exact ⟨Nat.le_trans hS.1 f1, fun q q1 q2 => (f2 q (Nat.lt_of_lt_of_le q1 hS.1)).trans (hS.2.1 q q1 q2)⟩
end ZC
