/-! MORE RULES OVER THE REAL MEMORY: Object's constructor, statics, rows of references -/
set_option maxRecDepth 200000 in
theorem zow : ([Cond.instanceMethod Lib.objectInit, Cond.code Lib.objectInit ⟨#[0xb1]⟩ 1 none].all (fun w => decide (w ∈ lw_tbl) && goodWord w)) = true := by decide +kernel
set_option maxRecDepth 200000 in
theorem zao : Cond.arrayOver (.object RX3) ∈ zTf := List.mem_filter.mpr ⟨of_decide_eq_true (by decide +kernel), rfl⟩
section ZM9
variable {l : Launch} {X : zX} {d bc bs mi pc : Nat} {ls : List (Nat × Value)} {st : List Value} {n : Nat} {K : zKT} {P : zPT} {I : zIT} {L : zLT} {Post : zPost} {r1 r2 r3 : Nat}
theorem zV_d {d' : Nat} (h : d ≤ d') (k : zV l X d bc bs mi pc ls st n K P I L Post) : zV l X d' bc bs mi pc ls st n K P I L Post := fun p e R s m args below meth c H locs cells slots mc ms lsr S D hl =>
  k p e R s m args below meth c H locs cells slots mc ms lsr ⟨S.1, S.2.1, S.2.2.1, S.2.2.2.1, S.2.2.2.2.1, S.2.2.2.2.2.1, S.2.2.2.2.2.2.1, S.2.2.2.2.2.2.2.1, S.2.2.2.2.2.2.2.2.1, Nat.le_trans h S.2.2.2.2.2.2.2.2.2.1, Nat.le_trans (Nat.mul_le_mul_left 60 h) S.2.2.2.2.2.2.2.2.2.2.1, S.2.2.2.2.2.2.2.2.2.2.2⟩ D hl
theorem zV_obj {idx a : Nat} (h : zl mi pc = some (.invokespecial idx, 3, r1, 7, r3)) (hW : (st.map fun v => v.category).sum ≤ 8) (k : zV l X (d + 1) bc bs mi (pc + 3) ls st n K P I L Post) : zV l X (d + 1) bc bs mi pc ls (.ref a :: st) n K P I L Post := by
  intro p e R s m args below meth c H locs cells slots mc ms lsr S D hl
  obtain ⟨hxx, hb, hml, hown, hts, hrt, hlk, htab, hnm, hdf, hdl, hKs, hst⟩ := id S
  exact W.objInit hxx hb hown (hts _ (zTs_in (w := .methodLink (zO mi) idx objectInit) (i := r3) (zl_wc h) rfl)) (hts _ (zu_of zow _ (List.mem_of_getElem? (i := 0) rfl))) (hts _ (zu_of zow _ (List.mem_of_getElem? (i := 1) rfl))) rfl (by rw [hml]; exact hl.1) rfl (zl_dec h) (by omega) (by show 2 * 0 + _ + 12 ≤ _; omega) (k p e R s m args below meth c H locs cells slots mc ms lsr S D hl)
theorem zV_gets0 {idx : Nat} (h : zl mi pc = some (.getstatic idx, 3, 0, r2, r3)) (k : zV l X d bc bs mi (pc + 3) ls (.int 1 :: st) n K P I L Post) : zV l X d bc bs mi pc ls st n K P I L Post := by
  intro p e R s m args below meth c H locs cells slots mc ms lsr S D hl
  obtain ⟨hxx, hb, hml, hown, hts, hrt, hlk, htab, hnm, hdf, hdl, hKs, hst⟩ := id S
  obtain ⟨d1, d2, d3, d4, hS, hpic⟩ := id D
  exact va_gets hxx hb hKs.2.2.1.1 hS hown (hts _ (zTs_in (w := .fieldLink (zO mi) idx "java/lang/String" "COMPACT_STRINGS" "Z") (i := r3) (zl_wc h) rfl)) (fun _ q => q) (zl_dec h) (k p e R s m args below meth c H locs cells slots mc ms lsr S D hl)
theorem zV_gets1 {idx : Nat} (h : zl mi pc = some (.getstatic idx, 3, 1, r2, r3)) (k : zV l X d bc bs mi (pc + 3) ls (.ref (X.2.2.2 100) :: st) n K P I L Post) : zV l X d bc bs mi pc ls st n K P I L Post := by
  intro p e R s m args below meth c H locs cells slots mc ms lsr S D hl
  obtain ⟨hxx, hb, hml, hown, hts, hrt, hlk, htab, hnm, hdf, hdl, hKs, hst⟩ := id S
  obtain ⟨d1, d2, d3, d4, hS, hpic⟩ := id D
  exact va_gets hxx hb hKs.2.2.1.2.1 hS hown (hts _ (zTs_in (w := .fieldLink (zO mi) idx "java/lang/Integer" "DigitOnes" "[B") (i := r3) (zl_wc h) rfl)) (fun _ q => q) (zl_dec h) (k p e R s m args below meth c H locs cells slots mc ms lsr S D hl)
theorem zV_gets2 {idx : Nat} (h : zl mi pc = some (.getstatic idx, 3, 2, r2, r3)) (k : zV l X d bc bs mi (pc + 3) ls (.ref (X.2.2.2 101) :: st) n K P I L Post) : zV l X d bc bs mi pc ls st n K P I L Post := by
  intro p e R s m args below meth c H locs cells slots mc ms lsr S D hl
  obtain ⟨hxx, hb, hml, hown, hts, hrt, hlk, htab, hnm, hdf, hdl, hKs, hst⟩ := id S
  obtain ⟨d1, d2, d3, d4, hS, hpic⟩ := id D
  exact va_gets hxx hb hKs.2.2.1.2.2.1 hS hown (hts _ (zTs_in (w := .fieldLink (zO mi) idx "java/lang/Integer" "DigitTens" "[B") (i := r3) (zl_wc h) rfl)) (fun _ q => q) (zl_dec h) (k p e R s m args below meth c H locs cells slots mc ms lsr S D hl)
theorem zV_anew {idx N : Nat} {x : Int32} (h : zl mi pc = some (.anewarray idx, 3, 104, r2, r3)) (hx : ¬ x < 0) (hN : x.toNatClampNeg = N) (hbytes : N * 4 ≤ 536870912)
    (kk : zV l X d bc bs mi (pc + 3) ls (.ref n :: st) (n + 1) (zuK K n (104, N)) (z0P P n) (z0I I n) (z0L L n) Post) : zV l X d (bc + 1) (bs + N) mi pc ls (.int x :: st) n K P I L Post := by
  intro p e R s m' args below meth c H locs cells slots mc ms lsr S D hl
  obtain ⟨hxx, hb, hml, hown, hts, hr, hlk, htab, hnm, hdf, hdl, hKs, hst⟩ := id S
  obtain ⟨d1, d2, d3, d4, hS, hpic⟩ := id D
  subst hN
  refine W.anew hxx hb hown (hts _ (zTs_in (w := .classLink (zO mi) idx RX3) (i := r3) (zl_wc h) rfl)) (va_AO.use (hKs.2.2.2.1 _ zao)) rfl (zl_dec h) rfl hx hbytes (by omega) (by omega) fun cA kA comp f1 f2 f3 f4 => ?_
  have hcA : cA = X.2.2.1 104 := by
    obtain ⟨kA', comp', g1, g2, g3, g4⟩ := (hKs.2.1.2 4 _ rfl).2
    exact Option.some.inj (f1.symm.trans g4)
  subst hcA
  generalize hH1 : H.push ({ cls := X.2.2.1 104, slots := Array.replicate x.toNatClampNeg .null, vm := .none } : Cell) = H1
  have z1 : H1.size = n + 1 := by rw [← hH1, Array.size_push, hpic.1]
  have e1 : H1[n]? = some (arrV (X.2.2.1 104) x.toNatClampNeg (fun _ => .null)) := by rw [← hH1, ← hpic.1, Array.getElem?_push_size, ← arrV_new]
  have o1 : ∀ q : Nat, q < n → H1[q]? = H[q]? := fun q hq => by rw [← hH1, Array.getElem?_push, if_neg (by rw [hpic.1]; omega)]
  rw [hpic.1]
  refine kk p e R s m' args below meth c H1 locs (cells + 1) (slots + x.toNatClampNeg) mc ms lsr S ⟨by omega, by omega, d3, d4, ⟨Nat.le_trans hS.1 (by rw [hpic.1]; omega), fun q h1 h2 => (o1 q (by have := hS.1; rw [hpic.1] at this; omega)).trans (hS.2.1 q h1 h2), hS.2.2⟩, zPic_new hpic ?_ z1 o1⟩ hl
  refine ⟨fun q => absurd q (by omega), fun _ _ => ⟨?_, ?_⟩, fun q => absurd q (by omega), fun q => absurd q (by omega)⟩
  · show X.1 ≤ n
    have := hKs.1
    have := hS.1
    rw [hpic.1] at this
    omega
  · rw [e1]
    congr 2
    funext j
    simp [zel, z0P, va_rf]
theorem zV_aast {m a v mv : Nat} {i : Int32} (h : zl mi pc = some (.aastore, 1, r1, r2, r3)) (hKa : K a = some (104, m)) (hKv : K v = some (7, mv)) (hi : vp_in i m) (kk : zV l X d bc bs mi (pc + 1) ls st n K (zuP P a i.toNatClampNeg (some v)) I L Post) : zV l X d bc bs mi pc ls (.ref v :: .int i :: .ref a :: st) n K P I L Post := by
  intro p e R s m' args below meth c H locs cells slots mc ms lsr S D hl
  obtain ⟨hxx, hb, hml, hown, hts, hr, hlk, htab, hnm, hdf, hdl, hKs, hst⟩ := id S
  obtain ⟨d1, d2, d3, d4, hS, hpic⟩ := id D
  obtain ⟨hA, hx⟩ := (hpic.2 a 104 m hKa).2.1 (by decide) (by decide)
  obtain ⟨hAv, r, hr1, hr2, cellV, g1, g2, g3, -⟩ := (hpic.2 v 7 mv hKv).1 (by decide)
  have hlt : i.toNatClampNeg < m := Nat.not_le.mp fun q => hi (Or.inr q)
  have h0 : ¬ i < 0 := fun q => hi (Or.inl q)
  obtain ⟨hcl, -⟩ := zcl_ok (ci := 7) (k := 0) (by decide)
  have hcls := (hKs.2.1.1 7 _ hcl).2
  obtain ⟨kA, comp, k1, k2, k3, -⟩ := (hKs.2.1.2 4 _ rfl).2
  have hcomp : comp = X.2.1.1 7 := Option.some.inj (k3.symm.trans hcls.1)
  subst hcomp
  obtain ⟨kC, hkC, -⟩ := hcls.2
  refine W.aast hxx hb hx (fun q h => by cases h) (fun h => by cases h) k1 k2 rfl hkC ⟨h0, by rw [arrV_size]; exact hlt⟩ g1 (fun q h => by rw [g3] at h; cases h) (by rw [g2]; exact hkC) (by rw [g2]; exact va_assign hcls) rfl rfl (zl_dec h) fun H1 e1 z oq => ?_
  refine kk p e R s m' args below meth c H1 _ cells slots mc ms lsr S ⟨d1, d2, d3, d4, hS.put z oq hA, zPic_put hpic hKa (zAt_arr (by decide) (by decide) hA e1 ?_ (fun q hq => ?_)) z oq (fun q hq => if_neg hq) (fun _ _ => rfl) (fun _ _ => rfl)⟩ hl
  · simp [zel, zuP, va_up, va_rf]
  · simp [zel, zuP, va_up, hq]
end ZM9
