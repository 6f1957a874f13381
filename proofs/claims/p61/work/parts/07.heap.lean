section ZM
variable {l : Launch} {X : zX} {d bc bs mi pc : Nat} {ls : List (Nat × Value)} {st : List Value} {n : Nat} {K : zKT} {P : zPT} {I : zIT} {L : zLT} {Post : zPost} {r1 r2 r3 : Nat}
theorem zwc_get {idx ci k len : Nat} (h : zl mi pc = some (.getfield idx, len, ci, k, r3)) (hk : k < zN ci) : zhas r3 (.fieldLink (zO mi) idx (zT ci k).1 (zT ci k).2.1 (zT ci k).2.2.1) = true := by
  have h1 := zl_wc h
  unfold zwc at h1
  simpa [hk] using h1
theorem zwc_put {idx ci k len : Nat} (h : zl mi pc = some (.putfield idx, len, ci, k, r3)) (hk : k < zN ci) : zhas r3 (.fieldLink (zO mi) idx (zT ci k).1 (zT ci k).2.1 (zT ci k).2.2.1) = true ∧ ((zT ci k).2.2.2 = false ∨ ((zY mi).name = "<init>" ∧ (zT ci k).1 = zO mi)) := by
  have h1 := zl_wc h
  unfold zwc at h1
  simpa [hk] using h1
/-- a field of an own object is read -/
theorem zV_get {idx ci k m a : Nat} (h : zl mi pc = some (.getfield idx, 3, ci, k, r3)) (hKa : K a = some (ci, m)) (hk : k < zN ci) (kk : zV l X d bc bs mi (pc + 3) ls (zfv ci k P I a :: st) n K P I L Post) : zV l X d bc bs mi pc ls (.ref a :: st) n K P I L Post := by
  intro p e R s m' args below meth c H locs cells slots mc ms lsr S D hl
  obtain ⟨hx, hb, hml, hown, hts, hr, hlk, htab, hnm, hdf, hdl, hKs, hst⟩ := id S
  obtain ⟨d1, d2, d3, d4, hS, hpic⟩ := id D
  obtain ⟨hcl, hlt⟩ := zcl_ok hk
  obtain ⟨hA, r, g1, g2, hOB⟩ := (hpic.2 a ci m hKa).1 hlt
  cases g1.symm.trans hcl
  have hP : va_P X.2.1 vwCl [(a, .inr (ci, (List.range (zN ci)).map (fun j => zfv ci j P I a)))] H := by
    intro q x hq
    have hq0 : q < 1 := (List.getElem?_eq_some_iff.mp hq).1
    obtain rfl : q = 0 := by omega
    cases hq
    refine ⟨_, hcl, hOB.to (fun j hj => ?_)⟩
    simp [vp_V, hj]
  exact va_get hx hb hts (zu_in hk) hown hKs.2.1 hP 0 rfl hcl k hk (hts _ (zTs_in (zwc_get h hk) rfl)) (fun _ h => h) (by simp [hk]) (zl_dec h) (kk p e R s m' args below meth c H locs cells slots mc ms lsr S D hl)
theorem zV_getI {idx ci k m a : Nat} (h : zl mi pc = some (.getfield idx, 3, ci, k, r3)) (hKa : K a = some (ci, m)) (hk : k < zN ci) (hf : zrf ci k = false) (kk : zV l X d bc bs mi (pc + 3) ls (.int (I a k) :: st) n K P I L Post) : zV l X d bc bs mi pc ls (.ref a :: st) n K P I L Post := by
  refine zV_get h hKa hk ?_
  unfold zfv
  rw [hf]
  exact kk
theorem zV_getR {idx ci k m a q : Nat} (h : zl mi pc = some (.getfield idx, 3, ci, k, r3)) (hKa : K a = some (ci, m)) (hk : k < zN ci) (hf : zrf ci k = true) (hp : P a k = some q) (kk : zV l X d bc bs mi (pc + 3) ls (.ref q :: st) n K P I L Post) : zV l X d bc bs mi pc ls (.ref a :: st) n K P I L Post := by
  refine zV_get h hKa hk ?_
  unfold zfv
  rw [hf, hp]
  exact kk
/-- a field of a String that was there before is read -/
theorem zV_getS {idx k m a : Nat} (h : zl mi pc = some (.getfield idx, 3, 0, k, r3)) (hKa : K a = some (120, m)) (hk : k < 2) (kk : zV l X d bc bs mi (pc + 3) ls (zfv 0 k P I a :: st) n K P I L Post) : zV l X d bc bs mi pc ls (.ref a :: st) n K P I L Post := by
  intro p e R s m' args below meth c H locs cells slots mc ms lsr S D hl
  obtain ⟨hx, hb, hml, hown, hts, hr, hlk, htab, hnm, hdf, hdl, hKs, hst⟩ := id S
  obtain ⟨d1, d2, d3, d4, hS, hpic⟩ := id D
  have hk4 : k < zN 0 := Nat.lt_trans hk (by decide)
  obtain ⟨hcl, hlt⟩ := zcl_ok hk4
  obtain ⟨hA, cell, c1, c2, c3, c4, c5⟩ := (hpic.2 a 120 m hKa).2.2.2 (by decide)
  obtain ⟨hSl, hfc, kC, hkC, hkind⟩ := hKs.2.1.1 0 _ hcl
  obtain ⟨cf, kf, fi, f, hi, hsl⟩ := hSl k hk4
  refine W.getf hx hb hown (hts _ (zTs_in (zwc_get h hk4) rfl)) hi (u_facts hfc hkC (u_lays hts (zu_in hk4) hk4) hi).1 c1 c2 (v := zfv 0 k P I a) ?_ rfl rfl (zl_dec h) (kk p e R s m' args below meth c H locs cells slots mc ms lsr S D hl)
  rw [hsl]
  exact c5 k hk
/-- a field of an own object is written -/
theorem zV_put {idx ci k m a : Nat} {v : Value} {P' : zPT} {I' : zIT} (h : zl mi pc = some (.putfield idx, 3, ci, k, r3)) (hKa : K a = some (ci, m)) (hk : k < zN ci) (hn : narrow (zty ci k) v = v) (hf : fits (zty ci k) v = true)
    (hv : zfv ci k P' I' a = v) (hj : ∀ j, j ≠ k → zfv ci j P' I' a = zfv ci j P I a) (hP : ∀ q, q ≠ a → P' q = P q) (hI : ∀ q, q ≠ a → I' q = I q)
    (kk : zV l X d bc bs mi (pc + 3) ls st n K P' I' L Post) : zV l X d bc bs mi pc ls (v :: .ref a :: st) n K P I L Post := by
  intro p e R s m' args below meth c H locs cells slots mc ms lsr S D hl
  obtain ⟨hx, hb, hml, hown, hts, hr, hlk, htab, hnm, hdf, hdl, hKs, hst⟩ := id S
  obtain ⟨d1, d2, d3, d4, hS, hpic⟩ := id D
  obtain ⟨hcl, hlt⟩ := zcl_ok hk
  obtain ⟨hA, r, g1, g2, cell, q1, q2, q3, q4⟩ := (hpic.2 a ci m hKa).1 hlt
  cases g1.symm.trans hcl
  obtain ⟨hSl, hfc, kC, hkC, hkind⟩ := hKs.2.1.1 ci _ hcl
  obtain ⟨cf, kf, fi, f, hi, hsl⟩ := hSl k hk
  have hap := va_apart (own := zO mi) hts (zu_in hk) (zty ci) (zty_ok hk) (znm_ok hk) hKs.2.1 hcl
  have hlay := hts _ (zu_in hk _ (u_in_lay hk))
  have hstat := (u_facts hfc hkC (u_lays hts (zu_in hk) hk) hi).1
  obtain ⟨hw, hfin⟩ := zwc_put h hk
  have hlink := hts _ (zTs_in hw rfl)
  have fin : ∀ H' : Heap, H'[a]? = some (cell.setSlot f.slot v) → H'.size = H.size → (∀ q, q ≠ a → H'[q]? = H[q]?) → W p l e R s m' args below meth c H' (locs ++ [⟨a, f.slot⟩]) cells slots (vx_MQ below (zQ X Post) (zXC X Post) args s mc ms (zA X)) (F0 m' (pc + 3) lsr st) := by
    intro H' e1 e2 e3
    rw [hsl] at e1
    refine kk p e R s m' args below meth c H' _ cells slots mc ms lsr S ⟨d1, d2, d3, d4, hS.put e2 e3 hA, zPic_put hpic hKa ?_ e2 e3 hP hI (fun _ _ => rfl)⟩ hl
    refine ⟨fun _ => ⟨hA, _, hcl, g2, ?_⟩, fun q => absurd q (by omega), fun q => absurd q (by omega), fun q => absurd q (by omega)⟩
    refine t_OB.to (V := updV (fun j => zfv ci j P I a) k v) ⟨_, e1, q2, q3, t_set q4 hap hk v⟩ (fun j hjN => ?_)
    unfold updV
    by_cases hjk : j = k
    · rw [if_pos hjk, hjk, hv]
    · rw [if_neg hjk, hj j hjk]
  by_cases hff : (zT ci k).2.2.2 = true
  · obtain ⟨hin, hdecl⟩ := hfin.resolve_left (by rw [hff]; decide)
    unfold u_lay at hlay
    rw [if_pos hff] at hlay
    have hcf : m'.cls = cf := by
      obtain ⟨_, _, c', _, _, _, -, -, hf', -, -, -, hown2, -⟩ := Cond.laysFinal_spec hlay
      have e1 : c' = cf := by have := hi.symm.trans hf'; simp at this; exact this.1.symm
      rw [hdecl] at hown2
      rw [← e1]; exact Option.some.inj (hown.symm.trans hown2)
    have h6 := u_fits hfc hkC hkind (Or.inr hlay) hi (zty_ok hk k hk) hn hf
    exact W.putFinK hx hb hown hlink hi hstat hcf (hnm.trans hin) (by rw [q2]; exact h6) q1 q3 (by rw [hsl]; exact k2_hasslot (q4 k hk)) rfl rfl (zl_dec h) fin
  · unfold u_lay at hlay
    rw [if_neg hff] at hlay
    have h6 := u_store hfc hkC hkind hlay hi (zty_ok hk k hk) hn hf
    exact W.putK hx hb (f := f) ⟨hown, hlink, ⟨_, _, _, hi⟩, hstat⟩ (by rw [q2]; exact h6) q1 q3 (by rw [hsl]; exact k2_hasslot (q4 k hk)) rfl rfl (zl_dec h) fin
theorem zV_putI {idx ci k m a : Nat} {x : Int32} (h : zl mi pc = some (.putfield idx, 3, ci, k, r3)) (hKa : K a = some (ci, m)) (hk : k < zN ci) (hf : zrf ci k = false) (hn : narrow (zty ci k) (.int x) = .int x) (hft : fits (zty ci k) (.int x) = true)
    (kk : zV l X d bc bs mi (pc + 3) ls st n K P (zuI I a k x) L Post) : zV l X d bc bs mi pc ls (.int x :: .ref a :: st) n K P I L Post := by
  refine zV_put h hKa hk hn hft (P' := P) (I' := zuI I a k x) ?_ (fun j hj => ?_) (fun _ _ => rfl) (fun q hq => if_neg hq) kk
  · unfold zfv
    rw [hf]
    simp [zuI, upd]
  · unfold zfv
    simp [zuI, upd, hj]
theorem zV_putR {idx ci k m a q : Nat} (h : zl mi pc = some (.putfield idx, 3, ci, k, r3)) (hKa : K a = some (ci, m)) (hk : k < zN ci) (hf : zrf ci k = true) (hn : narrow (zty ci k) (.ref q) = .ref q) (hft : fits (zty ci k) (.ref q) = true)
    (kk : zV l X d bc bs mi (pc + 3) ls st n K (zuP P a k (some q)) I L Post) : zV l X d bc bs mi pc ls (.ref q :: .ref a :: st) n K P I L Post := by
  refine zV_put h hKa hk hn hft (P' := zuP P a k (some q)) (I' := I) ?_ (fun j hj => ?_) (fun q hq => if_neg hq) (fun _ _ => rfl) kk
  · unfold zfv
    rw [hf]
    simp [zuP, va_up, va_rf]
  · unfold zfv
    simp [zuP, va_up, hj]
/-- an array is read -/
theorem zK_arr {s : State} (hKs : zK X s s.heap) {k : Nat} (hk : k = 100 ∨ k = 101 ∨ k = 102 ∨ k = 103 ∨ k = 104) : ArrOfT s (X.2.2.1 k) (zaty k) := by
  have h := hKs.2.1.2
  rcases hk with rfl | rfl | rfl | rfl | rfl
  · exact (h 0 _ rfl).1
  · exact (h 1 _ rfl).1
  · exact (h 2 _ rfl).1
  · exact (h 3 _ rfl).1
  · exact (h 4 _ rfl).1
theorem zAt_rd {s : State} {H : Heap} (hKs : zK X s s.heap) {a k m : Nat} (hpic : zAt X s H P I L a k m) (hk : k = 100 ∨ k = 101 ∨ k = 102 ∨ k = 103 ∨ k = 104 ∨ k = 110 ∨ k = 113) :
    ∃ cell : Cell, H[a]? = some cell ∧ s.isArrayOf cell (zaty k) ∧ cell.vm ≠ .unknown ∧ (m ≤ cell.slots.size ∧ cell.slots.size.toInt32 = Int32.ofNat m) ∧ ∀ j, j < m → cell.slots[j]? = some (zel k P I L a j) := by
  by_cases h1 : k < 110
  · have hk2 : k = 100 ∨ k = 101 ∨ k = 102 ∨ k = 103 ∨ k = 104 := by omega
    obtain ⟨-, x⟩ := hpic.2.1 (by omega) h1
    exact ⟨_, x, zK_arr hKs hk2 m _, (fun q => by cases q), ⟨Nat.le_of_eq (arrV_size _ _ _).symm, by rw [arrV_size]⟩, fun j hj => arrV_read _ _ hj⟩
  · obtain ⟨-, cell, c1, c2, c3, c4, c5⟩ := hpic.2.2.1 (by omega) (by omega)
    refine ⟨cell, c1, c2, c3, c4, fun j hj => ?_⟩
    rw [c5 j hj]
    unfold zel
    rw [if_neg (by omega), if_neg (by omega)]
theorem zV_iald {k m a : Nat} {i : Int32} (h : zl mi pc = some (.iaload, 1, r1, r2, r3)) (hKa : K a = some (k, m)) (hk : k = 100 ∨ k = 110) (hi : vp_in i m) (kk : zV l X d bc bs mi (pc + 1) ls (.int (I a i.toNatClampNeg) :: st) n K P I L Post) : zV l X d bc bs mi pc ls (.int i :: .ref a :: st) n K P I L Post := by
  intro p e R s m' args below meth c H locs cells slots mc ms lsr S D hl
  obtain ⟨cell, c1, c2, c3, c4, c5⟩ := zAt_rd S.2.2.2.2.2.2.2.2.2.2.2.1 (D.2.2.2.2.2.2 a k m hKa) (by omega)
  have hlt : i.toNatClampNeg < m := Nat.not_le.mp fun q => hi (Or.inr q)
  refine W.iald (v := .int (I a i.toNatClampNeg)) S.1 S.2.1 c1 (by rcases hk with rfl | rfl <;> exact c2) c3 (fun q => q.elim (fun z => hi (Or.inl z)) (fun z => hi (Or.inr (Nat.le_trans c4.1 z)))) ?_ rfl rfl (zl_dec h) (kk p e R s m' args below meth c H locs cells slots mc ms lsr S D hl)
  rw [c5 _ hlt]
  rcases hk with rfl | rfl <;> rfl
theorem zV_bald {k m a : Nat} {i : Int32} (h : zl mi pc = some (.baload, 1, r1, r2, r3)) (hKa : K a = some (k, m)) (hk : k = 103 ∨ k = 113) (hi : vp_in i m) (kk : zV l X d bc bs mi (pc + 1) ls (.int (I a i.toNatClampNeg) :: st) n K P I L Post) : zV l X d bc bs mi pc ls (.int i :: .ref a :: st) n K P I L Post := by
  intro p e R s m' args below meth c H locs cells slots mc ms lsr S D hl
  obtain ⟨cell, c1, c2, c3, c4, c5⟩ := zAt_rd S.2.2.2.2.2.2.2.2.2.2.2.1 (D.2.2.2.2.2.2 a k m hKa) (by omega)
  have hlt : i.toNatClampNeg < m := Nat.not_le.mp fun q => hi (Or.inr q)
  refine W.bald (v := .int (I a i.toNatClampNeg)) S.1 S.2.1 c1 (by rcases hk with rfl | rfl <;> exact c2) c3 (fun q => q.elim (fun z => hi (Or.inl z)) (fun z => hi (Or.inr (Nat.le_trans c4.1 z)))) ?_ rfl rfl (zl_dec h) (kk p e R s m' args below meth c H locs cells slots mc ms lsr S D hl)
  rw [c5 _ hlt]
  rcases hk with rfl | rfl <;> rfl
theorem zV_cald {m a : Nat} {i : Int32} (h : zl mi pc = some (.caload, 1, r1, r2, r3)) (hKa : K a = some (102, m)) (hi : vp_in i m) (kk : zV l X d bc bs mi (pc + 1) ls (.int (I a i.toNatClampNeg) :: st) n K P I L Post) : zV l X d bc bs mi pc ls (.int i :: .ref a :: st) n K P I L Post := by
  intro p e R s m' args below meth c H locs cells slots mc ms lsr S D hl
  obtain ⟨cell, c1, c2, c3, c4, c5⟩ := zAt_rd S.2.2.2.2.2.2.2.2.2.2.2.1 (D.2.2.2.2.2.2 a 102 m hKa) (by omega)
  have hlt : i.toNatClampNeg < m := Nat.not_le.mp fun q => hi (Or.inr q)
  refine W.cald (v := .int (I a i.toNatClampNeg)) S.1 S.2.1 c1 c2 c3 (fun q => q.elim (fun z => hi (Or.inl z)) (fun z => hi (Or.inr (Nat.le_trans c4.1 z)))) ?_ rfl rfl (zl_dec h) (kk p e R s m' args below meth c H locs cells slots mc ms lsr S D hl)
  rw [c5 _ hlt]
  rfl
theorem zV_lald {m a : Nat} {i : Int32} (h : zl mi pc = some (.laload, 1, r1, r2, r3)) (hKa : K a = some (101, m)) (hi : vp_in i m) (kk : zV l X d bc bs mi (pc + 1) ls (.long (L a i.toNatClampNeg) :: st) n K P I L Post) : zV l X d bc bs mi pc ls (.int i :: .ref a :: st) n K P I L Post := by
  intro p e R s m' args below meth c H locs cells slots mc ms lsr S D hl
  obtain ⟨cell, c1, c2, c3, c4, c5⟩ := zAt_rd S.2.2.2.2.2.2.2.2.2.2.2.1 (D.2.2.2.2.2.2 a 101 m hKa) (by omega)
  have hlt : i.toNatClampNeg < m := Nat.not_le.mp fun q => hi (Or.inr q)
  refine W.lald (v := .long (L a i.toNatClampNeg)) S.1 S.2.1 c1 c2 c3 (fun q => q.elim (fun z => hi (Or.inl z)) (fun z => hi (Or.inr (Nat.le_trans c4.1 z)))) ?_ rfl rfl (zl_dec h) (kk p e R s m' args below meth c H locs cells slots mc ms lsr S D hl)
  rw [c5 _ hlt]
  rfl
theorem zV_aald {m a q : Nat} {i : Int32} (h : zl mi pc = some (.aaload, 1, r1, r2, r3)) (hKa : K a = some (104, m)) (hi : vp_in i m) (hp : P a i.toNatClampNeg = some q) (kk : zV l X d bc bs mi (pc + 1) ls (.ref q :: st) n K P I L Post) : zV l X d bc bs mi pc ls (.int i :: .ref a :: st) n K P I L Post := by
  intro p e R s m' args below meth c H locs cells slots mc ms lsr S D hl
  obtain ⟨cell, c1, c2, c3, c4, c5⟩ := zAt_rd S.2.2.2.2.2.2.2.2.2.2.2.1 (D.2.2.2.2.2.2 a 104 m hKa) (by omega)
  have hlt : i.toNatClampNeg < m := Nat.not_le.mp fun q => hi (Or.inr q)
  refine W.aald (v := .ref q) (ty := .object RX3) S.1 S.2.1 c1 c2 rfl c3 (fun q => q.elim (fun z => hi (Or.inl z)) (fun z => hi (Or.inr (Nat.le_trans c4.1 z)))) ?_ rfl rfl (zl_dec h) (kk p e R s m' args below meth c H locs cells slots mc ms lsr S D hl)
  rw [c5 _ hlt]
  show some (va_rf (P a i.toNatClampNeg)) = _
  rw [hp]
  rfl
theorem zV_alen {k m a : Nat} {v : Int32} (h : zl mi pc = some (.arraylength, 1, r1, r2, r3)) (hKa : K a = some (k, m)) (hk : k = 100 ∨ k = 101 ∨ k = 102 ∨ k = 103 ∨ k = 104 ∨ k = 110 ∨ k = 113) (hv : Int32.ofNat m = v) (kk : zV l X d bc bs mi (pc + 1) ls (.int v :: st) n K P I L Post) : zV l X d bc bs mi pc ls (.ref a :: st) n K P I L Post := by
  intro p e R s m' args below meth c H locs cells slots mc ms lsr S D hl
  obtain ⟨cell, c1, c2, c3, c4, c5⟩ := zAt_rd S.2.2.2.2.2.2.2.2.2.2.2.1 (D.2.2.2.2.2.2 a k m hKa) hk
  exact W.alen S.1 S.2.1 c1 c2 (c4.2.trans hv) rfl rfl (zl_dec h) (kk p e R s m' args below meth c H locs cells slots mc ms lsr S D hl)
/-- an own array is written -/
theorem zAt_arr {s : State} {H1 : Heap} {a k m j : Nat} {v : Value} {P' : zPT} {I' : zIT} {L' : zLT} (hk1 : 100 ≤ k) (hk2 : k < 110) (hA : zA X a) (e : H1[a]? = some ((arrV (X.2.2.1 k) m (zel k P I L a)).setSlot j v)) (hv : zel k P' I' L' a j = v) (hj : ∀ q, q ≠ j → zel k P' I' L' a q = zel k P I L a q) : zAt X s H1 P' I' L' a k m := by
  refine ⟨fun q => absurd q (by omega), fun _ _ => ⟨hA, ?_⟩, fun q => absurd q (by omega), fun q => absurd q (by omega)⟩
  rw [e, arrV_store]
  congr 2
  funext q
  unfold updV
  by_cases hq : q = j
  · rw [if_pos hq, hq, hv]
  · rw [if_neg hq, hj q hq]
theorem zV_iast {m a : Nat} {i x : Int32} (h : zl mi pc = some (.iastore, 1, r1, r2, r3)) (hKa : K a = some (100, m)) (hi : vp_in i m) (kk : zV l X d bc bs mi (pc + 1) ls st n K P (zuI I a i.toNatClampNeg x) L Post) : zV l X d bc bs mi pc ls (.int x :: .int i :: .ref a :: st) n K P I L Post := by
  intro p e R s m' args below meth c H locs cells slots mc ms lsr S D hl
  obtain ⟨d1, d2, d3, d4, hS, hpic⟩ := id D
  obtain ⟨hA, hx⟩ := (hpic.2 a 100 m hKa).2.1 (by decide) (by decide)
  refine W.iast S.1 S.2.1 hx (zK_arr S.2.2.2.2.2.2.2.2.2.2.2.1 (by omega) m _) (fun q => by cases q) (by rw [arrV_size]; exact hi) rfl rfl (zl_dec h) fun H1 e1 z oq => ?_
  refine kk p e R s m' args below meth c H1 _ cells slots mc ms lsr S ⟨d1, d2, d3, d4, hS.put z oq hA, zPic_put hpic hKa (zAt_arr (by decide) (by decide) hA e1 ?_ (fun q hq => ?_)) z oq (fun _ _ => rfl) (fun q hq => if_neg hq) (fun _ _ => rfl)⟩ hl
  · simp [zel, zuI, upd]
  · simp [zel, zuI, upd, hq]
theorem zV_bast {m a : Nat} {i x : Int32} (h : zl mi pc = some (.bastore, 1, r1, r2, r3)) (hKa : K a = some (103, m)) (hi : vp_in i m) (kk : zV l X d bc bs mi (pc + 1) ls st n K P (zuI I a i.toNatClampNeg x.toInt8.toInt32) L Post) : zV l X d bc bs mi pc ls (.int x :: .int i :: .ref a :: st) n K P I L Post := by
  intro p e R s m' args below meth c H locs cells slots mc ms lsr S D hl
  obtain ⟨d1, d2, d3, d4, hS, hpic⟩ := id D
  obtain ⟨hA, hx⟩ := (hpic.2 a 103 m hKa).2.1 (by decide) (by decide)
  refine W.bast S.1 S.2.1 hx (zK_arr S.2.2.2.2.2.2.2.2.2.2.2.1 (by omega) m _) (fun q => by cases q) (by rw [arrV_size]; exact hi) rfl rfl (zl_dec h) fun H1 e1 z oq => ?_
  refine kk p e R s m' args below meth c H1 _ cells slots mc ms lsr S ⟨d1, d2, d3, d4, hS.put z oq hA, zPic_put hpic hKa (zAt_arr (by decide) (by decide) hA e1 ?_ (fun q hq => ?_)) z oq (fun _ _ => rfl) (fun q hq => if_neg hq) (fun _ _ => rfl)⟩ hl
  · simp [zel, zuI, upd, narrow]
  · simp [zel, zuI, upd, hq]
theorem zV_cast {m a : Nat} {i x : Int32} (h : zl mi pc = some (.castore, 1, r1, r2, r3)) (hKa : K a = some (102, m)) (hi : vp_in i m) (kk : zV l X d bc bs mi (pc + 1) ls st n K P (zuI I a i.toNatClampNeg (vp_nar .char x)) L Post) : zV l X d bc bs mi pc ls (.int x :: .int i :: .ref a :: st) n K P I L Post := by
  intro p e R s m' args below meth c H locs cells slots mc ms lsr S D hl
  obtain ⟨d1, d2, d3, d4, hS, hpic⟩ := id D
  obtain ⟨hA, hx⟩ := (hpic.2 a 102 m hKa).2.1 (by decide) (by decide)
  refine W.cast S.1 S.2.1 hx (zK_arr S.2.2.2.2.2.2.2.2.2.2.2.1 (by omega) m _) (fun q => by cases q) (by rw [arrV_size]; exact hi) rfl rfl (zl_dec h) fun H1 e1 z oq => ?_
  refine kk p e R s m' args below meth c H1 _ cells slots mc ms lsr S ⟨d1, d2, d3, d4, hS.put z oq hA, zPic_put hpic hKa (zAt_arr (by decide) (by decide) hA e1 ?_ (fun q hq => ?_)) z oq (fun _ _ => rfl) (fun q hq => if_neg hq) (fun _ _ => rfl)⟩ hl
  · simp [zel, zuI, upd, vp_nar]
    try rfl
  · simp [zel, zuI, upd, hq]
theorem zV_last {m a : Nat} {i : Int32} {x : Int64} (h : zl mi pc = some (.lastore, 1, r1, r2, r3)) (hKa : K a = some (101, m)) (hi : vp_in i m) (kk : zV l X d bc bs mi (pc + 1) ls st n K P I (zuL L a i.toNatClampNeg x) Post) : zV l X d bc bs mi pc ls (.long x :: .int i :: .ref a :: st) n K P I L Post := by
  intro p e R s m' args below meth c H locs cells slots mc ms lsr S D hl
  obtain ⟨d1, d2, d3, d4, hS, hpic⟩ := id D
  obtain ⟨hA, hx⟩ := (hpic.2 a 101 m hKa).2.1 (by decide) (by decide)
  refine W.last S.1 S.2.1 hx (zK_arr S.2.2.2.2.2.2.2.2.2.2.2.1 (by omega) m _) (fun q => by cases q) (by rw [arrV_size]; exact hi) rfl rfl (zl_dec h) fun H1 e1 z oq => ?_
  refine kk p e R s m' args below meth c H1 _ cells slots mc ms lsr S ⟨d1, d2, d3, d4, hS.put z oq hA, zPic_put hpic hKa (zAt_arr (by decide) (by decide) hA e1 ?_ (fun q hq => ?_)) z oq (fun _ _ => rfl) (fun _ _ => rfl) (fun q hq => if_neg hq)⟩ hl
  · simp [zel, zuL, vp_updL]
  · simp [zel, zuL, vp_updL, hq]
end ZM
