/-! THE LAW'S SECOND OBJECT -/
/-- the law's row of longs -/
def zWas (E : zEnv) : Prop := zEF E (zEr E 1001) ∧ zEK E (zEr E 1001) = some (101, 9)
def zwas (E : zEnv) (j : Nat) : Int64 := zEL E (zEr E 1001) j
def zEwL (E : zEnv) (L : zLT) : zEnv := (E.1, E.2.1, E.2.2.1, E.2.2.2.1, E.2.2.2.2.1, E.2.2.2.2.2.1, L)
theorem zvin {i : Int32} {n : Nat} (h0 : 0 ≤ i.toInt) (h1 : i.toInt < (n : Int)) : vp_in i n := by
  have h2 : i.toNatClampNeg = i.toInt.toNat := rfl
  rintro (h | h)
  · have := Int32.lt_iff_toInt_lt.mp h
    have z0 := zi0
    omega
  · omega
section ZU2
variable {l : Launch} {X : zX} {sl dy D b mi pc : Nat} {E : zEnv} {ls : zLs} {st : List Value} {M : zM} {Post : zPost}
theorem ulast (hE : zEok X sl dy E) (hw : zWas E) {r1 r2 r3 : Nat} {i : Int32} {x : Int64} (h : zl mi pc = some (.lastore, 1, r1, r2, r3)) (h0 : 0 ≤ i.toInt) (h1 : i.toInt < 9)
    (k : ∀ E2, zEok X sl dy E2 → zWas E2 → (∀ j, zwas E2 j = if j = i.toNatClampNeg then x else zwas E j) → zU l X D b mi (pc + 1) ls st E2 M Post) : zU l X D b mi pc ls (.long x :: .int i :: .ref 1001 :: st) E M Post := fun n K P I L hR => by
  obtain ⟨g1, g2, g3, g4, g5, va, t, g6, g7, g8, g9, g10, g11⟩ := id hR
  obtain ⟨w1, w2, w3, w4, w5, w6⟩ := g11 _ hw.1
  refine zV_last (m := 9) h (by rw [w3]; exact hw.2) (zvin h0 h1) ?_
  refine k (zEwL E (zuL (zEL E) (zEr E 1001) i.toNatClampNeg x)) hE hw (fun j => ?_) n K P I _ ⟨g1, g2, g3, g4, g5, va, t, g6, g7, g8, g9, g10, fun a ha => ?_⟩
  · show zuL (zEL E) (zEr E 1001) i.toNatClampNeg x (zEr E 1001) j = _
    unfold zuL
    rw [if_pos rfl]
    rfl
  · obtain ⟨q1, q2, q3, q4, q5, q6⟩ := g11 a ha
    refine ⟨q1, q2, q3, q4, q5, ?_⟩
    show zuL L (zEr E 1001) i.toNatClampNeg x a = zuL (zEL E) (zEr E 1001) i.toNatClampNeg x a
    unfold zuL
    by_cases e : a = zEr E 1001
    · rw [if_pos e, if_pos e, w6]
    · rw [if_neg e, if_neg e, q6]
theorem ulald (hE : zEok X sl dy E) (hw : zWas E) {r1 r2 r3 : Nat} {i : Int32} (h : zl mi pc = some (.laload, 1, r1, r2, r3)) (h0 : 0 ≤ i.toInt) (h1 : i.toInt < 9)
    (k : zU l X D b mi (pc + 1) ls (.long (zwas E i.toNatClampNeg) :: st) E M Post) : zU l X D b mi pc ls (.int i :: .ref 1001 :: st) E M Post := fun n K P I L hR => by
  obtain ⟨g1, g2, g3, g4, g5, va, t, g6, g7, g8, g9, g10, g11⟩ := id hR
  obtain ⟨w1, w2, w3, w4, w5, w6⟩ := g11 _ hw.1
  refine zV_lald (m := 9) h (by rw [w3]; exact hw.2) (zvin h0 h1) ?_
  have := k n K P I L hR
  unfold zwas at this
  rw [← w6] at this
  exact this
theorem ucPi (J : zJDK l X) (hE : zEok X sl dy E) {e : Instr × Nat × Nat × Nat × Nat} {m pc' b1 b2 : Nat} {la : zLs} {st' : List Value} {P : Int32 → Prop} (h : zl mi pc = some e) (hs : zstep sl dy mi pc e ls st M = some (.inr (.inr (.inr (m, pc', la, st', 0)))))
    (hc : zW sl D dy m 0 la [] M (zRg b1 (zQP (fun x J => J = M ∧ P x)))) (kr : ∀ x, P x → zU l X (D + 1) b2 mi pc' ls (.int x :: st') E M Post) (hb : b1 + b2 ≤ b := by omega) : zU l X (D + 1) b mi pc ls st E M Post :=
  zU_le hb (zU_c J hE h hs hc (fun c v M' q => by cases q.1) (fun v M' ⟨_, x, h2, h3, h4⟩ => by rw [h2, h3]; exact kr x h4))
theorem unew (hE : zEok X sl dy E) {r2 r3 : Nat} (h : zl mi pc = some (.newarray .long, 2, 101, r2, r3)) (hls : ∀ q ∈ ls, q.2 ≠ .ref 1001)
    (k : ∀ E2, zEok X sl dy E2 → zWas E2 → zU l X D b mi (pc + 2) ls [.ref 1001] E2 M Post) : zU l X D (b + 1) mi pc ls [.int 9] E M Post := fun n K P I L hR => by
  obtain ⟨g1, g2, g3, g4, g5, va, t, ⟨cap, b1, b2, b3, b4, b5, b6⟩, g7, g8, g9, g10, g11⟩ := id hR
  obtain ⟨e1, ⟨e2, e2k⟩, e3, e4, e5⟩ := id hE
  refine zV_bud (bc := b * 8 + 1) (bs := b * 400 + 9) (by omega) (by omega) (zV_newa (N := 9) h (by decide) rfl (by decide) (by decide) (by decide) ?_)
  have hFn : ∀ a, zEF E a → a ≠ n := fun a ha => by have := (g11 a ha).1; omega
  let E2 : zEnv := (zEB E, fun i => if i = 1001 then n else zEr E i, fun a => zEF E a ∨ a = n, zuK (zEK E) n (101, 9), z0P (zEP E) n, z0I (zEI E) n, z0L (zEL E) n)
  have old : ∀ a, a ≠ n → zuK (zEK E) n (101, 9) a = zEK E a ∧ z0P (zEP E) n a = zEP E a ∧ z0I (zEI E) n a = zEI E a ∧ z0L (zEL E) n a = zEL E a := fun a ha => ⟨if_neg ha, if_neg ha, if_neg ha, if_neg ha⟩
  have hE2 : zEok X sl dy E2 := by
    refine ⟨fun i hi => ?_, ⟨?_, ?_⟩, fun i t ht => ?_, fun k hk => ?_, fun a ha => ?_⟩
    · show (if i = 1001 then n else zEr E i) = zEB E + i
      rw [if_neg (by omega)]; exact e1 i hi
    · show zEF E (if 1000 = 1001 then n else zEr E 1000) ∨ _
      exact Or.inl e2
    · show zuK (zEK E) n (101, 9) (zEr E 1000) = _
      rw [(old _ (hFn _ e2)).1]; exact e2k
    · have hi : i ≠ 1001 := fun e => by
        rw [e] at ht
        cases ht
      obtain ⟨q, k1, m, k2, s1, s2, s3, s4, s5, s6, s7, s8, s9⟩ := e3 i t ht
      have oa := old _ (hFn _ s1)
      have ob := old _ (hFn _ s2)
      show zStr _ _ _ _ (if i = 1001 then n else zEr E i) t
      rw [if_neg hi]
      refine ⟨q, k1, m, k2, Or.inl s1, Or.inl s2, ?_, s4, ?_, ?_, s7, ?_, fun j x hj => ?_⟩
      · show zuK (zEK E) n (101, 9) _ = _
        rw [oa.1]; exact s3
      · show z0P (zEP E) n _ 0 = _
        rw [oa.2.1]; exact s5
      · show zuK (zEK E) n (101, 9) _ = _
        rw [ob.1]; exact s6
      · show z0I (zEI E) n _ 1 = 0
        rw [oa.2.2.1]; exact s8
      · show z0I (zEI E) n _ j = x ∧ _
        rw [ob.2.2.1]; exact s9 j x hj
    · show (if 2000 + k = 1001 then n else zEr E (2000 + k)) = _
      rw [if_neg (by omega)]; exact e4 k hk
    · show ¬ (zEB E ≤ a ∧ a < zEB E + 150)
      rcases (show zEF E a ∨ a = n from ha) with ha | ha
      · exact e5 a ha
      · omega
  have hw2 : zWas E2 := ⟨Or.inr rfl, if_pos rfl⟩
  have hm : zmL (zEr E2) ls = zmL (zEr E) ls := List.map_congr_left fun q hq => by
    have := hls q hq
    obtain ⟨i, v⟩ := q
    cases v with
    | ref a =>
      have ha : a ≠ 1001 := fun e => this (by rw [e])
      show (i, Value.ref (if a = 1001 then n else zEr E a)) = (i, Value.ref (zEr E a))
      rw [if_neg ha]
    | _ => rfl
  have hk := k E2 hE2 hw2 (n + 1) (zuK K n (101, 9)) (z0P P n) (z0I I n) (z0L L n) ?_
  · rw [hm] at hk
    have hv : zmS (zEr E2) [.ref 1001] = [.ref n] := by
      show [Value.ref (if 1001 = 1001 then n else zEr E 1001)] = _
      rw [if_pos rfl]
    rw [hv] at hk
    exact hk
  · have new : ∀ a, a < n → zuK K n (101, 9) a = K a ∧ z0P P n a = P a ∧ z0I I n a = I a ∧ z0L L n a = L a := fun a ha => ⟨if_neg (by omega), if_neg (by omega), if_neg (by omega), if_neg (by omega)⟩
    have nB := fun i (hi : i < 150) => new (zEB E + i) (by omega)
    have hb := new (zEB E + 148) (by omega)
    have hv := new va (by omega)
    refine ⟨by show zEB E + 150 ≤ n + 1; omega, fun i sl e hi he => ?_, fun i k q hq => ?_, fun i k x hi hx => ?_, fun k x hx => ?_, va, t, ⟨cap, ?_, ?_, ?_, b4, by omega, b6.1, b6.2.1, ?_, ?_, fun j x hj => ?_, fun j => ?_⟩, g7, g8, g9, g10, fun a ha => ?_⟩
    · show zuK K n (101, 9) (zEB E + i) = _
      rw [(nB i hi).1]; exact g2 i sl e hi he
    · have := (zpd_lt hq).1
      show z0P P n (zEB E + i) k = _
      rw [(nB i (by omega)).2.1]; exact g3 i k q hq
    · show z0I I n (zEB E + i) k = x
      rw [(nB i (by omega)).2.2.1]; exact g4 i k x hi hx
    · show z0I (zEI E) n (zEr E 1000) k = x
      rw [(old _ (hFn _ e2)).2.2.1]; exact g5 k x hx
    · show zuK K n (101, 9) (zEB E + 148) = _
      rw [hb.1]; exact b1
    · show z0P P n (zEB E + 148) 0 = _
      rw [hb.2.1]; exact b2
    · rw [hv.1]; exact b3
    · show z0I I n (zEB E + 148) 1 = 0
      rw [hb.2.2.1]; exact b6.2.2.1
    · show z0I I n (zEB E + 148) 3 = _
      rw [hb.2.2.1]; exact b6.2.2.2.1
    · rw [hv.2.2.1]; exact b6.2.2.2.2.1 j x hj
    · rw [hv.2.2.1]; exact b6.2.2.2.2.2 j
    · rcases (show zEF E a ∨ a = n from ha) with ha | rfl
      · obtain ⟨q1, q2, q3, q4, q5, q6⟩ := g11 a ha
        have o := old a (by omega)
        have w := new a q1
        exact ⟨by omega, q2, by rw [w.1, q3]; exact o.1.symm, by rw [w.2.1, q4]; exact o.2.1.symm, by rw [w.2.2.1, q5]; exact o.2.2.1.symm, by rw [w.2.2.2, q6]; exact o.2.2.2.symm⟩
      · refine ⟨by omega, by omega, ?_, ?_, ?_, ?_⟩
        · show (if a = a then _ else _) = (if a = a then _ else _); rw [if_pos rfl, if_pos rfl]
        · show (if a = a then _ else _) = (if a = a then _ else _); rw [if_pos rfl, if_pos rfl]
        · show (if a = a then _ else _) = (if a = a then _ else _); rw [if_pos rfl, if_pos rfl]
        · show (if a = a then _ else _) = (if a = a then _ else _); rw [if_pos rfl, if_pos rfl]
end ZU2
theorem zIv_pat {sl : Nat} {E : zEnv} {S : Nat → Nat → Int32} {L : List (Nat → Nat → Int32)} {M : zM} (h : zIv S L M) : zIv S L (zpat sl E M) := zIv_1 (fun a k ha => zpat_no (by omega)) h
/-- the snapshot -/
def zSn (V : Nat → Nat → Int32) (M : zM) : Prop := zSB 12 V M ∧ M 0 8 = some 1
theorem zSn_kp {V : Nat → Nat → Int32} {I J : zM} (h : zSn V I) (hk : zKp I J) : zSn V J := ⟨fun o k hc => by
  have := (zcell_lt hc).1
  rw [hk.1 _ _ (by omega) (by omega)]
  exact h.1 o k hc, hk.2.trans h.2⟩
theorem zSn_pat {sl : Nat} {E : zEnv} {V : Nat → Nat → Int32} {M : zM} (h : zSn V M) : zSn V (zpat sl E M) := ⟨fun o k hc => by
  have := (zcell_lt hc).1
  rw [zpat_no (by omega)]
  exact h.1 o k hc, h.2⟩
/-- states that may be asked -/
def zGd (S : Nat → Nat → Int32) : Prop := zOK S ∧ 1 ≤ (S 0 10).toInt
/-- the row holds the answers of the states, the latest first -/
def zRow (sl dy : Nat) (E : zEnv) (L : List (Nat → Nat → Int32)) : Prop := ∀ (j : Nat) (h : j < L.length), zwas E (L.length - 1 - j) = zAns sl dy L[j]
theorem zRow_cons {sl dy : Nat} {E E2 : zEnv} {L : List (Nat → Nat → Int32)} {S : Nat → Nat → Int32} (h : zRow sl dy E L) (h2 : ∀ j, zwas E2 j = if j = L.length then zAns sl dy S else zwas E j) : zRow sl dy E2 (S :: L) := fun j hj => by
  rw [List.length_cons] at hj
  rw [h2, List.length_cons]
  cases j with
  | zero => rw [if_pos (by omega)]; rfl
  | succ j =>
    rw [if_neg (by omega), List.getElem_cons_succ, ← h j (by omega)]
    congr 1
    omega
theorem zRow_tail {sl dy : Nat} {E : zEnv} {L : List (Nat → Nat → Int32)} {S : Nat → Nat → Int32} (h : zRow sl dy E (S :: L)) : zwas E L.length = zAns sl dy S ∧ zRow sl dy E L := by
  refine ⟨?_, fun j hj => ?_⟩
  · have := h 0 (by rw [List.length_cons]; omega)
    rw [show (S :: L).length - 1 - 0 = L.length by rw [List.length_cons]; omega] at this
    exact this
  · have := h (j + 1) (by rw [List.length_cons]; omega)
    rw [show (S :: L).length - 1 - (j + 1) = L.length - 1 - j by rw [List.length_cons]; omega, List.getElem_cons_succ] at this
    exact this
theorem zofa {n : Nat} (h : n < 1000) : (Int32.ofNat n).toInt = (n : Int) := Int32.toInt_ofNat_of_lt (by omega)
theorem zofs {x : Int32} {n : Nat} (h : x.toInt = (n : Int)) : x = Int32.ofNat n := by
  have h1 := Int32.toInt_lt x
  apply Int32.toInt_inj.mp
  rw [Int32.toInt_ofNat_of_lt (by omega), h]
set_option maxRecDepth 8000 in
theorem zo_749 {l : Launch} {X : zX} {sl dy : Nat} {Post : zPost} (J : zJDK l X) (hsl : sl ≤ 2147483647) (hp : ∀ n K P I L, Post (.inl (some (.int 1))) n K P I L) {E : zEnv} {M : zM} {S V : Nat → Nat → Int32} (hE : zEok X sl dy E) (hI : zIv S [] M) (hn : zSn V M) (hV : zGd V) (tk : Int32) (htk : V 0 10 = tk) : zU l X 14 511 178 749 [(0, .ref 1000), (2, .ref 0), (3, .long (zAns sl dy V)), (5, .int tk)] [] E M Post := by
  refine ug J hE 1 (pc' := 750) (ls' := [(0, .ref 1000), (2, .ref 0), (3, .long (zAns sl dy V)), (5, .int tk)]) (st' := [.ref 0]) (M' := M) rfl ?_
  refine ucf J hE (b1 := 1) (b2 := 510) rfl rfl (zl_undo_x (L := []) hI.2.2.1) ?_
  refine ug J hE 3 (pc' := 760) (ls' := [(0, .ref 1000), (2, .ref 0), (3, .long (zAns sl dy V)), (5, .int tk)]) (st' := [.ref 0]) (M' := M) rfl ?_
  refine ucP J hE (b1 := 0) (b2 := 510) rfl rfl (zl_restore hI hn.1 hV.1 hn.2) (fun x M2 hP => ?_)
  obtain ⟨rfl, hI2, hn2⟩ := hP
  refine ug J hE 1 (pc' := 765) (ls' := [(0, .ref 1000), (2, .ref 0), (3, .long (zAns sl dy V)), (5, .int tk)]) (st' := [.int tk, .int (V 0 10)]) (M' := M2) rfl ?_
  refine uicmp J hE rfl rfl (fun h1 => ?_) (fun h1 => ?_)
  · have h1 := zc_ne.1.mp h1
    exact absurd htk h1
  · have h1 := zc_ne.2.mp h1
    refine ug J hE 1 (pc' := 769) (ls' := [(0, .ref 1000), (2, .ref 0), (3, .long (zAns sl dy V)), (5, .int tk)]) (st' := [.ref 0]) (M' := M2) rfl ?_
    refine ucA J hE (b1 := 508) (b2 := 1) rfl rfl (zl_asksF hI2.1 hI2.2.1 hV.2) (fun M3 hf hOo => ?_)
    have hI3 := zIv_zfr hI2 hf
    refine ug J hE 2 (pc' := 774) (ls' := [(0, .ref 1000), (2, .ref 0), (3, .long (zAns sl dy V)), (5, .int tk)]) (st' := [.int ((lg_cmp (zAns sl dy V) (zAns sl dy V)))]) (M' := M3) rfl ?_
    refine uif J hE rfl rfl (fun h2 => ?_) (fun h2 => ?_)
    · have h2 := zc_ne.1.mp h2
      exact absurd (zcmp_self _) h2
    · have h2 := zc_ne.2.mp h2
      refine ug J hE 1 (pc' := 778) (ls' := [(0, .ref 1000), (2, .ref 0), (3, .long (zAns sl dy V)), (5, .int tk)]) (st' := [.ref 0]) (M' := M3) rfl ?_
      refine ucf J hE (b1 := 1) (b2 := 0) rfl rfl (zl_undo_x (L := []) hI3.2.2.1) ?_
      refine ug J hE 4 (pc' := 792) (ls' := [(0, .ref 1000), (2, .ref 0), (3, .long (zAns sl dy V)), (5, .int tk)]) (st' := [.int 1]) (M' := M3) rfl ?_
      exact uret rfl rfl rfl hp
theorem zU_sub {l : Launch} {X : zX} {D b mi pc : Nat} {E : zEnv} {l1 l2 : zLs} {st : List Value} {M : zM} {Post : zPost} (h : ∀ q ∈ l1, q ∈ l2) (k : zU l X D b mi pc l1 st E M Post) : zU l X D b mi pc l2 st E M Post := fun n K P I L hR p e R s m args below meth c H locs cells slots mc ms lsr S D hl =>
  k n K P I L hR p e R s m args below meth c H locs cells slots mc ms lsr S D ⟨hl.1, hl.2.1, fun q hq => hl.2.2 q (by
    obtain ⟨a, h1, h2⟩ := List.mem_map.mp hq
    exact List.mem_map.mpr ⟨a, h a h1, h2⟩)⟩
set_option maxRecDepth 8000 in
theorem zo_706 {l : Launch} {X : zX} {sl dy : Nat} {Post : zPost} (J : zJDK l X) (hsl : sl ≤ 2147483647) (hp : ∀ n K P I L, Post (.inl (some (.int 1))) n K P I L) {E : zEnv} {M : zM} {S T V : Nat → Nat → Int32} {L : List (Nat → Nat → Int32)} {b : Nat} (hE : zEok X sl dy E) (hw : zWas E) (hI : zIv S (T :: L) M) (hn : zSn V M) (hT : zGd T) (hr : zwas E L.length = zAns sl dy T) (tk d q : Int32) (hd : d.toInt ≤ 8) (hq : q.toInt = d.toInt - (L.length : Int)) (hq1 : 1 ≤ q.toInt) (kk : ∀ M2, zIv T L M2 → zSn V M2 → zU l X 14 b 178 706 [(0, .ref 1000), (2, .ref 0), (3, .long (zAns sl dy V)), (5, .int tk), (6, .ref 1001), (7, .int d), (8, .int (q + 1))] [] E M2 Post) : zU l X 14 (b + 508) 178 706 [(0, .ref 1000), (2, .ref 0), (3, .long (zAns sl dy V)), (5, .int tk), (6, .ref 1001), (7, .int d), (8, .int q)] [] E M Post := by
  refine ug J hE 2 (pc' := 710) (ls' := [(0, .ref 1000), (2, .ref 0), (3, .long (zAns sl dy V)), (5, .int tk), (6, .ref 1001), (7, .int d), (8, .int q)]) (st' := [.int d, .int q]) (M' := M) rfl ?_
  refine uicmp J hE rfl rfl (fun h1 => ?_) (fun h1 => ?_)
  · have h1 := zc_gt.1.mp h1
    exfalso; omega
  · have h1 := zc_gt.2.mp h1
    refine ug J hE 1 (pc' := 714) (ls' := [(0, .ref 1000), (2, .ref 0), (3, .long (zAns sl dy V)), (5, .int tk), (6, .ref 1001), (7, .int d), (8, .int q)]) (st' := [.ref 0]) (M' := M) rfl ?_
    refine ucP J hE (b1 := 0) (b2 := b + 508) rfl rfl (zl_undo hI hT.1) (fun x M2 hP => ?_)
    obtain ⟨hx, hI2, hk2⟩ := hP
    have hn2 := zSn_kp hn hk2
    have hs := zti_sub (x := d) (y := q) (by omega) (by omega)
    refine ug J hE 3 (pc' := 722) (ls' := [(0, .ref 1000), (2, .ref 0), (3, .long (zAns sl dy V)), (5, .int tk), (6, .ref 1001), (7, .int d), (8, .int q)]) (st' := [.int (d - q), .int x]) (M' := M2) rfl ?_
    refine uicmp J hE rfl rfl (fun h2 => ?_) (fun h2 => ?_)
    · have h2 := zc_ne.1.mp h2
      exact absurd (Int32.toInt_inj.mp (by omega)) h2
    · have h2 := zc_ne.2.mp h2
      refine ug J hE 1 (pc' := 726) (ls' := [(0, .ref 1000), (2, .ref 0), (3, .long (zAns sl dy V)), (5, .int tk), (6, .ref 1001), (7, .int d), (8, .int q)]) (st' := [.ref 0]) (M' := M2) rfl ?_
      refine ucA J hE (b1 := 508) (b2 := b) rfl rfl (zl_asksF hI2.1 hI2.2.1 hT.2) (fun M3 hf hOo => ?_)
      have hI3 := zIv_zfr hI2 hf
      have hn3 := zSn_kp hn2 (zKp_zfr hf)
      refine ug J hE 4 (pc' := 736) (ls' := [(0, .ref 1000), (2, .ref 0), (3, .long (zAns sl dy V)), (5, .int tk), (6, .ref 1001), (7, .int d), (8, .int q)]) (st' := [.int (d - q), .ref 1001, .long (zAns sl dy T)]) (M' := M3) rfl ?_
      have hsn : (d - q).toNatClampNeg = L.length := by
        have : (d - q).toNatClampNeg = (d - q).toInt.toNat := rfl
        omega
      refine ulald hE hw rfl (by omega) (by omega) ?_
      rw [hsn, hr]
      refine ug J hE 1 (pc' := 738) (ls' := [(0, .ref 1000), (2, .ref 0), (3, .long (zAns sl dy V)), (5, .int tk), (6, .ref 1001), (7, .int d), (8, .int q)]) (st' := [.int ((lg_cmp (zAns sl dy T) (zAns sl dy T)))]) (M' := M3) rfl ?_
      refine uif J hE rfl rfl (fun h3 => ?_) (fun h3 => ?_)
      · have h3 := zc_eq.1.mp h3
        refine ug J hE 2 (pc' := 706) (ls' := [(8, .int (q + 1)), (0, .ref 1000), (2, .ref 0), (3, .long (zAns sl dy V)), (5, .int tk), (6, .ref 1001), (7, .int d)]) (st' := []) (M' := M3) rfl ?_
        exact zU_sub (List.forall_mem_cons.mpr ⟨(List.mem_cons_of_mem _ List.mem_cons_self), (List.forall_mem_cons.mpr ⟨(List.mem_cons_of_mem _ (List.mem_cons_of_mem _ List.mem_cons_self)), (List.forall_mem_cons.mpr ⟨(List.mem_cons_of_mem _ (List.mem_cons_of_mem _ (List.mem_cons_of_mem _ List.mem_cons_self))), (List.forall_mem_cons.mpr ⟨(List.mem_cons_of_mem _ (List.mem_cons_of_mem _ (List.mem_cons_of_mem _ (List.mem_cons_of_mem _ List.mem_cons_self)))), (List.forall_mem_cons.mpr ⟨(List.mem_cons_of_mem _ (List.mem_cons_of_mem _ (List.mem_cons_of_mem _ (List.mem_cons_of_mem _ (List.mem_cons_of_mem _ List.mem_cons_self))))), (List.forall_mem_cons.mpr ⟨(List.mem_cons_of_mem _ (List.mem_cons_of_mem _ (List.mem_cons_of_mem _ (List.mem_cons_of_mem _ (List.mem_cons_of_mem _ (List.mem_cons_of_mem _ List.mem_cons_self)))))), (List.forall_mem_cons.mpr ⟨List.mem_cons_self, (by intro q hq; cases hq)⟩)⟩)⟩)⟩)⟩)⟩)⟩) (kk M3 hI3 hn3)
      · have h3 := zc_eq.2.mp h3
        exact absurd (zcmp_self _) h3
set_option maxRecDepth 8000 in
theorem zo_706x {l : Launch} {X : zX} {sl dy : Nat} {Post : zPost} (J : zJDK l X) (hsl : sl ≤ 2147483647) (hp : ∀ n K P I L, Post (.inl (some (.int 1))) n K P I L) {E : zEnv} {M : zM} {x : Int64} {b : Nat} (hE : zEok X sl dy E) (tk d q : Int32) (hq : d.toInt < q.toInt) (kk : zU l X 14 b 178 749 [(0, .ref 1000), (2, .ref 0), (3, .long x), (5, .int tk)] [] E M Post) : zU l X 14 b 178 706 [(0, .ref 1000), (2, .ref 0), (3, .long x), (5, .int tk), (6, .ref 1001), (7, .int d), (8, .int q)] [] E M Post := by
  refine ug J hE 2 (pc' := 710) (ls' := [(0, .ref 1000), (2, .ref 0), (3, .long x), (5, .int tk), (6, .ref 1001), (7, .int d), (8, .int q)]) (st' := [.int d, .int q]) (M' := M) rfl ?_
  refine uicmp J hE rfl rfl (fun h1 => ?_) (fun h1 => ?_)
  · have h1 := zc_gt.1.mp h1
    exact zU_sub (List.forall_mem_cons.mpr ⟨List.mem_cons_self, (List.forall_mem_cons.mpr ⟨(List.mem_cons_of_mem _ List.mem_cons_self), (List.forall_mem_cons.mpr ⟨(List.mem_cons_of_mem _ (List.mem_cons_of_mem _ List.mem_cons_self)), (List.forall_mem_cons.mpr ⟨(List.mem_cons_of_mem _ (List.mem_cons_of_mem _ (List.mem_cons_of_mem _ List.mem_cons_self))), (by intro q hq; cases hq)⟩)⟩)⟩)⟩) kk
  · have h1 := zc_gt.2.mp h1
    exfalso; omega
theorem zo_undo {l : Launch} {X : zX} {sl dy : Nat} {Post : zPost} (J : zJDK l X) (hsl : sl ≤ 2147483647) (hp : ∀ n K P I L, Post (.inl (some (.int 1))) n K P I L) {V : Nat → Nat → Int32} (hV : zGd V) (tk d : Int32) (htk : V 0 10 = tk) (hd : d.toInt ≤ 8) : ∀ (L : List (Nat → Nat → Int32)) (E : zEnv) (M : zM) (S : Nat → Nat → Int32) (q : Int32), zEok X sl dy E → zWas E → zIv S L M → zSn V M → (∀ T ∈ L, zGd T) → zRow sl dy E L → 1 ≤ q.toInt → q.toInt = d.toInt - (L.length : Int) + 1 → q.toInt ≤ 100 →
    zU l X 14 (L.length * 508 + 511) 178 706 [(0, .ref 1000), (2, .ref 0), (3, .long (zAns sl dy V)), (5, .int tk), (6, .ref 1001), (7, .int d), (8, .int q)] [] E M Post
  | [], E, M, S, q, hE, hw, hI, hn, hL, hr, h1, hq, h9 => zU_le (by omega) (zo_706x J hsl hp hE tk d q (by rw [List.length_nil] at hq; omega) (zo_749 J hsl hp hE hI hn hV tk htk))
  | T :: L, E, M, S, q, hE, hw, hI, hn, hL, hr, h1, hq, h9 => by
    rw [List.length_cons] at hq
    have h2 := zRow_tail hr
    have ha := zadd1 (x := q) (by omega) (by omega)
    refine zU_le (by rw [List.length_cons]; omega) (zo_706 (b := L.length * 508 + 511) J hsl hp hE hw hI hn (hL T List.mem_cons_self) h2.1 tk d q hd (by omega) h1 (fun M2 hI2 hn2 => ?_))
    exact zo_undo J hsl hp hV tk d htk hd L E M2 T (q + 1) hE hw hI2 hn2 (fun T hT => hL T (List.mem_cons_of_mem _ hT)) h2.2 (by omega) (by omega) (by omega)
set_option maxRecDepth 8000 in
theorem zo_636 {l : Launch} {X : zX} {sl dy : Nat} {Post : zPost} (J : zJDK l X) (hsl : sl ≤ 2147483647) (hp : ∀ n K P I L, Post (.inl (some (.int 1))) n K P I L) {E : zEnv} {M : zM} {S V : Nat → Nat → Int32} {L : List (Nat → Nat → Int32)} {b : Nat} (hE : zEok X sl dy E) (hw : zWas E) (hI : zIv S L M) (hn : zSn V M) (hS : zGd S) (hLl : L.length ≤ 7) (tk dn i : Int32) (hdn : dn.toInt = (L.length : Int)) (hi0 : 0 ≤ i.toInt) (hi : i.toInt < 8) (k1 : ∀ E2 M2 T, zEok X sl dy E2 → zWas E2 → zIv T (S :: L) M2 → zSn V M2 → zGd T → (∀ j, zwas E2 j = if j = L.length then zAns sl dy S else zwas E j) → zU l X 14 b 178 636 [(0, .ref 1000), (2, .ref 0), (3, .long (zAns sl dy V)), (5, .int tk), (6, .ref 1001), (7, .int (dn + 1)), (8, .int (i + 1))] [] E2 M2 Post) (k2 : ∀ M2, zIv S L M2 → zSn V M2 → zU l X 14 b 178 636 [(0, .ref 1000), (2, .ref 0), (3, .long (zAns sl dy V)), (5, .int tk), (6, .ref 1001), (7, .int dn), (8, .int (i + 1))] [] E M2 Post) : zU l X 14 (b + 1019) 178 636 [(0, .ref 1000), (2, .ref 0), (3, .long (zAns sl dy V)), (5, .int tk), (6, .ref 1001), (7, .int dn), (8, .int i)] [] E M Post := by
  refine zU_pat (sl := sl) ?_
  have hI := zIv_pat (sl := sl) (E := E) hI
  have hn := zSn_pat (sl := sl) (E := E) hn
  have hLw := zpat_lw (sl := sl) (E := E) (M := M)
  generalize zpat sl E M = M0 at hI hn hLw ⊢
  have z8 := zi8
  refine ug J hE 2 (pc' := 640) (ls' := [(0, .ref 1000), (2, .ref 0), (3, .long (zAns sl dy V)), (5, .int tk), (6, .ref 1001), (7, .int dn), (8, .int i)]) (st' := [.int 8, .int i]) (M' := M0) rfl ?_
  refine uicmp J hE rfl rfl (fun h1 => ?_) (fun h1 => ?_)
  · have h1 := zc_ge.1.mp h1
    exfalso; omega
  · have h1 := zc_ge.2.mp h1
    refine ug J hE 1 (pc' := 644) (ls' := [(0, .ref 1000), (2, .ref 0), (3, .long (zAns sl dy V)), (5, .int tk), (6, .ref 1001), (7, .int dn), (8, .int i)]) (st' := [.ref 0]) (M' := M0) rfl ?_
    refine ucA J hE (b1 := 508) (b2 := b + 511) rfl rfl (zl_asksF hI.1 hI.2.1 hS.2) (fun M1 hf hOo => ?_)
    have hI1 := zIv_zfr hI hf
    have hn1 := zSn_kp hn (zKp_zfr hf)
    have hL1 : zLw sl M1 := fun k hk => by rw [hf 1000 k rfl]; exact hLw k hk
    refine ug J hE 6 (pc' := 656) (ls' := [(9, .long (zAns sl dy S)), (0, .ref 1000), (2, .ref 0), (3, .long (zAns sl dy V)), (5, .int tk), (6, .ref 1001), (7, .int dn), (8, .int i)]) (st' := [.int (20 + i), .ref 1000, .ref 0]) (M' := M1) rfl ?_
    have hz20 : (20 : Int32).toInt = 20 := rfl
    have ha := zti_add (x := 20) (y := i) (by omega) (by omega)
    refine ucPi (b1 := 0) (b2 := b + 511) J hE rfl rfl (zt_at (20 + i) (by omega) hsl hL1) (fun x hP => ?_)
    refine ug J hE 4 (pc' := 666) (ls' := [(9, .long (zAns sl dy S)), (0, .ref 1000), (2, .ref 0), (3, .long (zAns sl dy V)), (5, .int tk), (6, .ref 1001), (7, .int dn), (8, .int i)]) (st' := [.int ((x ^^^ (i * 977))), .ref 0]) (M' := M1) rfl ?_
    refine ucP J hE (b1 := 3) (b2 := b + 508) rfl rfl (zl_changes hI1 ((x ^^^ (i * 977)))) (fun y M2 hP => ?_)
    rcases hP with ⟨rfl, T, hc, hI2, hk2⟩ | ⟨rfl, hI2, hk2⟩
    · rw [List.take_of_length_le (by rw [List.length_cons]; omega)] at hI2
      have hn2 := zSn_kp hn1 hk2
      refine ug J hE 5 (pc' := 681) (ls' := [(7, .int (dn + 1)), (9, .long (zAns sl dy S)), (0, .ref 1000), (2, .ref 0), (3, .long (zAns sl dy V)), (5, .int tk), (6, .ref 1001), (8, .int i)]) (st' := [.long (zAns sl dy S), .int dn, .ref 1001]) (M' := M2) rfl ?_
      refine ulast hE hw rfl (by omega) (by omega) (fun E2 hE2 hw2 hr2 => ?_)
      have hE := hE2
      refine ug J hE 3 (pc' := 636) (ls' := [(8, .int (i + 1)), (7, .int (dn + 1)), (9, .long (zAns sl dy S)), (0, .ref 1000), (2, .ref 0), (3, .long (zAns sl dy V)), (5, .int tk), (6, .ref 1001)]) (st' := []) (M' := M2) rfl ?_
      have hcl : dn.toNatClampNeg = L.length := by
        have : dn.toNatClampNeg = dn.toInt.toNat := rfl
        omega
      exact zU_le (by omega) (zU_sub (List.forall_mem_cons.mpr ⟨(List.mem_cons_of_mem _ (List.mem_cons_of_mem _ (List.mem_cons_of_mem _ List.mem_cons_self))), (List.forall_mem_cons.mpr ⟨(List.mem_cons_of_mem _ (List.mem_cons_of_mem _ (List.mem_cons_of_mem _ (List.mem_cons_of_mem _ List.mem_cons_self)))), (List.forall_mem_cons.mpr ⟨(List.mem_cons_of_mem _ (List.mem_cons_of_mem _ (List.mem_cons_of_mem _ (List.mem_cons_of_mem _ (List.mem_cons_of_mem _ List.mem_cons_self))))), (List.forall_mem_cons.mpr ⟨(List.mem_cons_of_mem _ (List.mem_cons_of_mem _ (List.mem_cons_of_mem _ (List.mem_cons_of_mem _ (List.mem_cons_of_mem _ (List.mem_cons_of_mem _ List.mem_cons_self)))))), (List.forall_mem_cons.mpr ⟨(List.mem_cons_of_mem _ (List.mem_cons_of_mem _ (List.mem_cons_of_mem _ (List.mem_cons_of_mem _ (List.mem_cons_of_mem _ (List.mem_cons_of_mem _ (List.mem_cons_of_mem _ List.mem_cons_self))))))), (List.forall_mem_cons.mpr ⟨(List.mem_cons_of_mem _ List.mem_cons_self), (List.forall_mem_cons.mpr ⟨List.mem_cons_self, (by intro q hq; cases hq)⟩)⟩)⟩)⟩)⟩)⟩)⟩) (k1 E2 M2 T hE2 hw2 hI2 hn2 ⟨hI2.2.1, by have := hS.2; omega⟩ (fun j => by rw [hr2, hcl])))
    · have hn2 := zSn_kp hn1 hk2
      refine ug J hE 2 (pc' := 686) (ls' := [(9, .long (zAns sl dy S)), (0, .ref 1000), (2, .ref 0), (3, .long (zAns sl dy V)), (5, .int tk), (6, .ref 1001), (7, .int dn), (8, .int i)]) (st' := [.ref 0]) (M' := M2) rfl ?_
      refine ucA J hE (b1 := 508) (b2 := b) rfl rfl (zl_asksF hI2.1 hI2.2.1 hS.2) (fun M3 hf3 hOo3 => ?_)
      have hI3 := zIv_zfr hI2 hf3
      have hn3 := zSn_kp hn2 (zKp_zfr hf3)
      refine ug J hE 2 (pc' := 692) (ls' := [(9, .long (zAns sl dy S)), (0, .ref 1000), (2, .ref 0), (3, .long (zAns sl dy V)), (5, .int tk), (6, .ref 1001), (7, .int dn), (8, .int i)]) (st' := [.int ((lg_cmp (zAns sl dy S) (zAns sl dy S)))]) (M' := M3) rfl ?_
      refine uif J hE rfl rfl (fun h2 => ?_) (fun h2 => ?_)
      · have h2 := zc_eq.1.mp h2
        refine ug J hE 2 (pc' := 636) (ls' := [(8, .int (i + 1)), (9, .long (zAns sl dy S)), (0, .ref 1000), (2, .ref 0), (3, .long (zAns sl dy V)), (5, .int tk), (6, .ref 1001), (7, .int dn)]) (st' := []) (M' := M3) rfl ?_
        exact zU_sub (List.forall_mem_cons.mpr ⟨(List.mem_cons_of_mem _ (List.mem_cons_of_mem _ List.mem_cons_self)), (List.forall_mem_cons.mpr ⟨(List.mem_cons_of_mem _ (List.mem_cons_of_mem _ (List.mem_cons_of_mem _ List.mem_cons_self))), (List.forall_mem_cons.mpr ⟨(List.mem_cons_of_mem _ (List.mem_cons_of_mem _ (List.mem_cons_of_mem _ (List.mem_cons_of_mem _ List.mem_cons_self)))), (List.forall_mem_cons.mpr ⟨(List.mem_cons_of_mem _ (List.mem_cons_of_mem _ (List.mem_cons_of_mem _ (List.mem_cons_of_mem _ (List.mem_cons_of_mem _ List.mem_cons_self))))), (List.forall_mem_cons.mpr ⟨(List.mem_cons_of_mem _ (List.mem_cons_of_mem _ (List.mem_cons_of_mem _ (List.mem_cons_of_mem _ (List.mem_cons_of_mem _ (List.mem_cons_of_mem _ List.mem_cons_self)))))), (List.forall_mem_cons.mpr ⟨(List.mem_cons_of_mem _ (List.mem_cons_of_mem _ (List.mem_cons_of_mem _ (List.mem_cons_of_mem _ (List.mem_cons_of_mem _ (List.mem_cons_of_mem _ (List.mem_cons_of_mem _ List.mem_cons_self))))))), (List.forall_mem_cons.mpr ⟨List.mem_cons_self, (by intro q hq; cases hq)⟩)⟩)⟩)⟩)⟩)⟩)⟩) (k2 M3 hI3 hn3)
      · have h2 := zc_eq.2.mp h2
        exact absurd (zcmp_self _) h2
set_option maxRecDepth 8000 in
theorem zo_636x {l : Launch} {X : zX} {sl dy : Nat} {Post : zPost} (J : zJDK l X) (hsl : sl ≤ 2147483647) (hp : ∀ n K P I L, Post (.inl (some (.int 1))) n K P I L) {E : zEnv} {M : zM} {x : Int64} {b : Nat} (hE : zEok X sl dy E) (tk dn i : Int32) (hi : i = 8) (kk : zU l X 14 b 178 706 [(0, .ref 1000), (2, .ref 0), (3, .long x), (5, .int tk), (6, .ref 1001), (7, .int dn), (8, .int 1)] [] E M Post) : zU l X 14 b 178 636 [(0, .ref 1000), (2, .ref 0), (3, .long x), (5, .int tk), (6, .ref 1001), (7, .int dn), (8, .int 8)] [] E M Post := by
  refine ug J hE 5 (pc' := 706) (ls' := [(8, .int 1), (0, .ref 1000), (2, .ref 0), (3, .long x), (5, .int tk), (6, .ref 1001), (7, .int dn)]) (st' := []) (M' := M) rfl ?_
  exact zU_sub (List.forall_mem_cons.mpr ⟨(List.mem_cons_of_mem _ List.mem_cons_self), (List.forall_mem_cons.mpr ⟨(List.mem_cons_of_mem _ (List.mem_cons_of_mem _ List.mem_cons_self)), (List.forall_mem_cons.mpr ⟨(List.mem_cons_of_mem _ (List.mem_cons_of_mem _ (List.mem_cons_of_mem _ List.mem_cons_self))), (List.forall_mem_cons.mpr ⟨(List.mem_cons_of_mem _ (List.mem_cons_of_mem _ (List.mem_cons_of_mem _ (List.mem_cons_of_mem _ List.mem_cons_self)))), (List.forall_mem_cons.mpr ⟨(List.mem_cons_of_mem _ (List.mem_cons_of_mem _ (List.mem_cons_of_mem _ (List.mem_cons_of_mem _ (List.mem_cons_of_mem _ List.mem_cons_self))))), (List.forall_mem_cons.mpr ⟨(List.mem_cons_of_mem _ (List.mem_cons_of_mem _ (List.mem_cons_of_mem _ (List.mem_cons_of_mem _ (List.mem_cons_of_mem _ (List.mem_cons_of_mem _ List.mem_cons_self)))))), (List.forall_mem_cons.mpr ⟨List.mem_cons_self, (by intro q hq; cases hq)⟩)⟩)⟩)⟩)⟩)⟩)⟩) kk
theorem zo_draw {l : Launch} {X : zX} {sl dy : Nat} {Post : zPost} (J : zJDK l X) (hsl : sl ≤ 2147483647) (hp : ∀ n K P I L, Post (.inl (some (.int 1))) n K P I L) {V : Nat → Nat → Int32} (hV : zGd V) (tk : Int32) (htk : V 0 10 = tk) : ∀ (k : Nat) (L : List (Nat → Nat → Int32)) (E : zEnv) (M : zM) (S : Nat → Nat → Int32) (dn i : Int32), zEok X sl dy E → zWas E → zIv S L M → zSn V M → zGd S → (∀ T ∈ L, zGd T) → zRow sl dy E L → dn.toInt = (L.length : Int) → 0 ≤ i.toInt → i.toInt + (k : Int) = 8 → (L.length : Int) ≤ i.toInt →
    zU l X 14 (k * 1527 + L.length * 508 + 511) 178 636 [(0, .ref 1000), (2, .ref 0), (3, .long (zAns sl dy V)), (5, .int tk), (6, .ref 1001), (7, .int dn), (8, .int i)] [] E M Post
  | 0, L, E, M, S, dn, i, hE, hw, hI, hn, hS, hL, hr, hdn, h0, hk, hl => by
    have z8 := zi8
    have z1 : (1 : Int32).toInt = 1 := rfl
    have e : i = 8 := Int32.toInt_inj.mp (by omega)
    subst e
    exact zU_le (by omega) (zo_636x J hsl hp hE tk dn 8 rfl (zo_undo J hsl hp hV tk dn htk (by omega) L E M S 1 hE hw hI hn hL hr (by decide) (by omega) (by decide)))
  | k + 1, L, E, M, S, dn, i, hE, hw, hI, hn, hS, hL, hr, hdn, h0, hk, hl => by
    have ha := zadd1 (x := i) h0 (by omega)
    have hb := zadd1 (x := dn) (by omega) (by omega)
    refine zU_le (by omega) (zo_636 (b := k * 1527 + L.length * 508 + 508 + 511) J hsl hp hE hw hI hn hS (by omega) tk dn i hdn h0 (by omega) (fun E2 M2 T q1 q2 q3 q4 q5 q6 => ?_) (fun M2 q1 q2 => ?_))
    · have q := zo_draw J hsl hp hV tk htk k (S :: L) E2 M2 T (dn + 1) (i + 1) q1 q2 q3 q4 q5 (fun T hT => by
        rcases List.mem_cons.mp hT with rfl | hT
        · exact hS
        · exact hL T hT) (zRow_cons hr q6) (by rw [List.length_cons]; omega) (by omega) (by omega) (by rw [List.length_cons]; omega)
      exact zU_le (by rw [List.length_cons]; omega) q
    · exact zU_le (by omega) (zo_draw J hsl hp hV tk htk k L E M2 S dn (i + 1) hE hw q1 q2 hS hL hr hdn (by omega) (by omega) (by omega))
set_option maxRecDepth 8000 in
theorem zo_556 {l : Launch} {X : zX} {sl dy : Nat} {Post : zPost} (J : zJDK l X) (hsl : sl ≤ 2147483647) (hp : ∀ n K P I L, Post (.inl (some (.int 1))) n K P I L) {E : zEnv} {M : zM} {S0 : Nat → Nat → Int32} (hE : zEok X sl dy E) (hI0 : zIv S0 [] M) (hz1 : (S0 0 10).toInt = 0) (hz2 : (S0 0 11).toInt = 0) : zU l X 14 15389 178 556 [(2, .ref 0), (0, .ref 1000)] [] E M Post := by
  refine zU_pat (sl := sl) ?_
  have hI := zIv_pat (sl := sl) (E := E) hI0
  have hLw := zpat_lw (sl := sl) (E := E) (M := M)
  generalize zpat sl E M = M0 at hI hLw ⊢
  refine ug J hE 2 (pc' := 558) (ls' := [(2, .ref 0), (0, .ref 1000)]) (st' := [.ref 1000, .ref 0]) (M' := M0) rfl ?_
  refine ucP J hE (b1 := 0) (b2 := 15389) rfl rfl (zl_makes hsl hI hLw hz1 hz2) (fun x M1 hP => ?_)
  obtain ⟨rfl, S, L, hI1, hm, hm2, -⟩ := hP
  refine ug J hE 2 (pc' := 567) (ls' := [(2, .ref 0), (0, .ref 1000)]) (st' := [.ref 0]) (M' := M1) rfl ?_
  refine ucA J hE (b1 := 508) (b2 := 14881) rfl rfl (zl_asksF hI1.1 hI1.2.1 (by omega)) (fun M2 hf2 hO2 => ?_)
  have hI2 := zIv_zfr hI1 hf2
  refine ug J hE 2 (pc' := 572) (ls' := [(3, .long (zAns sl dy S)), (2, .ref 0), (0, .ref 1000)]) (st' := [.ref 0]) (M' := M2) rfl ?_
  refine ucA J hE (b1 := 508) (b2 := 14373) rfl rfl (zl_asksF hI2.1 hI2.2.1 (by omega)) (fun M3 hf3 hO3 => ?_)
  have hI3 := zIv_zfr hI2 hf3
  refine ug J hE 2 (pc' := 577) (ls' := [(3, .long (zAns sl dy S)), (2, .ref 0), (0, .ref 1000)]) (st' := [.int ((lg_cmp (zAns sl dy S) (zAns sl dy S)))]) (M' := M3) rfl ?_
  refine uif J hE rfl rfl (fun h1 => ?_) (fun h1 => ?_)
  · have h1 := zc_ne.1.mp h1
    exact absurd (zcmp_self _) h1
  · have h1 := zc_ne.2.mp h1
    refine ug J hE 1 (pc' := 581) (ls' := [(3, .long (zAns sl dy S)), (2, .ref 0), (0, .ref 1000)]) (st' := [.ref 0]) (M' := M3) rfl ?_
    refine ucP J hE (b1 := 1137) (b2 := 13236) rfl rfl (zl_thrown hI3 hm hm2) (fun x M4 hP => ?_)
    obtain ⟨rfl, hI4, -⟩ := hP
    refine ug J hE 2 (pc' := 590) (ls' := [(3, .long (zAns sl dy S)), (2, .ref 0), (0, .ref 1000)]) (st' := [.ref 0]) (M' := M4) rfl ?_
    refine ucP J hE (b1 := 0) (b2 := 13236) rfl rfl (zt_save hI4) (fun x M5 hP => ?_)
    obtain ⟨rfl, hI5, hn5⟩ := hP
    refine ug J hE 3 (pc' := 598) (ls' := [(5, .int (S 0 10)), (3, .long (zAns sl dy S)), (2, .ref 0), (0, .ref 1000)]) (st' := [.ref 0, .int (S 0 10)]) (M' := M5) rfl ?_
    refine ucf J hE (b1 := 0) (b2 := 13236) rfl rfl (zt_tankCount hI5.1) ?_
    refine uicmp J hE rfl rfl (fun h2 => ?_) (fun h2 => ?_)
    · have h2 := zc_ne.1.mp h2
      exact absurd rfl h2
    · have h2 := zc_ne.2.mp h2
      refine ug J hE 1 (pc' := 605) (ls' := [(5, .int (S 0 10)), (3, .long (zAns sl dy S)), (2, .ref 0), (0, .ref 1000)]) (st' := [.ref 0]) (M' := M5) rfl ?_
      refine ucA J hE (b1 := 508) (b2 := 12728) rfl rfl (zl_asksF hI5.1 hI5.2.1 (by omega)) (fun M6 hf6 hO6 => ?_)
      have hI6 := zIv_zfr hI5 hf6
      have hn6 := zSn_kp hn5 (zKp_zfr hf6)
      refine ug J hE 2 (pc' := 610) (ls' := [(5, .int (S 0 10)), (3, .long (zAns sl dy S)), (2, .ref 0), (0, .ref 1000)]) (st' := [.int ((lg_cmp (zAns sl dy S) (zAns sl dy S)))]) (M' := M6) rfl ?_
      refine uif J hE rfl rfl (fun h3 => ?_) (fun h3 => ?_)
      · have h3 := zc_ne.1.mp h3
        exact absurd (zcmp_self _) h3
      · have h3 := zc_ne.2.mp h3
        refine ug J hE 1 (pc' := 614) (ls' := [(5, .int (S 0 10)), (3, .long (zAns sl dy S)), (2, .ref 0), (0, .ref 1000)]) (st' := [.ref 0]) (M' := M6) rfl ?_
        refine ucP J hE (b1 := 0) (b2 := 12728) rfl rfl (zl_restore hI6 hn6.1 hI6.2.1 hn6.2) (fun x M7 hP => ?_)
        obtain ⟨rfl, hI7, hn7⟩ := hP
        refine ug J hE 1 (pc' := 619) (ls' := [(5, .int (S 0 10)), (3, .long (zAns sl dy S)), (2, .ref 0), (0, .ref 1000)]) (st' := [.int (S 0 10), .int (S 0 10)]) (M' := M7) rfl ?_
        refine uicmp J hE rfl rfl (fun h4 => ?_) (fun h4 => ?_)
        · have h4 := zc_eq.1.mp h4
          refine ug J hE 1 (pc' := 626) (ls' := [(5, .int (S 0 10)), (3, .long (zAns sl dy S)), (2, .ref 0), (0, .ref 1000)]) (st' := [.int 9]) (M' := M7) rfl ?_
          refine unew hE rfl (by intro q hq; simp at hq; rcases hq with rfl | rfl | rfl | rfl <;> simp) (fun E2 hE2 hw2 => ?_)
          have hE := hE2
          refine ug J hE 5 (pc' := 636) (ls' := [(8, .int 0), (7, .int 0), (6, .ref 1001), (5, .int (S 0 10)), (3, .long (zAns sl dy S)), (2, .ref 0), (0, .ref 1000)]) (st' := []) (M' := M7) rfl ?_
          exact zU_sub (List.forall_mem_cons.mpr ⟨(List.mem_cons_of_mem _ (List.mem_cons_of_mem _ (List.mem_cons_of_mem _ (List.mem_cons_of_mem _ (List.mem_cons_of_mem _ (List.mem_cons_of_mem _ List.mem_cons_self)))))), (List.forall_mem_cons.mpr ⟨(List.mem_cons_of_mem _ (List.mem_cons_of_mem _ (List.mem_cons_of_mem _ (List.mem_cons_of_mem _ (List.mem_cons_of_mem _ List.mem_cons_self))))), (List.forall_mem_cons.mpr ⟨(List.mem_cons_of_mem _ (List.mem_cons_of_mem _ (List.mem_cons_of_mem _ (List.mem_cons_of_mem _ List.mem_cons_self)))), (List.forall_mem_cons.mpr ⟨(List.mem_cons_of_mem _ (List.mem_cons_of_mem _ (List.mem_cons_of_mem _ List.mem_cons_self))), (List.forall_mem_cons.mpr ⟨(List.mem_cons_of_mem _ (List.mem_cons_of_mem _ List.mem_cons_self)), (List.forall_mem_cons.mpr ⟨(List.mem_cons_of_mem _ List.mem_cons_self), (List.forall_mem_cons.mpr ⟨List.mem_cons_self, (by intro q hq; cases hq)⟩)⟩)⟩)⟩)⟩)⟩)⟩) (zo_draw J hsl hp ⟨hI7.2.1, by omega⟩ (S 0 10) rfl 8 [] E2 M7 S 0 0 hE2 hw2 hI7 hn7 ⟨hI7.2.1, by omega⟩ (fun T hT => nomatch hT) (fun j h => nomatch h) rfl (by decide) rfl (by decide))
        · have h4 := zc_eq.2.mp h4
          exact absurd rfl h4
