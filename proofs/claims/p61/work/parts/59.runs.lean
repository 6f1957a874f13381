/-! CONTRACTS: running scripts -/
theorem zp4_f {a : Nat} (h : a < 144 ∨ 147 < a) : zp4 a = false := by
  unfold zp4
  cases h1 : Nat.ble 144 a with
  | false => rfl
  | true =>
    cases h2 : Nat.ble a 147 with
    | false => rfl
    | true =>
      have := Nat.le_of_ble_eq_true h1
      have := Nat.le_of_ble_eq_true h2
      omega
/-- an argument that the reading knows -/
def zAg (l : List (Option Int32)) (i : Nat) (a : Int32) : Prop := ∀ y, l[i]? = some (some y) → a = y
/-- a script of n commands has run, or one of them has failed -/
def zQsc (Q : (Nat → Nat → Int32) → Int32 → Prop) (n : Int32) (KO : Prop) (F : Int32 → Prop) (S : Nat → Nat → Int32) (L : List (Nat → Nat → Int32)) (I : zM) : Nat → Option Value → zM → Prop := fun c v J => (c = 0 ∧ v = some (.int n) ∧ KO ∧ ∃ T y, Q T y ∧ zIv T ((S :: L).take 8) J ∧ zKp I J ∧ J 0 9 = I 0 9 ∧ J 0 10 = I 0 10) ∨ (c = 3 ∧ zIv S L J ∧ zKp I J ∧ J 0 9 = I 0 9 ∧ ∃ i, J 0 10 = some i ∧ F i)
theorem zQsc_tr {Q : (Nat → Nat → Int32) → Int32 → Prop} {n : Int32} {KO : Prop} {F : Int32 → Prop} {S : Nat → Nat → Int32} {L : List (Nat → Nat → Int32)} {I0 I J : zM} {c : Nat} {v : Option Value} (hk : zKp I0 I) (h9 : I 0 9 = I0 0 9) (h10 : I 0 10 = I0 0 10) (h : zQsc Q n KO F S L I c v J) : zQsc Q n KO F S L I0 c v J := by
  rcases h with ⟨h1, h2, h3, T, y, hq, h4, h5, h6, h7⟩ | ⟨h1, h2, h3, h4, h5⟩
  · exact Or.inl ⟨h1, h2, h3, T, y, hq, h4, zKp_trans hk h5, h6.trans h9, h7.trans h10⟩
  · exact Or.inr ⟨h1, h2, zKp_trans hk h3, h4.trans h9, h5⟩
theorem zt_rsbad {sl D dy : Nat} {I : zM} {S : Nat → Nat → Int32} {L : List (Nat → Nat → Int32)} {N : Nat} {I0 : zM} {t : List Int32} {l : List (Option Int32)} (hI : zIv S L I0) (hT : zTy I0 I t (Int32.ofNat t.length)) (hl : t.length ≤ 60) (h : zrdo (zrun 2147483648 N 8 0 29 0 [(0, .ref 144)] [] (zTM t)) = some (0, some 0, l, 0)) {p : Int32} (hp : l[2]? = some (some p)) : zW sl (D + 9) dy 120 0 [(0, .ref 0)] [] I (zRg 1 (fun c _ J => c = 2 ∧ zIv S L J ∧ zKp I0 J ∧ J 0 9 = some p ∧ J 0 10 = I0 0 10)) := by
  refine zg 2 (pc' := 4) (ls' := [(0, .ref 0)]) (st' := [.ref 144]) (I' := I) rfl ?_
  refine zcP (b2 := 1) rfl rfl (zt_read (D := D) hT hl h) (fun x J hP => ?_)
  obtain ⟨rfl, hc, hf, hkn⟩ := hP
  refine zg 3 (pc' := 12) (ls' := [(1, .int 0), (0, .ref 0)]) (st' := [.ref 144]) (I' := J) rfl ?_
  refine zcm rfl rfl zt_empty ?_
  refine zg 5 (pc' := 24) (ls' := [(1, .int 0), (0, .ref 0)]) (st' := [.ref 144, .ref 0]) (I' := (zup J 144 3 0)) rfl ?_
  refine zgf rfl rfl rfl (show zup J 144 3 0 144 5 = some p from hc 2 _ _ _ rfl hp) ?_
  refine zpf rfl rfl rfl rfl rfl ?_
  have hN : ∀ a k, 1 ≤ a → a ≤ 134 → (zup (zup J 144 3 0) 0 9 p) a k = I0 a k := fun a k h1 h2 => by
    rw [zup_at, if_neg (by omega), zup_at, if_neg (by omega)]
    exact hf a k (zp4_f (by omega))
  have h36 : ∀ k, k < 36 → ∃ x, (zup (zup J 144 3 0) 0 9 p) 147 k = some x := fun k hk => by
    obtain ⟨x, hx⟩ := hI.2.2.2.2 k hk
    exact hkn 147 k x (by rw [hT.2.2 147 k (Or.inl (by decide)) (by decide)]; exact hx)
  exact zthrow rfl rfl ⟨rfl, zIv_fr hI hN rfl h36, ⟨fun a k h1 h2 => hN a k (by omega) (by omega), hf 0 8 rfl⟩, rfl, hf 0 10 rfl⟩
theorem zt_rs1 {sl D dy : Nat} {I : zM} {KO : Prop} {F : Int32 → Prop} {S : Nat → Nat → Int32} {L : List (Nat → Nat → Int32)} {N : Nat} {I0 : zM} {t : List Int32} {l : List (Option Int32)} (hI : zIv S L I0) (hT : zTy I0 I t (Int32.ofNat t.length)) (hl : t.length ≤ 60) (h : zrdo (zrun 2147483648 N 8 0 29 0 [(0, .ref 144)] [] (zTM t)) = some (0, some 1, l, 0)) {k0 : Int32} {Q0 : (Nat → Nat → Int32) → Int32 → Prop} (h4 : l[1]? = some (some 1)) (hk0 : l[3]? = some (some k0)) (g0 : ∀ a b c, zAg l 5 a → zAg l 6 b → zAg l 7 c → (KO ∧ zCan S k0 a b c Q0) ∨ (F 0 ∧ zCant S k0 a b c)) : zW sl (D + 9) dy 120 0 [(0, .ref 0)] [] I (zRg 1 (zQsc Q0 1 KO F S L I0)) := by
  refine zg 2 (pc' := 4) (ls' := [(0, .ref 0)]) (st' := [.ref 144]) (I' := I) rfl ?_
  refine zcP (b2 := 1) rfl rfl (zt_read (D := D) hT hl h) (fun x J hP => ?_)
  obtain ⟨rfl, hc, hf, hkn⟩ := hP
  refine zg 3 (pc' := 12) (ls' := [(1, .int 1), (0, .ref 0)]) (st' := [.ref 144]) (I' := J) rfl ?_
  refine zcm rfl rfl zt_empty ?_
  refine zg 2 (pc' := 41) (ls' := [(1, .int 1), (0, .ref 0)]) (st' := []) (I' := (zup J 144 3 0)) rfl ?_
  refine zLp (List.Perm.swap _ _ _) rfl ?_
  have hN : ∀ a k, 1 ≤ a → a ≤ 134 → (zup J 144 3 0) a k = I0 a k := fun a k h1 h2 => by
    rw [zup_at, if_neg (by omega)]
    exact hf a k (zp4_f (by omega))
  have h36 : ∀ k, k < 36 → ∃ x, (zup J 144 3 0) 147 k = some x := fun k hk => by
    obtain ⟨x, hx⟩ := hI.2.2.2.2 k hk
    exact hkn 147 k x (by rw [hT.2.2 147 k (Or.inl (by decide)) (by decide)]; exact hx)
  have hI2 : zIv S L (zup J 144 3 0) := zIv_fr hI hN rfl h36
  obtain ⟨v0, hv0⟩ := h36 0 (by decide)
  obtain ⟨v1, hv1⟩ := h36 1 (by decide)
  obtain ⟨v2, hv2⟩ := h36 2 (by decide)
  exact zwp (zt_rst1 (D := D + 3) hI2 (show zup J 144 3 0 144 4 = some 1 from hc 1 _ _ _ rfl h4) k0 v0 v1 v2 (show zup J 144 3 0 146 0 = some k0 from hc 3 _ _ _ rfl hk0) hv0 hv1 hv2 (g0 v0 v1 v2 (fun y hy => Option.some.inj (hv0.symm.trans (show zup J 144 3 0 147 0 = some y from hc 5 _ _ _ rfl hy))) (fun y hy => Option.some.inj (hv1.symm.trans (show zup J 144 3 0 147 1 = some y from hc 6 _ _ _ rfl hy))) (fun y hy => Option.some.inj (hv2.symm.trans (show zup J 144 3 0 147 2 = some y from hc 7 _ _ _ rfl hy))))) (fun c v K hq => zQsc_tr ⟨fun a k h1 h2 => hN a k (by omega) (by omega), hf 0 8 rfl⟩ (hf 0 9 rfl) (hf 0 10 rfl) hq) (Nat.le_refl _)
theorem zt_rs2 {sl D dy : Nat} {I : zM} {KO : Prop} {F : Int32 → Prop} {S : Nat → Nat → Int32} {L : List (Nat → Nat → Int32)} {N : Nat} {I0 : zM} {t : List Int32} {l : List (Option Int32)} (hI : zIv S L I0) (hT : zTy I0 I t (Int32.ofNat t.length)) (hl : t.length ≤ 60) (h : zrdo (zrun 2147483648 N 8 0 29 0 [(0, .ref 144)] [] (zTM t)) = some (0, some 1, l, 0)) {k0 k1 : Int32} {Q0 Q1 : (Nat → Nat → Int32) → Int32 → Prop} (h4 : l[1]? = some (some 2)) (hk0 : l[3]? = some (some k0)) (hk1 : l[4]? = some (some k1)) (g0 : ∀ a b c, zAg l 5 a → zAg l 6 b → zAg l 7 c → (True ∧ zCan S k0 a b c Q0) ∨ (F 0 ∧ zCant S k0 a b c)) (g1 : ∀ T y a b c, zAcc Q0 T y → zAg l 8 a → zAg l 9 b → zAg l 10 c → (KO ∧ zCan T k1 a b c Q1) ∨ (F 1 ∧ zCant T k1 a b c)) : zW sl (D + 9) dy 120 0 [(0, .ref 0)] [] I (zRg 1 (zQsc Q1 2 KO F S L I0)) := by
  refine zg 2 (pc' := 4) (ls' := [(0, .ref 0)]) (st' := [.ref 144]) (I' := I) rfl ?_
  refine zcP (b2 := 1) rfl rfl (zt_read (D := D) hT hl h) (fun x J hP => ?_)
  obtain ⟨rfl, hc, hf, hkn⟩ := hP
  refine zg 3 (pc' := 12) (ls' := [(1, .int 1), (0, .ref 0)]) (st' := [.ref 144]) (I' := J) rfl ?_
  refine zcm rfl rfl zt_empty ?_
  refine zg 2 (pc' := 41) (ls' := [(1, .int 1), (0, .ref 0)]) (st' := []) (I' := (zup J 144 3 0)) rfl ?_
  refine zLp (List.Perm.swap _ _ _) rfl ?_
  have hN : ∀ a k, 1 ≤ a → a ≤ 134 → (zup J 144 3 0) a k = I0 a k := fun a k h1 h2 => by
    rw [zup_at, if_neg (by omega)]
    exact hf a k (zp4_f (by omega))
  have h36 : ∀ k, k < 36 → ∃ x, (zup J 144 3 0) 147 k = some x := fun k hk => by
    obtain ⟨x, hx⟩ := hI.2.2.2.2 k hk
    exact hkn 147 k x (by rw [hT.2.2 147 k (Or.inl (by decide)) (by decide)]; exact hx)
  have hI2 : zIv S L (zup J 144 3 0) := zIv_fr hI hN rfl h36
  obtain ⟨v0, hv0⟩ := h36 0 (by decide)
  obtain ⟨v1, hv1⟩ := h36 1 (by decide)
  obtain ⟨v2, hv2⟩ := h36 2 (by decide)
  obtain ⟨v3, hv3⟩ := h36 3 (by decide)
  obtain ⟨v4, hv4⟩ := h36 4 (by decide)
  obtain ⟨v5, hv5⟩ := h36 5 (by decide)
  exact zwp (zt_rst2 (D := D + 3) hI2 (show zup J 144 3 0 144 4 = some 2 from hc 1 _ _ _ rfl h4) k0 v0 v1 v2 (show zup J 144 3 0 146 0 = some k0 from hc 3 _ _ _ rfl hk0) hv0 hv1 hv2 k1 v3 v4 v5 (show zup J 144 3 0 146 1 = some k1 from hc 4 _ _ _ rfl hk1) hv3 hv4 hv5 (g0 v0 v1 v2 (fun y hy => Option.some.inj (hv0.symm.trans (show zup J 144 3 0 147 0 = some y from hc 5 _ _ _ rfl hy))) (fun y hy => Option.some.inj (hv1.symm.trans (show zup J 144 3 0 147 1 = some y from hc 6 _ _ _ rfl hy))) (fun y hy => Option.some.inj (hv2.symm.trans (show zup J 144 3 0 147 2 = some y from hc 7 _ _ _ rfl hy)))) (fun T y hA => g1 T y v3 v4 v5 hA (fun y hy => Option.some.inj (hv3.symm.trans (show zup J 144 3 0 147 3 = some y from hc 8 _ _ _ rfl hy))) (fun y hy => Option.some.inj (hv4.symm.trans (show zup J 144 3 0 147 4 = some y from hc 9 _ _ _ rfl hy))) (fun y hy => Option.some.inj (hv5.symm.trans (show zup J 144 3 0 147 5 = some y from hc 10 _ _ _ rfl hy))))) (fun c v K hq => zQsc_tr ⟨fun a k h1 h2 => hN a k (by omega) (by omega), hf 0 8 rfl⟩ (hf 0 9 rfl) (hf 0 10 rfl) hq) (Nat.le_refl _)
theorem zl_runbad {sl D dy : Nat} {I : zM} {S : Nat → Nat → Int32} {L : List (Nat → Nat → Int32)} {N : Nat} {I0 : zM} {t : List Int32} {l : List (Option Int32)} (hI : zIv S L I0) (hT : zTy I0 I t (Int32.ofNat t.length)) (hl : t.length ≤ 60) (h : zrdo (zrun 2147483648 N 8 0 29 0 [(0, .ref 144)] [] (zTM t)) = some (0, some 0, l, 0)) {p : Int32} (hp : l[2]? = some (some p)) : zW sl (D + 10) dy 168 0 [(0, .ref 0)] [] I (zRg 1 (zQP (fun x J => x = -1001 ∧ zIv S L J ∧ zKp I0 J ∧ J 0 9 = some p ∧ J 0 10 = I0 0 10))) := by
  refine zg 1 (pc' := 1) (ls' := [(0, .ref 0)]) (st' := [.ref 0]) (I' := I) rfl ?_
  refine zcal (b1 := 1) (b2 := 0) rfl rfl (zt_rsbad hI hT hl h hp) (fun v J hq => ?_) (fun c v J hq => ?_)
  · exact nomatch hq.1
  · obtain ⟨hc1, hq⟩ := hq
    cases hc1
    refine Or.inr ⟨6, [(0, .ref 0)], rfl, ?_⟩
    refine zg 1 (pc' := 9) (ls' := [(0, .ref 0)]) (st' := [.int (-1001)]) (I' := J) rfl ?_
    refine ziret rfl rfl rfl ?_
    exact zP1 ⟨rfl, hq⟩
theorem zl_run1 {sl D dy : Nat} {I : zM} {KO : Prop} {F : Int32 → Prop} {S : Nat → Nat → Int32} {L : List (Nat → Nat → Int32)} {N : Nat} {I0 : zM} {t : List Int32} {l : List (Option Int32)} (hI : zIv S L I0) (hT : zTy I0 I t (Int32.ofNat t.length)) (hl : t.length ≤ 60) (h : zrdo (zrun 2147483648 N 8 0 29 0 [(0, .ref 144)] [] (zTM t)) = some (0, some 1, l, 0)) {k0 : Int32} {Q0 : (Nat → Nat → Int32) → Int32 → Prop} (h4 : l[1]? = some (some 1)) (hk0 : l[3]? = some (some k0)) (g0 : ∀ a b c, zAg l 5 a → zAg l 6 b → zAg l 7 c → (KO ∧ zCan S k0 a b c Q0) ∨ (F 0 ∧ zCant S k0 a b c)) : zW sl (D + 10) dy 168 0 [(0, .ref 0)] [] I (zRg 1 (zQP (fun x J => (x = 1 ∧ KO ∧ ∃ T y, Q0 T y ∧ zIv T ((S :: L).take 8) J ∧ zKp I0 J ∧ J 0 9 = I0 0 9 ∧ J 0 10 = I0 0 10) ∨ (x = -1002 ∧ zIv S L J ∧ zKp I0 J ∧ J 0 9 = I0 0 9 ∧ ∃ i, J 0 10 = some i ∧ F i)))) := by
  refine zg 1 (pc' := 1) (ls' := [(0, .ref 0)]) (st' := [.ref 0]) (I' := I) rfl ?_
  refine zcal (b1 := 1) (b2 := 0) rfl rfl (zt_rs1 hI hT hl h h4 hk0 g0) (fun v J hq => ?_) (fun c v J hq => ?_)
  · rcases hq with ⟨-, rfl, hq⟩ | ⟨hq, -⟩
    · skip
      exact ziret rfl rfl rfl (zP1 (Or.inl ⟨rfl, hq⟩))
    · cases hq
  · rcases hq with ⟨hq, -⟩ | ⟨hc1, hq⟩
    · cases hq
    · cases hc1
      refine Or.inr ⟨11, [(0, .ref 0)], rfl, ?_⟩
      refine zg 1 (pc' := 14) (ls' := [(0, .ref 0)]) (st' := [.int (-1002)]) (I' := J) rfl ?_
      exact ziret rfl rfl rfl (zP1 (Or.inr ⟨rfl, hq⟩))
theorem zl_run2 {sl D dy : Nat} {I : zM} {KO : Prop} {F : Int32 → Prop} {S : Nat → Nat → Int32} {L : List (Nat → Nat → Int32)} {N : Nat} {I0 : zM} {t : List Int32} {l : List (Option Int32)} (hI : zIv S L I0) (hT : zTy I0 I t (Int32.ofNat t.length)) (hl : t.length ≤ 60) (h : zrdo (zrun 2147483648 N 8 0 29 0 [(0, .ref 144)] [] (zTM t)) = some (0, some 1, l, 0)) {k0 k1 : Int32} {Q0 Q1 : (Nat → Nat → Int32) → Int32 → Prop} (h4 : l[1]? = some (some 2)) (hk0 : l[3]? = some (some k0)) (hk1 : l[4]? = some (some k1)) (g0 : ∀ a b c, zAg l 5 a → zAg l 6 b → zAg l 7 c → (True ∧ zCan S k0 a b c Q0) ∨ (F 0 ∧ zCant S k0 a b c)) (g1 : ∀ T y a b c, zAcc Q0 T y → zAg l 8 a → zAg l 9 b → zAg l 10 c → (KO ∧ zCan T k1 a b c Q1) ∨ (F 1 ∧ zCant T k1 a b c)) : zW sl (D + 10) dy 168 0 [(0, .ref 0)] [] I (zRg 1 (zQP (fun x J => (x = 2 ∧ KO ∧ ∃ T y, Q1 T y ∧ zIv T ((S :: L).take 8) J ∧ zKp I0 J ∧ J 0 9 = I0 0 9 ∧ J 0 10 = I0 0 10) ∨ (x = -1002 ∧ zIv S L J ∧ zKp I0 J ∧ J 0 9 = I0 0 9 ∧ ∃ i, J 0 10 = some i ∧ F i)))) := by
  refine zg 1 (pc' := 1) (ls' := [(0, .ref 0)]) (st' := [.ref 0]) (I' := I) rfl ?_
  refine zcal (b1 := 1) (b2 := 0) rfl rfl (zt_rs2 hI hT hl h h4 hk0 hk1 g0 g1) (fun v J hq => ?_) (fun c v J hq => ?_)
  · rcases hq with ⟨-, rfl, hq⟩ | ⟨hq, -⟩
    · skip
      exact ziret rfl rfl rfl (zP1 (Or.inl ⟨rfl, hq⟩))
    · cases hq
  · rcases hq with ⟨hq, -⟩ | ⟨hc1, hq⟩
    · cases hq
    · cases hc1
      refine Or.inr ⟨11, [(0, .ref 0)], rfl, ?_⟩
      refine zg 1 (pc' := 14) (ls' := [(0, .ref 0)]) (st' := [.int (-1002)]) (I' := J) rfl ?_
      exact ziret rfl rfl rfl (zP1 (Or.inr ⟨rfl, hq⟩))
theorem zl_runs35 {sl D dy : Nat} {I : zM} {a b : Nat} {Q : Int32 → zM → Prop} (i : Int32) (hr : zW sl (D + 10) dy 168 0 [(0, .ref 0)] [] I (zRg b (zQP Q))) : zW sl (D + 11) dy 173 35 [(0, .ref 0), (1, .ref a), (2, .int i)] [] I (zRg b (zQP Q)) := by
  refine zg 1 (pc' := 36) (ls' := [(0, .ref 0), (1, .ref a), (2, .int i)]) (st' := [.ref 0]) (I' := I) rfl ?_
  refine zcP (b2 := 0) rfl rfl (hr) (fun x J hP => ?_)
  refine ziret rfl rfl rfl ?_
  exact zP1 hP
theorem zl_runs {sl D dy : Nat} {I : zM} {a b : Nat} {Q : Int32 → zM → Prop} (t : List Int32) (ht : ztx dy a = some t) (hl : t.length ≤ 60) (hch : ∀ x ∈ t, 32 ≤ x.toInt ∧ x.toInt ≤ 126) (h0 : I 144 3 = some 0) (hr : ∀ J, zTy I J t (Int32.ofNat t.length) → zW sl (D + 10) dy 168 0 [(0, .ref 0)] [] J (zRg b (zQP Q))) : zW sl (D + 11) dy 173 0 [(0, .ref 0), (1, .ref a)] [] I (zRg b (zQP Q)) := by
  refine zg 2 (pc' := 2) (ls' := [(2, .int 0), (0, .ref 0), (1, .ref a)]) (st' := []) (I' := I) rfl ?_
  refine zLp (List.Perm.trans (List.Perm.cons _ (List.Perm.swap _ _ _)) (List.Perm.swap _ _ _)) rfl ?_
  exact zt_runl (D := D + 8) t ht hl hch (fun i J hT => zl_runs35 i (hr J hT)) t.length 0 I ⟨h0, fun j hj => absurd hj (by have z0 := zi0; omega), fun _ _ _ _ => rfl⟩ (by decide) (by have z0 := zi0; omega)
theorem zchk (t : List Int32) (h : t.all (fun x => decide (32 ≤ x.toInt) && decide (x.toInt ≤ 126)) = true) : ∀ x ∈ t, 32 ≤ x.toInt ∧ x.toInt ≤ 126 := fun x hx => by
  have := List.all_eq_true.mp h x hx
  simp only [Bool.and_eq_true, decide_eq_true_eq] at this
  exact this
theorem zAg_eq {l : List (Option Int32)} {i : Nat} {a y : Int32} (h : zAg l i a) (hy : l[i]? = some (some y)) : a = y := h y hy
theorem zwait_1 : zrfW 1 = 0 := by decide
theorem ztank_9 (S : Nat → Nat → Int32) : zrfT S 9 ≠ 0 := by
  have z9 : (9 : Int32).toInt = 9 := rfl
  unfold zrfT
  rw [if_neg (by omega)]
  decide
theorem zdraw_9 {S : Nat → Nat → Int32} (hV : zOK S) (b : Int32) : zrfD S 9 b ≠ 0 := by
  have z9 : (9 : Int32).toInt = 9 := rfl
  have := hV.1
  unfold zrfD
  rw [if_neg (by omega)]
  decide
theorem zl_runs_q {sl D dy : Nat} {I : zM} {S : Nat → Nat → Int32} {L : List (Nat → Nat → Int32)} (hI : zIv S L I) : zW sl (D + 11) dy 173 0 [(0, .ref 0), (1, .ref 2037)] [] I (zRg 1 (zQP (fun x J => x = -1001 ∧ zIv S L J ∧ zKp I J ∧ J 0 9 = some 0 ∧ J 0 10 = I 0 10))) :=
  zl_runs (D := D) (zch "q") rfl (by decide) (zchk _ (by decide +kernel)) hI.2.2.2.1 (fun J hT => zl_runbad (D := D) hI hT (by decide) zrd_q0 rfl)
theorem zl_runs_w {sl D dy : Nat} {I : zM} {S : Nat → Nat → Int32} {L : List (Nat → Nat → Int32)} (hI : zIv S L I) : zW sl (D + 11) dy 173 0 [(0, .ref 0), (1, .ref 2038)] [] I (zRg 1 (zQP (fun x J => x = -1002 ∧ zIv S L J ∧ zKp I J ∧ J 0 9 = I 0 9 ∧ J 0 10 = some 1))) :=
  zl_runs (D := D) (zch "wait;tank 9") rfl (by decide) (zchk _ (by decide +kernel)) hI.2.2.2.1 (fun J hT => zPP (zl_run2 (D := D) (KO := False) (F := fun i => i = 1) hI hT (by decide) zrd_w0 rfl rfl rfl
    (fun a b c h1 h2 h3 => Or.inl ⟨trivial, zcan7 hI.2.1 (by rw [zAg_eq h1 rfl]; exact zwait_1)⟩) (Q1 := fun _ _ => True)
    (fun T y a b c hA h1 h2 h3 => Or.inr ⟨rfl, zcant0 hA.1 (by rw [zAg_eq h1 rfl]; exact ztank_9 T)⟩))
    (fun x J hq => by
      rcases hq with ⟨-, h, -⟩ | ⟨h1, h2, h3, h4, i, h5, h6⟩
      · exact h.elim
      · exact ⟨h1, h2, h3, h4, by rw [h5, h6]⟩))
theorem zl_runs_d {sl D dy : Nat} {I : zM} {S : Nat → Nat → Int32} {L : List (Nat → Nat → Int32)} (hI : zIv S L I) : zW sl (D + 11) dy 173 0 [(0, .ref 0), (1, .ref 2039)] [] I (zRg 1 (zQP (fun x J => x = -1002 ∧ zIv S L J ∧ zKp I J ∧ J 0 9 = I 0 9 ∧ J 0 10 = some 0))) :=
  zl_runs (D := D) (zch "draw 9 1") rfl (by decide) (zchk _ (by decide +kernel)) hI.2.2.2.1 (fun J hT => zPP (zl_run1 (D := D) (KO := False) (F := fun i => i = 0) (Q0 := fun _ _ => True) hI hT (by decide) zrd_d0 rfl rfl
    (fun a b c h1 h2 h3 => Or.inr ⟨rfl, zcant3 hI.2.1 (by rw [zAg_eq h1 rfl]; exact zdraw_9 hI.2.1 b)⟩))
    (fun x J hq => by
      rcases hq with ⟨-, h, -⟩ | ⟨h1, h2, h3, h4, i, h5, h6⟩
      · exact h.elim
      · exact ⟨h1, h2, h3, h4, by rw [h5, h6]⟩))
/-- a script of two commands has run, or nothing has changed -/
def zTwo (S : Nat → Nat → Int32) (L : List (Nat → Nat → Int32)) (I : zM) (x : Int32) (J : zM) : Prop := (x = 2 ∧ ∃ T, (S 0 10).toInt ≤ (T 0 10).toInt ∧ zIv T ((S :: L).take 8) J ∧ zKp I J) ∨ (x = -1002 ∧ zIv S L J ∧ zKp I J)
theorem zTwo_of {S : Nat → Nat → Int32} {L : List (Nat → Nat → Int32)} {I J : zM} {x : Int32} (h : (x = 2 ∧ True ∧ ∃ T, ∃ _ : Int32, (S 0 10).toInt ≤ (T 0 10).toInt ∧ zIv T ((S :: L).take 8) J ∧ zKp I J ∧ J 0 9 = I 0 9 ∧ J 0 10 = I 0 10) ∨ (x = -1002 ∧ zIv S L J ∧ zKp I J ∧ J 0 9 = I 0 9 ∧ ∃ i, J 0 10 = some i ∧ True)) : zTwo S L I x J := by
  rcases h with ⟨h1, -, T, -, hc, h2, h3, -⟩ | ⟨h1, h2, h3, -⟩
  · exact Or.inl ⟨h1, T, hc, h2, h3⟩
  · exact Or.inr ⟨h1, h2, h3⟩
theorem zpD_10 (S : Nat → Nat → Int32) (a b : Int32) : zpD S a b 0 10 = S 0 10 := by
  unfold zpD
  split <;> rfl
theorem zCan_w {S : Nat → Nat → Int32} {k a b c : Int32} {Q Q2 : (Nat → Nat → Int32) → Int32 → Prop} (hQ : ∀ T x, Q T x → Q2 T x) (h : zCan S k a b c Q) : zCan S k a b c Q2 := fun sl D dy M hB =>
  ⟨(h sl D dy M hB).1, zPP (h sl D dy M hB).2 (fun x J ⟨T, h1, h2, h3, h4, h5⟩ => ⟨T, h1, h2, h3, h4, hQ T x h5⟩)⟩
theorem zcdec {p : Prop} {k a b c : Int32} {S : Nat → Nat → Int32} {Q Q2 : (Nat → Nat → Int32) → Int32 → Prop} {r : Int32} (hQ : ∀ T x, Q T x → Q2 T x) (h1 : r = 0 → zCan S k a b c Q) (h2 : r ≠ 0 → zCant S k a b c) (hp : p) : (p ∧ zCan S k a b c Q2) ∨ (True ∧ zCant S k a b c) := by
  by_cases h : r = 0
  · exact Or.inl ⟨hp, zCan_w hQ (h1 h)⟩
  · exact Or.inr ⟨trivial, h2 h⟩
theorem ztx_v {p : Nat} (hp : p < 13) : ztx (5000 + p) (5000 + p) = some (zch "wait;valve " ++ zdg (Int32.ofNat p) ++ zch " 3") := by
  have h := of_decide_eq_true (List.all_eq_true.mp (show (List.range 13).all (fun p => decide (ztx (5000 + p) (5000 + p) = some (zch "wait;valve " ++ zdg (Int32.ofNat p) ++ zch " 3"))) = true from by decide +kernel) p (List.mem_range.mpr hp))
  exact h
theorem ztx_p {p : Nat} (hp : p < 9) : ztx (5100 + p) (5100 + p) = some (zch "pour 0 1/h;draw " ++ zdg (Int32.ofNat p) ++ zch " 2") := by
  have h := of_decide_eq_true (List.all_eq_true.mp (show (List.range 9).all (fun p => decide (ztx (5100 + p) (5100 + p) = some (zch "pour 0 1/h;draw " ++ zdg (Int32.ofNat p) ++ zch " 2"))) = true from by decide +kernel) p (List.mem_range.mpr hp))
  exact h
theorem ztl_v {p : Nat} (hp : p < 13) : (zch "wait;valve " ++ zdg (Int32.ofNat p) ++ zch " 3").length ≤ 60 ∧ (zch "wait;valve " ++ zdg (Int32.ofNat p) ++ zch " 3").all (fun x => decide (32 ≤ x.toInt) && decide (x.toInt ≤ 126)) = true := by
  have h := of_decide_eq_true (List.all_eq_true.mp (show (List.range 13).all (fun p => decide ((zch "wait;valve " ++ zdg (Int32.ofNat p) ++ zch " 3").length ≤ 60 ∧ (zch "wait;valve " ++ zdg (Int32.ofNat p) ++ zch " 3").all (fun x => decide (32 ≤ x.toInt) && decide (x.toInt ≤ 126)) = true)) = true from by decide +kernel) p (List.mem_range.mpr hp))
  exact h
theorem ztl_p {p : Nat} (hp : p < 9) : (zch "pour 0 1/h;draw " ++ zdg (Int32.ofNat p) ++ zch " 2").length ≤ 60 ∧ (zch "pour 0 1/h;draw " ++ zdg (Int32.ofNat p) ++ zch " 2").all (fun x => decide (32 ≤ x.toInt) && decide (x.toInt ≤ 126)) = true := by
  have h := of_decide_eq_true (List.all_eq_true.mp (show (List.range 9).all (fun p => decide ((zch "pour 0 1/h;draw " ++ zdg (Int32.ofNat p) ++ zch " 2").length ≤ 60 ∧ (zch "pour 0 1/h;draw " ++ zdg (Int32.ofNat p) ++ zch " 2").all (fun x => decide (32 ≤ x.toInt) && decide (x.toInt ≤ 126)) = true)) = true from by decide +kernel) p (List.mem_range.mpr hp))
  exact h
theorem zl_runs_v {sl D : Nat} {I : zM} {p : Nat} (hp : p < 13) {S : Nat → Nat → Int32} {L : List (Nat → Nat → Int32)} (hI : zIv S L I) : zW sl (D + 11) (5000 + p) 173 0 [(0, .ref 0), (1, .ref (5000 + p))] [] I (zRg 1 (zQP (zTwo S L I))) :=
  zl_runs (D := D) (zch "wait;valve " ++ zdg (Int32.ofNat p) ++ zch " 3") (ztx_v hp) (ztl_v hp).1 (zchk _ (ztl_v hp).2) hI.2.2.2.1 (fun J hT => zPP (zl_run2 (D := D) (KO := True) (F := fun _ => True) (Q0 := fun T2 _ => (S 0 10).toInt ≤ (T2 0 10).toInt) (Q1 := fun T2 _ => (S 0 10).toInt ≤ (T2 0 10).toInt) hI hT (ztl_v hp).1 (of_decide_eq_true (List.all_eq_true.mp zrd_v0 p (List.mem_range.mpr hp))) rfl rfl rfl
    (fun a b c h1 h2 h3 => zcdec (r := zrfW a) (fun T2 x q => by rw [q.1]; exact Int.le_refl _) (zcan7 hI.2.1) (zcant7 hI.2.1) trivial) (fun T y a b c hA h1 h2 h3 => zcdec (r := zrfV T 4 a b) (fun T2 x q => by rw [q.1]; exact hA.2.2) (zcan4 hA.1) (zcant4 hA.1) trivial)) (fun x J hq => zTwo_of hq))
theorem zl_runs_p {sl D : Nat} {I : zM} {p : Nat} (hp : p < 9) {S : Nat → Nat → Int32} {L : List (Nat → Nat → Int32)} (hI : zIv S L I) : zW sl (D + 11) (5100 + p) 173 0 [(0, .ref 0), (1, .ref (5100 + p))] [] I (zRg 1 (zQP (zTwo S L I))) :=
  zl_runs (D := D) (zch "pour 0 1/h;draw " ++ zdg (Int32.ofNat p) ++ zch " 2") (ztx_p hp) (ztl_p hp).1 (zchk _ (ztl_p hp).2) hI.2.2.2.1 (fun J hT => zPP (zl_run2 (D := D) (KO := True) (F := fun _ => True) (Q0 := fun T2 _ => (S 0 10).toInt ≤ (T2 0 10).toInt) (Q1 := fun T2 _ => (S 0 10).toInt ≤ (T2 0 10).toInt) hI hT (ztl_p hp).1 (of_decide_eq_true (List.all_eq_true.mp zrd_p0 p (List.mem_range.mpr hp))) rfl rfl rfl
    (fun a b c h1 h2 h3 => zcdec (r := zrfO S a b c) (fun T2 x q => by rw [q.1]; exact Int.le_refl _) (zcan2 hI.2.1) (zcant2 hI.2.1) trivial) (fun T y a b c hA h1 h2 h3 => zcdec (r := zrfD T a b) (fun T2 x q => by rw [q.1, zpD_10]; exact hA.2.2) (zcan3 hA.1) (zcant3 hA.1) trivial)) (fun x J hq => zTwo_of hq))
