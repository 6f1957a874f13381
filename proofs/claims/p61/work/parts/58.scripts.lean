/-! CONTRACTS: scripts -/
/-- the cells that a reading is asked for -/
def zs3c : List (Nat × Nat) := [(144, 3), (144, 4), (144, 5), (146, 0), (146, 1), (147, 0), (147, 1), (147, 2), (147, 3), (147, 4), (147, 5)]
def zs3l (J : zM) (l : List (Option Int32)) : Prop := ∀ (i a k : Nat) (c : Int32), zs3c[i]? = some (a, k) → l[i]? = some (some c) → J a k = some c
theorem zrdo_some {o : Option zO4} {x : Int32} {l : List (Option Int32)} (h : zrdo o = some (0, some x, l, 0)) : ∃ q : zO4, o = some q ∧ q.1 = 0 ∧ q.2.1 = some (.int x) ∧ q.2.2.2 = 0 ∧ zs3l q.2.2.1 l := by
  cases o with
  | none => cases h
  | some q =>
    obtain ⟨c, v, M, u⟩ := q
    simp only [zrdo, Option.map_some, Option.some.injEq, Prod.mk.injEq] at h
    obtain ⟨h1, h2, h3, h4⟩ := h
    refine ⟨_, rfl, h1, ?_, h4, ?_⟩
    · split at h2
      · cases h2; rfl
      · cases h2
    · intro i a k c hi hc
      rw [← h3] at hc
      have hl : i < 11 := by
        have := (List.getElem?_eq_some_iff.mp hi).1
        exact this
      rcases (show i = 0 ∨ i = 1 ∨ i = 2 ∨ i = 3 ∨ i = 4 ∨ i = 5 ∨ i = 6 ∨ i = 7 ∨ i = 8 ∨ i = 9 ∨ i = 10 by omega) with rfl | rfl | rfl | rfl | rfl | rfl | rfl | rfl | rfl | rfl | rfl <;> (cases hi; exact Option.some.inj hc)
theorem zTM_le {I0 I : zM} {t : List Int32} (hT : zTy I0 I t (Int32.ofNat t.length)) (hl : t.length ≤ 60) : zle (zTM t) I := fun a k x h => by
  have hn := zofn (n := t.length) (by omega)
  unfold zTM at h
  split at h
  · rename_i q
    obtain ⟨rfl, rfl⟩ := q
    rw [hT.1]
    exact h
  · split at h
    · rename_i q
      subst q
      have := (List.getElem?_eq_some_iff.mp h).1
      rw [hT.2.1 k (by omega)]
      exact h
    · cases h
theorem zt_read {sl D dy N : Nat} {I0 I : zM} {t : List Int32} {x : Int32} {l : List (Option Int32)} (hT : zTy I0 I t (Int32.ofNat t.length)) (hl : t.length ≤ 60) (h : zrdo (zrun 2147483648 N 8 0 29 0 [(0, .ref 144)] [] (zTM t)) = some (0, some x, l, 0)) :
    zW sl (D + 8) dy 29 0 [(0, .ref 144)] [] I (zRg 0 (zQP (fun y J => y = x ∧ zs3l J l ∧ (∀ a k, zp4 a = false → J a k = I0 a k) ∧ zkn I J))) := by
  obtain ⟨q, h1, h2, h3, h4, h5⟩ := zrdo_some h
  obtain ⟨J, g1, g2, -⟩ := zmono N (zTM_le hT hl) h1
  obtain ⟨f1, -, f3⟩ := zrun_rr (sl := sl) (dy := dy) N (Or.inl rfl) (fun q hq => by cases List.mem_singleton.mp hq; rfl) zRs_n g1
  refine ⟨N, (q.1, q.2.1, J, q.2.2.2), by rw [Nat.add_comm]; exact zrun_D2 f1 D, ⟨h2, x, h3, rfl, fun i a k c hi hc => g2.1 a k c (h5 i a k c hi hc), fun a k ha => ?_, fun a k y hy => ?_⟩, by show q.2.2.2 ≤ 0; omega⟩
  · rw [f3 a k ha]
    have : a ≠ 144 ∧ a ≠ 145 := by
      constructor <;> (rintro rfl; cases ha)
    exact hT.2.2 a k (Or.inl this.1) this.2
  · rcases g2.2 a k with e | ⟨z, e1, e2⟩
    · exact ⟨y, e.trans hy⟩
    · exact ⟨z, e2⟩
/-- the object between the law's calls -/
def zIv (S : Nat → Nat → Int32) (L : List (Nat → Nat → Int32)) (I : zM) : Prop := zSB 1 S I ∧ zOK S ∧ zHl L I ∧ I 144 3 = some 0 ∧ ∀ k, k < 36 → ∃ x, I 147 k = some x
/-- the snapshot stays -/
def zKp (I J : zM) : Prop := (∀ a k, 12 ≤ a → a ≤ 22 → J a k = I a k) ∧ J 0 8 = I 0 8
theorem zKp_refl (I : zM) : zKp I I := ⟨fun _ _ _ _ => rfl, rfl⟩
theorem zKp_trans {I J K : zM} (h : zKp I J) (h2 : zKp J K) : zKp I K := ⟨fun a k h3 h4 => (h2.1 a k h3 h4).trans (h.1 a k h3 h4), h2.2.trans h.2⟩
theorem zIv_fr {S : Nat → Nat → Int32} {L : List (Nat → Nat → Int32)} {I J : zM} (h : zIv S L I) (hf : ∀ a k, 1 ≤ a → a ≤ 134 → J a k = I a k) (h3 : J 144 3 = some 0) (h4 : ∀ k, k < 36 → ∃ x, J 147 k = some x) : zIv S L J :=
  ⟨zSB_eq h.1 (fun a k h1 h2 => hf a k h1 (by omega)), h.2.1, zHl_eq h.2.2.1 (fun a k h1 h2 => hf a k (by omega) h2), h3, h4⟩
/-- a command that is accepted .. or not -/
def zCan (S : Nat → Nat → Int32) (k a b c : Int32) (Q : (Nat → Nat → Int32) → Int32 → Prop) : Prop := ∀ (sl D dy : Nat) (M : zM), zSB 1 S M →
  zW sl (D + 4) dy 42 0 [(0, .ref 1), (1, .int k), (2, .int a), (3, .int b), (4, .int c)] [] M (zRg 0 (zQf M (some (.int 0)))) ∧ zW sl (D + 4) dy 49 0 [(0, .ref 1), (1, .int k), (2, .int a), (3, .int b), (4, .int c)] [] M (zRg 0 (zQg M Q))
def zCant (S : Nat → Nat → Int32) (k a b c : Int32) : Prop := ∃ r : Int32, r ≠ 0 ∧ ∀ (sl D dy : Nat) (M : zM), zSB 1 S M →
  zW sl (D + 4) dy 42 0 [(0, .ref 1), (1, .int k), (2, .int a), (3, .int b), (4, .int c)] [] M (zRg 0 (zQf M (some (.int r))))
theorem zcan0 {S : Nat → Nat → Int32} (hV : zOK S) {a b c : Int32} (hr : zrfT S a = 0) : zCan S 0 a b c (fun T x => T = zpT S a ∧ x = S 0 10) := fun sl D dy M hB => ⟨by have h := zt_ref0 (sl := sl) (D := D + 2) (dy := dy) hB a b c; rw [hr] at h; exact h, zt_perf0 hB hV a b c hr⟩
theorem zcant0 {S : Nat → Nat → Int32} (hV : zOK S) {a b c : Int32} (hr : zrfT S a ≠ 0) : zCant S 0 a b c := ⟨_, hr, fun sl D dy M hB => zt_ref0 (D := D + 2) hB a b c⟩
theorem zcan1 {S : Nat → Nat → Int32} (hV : zOK S) {a b c : Int32} (hr : zrfP S a b c = 0) : zCan S 1 a b c (fun T x => T = zpP S a b c ∧ x = S 0 11) := fun sl D dy M hB => ⟨by have h := zt_ref1 (sl := sl) (D := D + 2) (dy := dy) hB a b c; rw [hr] at h; exact h, zt_perf1 hB hV a b c hr⟩
theorem zcant1 {S : Nat → Nat → Int32} (hV : zOK S) {a b c : Int32} (hr : zrfP S a b c ≠ 0) : zCant S 1 a b c := ⟨_, hr, fun sl D dy M hB => zt_ref1 (D := D + 2) hB a b c⟩
theorem zcan2 {S : Nat → Nat → Int32} (hV : zOK S) {a b c : Int32} (hr : zrfO S a b c = 0) : zCan S 2 a b c (fun T x => T = zpO S a b c ∧ x = S 2 a.toNatClampNeg + b) := fun sl D dy M hB => ⟨by have h := zt_ref2 (sl := sl) (D := D + 2) (dy := dy) hB hV a b c; rw [hr] at h; exact h, zt_perf2 hB hV a b c hr⟩
theorem zcant2 {S : Nat → Nat → Int32} (hV : zOK S) {a b c : Int32} (hr : zrfO S a b c ≠ 0) : zCant S 2 a b c := ⟨_, hr, fun sl D dy M hB => zt_ref2 (D := D + 2) hB hV a b c⟩
theorem zcan3 {S : Nat → Nat → Int32} (hV : zOK S) {a b c : Int32} (hr : zrfD S a b = 0) : zCan S 3 a b c (fun T x => T = zpD S a b ∧ x = S 2 a.toNatClampNeg - b) := fun sl D dy M hB => ⟨by have h := zt_ref3 (sl := sl) (D := D + 2) (dy := dy) hB hV a b c; rw [hr] at h; exact h, zt_perf3 hB hV a b c hr⟩
theorem zcant3 {S : Nat → Nat → Int32} (hV : zOK S) {a b c : Int32} (hr : zrfD S a b ≠ 0) : zCant S 3 a b c := ⟨_, hr, fun sl D dy M hB => zt_ref3 (D := D + 2) hB hV a b c⟩
theorem zcan4 {S : Nat → Nat → Int32} (hV : zOK S) {a b c : Int32} (hr : zrfV S 4 a b = 0) : zCan S 4 a b c (fun T x => T = zsu S 7 a.toNatClampNeg b ∧ x = S 7 a.toNatClampNeg) := fun sl D dy M hB => ⟨by have h := zt_ref4 (sl := sl) (D := D + 2) (dy := dy) hB a b c; rw [hr] at h; exact h, zt_perf4 hB hV a b c hr⟩
theorem zcant4 {S : Nat → Nat → Int32} (hV : zOK S) {a b c : Int32} (hr : zrfV S 4 a b ≠ 0) : zCant S 4 a b c := ⟨_, hr, fun sl D dy M hB => zt_ref4 (D := D + 2) hB a b c⟩
theorem zcan5 {S : Nat → Nat → Int32} (hV : zOK S) {a b c : Int32} (hr : zrfV S 9 a b = 0) : zCan S 5 a b c (fun T x => T = zsu S 8 a.toNatClampNeg b ∧ x = S 8 a.toNatClampNeg) := fun sl D dy M hB => ⟨by have h := zt_ref5 (sl := sl) (D := D + 2) (dy := dy) hB a b c; rw [hr] at h; exact h, zt_perf5 hB hV a b c hr⟩
theorem zcant5 {S : Nat → Nat → Int32} (hV : zOK S) {a b c : Int32} (hr : zrfV S 9 a b ≠ 0) : zCant S 5 a b c := ⟨_, hr, fun sl D dy M hB => zt_ref5 (D := D + 2) hB a b c⟩
theorem zcan6 {S : Nat → Nat → Int32} (hV : zOK S) {a b c : Int32} (hr : zrfC S a = 0) : zCan S 6 a b c (fun T x => T = zsu S 9 a.toNatClampNeg 0 ∧ x = S 9 a.toNatClampNeg) := fun sl D dy M hB => ⟨by have h := zt_ref6 (sl := sl) (D := D + 2) (dy := dy) hB a b c; rw [hr] at h; exact h, zt_perf6 hB hV a b c hr⟩
theorem zcant6 {S : Nat → Nat → Int32} (hV : zOK S) {a b c : Int32} (hr : zrfC S a ≠ 0) : zCant S 6 a b c := ⟨_, hr, fun sl D dy M hB => zt_ref6 (D := D + 2) hB a b c⟩
theorem zcan7 {S : Nat → Nat → Int32} (hV : zOK S) {a b c : Int32} (hr : zrfW a = 0) : zCan S 7 a b c (fun T _ => T 0 10 = S 0 10 ∧ T 0 11 = S 0 11) := fun sl D dy M hB => ⟨by have h := zt_ref7 (sl := sl) (D := D + 2) (dy := dy) hB a b c; rw [hr] at h; exact h, zt_perf7 hB hV a b c hr⟩
theorem zcant7 {S : Nat → Nat → Int32} (hV : zOK S) {a b c : Int32} (hr : zrfW a ≠ 0) : zCant S 7 a b c := ⟨_, hr, fun sl D dy M hB => zt_ref7 (D := D + 2) hB a b c⟩
theorem zt_arg {sl D dy : Nat} {I : zM} (cmd w x : Int32) (i0 : 0 ≤ (cmd * 3 + w).toInt) (i1 : (cmd * 3 + w).toInt < 36) (hx : I 147 (cmd * 3 + w).toNatClampNeg = some x) : zW sl (D) dy 26 0 [(0, .ref 144), (1, .int cmd), (2, .int w)] [] I (zRg 0 (zQf I (some (.int x)))) := by
  refine zg 7 (pc' := 9) (ls' := [(0, .ref 144), (1, .int cmd), (2, .int w)]) (st' := [.int (((cmd * 3) + w)), .ref 147]) (I' := I) rfl ?_
  refine zia rfl rfl (zin_ok (n := 36) i0 i1) hx ?_
  refine ziret rfl rfl rfl ?_
  exact zf1
theorem zt_empty {sl D dy : Nat} {I : zM}  : zW sl (D) dy 25 0 [(0, .ref 144)] [] I (zRg 0 (zQf (zup I 144 3 0) none)) := by
  refine zg 2 (pc' := 2) (ls' := [(0, .ref 144)]) (st' := [.int 0, .ref 144]) (I' := I) rfl ?_
  refine zpf rfl rfl rfl rfl rfl ?_
  refine zret rfl rfl ?_
  exact zf1
theorem zt_pf0_ok {sl D dy : Nat} {I : zM} {S : Nat → Nat → Int32} {Q : (Nat → Nat → Int32) → Int32 → Prop} (hB : zSB 1 S I) (kd a b c : Int32) (hk : I 146 0 = some kd) (ha : I 147 0 = some a) (hb : I 147 1 = some b) (hc : I 147 2 = some c) (hC : zCan S kd a b c Q) : zW sl (D + 5) dy 121 0 [(0, .ref 0), (1, .int 0)] [] I (zRg 0 (zQP (fun x J => x = 1 ∧ ∃ T y, zSB 1 T J ∧ zfb I J ∧ zAcc Q T y))) := by
  refine zg 4 (pc' := 8) (ls' := [(0, .ref 0), (1, .int 0)]) (st' := [.int 0, .ref 146]) (I' := I) rfl ?_
  refine zia rfl rfl (zin_ok (n := 12) (by decide) (by decide)) (by rw [show (0 : Int32).toNatClampNeg = 0 from by decide]; exact hk) ?_
  refine zg 5 (pc' := 16) (ls' := [(2, .int kd), (0, .ref 0), (1, .int 0)]) (st' := [.int 0, .int 0, .ref 144]) (I' := I) rfl ?_
  refine zcf rfl rfl (zt_arg 0 0 a (by decide) (by decide) (by rw [show ((0 : Int32) * 3 + 0).toNatClampNeg = 0 from by decide]; exact ha)) ?_
  refine zg 5 (pc' := 26) (ls' := [(3, .int a), (2, .int kd), (0, .ref 0), (1, .int 0)]) (st' := [.int 1, .int 0, .ref 144]) (I' := I) rfl ?_
  refine zcf rfl rfl (zt_arg 0 1 b (by decide) (by decide) (by rw [show ((0 : Int32) * 3 + 1).toNatClampNeg = 1 from by decide]; exact hb)) ?_
  refine zg 5 (pc' := 37) (ls' := [(4, .int b), (3, .int a), (2, .int kd), (0, .ref 0), (1, .int 0)]) (st' := [.int 2, .int 0, .ref 144]) (I' := I) rfl ?_
  refine zcf rfl rfl (zt_arg 0 2 c (by decide) (by decide) (by rw [show ((0 : Int32) * 3 + 2).toNatClampNeg = 2 from by decide]; exact hc)) ?_
  refine zg 7 (pc' := 52) (ls' := [(5, .int c), (4, .int b), (3, .int a), (2, .int kd), (0, .ref 0), (1, .int 0)]) (st' := [.int c, .int b, .int a, .int kd, .ref 1]) (I' := I) rfl ?_
  refine zcf rfl rfl ((hC sl D dy I hB).1) ?_
  refine zg 7 (pc' := 70) (ls' := [(5, .int c), (4, .int b), (3, .int a), (2, .int kd), (0, .ref 0), (1, .int 0)]) (st' := [.int c, .int b, .int a, .int kd, .ref 1]) (I' := I) rfl ?_
  refine zcP (b2 := 0) rfl rfl ((hC sl D dy I hB).2) (fun x J hP => ?_)
  obtain ⟨T, hB2, hF2, hA⟩ := hP
  refine zg 2 (pc' := 75) (ls' := [(5, .int c), (4, .int b), (3, .int a), (2, .int kd), (0, .ref 0), (1, .int 0)]) (st' := [.int 1]) (I' := J) rfl ?_
  refine ziret rfl rfl rfl ?_
  exact zP1 ⟨rfl, T, _, hB2, hF2, hA⟩
theorem zt_pf0_no {sl D dy : Nat} {I : zM} {S : Nat → Nat → Int32} (hB : zSB 1 S I) (kd a b c : Int32) (hk : I 146 0 = some kd) (ha : I 147 0 = some a) (hb : I 147 1 = some b) (hc : I 147 2 = some c) (hC : zCant S kd a b c) : zW sl (D + 5) dy 121 0 [(0, .ref 0), (1, .int 0)] [] I (zRg 0 (zQf I (some (.int 0)))) := by
  obtain ⟨r, hr1, hr2⟩ := hC
  refine zg 4 (pc' := 8) (ls' := [(0, .ref 0), (1, .int 0)]) (st' := [.int 0, .ref 146]) (I' := I) rfl ?_
  refine zia rfl rfl (zin_ok (n := 12) (by decide) (by decide)) (by rw [show (0 : Int32).toNatClampNeg = 0 from by decide]; exact hk) ?_
  refine zg 5 (pc' := 16) (ls' := [(2, .int kd), (0, .ref 0), (1, .int 0)]) (st' := [.int 0, .int 0, .ref 144]) (I' := I) rfl ?_
  refine zcf rfl rfl (zt_arg 0 0 a (by decide) (by decide) (by rw [show ((0 : Int32) * 3 + 0).toNatClampNeg = 0 from by decide]; exact ha)) ?_
  refine zg 5 (pc' := 26) (ls' := [(3, .int a), (2, .int kd), (0, .ref 0), (1, .int 0)]) (st' := [.int 1, .int 0, .ref 144]) (I' := I) rfl ?_
  refine zcf rfl rfl (zt_arg 0 1 b (by decide) (by decide) (by rw [show ((0 : Int32) * 3 + 1).toNatClampNeg = 1 from by decide]; exact hb)) ?_
  refine zg 5 (pc' := 37) (ls' := [(4, .int b), (3, .int a), (2, .int kd), (0, .ref 0), (1, .int 0)]) (st' := [.int 2, .int 0, .ref 144]) (I' := I) rfl ?_
  refine zcf rfl rfl (zt_arg 0 2 c (by decide) (by decide) (by rw [show ((0 : Int32) * 3 + 2).toNatClampNeg = 2 from by decide]; exact hc)) ?_
  refine zg 7 (pc' := 52) (ls' := [(5, .int c), (4, .int b), (3, .int a), (2, .int kd), (0, .ref 0), (1, .int 0)]) (st' := [.int c, .int b, .int a, .int kd, .ref 1]) (I' := I) rfl ?_
  refine zcf rfl rfl (hr2 sl D dy I hB) ?_
  refine zif rfl rfl (fun h1 => ?_) (fun h1 => ?_)
  · have h1 := zc_eq.1.mp h1
    exact absurd h1 hr1
  · have h1 := zc_eq.2.mp h1
    refine zg 1 (pc' := 59) (ls' := [(5, .int c), (4, .int b), (3, .int a), (2, .int kd), (0, .ref 0), (1, .int 0)]) (st' := [.int 0]) (I' := I) rfl ?_
    refine ziret rfl rfl rfl ?_
    exact zf1
theorem zt_pf1_ok {sl D dy : Nat} {I : zM} {S : Nat → Nat → Int32} {Q : (Nat → Nat → Int32) → Int32 → Prop} (hB : zSB 1 S I) (kd a b c : Int32) (hk : I 146 1 = some kd) (ha : I 147 3 = some a) (hb : I 147 4 = some b) (hc : I 147 5 = some c) (hC : zCan S kd a b c Q) : zW sl (D + 5) dy 121 0 [(0, .ref 0), (1, .int 1)] [] I (zRg 0 (zQP (fun x J => x = 1 ∧ ∃ T y, zSB 1 T J ∧ zfb I J ∧ zAcc Q T y))) := by
  refine zg 4 (pc' := 8) (ls' := [(0, .ref 0), (1, .int 1)]) (st' := [.int 1, .ref 146]) (I' := I) rfl ?_
  refine zia rfl rfl (zin_ok (n := 12) (by decide) (by decide)) (by rw [show (1 : Int32).toNatClampNeg = 1 from by decide]; exact hk) ?_
  refine zg 5 (pc' := 16) (ls' := [(2, .int kd), (0, .ref 0), (1, .int 1)]) (st' := [.int 0, .int 1, .ref 144]) (I' := I) rfl ?_
  refine zcf rfl rfl (zt_arg 1 0 a (by decide) (by decide) (by rw [show ((1 : Int32) * 3 + 0).toNatClampNeg = 3 from by decide]; exact ha)) ?_
  refine zg 5 (pc' := 26) (ls' := [(3, .int a), (2, .int kd), (0, .ref 0), (1, .int 1)]) (st' := [.int 1, .int 1, .ref 144]) (I' := I) rfl ?_
  refine zcf rfl rfl (zt_arg 1 1 b (by decide) (by decide) (by rw [show ((1 : Int32) * 3 + 1).toNatClampNeg = 4 from by decide]; exact hb)) ?_
  refine zg 5 (pc' := 37) (ls' := [(4, .int b), (3, .int a), (2, .int kd), (0, .ref 0), (1, .int 1)]) (st' := [.int 2, .int 1, .ref 144]) (I' := I) rfl ?_
  refine zcf rfl rfl (zt_arg 1 2 c (by decide) (by decide) (by rw [show ((1 : Int32) * 3 + 2).toNatClampNeg = 5 from by decide]; exact hc)) ?_
  refine zg 7 (pc' := 52) (ls' := [(5, .int c), (4, .int b), (3, .int a), (2, .int kd), (0, .ref 0), (1, .int 1)]) (st' := [.int c, .int b, .int a, .int kd, .ref 1]) (I' := I) rfl ?_
  refine zcf rfl rfl ((hC sl D dy I hB).1) ?_
  refine zg 7 (pc' := 70) (ls' := [(5, .int c), (4, .int b), (3, .int a), (2, .int kd), (0, .ref 0), (1, .int 1)]) (st' := [.int c, .int b, .int a, .int kd, .ref 1]) (I' := I) rfl ?_
  refine zcP (b2 := 0) rfl rfl ((hC sl D dy I hB).2) (fun x J hP => ?_)
  obtain ⟨T, hB2, hF2, hA⟩ := hP
  refine zg 2 (pc' := 75) (ls' := [(5, .int c), (4, .int b), (3, .int a), (2, .int kd), (0, .ref 0), (1, .int 1)]) (st' := [.int 1]) (I' := J) rfl ?_
  refine ziret rfl rfl rfl ?_
  exact zP1 ⟨rfl, T, _, hB2, hF2, hA⟩
theorem zt_pf1_no {sl D dy : Nat} {I : zM} {S : Nat → Nat → Int32} (hB : zSB 1 S I) (kd a b c : Int32) (hk : I 146 1 = some kd) (ha : I 147 3 = some a) (hb : I 147 4 = some b) (hc : I 147 5 = some c) (hC : zCant S kd a b c) : zW sl (D + 5) dy 121 0 [(0, .ref 0), (1, .int 1)] [] I (zRg 0 (zQf I (some (.int 0)))) := by
  obtain ⟨r, hr1, hr2⟩ := hC
  refine zg 4 (pc' := 8) (ls' := [(0, .ref 0), (1, .int 1)]) (st' := [.int 1, .ref 146]) (I' := I) rfl ?_
  refine zia rfl rfl (zin_ok (n := 12) (by decide) (by decide)) (by rw [show (1 : Int32).toNatClampNeg = 1 from by decide]; exact hk) ?_
  refine zg 5 (pc' := 16) (ls' := [(2, .int kd), (0, .ref 0), (1, .int 1)]) (st' := [.int 0, .int 1, .ref 144]) (I' := I) rfl ?_
  refine zcf rfl rfl (zt_arg 1 0 a (by decide) (by decide) (by rw [show ((1 : Int32) * 3 + 0).toNatClampNeg = 3 from by decide]; exact ha)) ?_
  refine zg 5 (pc' := 26) (ls' := [(3, .int a), (2, .int kd), (0, .ref 0), (1, .int 1)]) (st' := [.int 1, .int 1, .ref 144]) (I' := I) rfl ?_
  refine zcf rfl rfl (zt_arg 1 1 b (by decide) (by decide) (by rw [show ((1 : Int32) * 3 + 1).toNatClampNeg = 4 from by decide]; exact hb)) ?_
  refine zg 5 (pc' := 37) (ls' := [(4, .int b), (3, .int a), (2, .int kd), (0, .ref 0), (1, .int 1)]) (st' := [.int 2, .int 1, .ref 144]) (I' := I) rfl ?_
  refine zcf rfl rfl (zt_arg 1 2 c (by decide) (by decide) (by rw [show ((1 : Int32) * 3 + 2).toNatClampNeg = 5 from by decide]; exact hc)) ?_
  refine zg 7 (pc' := 52) (ls' := [(5, .int c), (4, .int b), (3, .int a), (2, .int kd), (0, .ref 0), (1, .int 1)]) (st' := [.int c, .int b, .int a, .int kd, .ref 1]) (I' := I) rfl ?_
  refine zcf rfl rfl (hr2 sl D dy I hB) ?_
  refine zif rfl rfl (fun h1 => ?_) (fun h1 => ?_)
  · have h1 := zc_eq.1.mp h1
    exact absurd h1 hr1
  · have h1 := zc_eq.2.mp h1
    refine zg 1 (pc' := 59) (ls' := [(5, .int c), (4, .int b), (3, .int a), (2, .int kd), (0, .ref 0), (1, .int 1)]) (st' := [.int 0]) (I' := I) rfl ?_
    refine ziret rfl rfl rfl ?_
    exact zf1
theorem zt_rst1 {sl D dy : Nat} {I : zM} {S : Nat → Nat → Int32} {L : List (Nat → Nat → Int32)} {KO : Prop} {F : Int32 → Prop} (hI : zIv S L I) (h4 : I 144 4 = some 1) (k0 a0 b0 c0 : Int32) (hk0 : I 146 0 = some k0) (ha0 : I 147 0 = some a0) (hb0 : I 147 1 = some b0) (hc0 : I 147 2 = some c0) {Q0 : (Nat → Nat → Int32) → Int32 → Prop} (g0 : (KO ∧ zCan S k0 a0 b0 c0 Q0) ∨ (F 0 ∧ zCant S k0 a0 b0 c0)) : zW sl (D + 6) dy 120 41 [(0, .ref 0), (1, .int 1)] [] I (zRg 1 (fun c v J => (c = 0 ∧ v = some (.int 1) ∧ KO ∧ ∃ T y, Q0 T y ∧ zIv T ((S :: L).take 8) J ∧ zKp I J ∧ J 0 9 = I 0 9 ∧ J 0 10 = I 0 10) ∨ (c = 3 ∧ zIv S L J ∧ zKp I J ∧ J 0 9 = I 0 9 ∧ ∃ i, J 0 10 = some i ∧ F i))) := by
  refine zg 4 (pc' := 49) (ls' := [(0, .ref 0), (1, .int 1)]) (st' := [.ref 1, .ref 23]) (I' := I) rfl ?_
  refine zcj (b2 := 1) rfl rfl (zt_copy (s := 1) (d := 23) rfl rfl (by decide) hI.1) (fun M2 hJ => ?_)
  obtain ⟨hW2, hO2⟩ := hJ
  have hX2 : ∀ a k, (a = 0 ∨ (12 ≤ a ∧ a ≤ 22) ∨ 34 ≤ a) → M2 a k = I a k := fun a k h => hO2 a k (by omega)
  have hB2 : zSB 1 S M2 := zSB_eq hI.1 (fun a k h1 h2 => hO2 a k (by omega))
  refine zg 5 (pc' := 59) (ls' := [(2, .int 0), (0, .ref 0), (1, .int 1)]) (st' := [.ref 144, .int 0]) (I' := M2) rfl ?_
  refine zgf rfl rfl rfl ((hX2 144 4 (by decide)).trans h4) ?_
  refine zg 3 (pc' := 67) (ls' := [(2, .int 0), (0, .ref 0), (1, .int 1)]) (st' := [.int 0, .ref 0]) (I' := M2) rfl ?_
  rcases g0 with ⟨hok, hcan⟩ | ⟨hfl, hcant⟩
  · refine zcP (b2 := 1) rfl rfl (zt_pf0_ok hB2 k0 a0 b0 c0 (by rw [hX2 146 0 (by decide)]; exact hk0) (by rw [hX2 147 0 (by decide)]; exact ha0) (by rw [hX2 147 1 (by decide)]; exact hb0) (by rw [hX2 147 2 (by decide)]; exact hc0) hcan) (fun x M3 hP => ?_)
    obtain ⟨rfl, T3, y3, hB3, hF3, hA3⟩ := hP
    have hX3 : ∀ a k, (a = 0 ∨ (12 ≤ a ∧ a ≤ 22) ∨ 34 ≤ a) → M3 a k = I a k := fun a k h => (hF3 a k (by omega)).trans (hX2 a k h)
    have hW3 : zSB 23 S M3 := fun o k hc => by
      rw [hF3 _ _ (by omega)]
      exact hW2 o k hc
    refine zg 6 (pc' := 59) (ls' := [(2, .int 1), (0, .ref 0), (1, .int 1)]) (st' := [.ref 144, .int 1]) (I' := M3) rfl ?_
    refine zgf rfl rfl rfl ((hX3 144 4 (by decide)).trans h4) ?_
    refine zg 5 (pc' := 114) (ls' := [(2, .int 1), (0, .ref 0), (1, .int 1)]) (st' := [.ref 23, .ref 45]) (I' := M3) rfl ?_
    refine zcj (b2 := 1) rfl rfl (zt_keep0 (s := 23) rfl (by decide) hW3 (zHl_eq hI.2.2.1 (fun a k h1 h2 => hX3 a k (by omega)))) (fun M8 hJ => ?_)
    obtain ⟨hH8, hF8⟩ := hJ
    have hX8 : ∀ a k, (a = 0 ∨ (12 ≤ a ∧ a ≤ 22) ∨ 34 ≤ a ∧ a < 45 ∨ 134 < a) → M8 a k = I a k := fun a k h => (hF8 a k (by omega)).trans (hX3 a k (by omega))
    have hB8 : zSB 1 T3 M8 := zSB_eq hB3 (fun a k h1 h2 => hF8 a k (by omega))
    refine zg 2 (pc' := 121) (ls' := [(2, .int 1), (0, .ref 0), (1, .int 1)]) (st' := [.ref 144]) (I' := M8) rfl ?_
    refine zgf rfl rfl rfl ((hX8 144 4 (by decide)).trans h4) ?_
    refine ziret rfl rfl rfl (Or.inl ⟨rfl, rfl, hok, T3, y3, hA3.2.2, ⟨hB8, hA3.1, hH8, by rw [hX8 _ _ (by decide)]; exact hI.2.2.2.1, fun k hk => ?_⟩, ⟨fun a k h1 h2 => hX8 a k (by omega), hX8 _ _ (by decide)⟩, hX8 _ _ (by decide), hX8 _ _ (by decide)⟩)
    rw [hX8 _ _ (by decide)]
    exact hI.2.2.2.2 k hk
  · refine zcf rfl rfl (zt_pf0_no hB2 k0 a0 b0 c0 (by rw [hX2 146 0 (by decide)]; exact hk0) (by rw [hX2 147 0 (by decide)]; exact ha0) (by rw [hX2 147 1 (by decide)]; exact hb0) (by rw [hX2 147 2 (by decide)]; exact hc0) hcant) ?_
    refine zg 5 (pc' := 81) (ls' := [(2, .int 0), (0, .ref 0), (1, .int 1)]) (st' := [.ref 23, .ref 1]) (I' := M2) rfl ?_
    refine zcj (b2 := 1) rfl rfl (zt_copy (s := 23) (d := 1) rfl rfl (by decide) hW2) (fun M9 hJ => ?_)
    obtain ⟨hB9, hO9⟩ := hJ
    have hX9 : ∀ a k, (a = 0 ∨ (12 ≤ a ∧ a ≤ 22) ∨ 34 ≤ a) → M9 a k = I a k := fun a k h => (hO9 a k (by omega)).trans (hX2 a k h)
    refine zg 2 (pc' := 86) (ls' := [(2, .int 0), (0, .ref 0), (1, .int 1)]) (st' := [.int 0, .ref 0]) (I' := M9) rfl ?_
    refine zpf rfl rfl rfl rfl rfl ?_
    refine zthrow rfl rfl (Or.inr ⟨rfl, ⟨fun o k hc => ?_, hI.2.1, ?_, ?_, fun k hk => ?_⟩, ⟨fun a k h1 h2 => ?_, ?_⟩, ?_, _, rfl, hfl⟩)
    · rw [zup_at, if_neg (by omega)]
      exact hB9 o k hc
    · exact zHl_eq hI.2.2.1 (fun a k h1 h2 => by rw [zup_at, if_neg (by omega)]; exact hX9 a k (by omega))
    · rw [zup_at, if_neg (by decide), hX9 _ _ (by decide)]
      exact hI.2.2.2.1
    · rw [zup_at, if_neg (by omega), hX9 _ _ (by decide)]
      exact hI.2.2.2.2 k hk
    · rw [zup_at, if_neg (by omega)]
      exact hX9 a k (by omega)
    · rw [zup_at, if_neg (by decide)]
      exact hX9 _ _ (by decide)
    · rw [zup_at, if_neg (by decide)]
      exact hX9 _ _ (by decide)
theorem zt_rst2 {sl D dy : Nat} {I : zM} {S : Nat → Nat → Int32} {L : List (Nat → Nat → Int32)} {KO : Prop} {F : Int32 → Prop} (hI : zIv S L I) (h4 : I 144 4 = some 2) (k0 a0 b0 c0 : Int32) (hk0 : I 146 0 = some k0) (ha0 : I 147 0 = some a0) (hb0 : I 147 1 = some b0) (hc0 : I 147 2 = some c0) (k1 a1 b1 c1 : Int32) (hk1 : I 146 1 = some k1) (ha1 : I 147 3 = some a1) (hb1 : I 147 4 = some b1) (hc1 : I 147 5 = some c1) {Q0 Q1 : (Nat → Nat → Int32) → Int32 → Prop} (g0 : (True ∧ zCan S k0 a0 b0 c0 Q0) ∨ (F 0 ∧ zCant S k0 a0 b0 c0)) (g1 : ∀ T y, zAcc Q0 T y → (KO ∧ zCan T k1 a1 b1 c1 Q1) ∨ (F 1 ∧ zCant T k1 a1 b1 c1)) : zW sl (D + 6) dy 120 41 [(0, .ref 0), (1, .int 1)] [] I (zRg 1 (fun c v J => (c = 0 ∧ v = some (.int 2) ∧ KO ∧ ∃ T y, Q1 T y ∧ zIv T ((S :: L).take 8) J ∧ zKp I J ∧ J 0 9 = I 0 9 ∧ J 0 10 = I 0 10) ∨ (c = 3 ∧ zIv S L J ∧ zKp I J ∧ J 0 9 = I 0 9 ∧ ∃ i, J 0 10 = some i ∧ F i))) := by
  refine zg 4 (pc' := 49) (ls' := [(0, .ref 0), (1, .int 1)]) (st' := [.ref 1, .ref 23]) (I' := I) rfl ?_
  refine zcj (b2 := 1) rfl rfl (zt_copy (s := 1) (d := 23) rfl rfl (by decide) hI.1) (fun M2 hJ => ?_)
  obtain ⟨hW2, hO2⟩ := hJ
  have hX2 : ∀ a k, (a = 0 ∨ (12 ≤ a ∧ a ≤ 22) ∨ 34 ≤ a) → M2 a k = I a k := fun a k h => hO2 a k (by omega)
  have hB2 : zSB 1 S M2 := zSB_eq hI.1 (fun a k h1 h2 => hO2 a k (by omega))
  refine zg 5 (pc' := 59) (ls' := [(2, .int 0), (0, .ref 0), (1, .int 1)]) (st' := [.ref 144, .int 0]) (I' := M2) rfl ?_
  refine zgf rfl rfl rfl ((hX2 144 4 (by decide)).trans h4) ?_
  refine zg 3 (pc' := 67) (ls' := [(2, .int 0), (0, .ref 0), (1, .int 1)]) (st' := [.int 0, .ref 0]) (I' := M2) rfl ?_
  rcases g0 with ⟨hok, hcan⟩ | ⟨hfl, hcant⟩
  · refine zcP (b2 := 1) rfl rfl (zt_pf0_ok hB2 k0 a0 b0 c0 (by rw [hX2 146 0 (by decide)]; exact hk0) (by rw [hX2 147 0 (by decide)]; exact ha0) (by rw [hX2 147 1 (by decide)]; exact hb0) (by rw [hX2 147 2 (by decide)]; exact hc0) hcan) (fun x M3 hP => ?_)
    obtain ⟨rfl, T3, y3, hB3, hF3, hA3⟩ := hP
    have hX3 : ∀ a k, (a = 0 ∨ (12 ≤ a ∧ a ≤ 22) ∨ 34 ≤ a) → M3 a k = I a k := fun a k h => (hF3 a k (by omega)).trans (hX2 a k h)
    have hW3 : zSB 23 S M3 := fun o k hc => by
      rw [hF3 _ _ (by omega)]
      exact hW2 o k hc
    refine zg 6 (pc' := 59) (ls' := [(2, .int 1), (0, .ref 0), (1, .int 1)]) (st' := [.ref 144, .int 1]) (I' := M3) rfl ?_
    refine zgf rfl rfl rfl ((hX3 144 4 (by decide)).trans h4) ?_
    refine zg 3 (pc' := 67) (ls' := [(2, .int 1), (0, .ref 0), (1, .int 1)]) (st' := [.int 1, .ref 0]) (I' := M3) rfl ?_
    rcases g1 T3 y3 hA3 with ⟨hok, hcan⟩ | ⟨hfl, hcant⟩
    · refine zcP (b2 := 1) rfl rfl (zt_pf1_ok hB3 k1 a1 b1 c1 (by rw [hX3 146 1 (by decide)]; exact hk1) (by rw [hX3 147 3 (by decide)]; exact ha1) (by rw [hX3 147 4 (by decide)]; exact hb1) (by rw [hX3 147 5 (by decide)]; exact hc1) hcan) (fun x M4 hP => ?_)
      obtain ⟨rfl, T4, y4, hB4, hF4, hA4⟩ := hP
      have hX4 : ∀ a k, (a = 0 ∨ (12 ≤ a ∧ a ≤ 22) ∨ 34 ≤ a) → M4 a k = I a k := fun a k h => (hF4 a k (by omega)).trans (hX3 a k h)
      have hW4 : zSB 23 S M4 := fun o k hc => by
        rw [hF4 _ _ (by omega)]
        exact hW3 o k hc
      refine zg 6 (pc' := 59) (ls' := [(2, .int 2), (0, .ref 0), (1, .int 1)]) (st' := [.ref 144, .int 2]) (I' := M4) rfl ?_
      refine zgf rfl rfl rfl ((hX4 144 4 (by decide)).trans h4) ?_
      refine zg 5 (pc' := 114) (ls' := [(2, .int 2), (0, .ref 0), (1, .int 1)]) (st' := [.ref 23, .ref 45]) (I' := M4) rfl ?_
      refine zcj (b2 := 1) rfl rfl (zt_keep0 (s := 23) rfl (by decide) hW4 (zHl_eq hI.2.2.1 (fun a k h1 h2 => hX4 a k (by omega)))) (fun M8 hJ => ?_)
      obtain ⟨hH8, hF8⟩ := hJ
      have hX8 : ∀ a k, (a = 0 ∨ (12 ≤ a ∧ a ≤ 22) ∨ 34 ≤ a ∧ a < 45 ∨ 134 < a) → M8 a k = I a k := fun a k h => (hF8 a k (by omega)).trans (hX4 a k (by omega))
      have hB8 : zSB 1 T4 M8 := zSB_eq hB4 (fun a k h1 h2 => hF8 a k (by omega))
      refine zg 2 (pc' := 121) (ls' := [(2, .int 2), (0, .ref 0), (1, .int 1)]) (st' := [.ref 144]) (I' := M8) rfl ?_
      refine zgf rfl rfl rfl ((hX8 144 4 (by decide)).trans h4) ?_
      refine ziret rfl rfl rfl (Or.inl ⟨rfl, rfl, hok, T4, y4, hA4.2.2, ⟨hB8, hA4.1, hH8, by rw [hX8 _ _ (by decide)]; exact hI.2.2.2.1, fun k hk => ?_⟩, ⟨fun a k h1 h2 => hX8 a k (by omega), hX8 _ _ (by decide)⟩, hX8 _ _ (by decide), hX8 _ _ (by decide)⟩)
      rw [hX8 _ _ (by decide)]
      exact hI.2.2.2.2 k hk
    · refine zcf rfl rfl (zt_pf1_no hB3 k1 a1 b1 c1 (by rw [hX3 146 1 (by decide)]; exact hk1) (by rw [hX3 147 3 (by decide)]; exact ha1) (by rw [hX3 147 4 (by decide)]; exact hb1) (by rw [hX3 147 5 (by decide)]; exact hc1) hcant) ?_
      refine zg 5 (pc' := 81) (ls' := [(2, .int 1), (0, .ref 0), (1, .int 1)]) (st' := [.ref 23, .ref 1]) (I' := M3) rfl ?_
      refine zcj (b2 := 1) rfl rfl (zt_copy (s := 23) (d := 1) rfl rfl (by decide) hW3) (fun M9 hJ => ?_)
      obtain ⟨hB9, hO9⟩ := hJ
      have hX9 : ∀ a k, (a = 0 ∨ (12 ≤ a ∧ a ≤ 22) ∨ 34 ≤ a) → M9 a k = I a k := fun a k h => (hO9 a k (by omega)).trans (hX3 a k h)
      refine zg 2 (pc' := 86) (ls' := [(2, .int 1), (0, .ref 0), (1, .int 1)]) (st' := [.int 1, .ref 0]) (I' := M9) rfl ?_
      refine zpf rfl rfl rfl rfl rfl ?_
      refine zthrow rfl rfl (Or.inr ⟨rfl, ⟨fun o k hc => ?_, hI.2.1, ?_, ?_, fun k hk => ?_⟩, ⟨fun a k h1 h2 => ?_, ?_⟩, ?_, _, rfl, hfl⟩)
      · rw [zup_at, if_neg (by omega)]
        exact hB9 o k hc
      · exact zHl_eq hI.2.2.1 (fun a k h1 h2 => by rw [zup_at, if_neg (by omega)]; exact hX9 a k (by omega))
      · rw [zup_at, if_neg (by decide), hX9 _ _ (by decide)]
        exact hI.2.2.2.1
      · rw [zup_at, if_neg (by omega), hX9 _ _ (by decide)]
        exact hI.2.2.2.2 k hk
      · rw [zup_at, if_neg (by omega)]
        exact hX9 a k (by omega)
      · rw [zup_at, if_neg (by decide)]
        exact hX9 _ _ (by decide)
      · rw [zup_at, if_neg (by decide)]
        exact hX9 _ _ (by decide)
  · refine zcf rfl rfl (zt_pf0_no hB2 k0 a0 b0 c0 (by rw [hX2 146 0 (by decide)]; exact hk0) (by rw [hX2 147 0 (by decide)]; exact ha0) (by rw [hX2 147 1 (by decide)]; exact hb0) (by rw [hX2 147 2 (by decide)]; exact hc0) hcant) ?_
    refine zg 5 (pc' := 81) (ls' := [(2, .int 0), (0, .ref 0), (1, .int 1)]) (st' := [.ref 23, .ref 1]) (I' := M2) rfl ?_
    refine zcj (b2 := 1) rfl rfl (zt_copy (s := 23) (d := 1) rfl rfl (by decide) hW2) (fun M9 hJ => ?_)
    obtain ⟨hB9, hO9⟩ := hJ
    have hX9 : ∀ a k, (a = 0 ∨ (12 ≤ a ∧ a ≤ 22) ∨ 34 ≤ a) → M9 a k = I a k := fun a k h => (hO9 a k (by omega)).trans (hX2 a k h)
    refine zg 2 (pc' := 86) (ls' := [(2, .int 0), (0, .ref 0), (1, .int 1)]) (st' := [.int 0, .ref 0]) (I' := M9) rfl ?_
    refine zpf rfl rfl rfl rfl rfl ?_
    refine zthrow rfl rfl (Or.inr ⟨rfl, ⟨fun o k hc => ?_, hI.2.1, ?_, ?_, fun k hk => ?_⟩, ⟨fun a k h1 h2 => ?_, ?_⟩, ?_, _, rfl, hfl⟩)
    · rw [zup_at, if_neg (by omega)]
      exact hB9 o k hc
    · exact zHl_eq hI.2.2.1 (fun a k h1 h2 => by rw [zup_at, if_neg (by omega)]; exact hX9 a k (by omega))
    · rw [zup_at, if_neg (by decide), hX9 _ _ (by decide)]
      exact hI.2.2.2.1
    · rw [zup_at, if_neg (by omega), hX9 _ _ (by decide)]
      exact hI.2.2.2.2 k hk
    · rw [zup_at, if_neg (by omega)]
      exact hX9 a k (by omega)
    · rw [zup_at, if_neg (by decide)]
      exact hX9 _ _ (by decide)
    · rw [zup_at, if_neg (by decide)]
      exact hX9 _ _ (by decide)
