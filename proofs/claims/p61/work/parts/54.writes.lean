/-! CONTRACTS: what changes a state -/
/-- a state with one cell changed -/
def zsu (S : Nat → Nat → Int32) (o k : Nat) (x : Int32) : Nat → Nat → Int32 := fun p j => match Nat.beq p o with
  | true => match Nat.beq j k with
    | true => x
    | false => S p j
  | false => S p j
theorem zsu_at (S : Nat → Nat → Int32) (o k : Nat) (x : Int32) (p j : Nat) : zsu S o k x p j = if p = o ∧ j = k then x else S p j := by
  unfold zsu
  by_cases h1 : p = o
  · subst h1
    rw [show Nat.beq p p = true from Nat.beq_refl p]
    by_cases h2 : j = k
    · subst h2
      rw [show Nat.beq j j = true from Nat.beq_refl j]
      simp
    · have : Nat.beq j k = false := by
        cases hb : Nat.beq j k with
        | true => exact absurd (Nat.eq_of_beq_eq_true hb) h2
        | false => rfl
      rw [this]
      simp [h2]
  · have : Nat.beq p o = false := by
      cases hb : Nat.beq p o with
      | true => exact absurd (Nat.eq_of_beq_eq_true hb) h1
      | false => rfl
    rw [this]
    simp [h1]
theorem zsu_eq (S : Nat → Nat → Int32) (o k : Nat) (x : Int32) : zsu S o k x o k = x := by rw [zsu_at, if_pos ⟨rfl, rfl⟩]
theorem zsu_ne (S : Nat → Nat → Int32) (o : Nat) {k j : Nat} (x : Int32) (h : j ≠ k) : zsu S o k x o j = S o j := by rw [zsu_at, if_neg (fun q => h q.2)]
theorem zsu_no (S : Nat → Nat → Int32) {o p : Nat} (k j : Nat) (x : Int32) (h : p ≠ o) : zsu S o k x p j = S p j := by rw [zsu_at, if_neg (fun q => h q.1)]
theorem zSB_up {S : Nat → Nat → Int32} {I : zM} (hB : zSB 1 S I) (o k : Nat) (x : Int32) : zSB 1 (zsu S o k x) (zup I (o + 1) k x) := fun p j hc => by
  rw [zup_at, zsu_at]
  by_cases h : p = o ∧ j = k
  · rw [if_pos h, if_pos ⟨by omega, h.2⟩]
  · rw [if_neg h, if_neg (fun q => h ⟨by omega, q.2⟩)]
    exact hB p j hc
/-- nothing but the state's block has changed -/
def zfb (I J : zM) : Prop := ∀ a k, (a = 0 ∨ 12 ≤ a) → J a k = I a k
theorem zfb_refl (I : zM) : zfb I I := fun _ _ _ => rfl
theorem zfb_trans {I J K : zM} (h : zfb I J) (h2 : zfb J K) : zfb I K := fun a k ha => (h2 a k ha).trans (h a k ha)
theorem zfb_up {I J : zM} (h : zfb I J) (a k : Nat) (x : Int32) (ha : 1 ≤ a ∧ a ≤ 11) : zfb I (zup J a k x) := fun b j hb => by
  rw [zup_at, if_neg (by omega)]
  exact h b j hb
/-- one answer, another state, nothing else -/
def zQz (I : zM) (S : Nat → Nat → Int32) (v : Option Value) : Nat → Option Value → zM → Prop := fun c w J => c = 0 ∧ w = v ∧ zSB 1 S J ∧ zfb I J
theorem zixne {a b : Int32} (ha : 0 ≤ a.toInt) (hb : 0 ≤ b.toInt) (h : a ≠ b) : a.toNatClampNeg ≠ b.toNatClampNeg := fun e => h (by
  have h1 : a.toNatClampNeg = a.toInt.toNat := rfl
  have h2 : b.toNatClampNeg = b.toInt.toNat := rfl
  exact Int32.toInt_inj.mp (by omega))
theorem zOK_2 {S : Nat → Nat → Int32} (h : zOK S) {q : Nat} (hq : (q : Int) < (S 0 10).toInt) {x : Int32} (hx : 0 ≤ x.toInt ∧ x.toInt ≤ (S 1 q).toInt) : zOK (zsu S 2 q x) := by
  obtain ⟨h1, h2, h3, h4, h5, h6⟩ := h
  refine ⟨h1, h2, fun k hk => ?_, fun k hk hk2 => ?_, h5, h6⟩
  · have g := h3 k hk
    by_cases e : k = q
    · subst e
      refine ⟨g.1, ?_, g.2.2⟩
      show 0 ≤ (zsu S 2 k x 2 k).toInt ∧ (zsu S 2 k x 2 k).toInt ≤ (S 1 k).toInt
      rw [zsu_eq]
      exact hx
    · exact (show zsu S 2 q x 2 k = S 2 k from zsu_ne S 2 x e) ▸ g
  · have hk2 : (S 0 10).toInt ≤ (k : Int) := hk2
    have e : k ≠ q := by omega
    exact (show zsu S 2 q x 2 k = S 2 k from zsu_ne S 2 x e) ▸ h4 k hk hk2
theorem zOK_3 {S : Nat → Nat → Int32} (h : zOK S) {q : Nat} (hq : (q : Int) < (S 0 10).toInt) {x : Int32} (hx : 0 ≤ x.toInt ∧ x.toInt ≤ 255) : zOK (zsu S 3 q x) := by
  obtain ⟨h1, h2, h3, h4, h5, h6⟩ := h
  refine ⟨h1, h2, fun k hk => ?_, fun k hk hk2 => ?_, h5, h6⟩
  · have g := h3 k hk
    by_cases e : k = q
    · subst e
      refine ⟨g.1, g.2.1, ?_⟩
      show 0 ≤ (zsu S 3 k x 3 k).toInt ∧ (zsu S 3 k x 3 k).toInt ≤ 255
      rw [zsu_eq]
      exact hx
    · exact (show zsu S 3 q x 3 k = S 3 k from zsu_ne S 3 x e) ▸ g
  · have hk2 : (S 0 10).toInt ≤ (k : Int) := hk2
    have e : k ≠ q := by omega
    exact (show zsu S 3 q x 3 k = S 3 k from zsu_ne S 3 x e) ▸ h4 k hk hk2
theorem zOK_7 {S : Nat → Nat → Int32} (h : zOK S) {q : Nat} (hq : (q : Int) < (S 0 11).toInt) {x : Int32} (hx : 0 ≤ x.toInt ∧ x.toInt ≤ 4) : zOK (zsu S 7 q x) := by
  obtain ⟨h1, h2, h3, h4, h5, h6⟩ := h
  refine ⟨h1, h2, h3, h4, fun k hk => ?_, fun k hk hk2 => ?_⟩
  · have g := h5 k hk
    by_cases e : k = q
    · subst e
      refine ⟨g.1, g.2.1, g.2.2.1, ?_, g.2.2.2.2.1, g.2.2.2.2.2⟩
      show 0 ≤ (zsu S 7 k x 7 k).toInt ∧ (zsu S 7 k x 7 k).toInt ≤ 4
      rw [zsu_eq]
      exact hx
    · exact (show zsu S 7 q x 7 k = S 7 k from zsu_ne S 7 x e) ▸ g
  · have hk2 : (S 0 11).toInt ≤ (k : Int) := hk2
    have e : k ≠ q := by omega
    exact (show zsu S 7 q x 7 k = S 7 k from zsu_ne S 7 x e) ▸ h6 k hk hk2
theorem zOK_8 {S : Nat → Nat → Int32} (h : zOK S) {q : Nat} (hq : (q : Int) < (S 0 11).toInt) {x : Int32} (hx : 0 ≤ x.toInt ∧ x.toInt ≤ 9) : zOK (zsu S 8 q x) := by
  obtain ⟨h1, h2, h3, h4, h5, h6⟩ := h
  refine ⟨h1, h2, h3, h4, fun k hk => ?_, fun k hk hk2 => ?_⟩
  · have g := h5 k hk
    by_cases e : k = q
    · subst e
      refine ⟨g.1, g.2.1, g.2.2.1, g.2.2.2.1, ?_, g.2.2.2.2.2⟩
      show 0 ≤ (zsu S 8 k x 8 k).toInt ∧ (zsu S 8 k x 8 k).toInt ≤ 9
      rw [zsu_eq]
      exact hx
    · exact (show zsu S 8 q x 8 k = S 8 k from zsu_ne S 8 x e) ▸ g
  · have hk2 : (S 0 11).toInt ≤ (k : Int) := hk2
    have e : k ≠ q := by omega
    exact (show zsu S 8 q x 8 k = S 8 k from zsu_ne S 8 x e) ▸ h6 k hk hk2
theorem zOK_9 {S : Nat → Nat → Int32} (h : zOK S) {q : Nat} (hq : (q : Int) < (S 0 11).toInt) {x : Int32} (hx : 0 ≤ x.toInt ∧ x.toInt ≤ 20) : zOK (zsu S 9 q x) := by
  obtain ⟨h1, h2, h3, h4, h5, h6⟩ := h
  refine ⟨h1, h2, h3, h4, fun k hk => ?_, fun k hk hk2 => ?_⟩
  · have g := h5 k hk
    by_cases e : k = q
    · subst e
      refine ⟨g.1, g.2.1, g.2.2.1, g.2.2.2.1, g.2.2.2.2.1, ?_⟩
      show 0 ≤ (zsu S 9 k x 9 k).toInt ∧ (zsu S 9 k x 9 k).toInt ≤ 20
      rw [zsu_eq]
      exact hx
    · exact (show zsu S 9 q x 9 k = S 9 k from zsu_ne S 9 x e) ▸ g
  · have hk2 : (S 0 11).toInt ≤ (k : Int) := hk2
    have e : k ≠ q := by omega
    exact (show zsu S 9 q x 9 k = S 9 k from zsu_ne S 9 x e) ▸ h6 k hk hk2
theorem zOK_10 {S : Nat → Nat → Int32} (h : zOK S) {q : Nat} (hq : (q : Int) < (S 0 11).toInt) (x : Int32) : zOK (zsu S 10 q x) := by
  obtain ⟨h1, h2, h3, h4, h5, h6⟩ := h
  refine ⟨h1, h2, h3, h4, h5, fun k hk hk2 => ?_⟩
  · have hk2 : (S 0 11).toInt ≤ (k : Int) := hk2
    have e : k ≠ q := by omega
    exact (show zsu S 10 q x 10 k = S 10 k from zsu_ne S 10 x e) ▸ h6 k hk hk2
theorem zOK_0 {S : Nat → Nat → Int32} (h : zOK S) (q : Nat) (x : Int32) : zOK (zsu S 0 (q + 12) x) := h
def zpT (S : Nat → Nat → Int32) (a : Int32) : Nat → Nat → Int32 := zsu (zsu S 1 (S 0 10).toNatClampNeg a) 0 10 (S 0 10 + 1)
def zpP (S : Nat → Nat → Int32) (a b c : Int32) : Nat → Nat → Int32 := zsu (zsu (zsu (zsu S 4 (S 0 11).toNatClampNeg a) 5 (S 0 11).toNatClampNeg b) 6 (S 0 11).toNatClampNeg c) 0 11 (S 0 11 + 1)
def zpO (S : Nat → Nat → Int32) (a b c : Int32) : Nat → Nat → Int32 := zsu (zsu (zsu S 2 a.toNatClampNeg (S 2 a.toNatClampNeg + b)) 3 a.toNatClampNeg (S 3 a.toNatClampNeg ||| c)) 0 13 (S 0 13 + b)
def zpD (S : Nat → Nat → Int32) (a b : Int32) : Nat → Nat → Int32 := if S 2 a.toNatClampNeg - b = 0 then zsu (zsu (zsu S 2 a.toNatClampNeg (S 2 a.toNatClampNeg - b)) 3 a.toNatClampNeg 0) 0 14 (S 0 14 + b) else zsu (zsu S 2 a.toNatClampNeg (S 2 a.toNatClampNeg - b)) 0 14 (S 0 14 + b)
theorem zrf_ite {p : Prop} {d : Decidable p} {x y r : Int32} (h : @ite _ p d x y = r) (hy : y ≠ r) : p ∧ x = r := by
  by_cases hp : p
  · rw [if_pos hp] at h; exact ⟨hp, h⟩
  · rw [if_neg hp] at h; exact absurd h hy
theorem zrf_itn {p : Prop} {d : Decidable p} {x y r : Int32} (h : @ite _ p d x y = r) (hy : x ≠ r) : ¬ p ∧ y = r := by
  by_cases hp : p
  · rw [if_pos hp] at h; exact absurd h hy
  · rw [if_neg hp] at h; exact ⟨hp, h⟩
theorem zor_255 {x y : Int32} (hx : 0 ≤ x.toInt ∧ x.toInt ≤ 255) (hy : 0 ≤ y.toInt ∧ y.toInt ≤ 255) : 0 ≤ (x ||| y).toInt ∧ (x ||| y).toInt ≤ 255 := by
  have h := zor_in (n := 8) (x := x) (y := y) ⟨hx.1, by omega⟩ ⟨hy.1, by omega⟩ (by decide)
  exact ⟨h.1, by have := h.2; omega⟩
theorem zcl_nat {x : Int32} : x.toNatClampNeg = x.toInt.toNat := rfl
theorem zOK_T {S : Nat → Nat → Int32} (h : zOK S) {a : Int32} (hr : zrfT S a = 0) : zOK (zpT S a) := by
  unfold zrfT at hr
  obtain ⟨ha, hr⟩ := zrf_ite hr (by decide)
  obtain ⟨hn, -⟩ := zrf_ite hr (by decide)
  obtain ⟨h1, h2, h3, h4, h5, h6⟩ := h
  have hc := zcl_nat (x := S 0 10)
  have e1 : zpT S a 0 10 = S 0 10 + 1 := zsu_eq _ _ _ _
  have e2 := zadd1 (x := S 0 10) h1.1 (by omega)
  have e3 : ∀ k, zpT S a 1 k = if k = (S 0 10).toNatClampNeg then a else S 1 k := fun k => by
    show zsu S 1 _ a 1 k = _
    rw [zsu_at]
    simp
  refine ⟨by rw [e1, e2]; omega, h2, fun k hk => ?_, fun k hk hk2 => ?_, fun k hk => ?_, h6⟩
  · rw [e1, e2] at hk
    rw [e3]
    by_cases e : k = (S 0 10).toNatClampNeg
    · rw [if_pos e]
      have g := h4 k (by omega) (by omega)
      have g1 : zpT S a 2 k = 0 := g.1
      have g2 : zpT S a 3 k = 0 := g.2
      rw [g1, g2]
      have z0 := zi0
      omega
    · rw [if_neg e]
      exact h3 k (by omega)
  · rw [e1, e2] at hk2
    exact h4 k hk (by omega)
  · have g := h5 k hk
    show (0 ≤ (S 4 k).toInt ∧ (S 4 k).toInt < (zpT S a 0 10).toInt) ∧ (0 ≤ (S 5 k).toInt ∧ (S 5 k).toInt < (zpT S a 0 10).toInt) ∧ _
    rw [e1, e2]
    exact ⟨by omega, by omega, g.2.2⟩
theorem zOK_P {S : Nat → Nat → Int32} (h : zOK S) {a b c : Int32} (hr : zrfP S a b c = 0) : zOK (zpP S a b c) := by
  unfold zrfP at hr
  obtain ⟨ha, hr⟩ := zrf_ite hr (by decide)
  obtain ⟨hab, hr⟩ := zrf_itn hr (by decide)
  obtain ⟨hs, hr⟩ := zrf_ite hr (by decide)
  obtain ⟨hn, -⟩ := zrf_ite hr (by decide)
  obtain ⟨h1, h2, h3, h4, h5, h6⟩ := h
  have hc := zcl_nat (x := S 0 11)
  have e1 : zpP S a b c 0 11 = S 0 11 + 1 := zsu_eq _ _ _ _
  have e2 := zadd1 (x := S 0 11) h2.1 (by omega)
  have e4 : ∀ k, zpP S a b c 4 k = if k = (S 0 11).toNatClampNeg then a else S 4 k := fun k => by
    show zsu S 4 _ a 4 k = _
    rw [zsu_at]
    simp
  have e5 : ∀ k, zpP S a b c 5 k = if k = (S 0 11).toNatClampNeg then b else S 5 k := fun k => by
    show zsu (zsu S 4 _ a) 5 _ b 5 k = _
    rw [zsu_at]
    simp [zsu_no]
  have e6 : ∀ k, zpP S a b c 6 k = if k = (S 0 11).toNatClampNeg then c else S 6 k := fun k => by
    show zsu (zsu (zsu S 4 _ a) 5 _ b) 6 _ c 6 k = _
    rw [zsu_at]
    simp [zsu_no]
  refine ⟨h1, by rw [e1, e2]; omega, h3, h4, fun k hk => ?_, fun k hk hk2 => ?_⟩
  · rw [e1, e2] at hk
    rw [e4, e5, e6]
    by_cases e : k = (S 0 11).toNatClampNeg
    · rw [if_pos e, if_pos e, if_pos e]
      have g := h6 k (by omega) (by omega)
      have g1 : zpP S a b c 7 k = 0 := g.1
      have g2 : zpP S a b c 8 k = 0 := g.2.1
      have g3 : zpP S a b c 9 k = 0 := g.2.2.1
      rw [g1, g2, g3]
      have z0 := zi0
      exact ⟨ha.1, ha.2, hs, by omega, by omega, by omega⟩
    · rw [if_neg e, if_neg e, if_neg e]
      exact h5 k (by omega)
  · rw [e1, e2] at hk2
    exact h6 k hk (by omega)
theorem zOK_O {S : Nat → Nat → Int32} (h : zOK S) {a b c : Int32} (hr : zrfO S a b c = 0) : zOK (zpO S a b c) := by
  unfold zrfO at hr
  obtain ⟨ha, hr⟩ := zrf_ite hr (by decide)
  obtain ⟨hb, hr⟩ := zrf_ite hr (by decide)
  obtain ⟨hs, -⟩ := zrf_ite hr (by decide)
  have hT := zOK_tank h ha.1 ha.2
  have hi := zix ha.1 ha.2
  have e := zti_add (x := S 2 a.toNatClampNeg) (y := b) (by omega) (by omega)
  have g1 := zOK_2 h hi (x := S 2 a.toNatClampNeg + b) (by omega)
  have g2 := zOK_3 g1 (q := a.toNatClampNeg) hi (x := S 3 a.toNatClampNeg ||| c) (zor_255 hT.2.2 hb.2)
  exact zOK_0 g2 1 _
theorem zOK_D {S : Nat → Nat → Int32} (h : zOK S) {a b : Int32} (hr : zrfD S a b = 0) : zOK (zpD S a b) ∧ 0 ≤ (S 2 a.toNatClampNeg - b).toInt := by
  unfold zrfD at hr
  obtain ⟨ha, hr⟩ := zrf_ite hr (by decide)
  obtain ⟨hb, hr⟩ := zrf_ite hr (by decide)
  obtain ⟨hs, -⟩ := zrf_ite hr (by decide)
  have hT := zOK_tank h ha.1 ha.2
  have hi := zix ha.1 ha.2
  have e := zti_sub (x := S 2 a.toNatClampNeg) (y := b) (by omega) (by omega)
  have g1 := zOK_2 h hi (x := S 2 a.toNatClampNeg - b) (by omega)
  refine ⟨?_, by omega⟩
  unfold zpD
  split
  · have g2 := zOK_3 g1 (q := a.toNatClampNeg) hi (x := 0) (by have z0 := zi0; omega)
    exact zOK_0 g2 2 _
  · exact zOK_0 g1 2 _
theorem zOK_V {S : Nat → Nat → Int32} (h : zOK S) {a b : Int32} (hr : zrfV S 4 a b = 0) : zOK (zsu S 7 a.toNatClampNeg b) := by
  unfold zrfV at hr
  obtain ⟨ha, hr⟩ := zrf_ite hr (by decide)
  obtain ⟨hb, -⟩ := zrf_ite hr (by decide)
  exact zOK_7 h (zix ha.1 ha.2) hb
theorem zOK_L {S : Nat → Nat → Int32} (h : zOK S) {a b : Int32} (hr : zrfV S 9 a b = 0) : zOK (zsu S 8 a.toNatClampNeg b) := by
  unfold zrfV at hr
  obtain ⟨ha, hr⟩ := zrf_ite hr (by decide)
  obtain ⟨hb, -⟩ := zrf_ite hr (by decide)
  exact zOK_8 h (zix ha.1 ha.2) hb
theorem zOK_C {S : Nat → Nat → Int32} (h : zOK S) {a : Int32} (hr : zrfC S a = 0) : zOK (zsu S 9 a.toNatClampNeg 0) := by
  unfold zrfC at hr
  obtain ⟨ha, -⟩ := zrf_ite hr (by decide)
  exact zOK_9 h (zix ha.1 ha.2) (by have z0 := zi0; omega)
theorem zt_newTank {sl D dy : Nat} {I : zM} {S : Nat → Nat → Int32} (hB : zSB 1 S I) (hV : zOK S) (a : Int32) (hn : (S 0 10).toInt < 8) : zW sl (D) dy 50 0 [(0, .ref 1), (1, .int a)] [] I (zRg 0 (zQz I (zpT S a) (some (.int (S 0 10))))) := by
  have hF := zfb_refl I
  have hT := hV.1
  have hP := hV.2.1
  have z0 := zi0
  refine zg 3 (pc' := 5) (ls' := [(0, .ref 1), (1, .int a)]) (st' := [.ref 1, .ref 2]) (I' := I) rfl ?_
  refine zgf rfl rfl rfl (hB 0 10 rfl) ?_
  refine zg 1 (pc' := 9) (ls' := [(0, .ref 1), (1, .int a)]) (st' := [.int a, .int (S 0 10), .ref 2]) (I' := I) rfl ?_
  refine zis rfl rfl (zin_ok (n := 8) (by omega) (by omega)) ?_
  have zB1 : zSB 1 (zsu S 1 ((S 0 10).toNatClampNeg) a) (zup I 2 (S 0 10).toNatClampNeg a) := zSB_up hB 1 _ _
  have zF1 : zfb I (zup I 2 (S 0 10).toNatClampNeg a) := zfb_up hF 2 _ _ (by decide)
  obtain ⟨zS1, zE1⟩ : ∃ T, T = zsu S 1 ((S 0 10).toNatClampNeg) a := ⟨_, rfl⟩
  rw [← zE1] at zB1
  generalize (zup I 2 (S 0 10).toNatClampNeg a) = zM1 at zB1 zF1 ⊢
  refine zg 2 (pc' := 12) (ls' := [(0, .ref 1), (1, .int a)]) (st' := [.ref 1, .ref 1]) (I' := zM1) rfl ?_
  refine zgf rfl rfl rfl (zB1 0 10 rfl) ?_
  refine zg 2 (pc' := 17) (ls' := [(0, .ref 1), (1, .int a)]) (st' := [.int (((zS1 0 10) + 1)), .ref 1]) (I' := zM1) rfl ?_
  refine zpf rfl rfl rfl rfl rfl ?_
  have zB2 : zSB 1 (zsu zS1 0 10 (((zS1 0 10) + 1))) (zup zM1 1 10 (((zS1 0 10) + 1))) := zSB_up zB1 0 _ _
  have zF2 : zfb I (zup zM1 1 10 (((zS1 0 10) + 1))) := zfb_up zF1 1 _ _ (by decide)
  obtain ⟨zS2, zE2⟩ : ∃ T, T = zsu zS1 0 10 (((zS1 0 10) + 1)) := ⟨_, rfl⟩
  rw [← zE2] at zB2
  generalize (zup zM1 1 10 (((zS1 0 10) + 1))) = zM2 at zB2 zF2 ⊢
  refine zg 1 (pc' := 21) (ls' := [(0, .ref 1), (1, .int a)]) (st' := [.ref 1]) (I' := zM2) rfl ?_
  refine zgf rfl rfl rfl (zB2 0 10 rfl) ?_
  refine zg 2 (pc' := 26) (ls' := [(0, .ref 1), (1, .int a)]) (st' := [.int (((zS2 0 10) - 1))]) (I' := zM2) rfl ?_
  refine ziret rfl rfl rfl ?_
  subst zE2
  subst zE1
  refine ⟨rfl, ?_, zB2, zF2⟩
  show some (Value.int (S 0 10 + 1 - 1)) = _
  rw [Int32.add_sub_cancel]
theorem zt_newPipe {sl D dy : Nat} {I : zM} {S : Nat → Nat → Int32} (hB : zSB 1 S I) (hV : zOK S) (a b c : Int32) (hn : (S 0 11).toInt < 12) : zW sl (D) dy 51 0 [(0, .ref 1), (1, .int a), (2, .int b), (3, .int c)] [] I (zRg 0 (zQz I (zpP S a b c) (some (.int (S 0 11))))) := by
  have hF := zfb_refl I
  have hT := hV.1
  have hP := hV.2.1
  have z0 := zi0
  refine zg 3 (pc' := 5) (ls' := [(0, .ref 1), (1, .int a), (2, .int b), (3, .int c)]) (st' := [.ref 1, .ref 5]) (I' := I) rfl ?_
  refine zgf rfl rfl rfl (hB 0 11 rfl) ?_
  refine zg 1 (pc' := 9) (ls' := [(0, .ref 1), (1, .int a), (2, .int b), (3, .int c)]) (st' := [.int a, .int (S 0 11), .ref 5]) (I' := I) rfl ?_
  refine zis rfl rfl (zin_ok (n := 12) (by omega) (by omega)) ?_
  have zB1 : zSB 1 (zsu S 4 ((S 0 11).toNatClampNeg) a) (zup I 5 (S 0 11).toNatClampNeg a) := zSB_up hB 4 _ _
  have zF1 : zfb I (zup I 5 (S 0 11).toNatClampNeg a) := zfb_up hF 5 _ _ (by decide)
  obtain ⟨zS1, zE1⟩ : ∃ T, T = zsu S 4 ((S 0 11).toNatClampNeg) a := ⟨_, rfl⟩
  rw [← zE1] at zB1
  generalize (zup I 5 (S 0 11).toNatClampNeg a) = zM1 at zB1 zF1 ⊢
  refine zg 3 (pc' := 15) (ls' := [(0, .ref 1), (1, .int a), (2, .int b), (3, .int c)]) (st' := [.ref 1, .ref 6]) (I' := zM1) rfl ?_
  refine zgf rfl rfl rfl (by have := zB1 0 11 rfl; rw [zE1] at this; exact this) ?_
  refine zg 1 (pc' := 19) (ls' := [(0, .ref 1), (1, .int a), (2, .int b), (3, .int c)]) (st' := [.int b, .int (S 0 11), .ref 6]) (I' := zM1) rfl ?_
  refine zis rfl rfl (zin_ok (n := 12) (by omega) (by omega)) ?_
  have zB2 : zSB 1 (zsu zS1 5 ((S 0 11).toNatClampNeg) b) (zup zM1 6 (S 0 11).toNatClampNeg b) := zSB_up zB1 5 _ _
  have zF2 : zfb I (zup zM1 6 (S 0 11).toNatClampNeg b) := zfb_up zF1 6 _ _ (by decide)
  obtain ⟨zS2, zE2⟩ : ∃ T, T = zsu zS1 5 ((S 0 11).toNatClampNeg) b := ⟨_, rfl⟩
  rw [← zE2] at zB2
  generalize (zup zM1 6 (S 0 11).toNatClampNeg b) = zM2 at zB2 zF2 ⊢
  refine zg 3 (pc' := 25) (ls' := [(0, .ref 1), (1, .int a), (2, .int b), (3, .int c)]) (st' := [.ref 1, .ref 7]) (I' := zM2) rfl ?_
  refine zgf rfl rfl rfl (by have := zB2 0 11 rfl; rw [zE2, zE1] at this; exact this) ?_
  refine zg 1 (pc' := 29) (ls' := [(0, .ref 1), (1, .int a), (2, .int b), (3, .int c)]) (st' := [.int c, .int (S 0 11), .ref 7]) (I' := zM2) rfl ?_
  refine zis rfl rfl (zin_ok (n := 12) (by omega) (by omega)) ?_
  have zB3 : zSB 1 (zsu zS2 6 ((S 0 11).toNatClampNeg) c) (zup zM2 7 (S 0 11).toNatClampNeg c) := zSB_up zB2 6 _ _
  have zF3 : zfb I (zup zM2 7 (S 0 11).toNatClampNeg c) := zfb_up zF2 7 _ _ (by decide)
  obtain ⟨zS3, zE3⟩ : ∃ T, T = zsu zS2 6 ((S 0 11).toNatClampNeg) c := ⟨_, rfl⟩
  rw [← zE3] at zB3
  generalize (zup zM2 7 (S 0 11).toNatClampNeg c) = zM3 at zB3 zF3 ⊢
  refine zg 2 (pc' := 32) (ls' := [(0, .ref 1), (1, .int a), (2, .int b), (3, .int c)]) (st' := [.ref 1, .ref 1]) (I' := zM3) rfl ?_
  refine zgf rfl rfl rfl (by have := zB3 0 11 rfl; rw [zE3, zE2, zE1] at this; exact this) ?_
  refine zg 2 (pc' := 37) (ls' := [(0, .ref 1), (1, .int a), (2, .int b), (3, .int c)]) (st' := [.int (((S 0 11) + 1)), .ref 1]) (I' := zM3) rfl ?_
  refine zpf rfl rfl rfl rfl rfl ?_
  have zB4 : zSB 1 (zsu zS3 0 11 (((S 0 11) + 1))) (zup zM3 1 11 (((S 0 11) + 1))) := zSB_up zB3 0 _ _
  have zF4 : zfb I (zup zM3 1 11 (((S 0 11) + 1))) := zfb_up zF3 1 _ _ (by decide)
  obtain ⟨zS4, zE4⟩ : ∃ T, T = zsu zS3 0 11 (((S 0 11) + 1)) := ⟨_, rfl⟩
  rw [← zE4] at zB4
  generalize (zup zM3 1 11 (((S 0 11) + 1))) = zM4 at zB4 zF4 ⊢
  refine zg 1 (pc' := 41) (ls' := [(0, .ref 1), (1, .int a), (2, .int b), (3, .int c)]) (st' := [.ref 1]) (I' := zM4) rfl ?_
  refine zgf rfl rfl rfl (zB4 0 11 rfl) ?_
  refine zg 2 (pc' := 46) (ls' := [(0, .ref 1), (1, .int a), (2, .int b), (3, .int c)]) (st' := [.int (((zS4 0 11) - 1))]) (I' := zM4) rfl ?_
  refine ziret rfl rfl rfl ?_
  subst zE4
  subst zE3
  subst zE2
  subst zE1
  refine ⟨rfl, ?_, zB4, zF4⟩
  show some (Value.int (S 0 11 + 1 - 1)) = _
  rw [Int32.add_sub_cancel]
theorem zt_pourInto {sl D dy : Nat} {I : zM} {S : Nat → Nat → Int32} (hB : zSB 1 S I) (hV : zOK S) (a b c : Int32) (ha : 0 ≤ a.toInt ∧ a.toInt < (S 0 10).toInt) : zW sl (D) dy 52 0 [(0, .ref 1), (1, .int a), (2, .int b), (3, .int c)] [] I (zRg 0 (zQz I (zpO S a b c) (some (.int (S 2 a.toNatClampNeg + b))))) := by
  obtain ⟨q0, q1⟩ := ha
  have hF := zfb_refl I
  have hT := hV.1
  have hP := hV.2.1
  have z0 := zi0
  refine zg 4 (pc' := 6) (ls' := [(0, .ref 1), (1, .int a), (2, .int b), (3, .int c)]) (st' := [.int a, .ref 3, .int a, .ref 3]) (I' := I) rfl ?_
  refine zia rfl rfl (zin_ok (n := 8) (by omega) (by omega)) (hB 2 _ (zcell_8 (by decide) (by omega) (by omega))) ?_
  refine zg 2 (pc' := 9) (ls' := [(0, .ref 1), (1, .int a), (2, .int b), (3, .int c)]) (st' := [.int (((S 2 a.toNatClampNeg) + b)), .int a, .ref 3]) (I' := I) rfl ?_
  refine zis rfl rfl (zin_ok (n := 8) (by omega) (by omega)) ?_
  have zB1 : zSB 1 (zsu S 2 (a.toNatClampNeg) (((S 2 a.toNatClampNeg) + b))) (zup I 3 a.toNatClampNeg (((S 2 a.toNatClampNeg) + b))) := zSB_up hB 2 _ _
  have zF1 : zfb I (zup I 3 a.toNatClampNeg (((S 2 a.toNatClampNeg) + b))) := zfb_up hF 3 _ _ (by decide)
  obtain ⟨zS1, zE1⟩ : ∃ T, T = zsu S 2 (a.toNatClampNeg) (((S 2 a.toNatClampNeg) + b)) := ⟨_, rfl⟩
  rw [← zE1] at zB1
  generalize (zup I 3 a.toNatClampNeg (((S 2 a.toNatClampNeg) + b))) = zM1 at zB1 zF1 ⊢
  refine zg 4 (pc' := 16) (ls' := [(0, .ref 1), (1, .int a), (2, .int b), (3, .int c)]) (st' := [.int a, .ref 4, .int a, .ref 4]) (I' := zM1) rfl ?_
  refine zia rfl rfl (zin_ok (n := 8) (by omega) (by omega)) (zB1 3 _ (zcell_8 (by decide) (by omega) (by omega))) ?_
  refine zg 2 (pc' := 19) (ls' := [(0, .ref 1), (1, .int a), (2, .int b), (3, .int c)]) (st' := [.int (((zS1 3 a.toNatClampNeg) ||| c)), .int a, .ref 4]) (I' := zM1) rfl ?_
  refine zis rfl rfl (zin_ok (n := 8) (by omega) (by omega)) ?_
  have zB2 : zSB 1 (zsu zS1 3 (a.toNatClampNeg) (((zS1 3 a.toNatClampNeg) ||| c))) (zup zM1 4 a.toNatClampNeg (((zS1 3 a.toNatClampNeg) ||| c))) := zSB_up zB1 3 _ _
  have zF2 : zfb I (zup zM1 4 a.toNatClampNeg (((zS1 3 a.toNatClampNeg) ||| c))) := zfb_up zF1 4 _ _ (by decide)
  obtain ⟨zS2, zE2⟩ : ∃ T, T = zsu zS1 3 (a.toNatClampNeg) (((zS1 3 a.toNatClampNeg) ||| c)) := ⟨_, rfl⟩
  rw [← zE2] at zB2
  generalize (zup zM1 4 a.toNatClampNeg (((zS1 3 a.toNatClampNeg) ||| c))) = zM2 at zB2 zF2 ⊢
  refine zg 2 (pc' := 22) (ls' := [(0, .ref 1), (1, .int a), (2, .int b), (3, .int c)]) (st' := [.ref 1, .ref 1]) (I' := zM2) rfl ?_
  refine zgf rfl rfl rfl (zB2 0 13 rfl) ?_
  refine zg 2 (pc' := 27) (ls' := [(0, .ref 1), (1, .int a), (2, .int b), (3, .int c)]) (st' := [.int (((zS2 0 13) + b)), .ref 1]) (I' := zM2) rfl ?_
  refine zpf rfl rfl rfl rfl rfl ?_
  have zB3 : zSB 1 (zsu zS2 0 13 (((zS2 0 13) + b))) (zup zM2 1 13 (((zS2 0 13) + b))) := zSB_up zB2 0 _ _
  have zF3 : zfb I (zup zM2 1 13 (((zS2 0 13) + b))) := zfb_up zF2 1 _ _ (by decide)
  obtain ⟨zS3, zE3⟩ : ∃ T, T = zsu zS2 0 13 (((zS2 0 13) + b)) := ⟨_, rfl⟩
  rw [← zE3] at zB3
  generalize (zup zM2 1 13 (((zS2 0 13) + b))) = zM3 at zB3 zF3 ⊢
  refine zg 3 (pc' := 35) (ls' := [(0, .ref 1), (1, .int a), (2, .int b), (3, .int c)]) (st' := [.int a, .ref 3]) (I' := zM3) rfl ?_
  refine zia rfl rfl (zin_ok (n := 8) (by omega) (by omega)) (zB3 2 _ (zcell_8 (by decide) (by omega) (by omega))) ?_
  refine ziret rfl rfl rfl ?_
  subst zE3
  subst zE2
  subst zE1
  refine ⟨rfl, ?_, zB3, zF3⟩
  show some (Value.int (zsu S 2 a.toNatClampNeg (S 2 a.toNatClampNeg + b) 2 a.toNatClampNeg)) = _
  rw [zsu_eq]
theorem zt_drawFrom {sl D dy : Nat} {I : zM} {S : Nat → Nat → Int32} (hB : zSB 1 S I) (hV : zOK S) (a b : Int32) (ha : 0 ≤ a.toInt ∧ a.toInt < (S 0 10).toInt) : zW sl (D) dy 53 0 [(0, .ref 1), (1, .int a), (2, .int b)] [] I (zRg 0 (zQz I (zpD S a b) (some (.int (S 2 a.toNatClampNeg - b))))) := by
  obtain ⟨q0, q1⟩ := ha
  have hF := zfb_refl I
  have hT := hV.1
  have hP := hV.2.1
  have z0 := zi0
  refine zg 4 (pc' := 6) (ls' := [(0, .ref 1), (1, .int a), (2, .int b)]) (st' := [.int a, .ref 3, .int a, .ref 3]) (I' := I) rfl ?_
  refine zia rfl rfl (zin_ok (n := 8) (by omega) (by omega)) (hB 2 _ (zcell_8 (by decide) (by omega) (by omega))) ?_
  refine zg 2 (pc' := 9) (ls' := [(0, .ref 1), (1, .int a), (2, .int b)]) (st' := [.int (((S 2 a.toNatClampNeg) - b)), .int a, .ref 3]) (I' := I) rfl ?_
  refine zis rfl rfl (zin_ok (n := 8) (by omega) (by omega)) ?_
  have zB1 : zSB 1 (zsu S 2 (a.toNatClampNeg) (((S 2 a.toNatClampNeg) - b))) (zup I 3 a.toNatClampNeg (((S 2 a.toNatClampNeg) - b))) := zSB_up hB 2 _ _
  have zF1 : zfb I (zup I 3 a.toNatClampNeg (((S 2 a.toNatClampNeg) - b))) := zfb_up hF 3 _ _ (by decide)
  obtain ⟨zS1, zE1⟩ : ∃ T, T = zsu S 2 (a.toNatClampNeg) (((S 2 a.toNatClampNeg) - b)) := ⟨_, rfl⟩
  rw [← zE1] at zB1
  generalize (zup I 3 a.toNatClampNeg (((S 2 a.toNatClampNeg) - b))) = zM1 at zB1 zF1 ⊢
  refine zg 3 (pc' := 15) (ls' := [(0, .ref 1), (1, .int a), (2, .int b)]) (st' := [.int a, .ref 3]) (I' := zM1) rfl ?_
  refine zia rfl rfl (zin_ok (n := 8) (by omega) (by omega)) (zB1 2 _ (zcell_8 (by decide) (by omega) (by omega))) ?_
  refine zif rfl rfl (fun h1 => ?_) (fun h1 => ?_)
  · have h1 := zc_ne.1.mp h1
    refine zg 2 (pc' := 28) (ls' := [(0, .ref 1), (1, .int a), (2, .int b)]) (st' := [.ref 1, .ref 1]) (I' := zM1) rfl ?_
    refine zgf rfl rfl rfl (zB1 0 14 rfl) ?_
    refine zg 2 (pc' := 33) (ls' := [(0, .ref 1), (1, .int a), (2, .int b)]) (st' := [.int (((zS1 0 14) + b)), .ref 1]) (I' := zM1) rfl ?_
    refine zpf rfl rfl rfl rfl rfl ?_
    have zB2 : zSB 1 (zsu zS1 0 14 (((zS1 0 14) + b))) (zup zM1 1 14 (((zS1 0 14) + b))) := zSB_up zB1 0 _ _
    have zF2 : zfb I (zup zM1 1 14 (((zS1 0 14) + b))) := zfb_up zF1 1 _ _ (by decide)
    obtain ⟨zS2, zE2⟩ : ∃ T, T = zsu zS1 0 14 (((zS1 0 14) + b)) := ⟨_, rfl⟩
    rw [← zE2] at zB2
    generalize (zup zM1 1 14 (((zS1 0 14) + b))) = zM2 at zB2 zF2 ⊢
    refine zg 3 (pc' := 41) (ls' := [(0, .ref 1), (1, .int a), (2, .int b)]) (st' := [.int a, .ref 3]) (I' := zM2) rfl ?_
    refine zia rfl rfl (zin_ok (n := 8) (by omega) (by omega)) (zB2 2 _ (zcell_8 (by decide) (by omega) (by omega))) ?_
    refine ziret rfl rfl rfl ?_
    have ec : zS1 2 a.toNatClampNeg = S 2 a.toNatClampNeg - b := by rw [zE1, zsu_eq]
    rw [ec] at h1
    have eS : zpD S a b = zS2 := by rw [zE2, zE1]; unfold zpD; exact (if_neg h1).trans rfl
    refine ⟨rfl, ?_, by rw [eS]; exact zB2, zF2⟩
    show some (Value.int (zS2 2 a.toNatClampNeg)) = _
    rw [← eS]
    unfold zpD
    split <;> simp [zsu_at]
  · have h1 := zc_ne.2.mp h1
    refine zg 4 (pc' := 25) (ls' := [(0, .ref 1), (1, .int a), (2, .int b)]) (st' := [.int 0, .int a, .ref 4]) (I' := zM1) rfl ?_
    refine zis rfl rfl (zin_ok (n := 8) (by omega) (by omega)) ?_
    have zB2 : zSB 1 (zsu zS1 3 (a.toNatClampNeg) 0) (zup zM1 4 a.toNatClampNeg 0) := zSB_up zB1 3 _ _
    have zF2 : zfb I (zup zM1 4 a.toNatClampNeg 0) := zfb_up zF1 4 _ _ (by decide)
    obtain ⟨zS2, zE2⟩ : ∃ T, T = zsu zS1 3 (a.toNatClampNeg) 0 := ⟨_, rfl⟩
    rw [← zE2] at zB2
    generalize (zup zM1 4 a.toNatClampNeg 0) = zM2 at zB2 zF2 ⊢
    refine zg 2 (pc' := 28) (ls' := [(0, .ref 1), (1, .int a), (2, .int b)]) (st' := [.ref 1, .ref 1]) (I' := zM2) rfl ?_
    refine zgf rfl rfl rfl (zB2 0 14 rfl) ?_
    refine zg 2 (pc' := 33) (ls' := [(0, .ref 1), (1, .int a), (2, .int b)]) (st' := [.int (((zS2 0 14) + b)), .ref 1]) (I' := zM2) rfl ?_
    refine zpf rfl rfl rfl rfl rfl ?_
    have zB3 : zSB 1 (zsu zS2 0 14 (((zS2 0 14) + b))) (zup zM2 1 14 (((zS2 0 14) + b))) := zSB_up zB2 0 _ _
    have zF3 : zfb I (zup zM2 1 14 (((zS2 0 14) + b))) := zfb_up zF2 1 _ _ (by decide)
    obtain ⟨zS3, zE3⟩ : ∃ T, T = zsu zS2 0 14 (((zS2 0 14) + b)) := ⟨_, rfl⟩
    rw [← zE3] at zB3
    generalize (zup zM2 1 14 (((zS2 0 14) + b))) = zM3 at zB3 zF3 ⊢
    refine zg 3 (pc' := 41) (ls' := [(0, .ref 1), (1, .int a), (2, .int b)]) (st' := [.int a, .ref 3]) (I' := zM3) rfl ?_
    refine zia rfl rfl (zin_ok (n := 8) (by omega) (by omega)) (zB3 2 _ (zcell_8 (by decide) (by omega) (by omega))) ?_
    refine ziret rfl rfl rfl ?_
    have ec : zS1 2 a.toNatClampNeg = S 2 a.toNatClampNeg - b := by rw [zE1, zsu_eq]
    rw [ec] at h1
    have eS : zpD S a b = zS3 := by rw [zE3, zE2, zE1]; unfold zpD; exact (if_pos h1).trans rfl
    refine ⟨rfl, ?_, by rw [eS]; exact zB3, zF3⟩
    show some (Value.int (zS3 2 a.toNatClampNeg)) = _
    rw [← eS]
    unfold zpD
    split <;> simp [zsu_at]
theorem zt_putV {sl D dy : Nat} {I : zM} {S : Nat → Nat → Int32} (hB : zSB 1 S I) (hV : zOK S) (a b : Int32) (ha : 0 ≤ a.toInt ∧ a.toInt < (S 0 11).toInt) : zW sl (D) dy 54 0 [(0, .ref 8), (1, .int a), (2, .int b)] [] I (zRg 0 (zQz I (zsu S 7 a.toNatClampNeg b) (some (.int (S 7 a.toNatClampNeg))))) := by
  obtain ⟨q0, q1⟩ := ha
  have hF := zfb_refl I
  have hT := hV.1
  have hP := hV.2.1
  have z0 := zi0
  refine zg 2 (pc' := 2) (ls' := [(0, .ref 8), (1, .int a), (2, .int b)]) (st' := [.int a, .ref 8]) (I' := I) rfl ?_
  refine zia rfl rfl (zin_ok (n := 12) (by omega) (by omega)) (hB 7 _ (zcell_12 (by decide) (by omega) (by omega))) ?_
  refine zg 4 (pc' := 7) (ls' := [(3, .int (S 7 a.toNatClampNeg)), (0, .ref 8), (1, .int a), (2, .int b)]) (st' := [.int b, .int a, .ref 8]) (I' := I) rfl ?_
  refine zis rfl rfl (zin_ok (n := 12) (by omega) (by omega)) ?_
  have zB1 : zSB 1 (zsu S 7 (a.toNatClampNeg) b) (zup I 8 a.toNatClampNeg b) := zSB_up hB 7 _ _
  have zF1 : zfb I (zup I 8 a.toNatClampNeg b) := zfb_up hF 8 _ _ (by decide)
  obtain ⟨zS1, zE1⟩ : ∃ T, T = zsu S 7 (a.toNatClampNeg) b := ⟨_, rfl⟩
  rw [← zE1] at zB1
  generalize (zup I 8 a.toNatClampNeg b) = zM1 at zB1 zF1 ⊢
  refine zg 1 (pc' := 9) (ls' := [(3, .int (S 7 a.toNatClampNeg)), (0, .ref 8), (1, .int a), (2, .int b)]) (st' := [.int (S 7 a.toNatClampNeg)]) (I' := zM1) rfl ?_
  refine ziret rfl rfl rfl ?_
  subst zE1
  exact ⟨rfl, rfl, zB1, zF1⟩
theorem zt_putL {sl D dy : Nat} {I : zM} {S : Nat → Nat → Int32} (hB : zSB 1 S I) (hV : zOK S) (a b : Int32) (ha : 0 ≤ a.toInt ∧ a.toInt < (S 0 11).toInt) : zW sl (D) dy 54 0 [(0, .ref 9), (1, .int a), (2, .int b)] [] I (zRg 0 (zQz I (zsu S 8 a.toNatClampNeg b) (some (.int (S 8 a.toNatClampNeg))))) := by
  obtain ⟨q0, q1⟩ := ha
  have hF := zfb_refl I
  have hT := hV.1
  have hP := hV.2.1
  have z0 := zi0
  refine zg 2 (pc' := 2) (ls' := [(0, .ref 9), (1, .int a), (2, .int b)]) (st' := [.int a, .ref 9]) (I' := I) rfl ?_
  refine zia rfl rfl (zin_ok (n := 12) (by omega) (by omega)) (hB 8 _ (zcell_12 (by decide) (by omega) (by omega))) ?_
  refine zg 4 (pc' := 7) (ls' := [(3, .int (S 8 a.toNatClampNeg)), (0, .ref 9), (1, .int a), (2, .int b)]) (st' := [.int b, .int a, .ref 9]) (I' := I) rfl ?_
  refine zis rfl rfl (zin_ok (n := 12) (by omega) (by omega)) ?_
  have zB1 : zSB 1 (zsu S 8 (a.toNatClampNeg) b) (zup I 9 a.toNatClampNeg b) := zSB_up hB 8 _ _
  have zF1 : zfb I (zup I 9 a.toNatClampNeg b) := zfb_up hF 9 _ _ (by decide)
  obtain ⟨zS1, zE1⟩ : ∃ T, T = zsu S 8 (a.toNatClampNeg) b := ⟨_, rfl⟩
  rw [← zE1] at zB1
  generalize (zup I 9 a.toNatClampNeg b) = zM1 at zB1 zF1 ⊢
  refine zg 1 (pc' := 9) (ls' := [(3, .int (S 8 a.toNatClampNeg)), (0, .ref 9), (1, .int a), (2, .int b)]) (st' := [.int (S 8 a.toNatClampNeg)]) (I' := zM1) rfl ?_
  refine ziret rfl rfl rfl ?_
  subst zE1
  exact ⟨rfl, rfl, zB1, zF1⟩
theorem zt_putC {sl D dy : Nat} {I : zM} {S : Nat → Nat → Int32} (hB : zSB 1 S I) (hV : zOK S) (a b : Int32) (ha : 0 ≤ a.toInt ∧ a.toInt < (S 0 11).toInt) : zW sl (D) dy 54 0 [(0, .ref 10), (1, .int a), (2, .int b)] [] I (zRg 0 (zQz I (zsu S 9 a.toNatClampNeg b) (some (.int (S 9 a.toNatClampNeg))))) := by
  obtain ⟨q0, q1⟩ := ha
  have hF := zfb_refl I
  have hT := hV.1
  have hP := hV.2.1
  have z0 := zi0
  refine zg 2 (pc' := 2) (ls' := [(0, .ref 10), (1, .int a), (2, .int b)]) (st' := [.int a, .ref 10]) (I' := I) rfl ?_
  refine zia rfl rfl (zin_ok (n := 12) (by omega) (by omega)) (hB 9 _ (zcell_12 (by decide) (by omega) (by omega))) ?_
  refine zg 4 (pc' := 7) (ls' := [(3, .int (S 9 a.toNatClampNeg)), (0, .ref 10), (1, .int a), (2, .int b)]) (st' := [.int b, .int a, .ref 10]) (I' := I) rfl ?_
  refine zis rfl rfl (zin_ok (n := 12) (by omega) (by omega)) ?_
  have zB1 : zSB 1 (zsu S 9 (a.toNatClampNeg) b) (zup I 10 a.toNatClampNeg b) := zSB_up hB 9 _ _
  have zF1 : zfb I (zup I 10 a.toNatClampNeg b) := zfb_up hF 10 _ _ (by decide)
  obtain ⟨zS1, zE1⟩ : ∃ T, T = zsu S 9 (a.toNatClampNeg) b := ⟨_, rfl⟩
  rw [← zE1] at zB1
  generalize (zup I 10 a.toNatClampNeg b) = zM1 at zB1 zF1 ⊢
  refine zg 1 (pc' := 9) (ls' := [(3, .int (S 9 a.toNatClampNeg)), (0, .ref 10), (1, .int a), (2, .int b)]) (st' := [.int (S 9 a.toNatClampNeg)]) (I' := zM1) rfl ?_
  refine ziret rfl rfl rfl ?_
  subst zE1
  exact ⟨rfl, rfl, zB1, zF1⟩
