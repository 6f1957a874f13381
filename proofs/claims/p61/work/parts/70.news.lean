/-! THE CONSTRUCTORS: what a new object's memory is -/
def zGk (i : Nat) : Option (Nat × Nat) := match Nat.beq i 148 with
  | true => some (1, 4)
  | false => match Nat.beq i 149 with
    | true => some (103, 16)
    | false => zkd 0 i
def zGp (i k : Nat) : Option Nat := match Nat.beq i 148 with
  | true => match k with
    | 0 => some 149
    | _ => none
  | false => zpd i k
/-- the order in which a place's references are written -/
def zrk (i k : Nat) : Nat := match Nat.beq i 135 with
  | true => match k with
    | 0 => 8
    | j + 1 => if j < 8 then j else j + 1
  | false => k
theorem zrk_inj {i a b : Nat} (h : zrk i a = zrk i b) : a = b := by
  unfold zrk at h
  cases hb : Nat.beq i 135 with
  | false => rw [hb] at h; exact h
  | true =>
    rw [hb] at h
    cases a with
    | zero =>
      cases b with
      | zero => rfl
      | succ b => simp only at h; split at h <;> omega
    | succ a =>
      cases b with
      | zero => simp only at h; split at h <;> omega
      | succ b => simp only at h; split at h <;> split at h <;> omega
/-- the places B .. B + m - 1 are made; R: how many references of a place are written -/
def zGa (B : Nat) (K0 : zKT) (P0 : zPT) (I0 : zIT) (L0 : zLT) (m : Nat) (R : List (Nat × Nat)) (n : Nat) (K : zKT) (P : zPT) (I : zIT) (L : zLT) : Prop :=
  n = B + m ∧ (∀ q, q < B → K q = K0 q ∧ P q = P0 q ∧ I q = I0 q ∧ L q = L0 q) ∧ (∀ i, i < m → K (B + i) = zGk i ∧ ∀ k, I (B + i) k = 0) ∧ ∀ e ∈ R, e.1 < m ∧ ∀ k q, zrk e.1 k < e.2 → zGp e.1 k = some q → P (B + e.1) k = some (B + q)
section ZGA
variable {l : Launch} {X : zX} {d bc bs mi pc : Nat} {ls : List (Nat × Value)} {st : List Value} {n : Nat} {K : zKT} {P : zPT} {I : zIT} {L : zLT} {Post : zPost} {r1 r2 r3 s2 s3 t3 : Nat} {B m : Nat} {R R' : List (Nat × Nat)} {K0 : zKT} {P0 : zPT} {I0 : zIT} {L0 : zLT}
theorem zGa_sub (h : ∀ e ∈ R', e ∈ R) (g : zGa B K0 P0 I0 L0 m R n K P I L) : zGa B K0 P0 I0 L0 m R' n K P I L := ⟨g.1, g.2.1, g.2.2.1, fun e he => g.2.2.2 e (h e he)⟩
theorem zGa_add {o : Nat} (g : zGa B K0 P0 I0 L0 m R n K P I L) (h : o < m) : zGa B K0 P0 I0 L0 m ((o, 0) :: R) n K P I L := ⟨g.1, g.2.1, g.2.2.1, fun e he => by
  rcases List.mem_cons.mp he with rfl | he
  · exact ⟨h, fun k q hk => absurd hk (Nat.not_lt_zero _)⟩
  · exact g.2.2.2 e he⟩
theorem zGa_new {e : Nat × Nat} (g : zGa B K0 P0 I0 L0 m R n K P I L) (he : zGk m = some e) : zGa B K0 P0 I0 L0 (m + 1) R (n + 1) (zuK K n e) (z0P P n) (z0I I n) (z0L L n) := by
  obtain ⟨rfl, g2, g3, g4⟩ := g
  refine ⟨rfl, fun q hq => ?_, fun i hi => ?_, fun e he => ⟨Nat.lt_succ_of_lt (g4 e he).1, fun k q hk hq => ?_⟩⟩
  · have hne : q ≠ B + m := by omega
    have e1 : zuK K (B + m) e q = K q := if_neg hne
    have e2 : z0P P (B + m) q = P q := if_neg hne
    have e3 : z0I I (B + m) q = I q := if_neg hne
    have e4 : z0L L (B + m) q = L q := if_neg hne
    rw [e1, e2, e3, e4]
    exact g2 q hq
  · by_cases him : i = m
    · subst him
      have e1 : zuK K (B + i) e (B + i) = some e := if_pos rfl
      have e3 : z0I I (B + i) (B + i) = fun _ => 0 := if_pos rfl
      rw [e1, e3]
      exact ⟨he.symm, fun _ => rfl⟩
    · have hne : B + i ≠ B + m := by omega
      have e1 : zuK K (B + m) e (B + i) = K (B + i) := if_neg hne
      have e3 : z0I I (B + m) (B + i) = I (B + i) := if_neg hne
      rw [e1, e3]
      exact g3 i (by omega)
  · have := (g4 e he).1
    have e2 : z0P P (B + m) (B + e.1) = P (B + e.1) := if_neg (by omega)
    rw [e2]
    exact (g4 e he).2 k q hk hq
theorem zGa_put {o c k q : Nat} (g : zGa B K0 P0 I0 L0 m ((o, c) :: R) n K P I L) (hR : ∀ e ∈ R, e.1 ≠ o) (hq : zGp o k = some q) (hk : zrk o k = c) : zGa B K0 P0 I0 L0 m ((o, c + 1) :: R) n K (zuP P (B + o) k (some (B + q))) I L := by
  obtain ⟨g1, g2, g3, g4⟩ := g
  have ho := (g4 _ List.mem_cons_self).1
  refine ⟨g1, fun p hp => ?_, g3, fun e he => ?_⟩
  · have e2 : zuP P (B + o) k (some (B + q)) p = P p := if_neg (by omega)
    rw [e2]
    exact g2 p hp
  · rcases List.mem_cons.mp he with rfl | he
    · refine ⟨ho, fun k' q' hk' hq' => ?_⟩
      have e2 : zuP P (B + o) k (some (B + q)) (B + o) = va_up (P (B + o)) k (some (B + q)) := if_pos rfl
      show zuP P (B + o) k (some (B + q)) (B + o) k' = _
      rw [e2]
      by_cases hkk : k' = k
      · subst hkk
        have : q' = q := Option.some.inj (hq'.symm.trans hq)
        subst this
        simp [va_up]
      · have h1 : zrk o k' ≠ c := fun h => hkk (zrk_inj (h.trans hk.symm))
        have h2 : zrk o k' < c + 1 := hk'
        have h3 := (g4 _ List.mem_cons_self).2 k' q' (show zrk o k' < c by omega) hq'
        simp only [va_up, if_neg hkk]
        exact h3
    · have h1 := hR e he
      have e2 : zuP P (B + o) k (some (B + q)) (B + e.1) = P (B + e.1) := if_neg (by omega)
      rw [e2]
      exact g4 e (List.mem_cons_of_mem _ he)
theorem zGa_get {o c k q : Nat} (g : zGa B K0 P0 I0 L0 m R n K P I L) (h : (o, c) ∈ R) (hk : zrk o k < c) (hq : zGp o k = some q) : P (B + o) k = some (B + q) := (g.2.2.2 _ h).2 k q hk hq
theorem zGa_K {o : Nat} {e : Nat × Nat} (g : zGa B K0 P0 I0 L0 m R n K P I L) (h : o < m) (he : zGk o = some e) : K (B + o) = some e := ((g.2.2.1 o h).1).trans he
/-- a field takes a new array -/
theorem zgq {o c k N w kd idx ci mm : Nat} {ty : ArrayType} {x : Int32} (hg : zGa B K0 P0 I0 L0 m ((o, c) :: R) n K P I L) (hR : ∀ e ∈ R, e.1 ≠ o)
    (h0 : zl mi pc = some (.aload_n 0, 1, r1, r2, r3)) (hx0 : zlk ls 0 = some (.ref (B + o)))
    (hp : ∀ n K P I L, zV l X d (bc + 1) (bs + N) mi (pc + 1 + w) ls (.int x :: .ref (B + o) :: st) n K P I L Post → zV l X d (bc + 1) (bs + N) mi (pc + 1) ls (.ref (B + o) :: st) n K P I L Post)
    (hna : zl mi (pc + 1 + w) = some (.newarray ty, 2, kd, s2, s3)) (hkd : kd = 100 ∨ kd = 101 ∨ kd = 102 ∨ kd = 103) (hty : newarray.typeOf ty = zaty kd) (hx : ¬ x < 0) (hN : x.toNatClampNeg = N) (hbytes : N * componentBytes (newarray.typeOf ty) ≤ 536870912)
    (hpu : zl mi (pc + 1 + w + 2) = some (.putfield idx, 3, ci, k, t3)) (hci : zGk o = some (ci, mm)) (hkN : k < zN ci) (hf : zrf ci k = true) (hn : ∀ q : Nat, narrow (zty ci k) (.ref q) = .ref q) (hft : ∀ q : Nat, fits (zty ci k) (.ref q) = true)
    (hgk : zGk m = some (kd, N)) (hpd : zGp o k = some m) (hrk : zrk o k = c)
    (kk : ∀ n K P I L, zGa B K0 P0 I0 L0 (m + 1) ((o, c + 1) :: R) n K P I L → zV l X d bc bs mi (pc + 1 + w + 2 + 3) ls st n K P I L Post) : zV l X d (bc + 1) (bs + N) mi pc ls st n K P I L Post := by
  refine zV_aload_n h0 hx0 (hp _ _ _ _ _ ?_)
  refine zV_newa hna hkd hty hx hN hbytes ?_
  have g2 := zGa_new hg hgk
  have ho := (hg.2.2.2 _ List.mem_cons_self).1
  refine zV_putR hpu (zGa_K g2 (Nat.lt_succ_of_lt ho) hci) hkN hf (hn _) (hft _) ?_
  have g3 := zGa_put (k := k) g2 hR hpd hrk
  rw [← hg.1] at g3
  exact kk _ _ _ _ _ g3
end ZGA
