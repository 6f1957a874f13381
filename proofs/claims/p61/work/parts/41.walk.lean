/-! CONTRACTS: bridges by numbering -/
/-- how many of the first n tanks have no number yet -/
def zun (I : zM) : Nat → Nat
  | 0 => 0
  | n + 1 => zun I n + (if I 137 n = some 0 then 1 else 0)
theorem zun_le (I : zM) : ∀ n, zun I n ≤ n
  | 0 => Nat.le_refl _
  | n + 1 => by have := zun_le I n; unfold zun; split <;> omega
theorem zun_mono {I J : zM} : ∀ n, (∀ k, k < n → J 137 k = some 0 → I 137 k = some 0) → zun J n ≤ zun I n
  | 0, _ => Nat.le_refl _
  | n + 1, h => by
    have h1 := zun_mono n (fun k hk => h k (by omega))
    unfold zun
    by_cases hj : J 137 n = some 0
    · rw [if_pos hj, if_pos (h n (Nat.lt_succ_self n) hj)]; omega
    · rw [if_neg hj]; omega
theorem zun_up {I : zM} {t : Nat} {x : Int32} (h : I 137 t = some 0) (hx : ¬ x = 0) : ∀ n, zun (zup I 137 t x) n + (if t < n then 1 else 0) = zun I n
  | 0 => by simp [zun]
  | n + 1 => by
    have h1 := zun_up h hx n
    show zun (zup I 137 t x) n + (if zup I 137 t x 137 n = some 0 then 1 else 0) + (if t < n + 1 then 1 else 0) = zun I n + (if I 137 n = some 0 then 1 else 0)
    by_cases hn : n = t
    · subst hn
      rw [if_neg (Nat.lt_irrefl n)] at h1
      have e : ¬ zup I 137 n x 137 n = some 0 := by
        rw [zup_at, if_pos ⟨rfl, rfl⟩]
        intro q
        exact hx (Option.some.inj q)
      rw [if_neg e, if_pos h, if_pos (Nat.lt_succ_self n)]
      omega
    · have e : zup I 137 t x 137 n = I 137 n := by rw [zup_at, if_neg (by simp [hn])]
      rw [e]
      by_cases hl : t < n
      · rw [if_pos hl] at h1
        rw [if_pos (show t < n + 1 by omega)]
        omega
      · rw [if_neg hl] at h1
        rw [if_neg (show ¬ t < n + 1 by omega)]
        omega
theorem zun_pos {I : zM} {t : Nat} (h : I 137 t = some 0) : ∀ n, t < n → 1 ≤ zun I n
  | 0, hn => absurd hn (Nat.not_lt_zero t)
  | n + 1, hn => by
    unfold zun
    by_cases ht : n = t
    · rw [if_pos (by rw [ht]; exact h)]; omega
    · have := zun_pos h n (by omega); omega
/-- what the numbering keeps -/
def zWI (S : Nat → Nat → Int32) (I : zM) : Prop := zSB 1 S I ∧
  (∃ m, I 135 10 = some m ∧ 0 ≤ m.toInt ∧ m.toInt + (zun I (S 0 10).toInt.toNat : Int) ≤ 8) ∧ (∃ b, I 135 11 = some b) ∧
  ∀ k, k < 8 → ∃ x, I 137 k = some x ∧ (¬ x = 0 → ∃ y, I 138 k = some y)
/-- numbers stay -/
def zWm (I J : zM) : Prop := ∀ k x, I 137 k = some x → ¬ x = 0 → J 137 k = some x
theorem zWm_refl (I : zM) : zWm I I := fun _ _ h _ => h
theorem zWm_trans {I J K : zM} (h : zWm I J) (h2 : zWm J K) : zWm I K := fun k x hx hn => h2 k x (h k x hx hn) hn
theorem zWI_l {S : Nat → Nat → Int32} {I : zM} (h : zWI S I) (k : Nat) (v : Int32) : zWI S (zup I 138 k v) := by
  obtain ⟨h1, ⟨m, h2, h3, h4⟩, h5, h6⟩ := h
  have hu : zun (zup I 138 k v) (S 0 10).toInt.toNat ≤ zun I (S 0 10).toInt.toNat := zun_mono _ (fun j _ hj => hj)
  refine ⟨zSB_fr h1 (zfr_up (zfr_refl I) rfl), ⟨m, h2, h3, by omega⟩, h5, fun j hj => ?_⟩
  obtain ⟨x, g1, g2⟩ := h6 j hj
  refine ⟨x, g1, fun hn => ?_⟩
  rw [zup_at]
  split
  · exact ⟨v, rfl⟩
  · exact g2 hn
theorem zWI_b {S : Nat → Nat → Int32} {I : zM} (h : zWI S I) (v : Int32) : zWI S (zup I 135 11 v) := by
  obtain ⟨h1, ⟨m, h2, h3, h4⟩, h5, h6⟩ := h
  have hu : zun (zup I 135 11 v) (S 0 10).toInt.toNat ≤ zun I (S 0 10).toInt.toNat := zun_mono _ (fun j _ hj => hj)
  exact ⟨zSB_fr h1 (zfr_up (zfr_refl I) rfl), ⟨m, h2, h3, by omega⟩, ⟨v, rfl⟩, fun j hj => h6 j hj⟩
theorem zWI_n {S : Nat → Nat → Int32} {I : zM} (h : zWI S I) {t : Int32} {m y : Int32} (hm : I 135 10 = some m) (h0 : 0 ≤ t.toInt) (h1 : t.toInt < (S 0 10).toInt) (hT : (S 0 10).toInt ≤ 8) (hn : I 137 t.toNatClampNeg = some 0) :
    ¬ (m + 1) = 0 ∧ zWI S (zup (zup (zup I 135 10 (m + 1)) 137 t.toNatClampNeg (m + 1)) 138 t.toNatClampNeg y) ∧
    zun (zup (zup (zup I 135 10 (m + 1)) 137 t.toNatClampNeg (m + 1)) 138 t.toNatClampNeg y) (S 0 10).toInt.toNat + 1 = zun I (S 0 10).toInt.toNat := by
  obtain ⟨g1, ⟨m', g2, g3, g4⟩, g5, g6⟩ := h
  cases Option.some.inj (hm.symm.trans g2)
  have htn : t.toNatClampNeg = t.toInt.toNat := rfl
  have hp := zun_pos hn (S 0 10).toInt.toNat (by omega)
  have ha := zadd1 g3 (by omega)
  have hne : ¬ (m + 1) = 0 := fun e => by
    rw [e] at ha
    have : (0 : Int32).toInt = 0 := rfl
    omega
  have hu1 : zun (zup (zup I 135 10 (m + 1)) 137 t.toNatClampNeg (m + 1)) (S 0 10).toInt.toNat + 1 = zun I (S 0 10).toInt.toNat := by
    have e1 := zun_up (I := zup I 135 10 (m + 1)) (t := t.toNatClampNeg) (x := m + 1) hn hne (S 0 10).toInt.toNat
    rw [if_pos (by omega)] at e1
    have e2 : zun (zup I 135 10 (m + 1)) (S 0 10).toInt.toNat ≤ zun I (S 0 10).toInt.toNat := zun_mono _ (fun j _ hj => hj)
    have e3 : zun I (S 0 10).toInt.toNat ≤ zun (zup I 135 10 (m + 1)) (S 0 10).toInt.toNat := zun_mono _ (fun j _ hj => hj)
    omega
  have hu2 : zun (zup (zup (zup I 135 10 (m + 1)) 137 t.toNatClampNeg (m + 1)) 138 t.toNatClampNeg y) (S 0 10).toInt.toNat = zun (zup (zup I 135 10 (m + 1)) 137 t.toNatClampNeg (m + 1)) (S 0 10).toInt.toNat :=
    Nat.le_antisymm (zun_mono _ (fun j _ hj => hj)) (zun_mono _ (fun j _ hj => hj))
  refine ⟨hne, ⟨zSB_fr g1 (zfr_up (zfr_up (zfr_up (zfr_refl I) rfl) rfl) rfl), ⟨m + 1, rfl, by omega, by omega⟩, g5, fun j hj => ?_⟩, by omega⟩
  obtain ⟨x, q1, q2⟩ := g6 j hj
  by_cases hjt : j = t.toNatClampNeg
  · refine ⟨m + 1, ?_, fun _ => ⟨y, ?_⟩⟩
    · rw [zup_at, if_neg (by simp), zup_at, if_pos ⟨rfl, hjt⟩]
    · rw [zup_at, if_pos ⟨rfl, hjt⟩]
  · refine ⟨x, ?_, fun hn => ?_⟩
    · rw [zup_at, if_neg (by simp), zup_at, if_neg (by simp [hjt])]
      exact q1
    · rw [zup_at, if_neg (by simp [hjt])]
      exact q2 hn
def zQw (S : Nat → Nat → Int32) (I : zM) (t : Int32) : zM → Prop := fun J => zWI S J ∧ zfr I J ∧ zWm I J ∧ ∃ x, J 137 t.toNatClampNeg = some x ∧ ¬ x = 0
theorem zt_wl {sl D dy : Nat} {S : Nat → Nat → Int32} (hV : zOK S) (u : Nat)
    (rec : ∀ (t came d : Int32) (I : zM), zWI S I → 0 ≤ t.toInt → t.toInt < (S 0 10).toInt → I 137 t.toNatClampNeg = some 0 → zun I (S 0 10).toInt.toNat ≤ u → 1 ≤ d.toInt → d.toInt + (u : Int) ≤ 9 → zW sl D dy 8 0 [(0, .ref 135), (1, .int t), (2, .int came), (3, .int d)] [] I (zRg 0 (zQj (zQw S I t))))
    (t came d : Int32) (ht0 : 0 ≤ t.toInt) (ht1 : t.toInt < (S 0 10).toInt) (hd0 : 1 ≤ d.toInt) (hd1 : d.toInt + (u : Int) ≤ 8) : ∀ (k : Nat) (p : Int32) (I I0 : zM) (hW : zWI S I) (hf : zfr I0 I) (hm : zWm I0 I) (hu : zun I (S 0 10).toInt.toNat ≤ u) (htn : ∃ x, I 137 t.toNatClampNeg = some x ∧ ¬ x = 0) (h0 : 0 ≤ p.toInt) (hk : p.toInt + (k : Int) = (S 0 11).toInt),
    zW sl (D + 1) dy 8 40 [(0, .ref 135), (1, .int t), (2, .int came), (3, .int d), (4, .int p)] [] I (zRg 0 (zQj (zQw S I0 t))) := by
  intro k
  induction k with
  | zero =>
    intro p I I0 hW hf hm hu htn h0 hk
    obtain ⟨hB, -, ⟨bb, hbb⟩, hnum⟩ := id hW
    have hT := hV.1
    have hP := hV.2.1
    have z0 := zi0
    have z8 := zi8
    have z20 := zi20
    refine zg 3 (pc' := 46) (ls' := [(0, .ref 135), (1, .int t), (2, .int came), (3, .int d), (4, .int p)]) (st' := [.ref 1, .int p]) (I' := I) rfl ?_
    refine zgf rfl rfl rfl (hB 0 11 rfl) ?_
    refine zicmp rfl rfl (fun h1 => ?_) (fun h1 => ?_)
    · have h1 := zc_ge.1.mp h1
      refine zret rfl rfl ?_
      exact ⟨rfl, rfl, hW, hf, hm, htn⟩
    · have h1 := zc_ge.2.mp h1
      exfalso; omega
  | succ k ih =>
    intro p I I0 hW hf hm hu htn h0 hk
    obtain ⟨hB, -, ⟨bb, hbb⟩, hnum⟩ := id hW
    have hT := hV.1
    have hP := hV.2.1
    have z0 := zi0
    have z8 := zi8
    have z20 := zi20
    refine zg 3 (pc' := 46) (ls' := [(0, .ref 135), (1, .int t), (2, .int came), (3, .int d), (4, .int p)]) (st' := [.ref 1, .int p]) (I' := I) rfl ?_
    refine zgf rfl rfl rfl (hB 0 11 rfl) ?_
    refine zicmp rfl rfl (fun h1 => ?_) (fun h1 => ?_)
    · have h1 := zc_ge.1.mp h1
      exfalso; omega
    · have h1 := zc_ge.2.mp h1
      refine zg 4 (pc' := 59) (ls' := [(0, .ref 135), (1, .int t), (2, .int came), (3, .int d), (4, .int p)]) (st' := [.int t, .int p, .ref 1]) (I' := I) rfl ?_
      refine zcf rfl rfl (zt_other hB hV p t h0 (by omega)) ?_
      refine zg 3 (pc' := 67) (ls' := [(5, .int (zoth S p.toNatClampNeg t)), (0, .ref 135), (1, .int t), (2, .int came), (3, .int d), (4, .int p)]) (st' := [.int (-1), .int (zoth S p.toNatClampNeg t)]) (I' := I) rfl ?_
      refine zicmp rfl rfl (fun h2 => ?_) (fun h2 => ?_)
      · have h2 := zc_eq.1.mp h2
        refine zg 2 (pc' := 40) (ls' := [(4, .int (p + 1)), (5, .int (zoth S p.toNatClampNeg t)), (0, .ref 135), (1, .int t), (2, .int came), (3, .int d)]) (st' := []) (I' := I) rfl ?_
        refine zfew (l1 := [(0, .ref 135), (1, .int t), (2, .int came), (3, .int d), (4, .int (p + 1))]) [(5, .int (zoth S p.toNatClampNeg t))] (List.Perm.trans (List.Perm.trans (List.Perm.trans (List.Perm.trans (List.Perm.trans (List.Perm.trans (List.Perm.trans (List.Perm.cons _ (List.Perm.cons _ (List.Perm.cons _ (List.Perm.swap _ _ _)))) (List.Perm.cons _ (List.Perm.cons _ (List.Perm.swap _ _ _)))) (List.Perm.cons _ (List.Perm.swap _ _ _))) (List.Perm.swap _ _ _)) (List.Perm.cons _ (List.Perm.cons _ (List.Perm.cons _ (List.Perm.cons _ (List.Perm.swap _ _ _)))))) (List.Perm.cons _ (List.Perm.cons _ (List.Perm.cons _ (List.Perm.swap _ _ _))))) (List.Perm.cons _ (List.Perm.cons _ (List.Perm.swap _ _ _)))) (List.Perm.cons _ (List.Perm.swap _ _ _))) rfl ?_
        exact ih (p + 1) _ I0 hW hf hm hu htn (by rw [zadd1 h0 (by omega)]; omega) (by rw [zadd1 h0 (by omega)]; omega)
      · have h2 := zc_eq.2.mp h2
        refine zg 2 (pc' := 73) (ls' := [(5, .int (zoth S p.toNatClampNeg t)), (0, .ref 135), (1, .int t), (2, .int came), (3, .int d), (4, .int p)]) (st' := [.int came, .int p]) (I' := I) rfl ?_
        refine zicmp rfl rfl (fun h3 => ?_) (fun h3 => ?_)
        · have h3 := zc_eq.1.mp h3
          refine zg 2 (pc' := 40) (ls' := [(4, .int (p + 1)), (5, .int (zoth S p.toNatClampNeg t)), (0, .ref 135), (1, .int t), (2, .int came), (3, .int d)]) (st' := []) (I' := I) rfl ?_
          refine zfew (l1 := [(0, .ref 135), (1, .int t), (2, .int came), (3, .int d), (4, .int (p + 1))]) [(5, .int (zoth S p.toNatClampNeg t))] (List.Perm.trans (List.Perm.trans (List.Perm.trans (List.Perm.trans (List.Perm.trans (List.Perm.trans (List.Perm.trans (List.Perm.cons _ (List.Perm.cons _ (List.Perm.cons _ (List.Perm.swap _ _ _)))) (List.Perm.cons _ (List.Perm.cons _ (List.Perm.swap _ _ _)))) (List.Perm.cons _ (List.Perm.swap _ _ _))) (List.Perm.swap _ _ _)) (List.Perm.cons _ (List.Perm.cons _ (List.Perm.cons _ (List.Perm.cons _ (List.Perm.swap _ _ _)))))) (List.Perm.cons _ (List.Perm.cons _ (List.Perm.cons _ (List.Perm.swap _ _ _))))) (List.Perm.cons _ (List.Perm.cons _ (List.Perm.swap _ _ _)))) (List.Perm.cons _ (List.Perm.swap _ _ _))) rfl ?_
          exact ih (p + 1) _ I0 hW hf hm hu htn (by rw [zadd1 h0 (by omega)]; omega) (by rw [zadd1 h0 (by omega)]; omega)
        · have h3 := zc_eq.2.mp h3
          refine zg 3 (pc' := 82) (ls' := [(5, .int (zoth S p.toNatClampNeg t)), (0, .ref 135), (1, .int t), (2, .int came), (3, .int d), (4, .int p)]) (st' := [.int p, .ref 1]) (I' := I) rfl ?_
          refine zcb rfl rfl (zt_letsThrough hB hV p h0 (by omega)) (fun h4 => ?_) (fun h4 => ?_)
          · have hox := zoth_in hV h0 (by omega) h2
            obtain ⟨no, hno, hno1⟩ := hnum (zoth S p.toNatClampNeg t).toNatClampNeg (by have : (zoth S p.toNatClampNeg t).toNatClampNeg = (zoth S p.toNatClampNeg t).toInt.toNat := rfl; omega)
            refine zg 4 (pc' := 97) (ls' := [(5, .int (zoth S p.toNatClampNeg t)), (0, .ref 135), (1, .int t), (2, .int came), (3, .int d), (4, .int p)]) (st' := [.int (zoth S p.toNatClampNeg t), .ref 137]) (I' := I) rfl ?_
            refine zia rfl rfl (zin_ok (n := 8) (by omega) (by omega)) hno ?_
            refine zif rfl rfl (fun h5 => ?_) (fun h5 => ?_)
            · have h5 := zc_eq.1.mp h5
              refine zg 6 (pc' := 134) (ls' := [(5, .int (zoth S p.toNatClampNeg t)), (0, .ref 135), (1, .int t), (2, .int came), (3, .int d), (4, .int p)]) (st' := [.int (d + 1), .int p, .int (zoth S p.toNatClampNeg t), .ref 135]) (I' := I) rfl ?_
              have hno0 : I 137 (zoth S p.toNatClampNeg t).toNatClampNeg = some 0 := by rw [hno, h5]
              have hd2 := zadd1 (x := d) (by omega) (by omega)
              refine zcj (b1 := 0) (b2 := 0) rfl rfl (rec _ p (d + 1) I hW hox.1 hox.2 hno0 hu (by omega) (by omega)) (fun J q => ?_)
              obtain ⟨hW2, hf2, hm2, hnx⟩ := q
              obtain ⟨hB2, -, ⟨bb2, hbb2⟩, hnum2⟩ := id hW2
              have htn2 : ∃ x, J 137 t.toNatClampNeg = some x ∧ ¬ x = 0 := by
                obtain ⟨x, q1, q2⟩ := htn
                exact ⟨x, hm2 _ _ q1 q2, q2⟩
              have hu2 : zun J (S 0 10).toInt.toNat ≤ u := by
                refine Nat.le_trans (zun_mono _ (fun j hjn hj => ?_)) hu
                obtain ⟨x, hx, -⟩ := hnum j (by omega)
                by_cases hx0 : x = 0
                · rw [hx, hx0]
                · have := hm2 j x hx hx0
                  rw [hj] at this
                  exact absurd (Option.some.inj this).symm hx0
              refine zg 6 (pc' := 147) (ls' := [(5, .int (zoth S p.toNatClampNeg t)), (0, .ref 135), (1, .int t), (2, .int came), (3, .int d), (4, .int p)]) (st' := [.int t, .ref 138, .int t, .ref 138]) (I' := J) rfl ?_
              obtain ⟨l6n, hl6n, hl6n0⟩ := id htn2
              obtain ⟨l6x, hl6x, hl6y⟩ := hnum2 t.toNatClampNeg (by have : t.toNatClampNeg = t.toInt.toNat := rfl; omega)
              cases Option.some.inj (hl6n.symm.trans hl6x)
              obtain ⟨l6, hl6⟩ := hl6y hl6n0
              refine zia rfl rfl (zin_ok (n := 8) (by omega) (by omega)) hl6 ?_
              refine zg 3 (pc' := 154) (ls' := [(5, .int (zoth S p.toNatClampNeg t)), (0, .ref 135), (1, .int t), (2, .int came), (3, .int d), (4, .int p)]) (st' := [.int (zoth S p.toNatClampNeg t), .ref 138, .int l6, .int t, .ref 138]) (I' := J) rfl ?_
              obtain ⟨l7x, hl7x, hl70⟩ := id hnx
              obtain ⟨l7y, hl7y, hl7z⟩ := hnum2 (zoth S p.toNatClampNeg t).toNatClampNeg (by have : (zoth S p.toNatClampNeg t).toNatClampNeg = (zoth S p.toNatClampNeg t).toInt.toNat := rfl; omega)
              cases Option.some.inj (hl7x.symm.trans hl7y)
              obtain ⟨l7, hl7⟩ := hl7z hl70
              refine zia rfl rfl (zin_ok (n := 8) (by omega) (by omega)) hl7 ?_
              refine zg 1 (pc' := 158) (ls' := [(5, .int (zoth S p.toNatClampNeg t)), (0, .ref 135), (1, .int t), (2, .int came), (3, .int d), (4, .int p)]) (st' := [.int (if l7 < l6 then l7 else l6), .int t, .ref 138]) (I' := J) rfl ?_
              refine zis rfl rfl (zin_ok (n := 8) (by omega) (by omega)) ?_
              refine zg 3 (pc' := 165) (ls' := [(5, .int (zoth S p.toNatClampNeg t)), (0, .ref 135), (1, .int t), (2, .int came), (3, .int d), (4, .int p)]) (st' := [.int (zoth S p.toNatClampNeg t), .ref 138]) (I' := (zup J 138 t.toNatClampNeg (if l7 < l6 then l7 else l6))) rfl ?_
              obtain ⟨l8x, hl8x, hl80⟩ := id hnx
              obtain ⟨l8y, hl8y, hl8z⟩ := hnum2 (zoth S p.toNatClampNeg t).toNatClampNeg (by have : (zoth S p.toNatClampNeg t).toNatClampNeg = (zoth S p.toNatClampNeg t).toInt.toNat := rfl; omega)
              cases Option.some.inj (hl8x.symm.trans hl8y)
              obtain ⟨l8w, hl8w⟩ := hl8z hl80
              obtain ⟨l8, hl8⟩ : ∃ z, (zup J 138 t.toNatClampNeg (if l7 < l6 then l7 else l6)) 138 (zoth S p.toNatClampNeg t).toNatClampNeg = some z := by
                rw [zup_at]
                split
                · exact ⟨_, rfl⟩
                · exact ⟨_, hl8w⟩
              refine zia rfl rfl (zin_ok (n := 8) (by omega) (by omega)) hl8 ?_
              refine zg 3 (pc' := 171) (ls' := [(5, .int (zoth S p.toNatClampNeg t)), (0, .ref 135), (1, .int t), (2, .int came), (3, .int d), (4, .int p)]) (st' := [.int t, .ref 137, .int l8]) (I' := (zup J 138 t.toNatClampNeg (if l7 < l6 then l7 else l6))) rfl ?_
              obtain ⟨nt, hnt, hnt0⟩ := id htn2
              refine zia rfl rfl (zin_ok (n := 8) (by omega) (by omega)) hnt ?_
              refine zicmp rfl rfl (fun h9 => ?_) (fun h9 => ?_)
              · have h9 := zc_le.1.mp h9
                refine zg 2 (pc' := 40) (ls' := [(4, .int (p + 1)), (5, .int (zoth S p.toNatClampNeg t)), (0, .ref 135), (1, .int t), (2, .int came), (3, .int d)]) (st' := []) (I' := (zup J 138 t.toNatClampNeg (if l7 < l6 then l7 else l6))) rfl ?_
                refine zfew (l1 := [(0, .ref 135), (1, .int t), (2, .int came), (3, .int d), (4, .int (p + 1))]) [(5, .int (zoth S p.toNatClampNeg t))] (List.Perm.trans (List.Perm.trans (List.Perm.trans (List.Perm.trans (List.Perm.trans (List.Perm.trans (List.Perm.trans (List.Perm.cons _ (List.Perm.cons _ (List.Perm.cons _ (List.Perm.swap _ _ _)))) (List.Perm.cons _ (List.Perm.cons _ (List.Perm.swap _ _ _)))) (List.Perm.cons _ (List.Perm.swap _ _ _))) (List.Perm.swap _ _ _)) (List.Perm.cons _ (List.Perm.cons _ (List.Perm.cons _ (List.Perm.cons _ (List.Perm.swap _ _ _)))))) (List.Perm.cons _ (List.Perm.cons _ (List.Perm.cons _ (List.Perm.swap _ _ _))))) (List.Perm.cons _ (List.Perm.cons _ (List.Perm.swap _ _ _)))) (List.Perm.cons _ (List.Perm.swap _ _ _))) rfl ?_
                exact ih (p + 1) _ I0 (zWI_l hW2 _ _) (zfr_up (zfr_trans hf hf2) rfl) (zWm_trans hm hm2) (Nat.le_trans (zun_mono (I := J) _ (fun j _ hj => hj)) hu2) htn2 (by rw [zadd1 h0 (by omega)]; omega) (by rw [zadd1 h0 (by omega)]; omega)
              · have h9 := zc_le.2.mp h9
                refine zg 2 (pc' := 177) (ls' := [(5, .int (zoth S p.toNatClampNeg t)), (0, .ref 135), (1, .int t), (2, .int came), (3, .int d), (4, .int p)]) (st' := [.ref 135, .ref 135]) (I' := (zup J 138 t.toNatClampNeg (if l7 < l6 then l7 else l6))) rfl ?_
                refine zgf rfl rfl rfl hbb2 ?_
                refine zg 2 (pc' := 182) (ls' := [(5, .int (zoth S p.toNatClampNeg t)), (0, .ref 135), (1, .int t), (2, .int came), (3, .int d), (4, .int p)]) (st' := [.int (bb2 + 1), .ref 135]) (I' := (zup J 138 t.toNatClampNeg (if l7 < l6 then l7 else l6))) rfl ?_
                refine zpf rfl rfl rfl rfl rfl ?_
                refine zg 2 (pc' := 40) (ls' := [(4, .int (p + 1)), (5, .int (zoth S p.toNatClampNeg t)), (0, .ref 135), (1, .int t), (2, .int came), (3, .int d)]) (st' := []) (I' := (zup (zup J 138 t.toNatClampNeg (if l7 < l6 then l7 else l6)) 135 11 (bb2 + 1))) rfl ?_
                refine zfew (l1 := [(0, .ref 135), (1, .int t), (2, .int came), (3, .int d), (4, .int (p + 1))]) [(5, .int (zoth S p.toNatClampNeg t))] (List.Perm.trans (List.Perm.trans (List.Perm.trans (List.Perm.trans (List.Perm.trans (List.Perm.trans (List.Perm.trans (List.Perm.cons _ (List.Perm.cons _ (List.Perm.cons _ (List.Perm.swap _ _ _)))) (List.Perm.cons _ (List.Perm.cons _ (List.Perm.swap _ _ _)))) (List.Perm.cons _ (List.Perm.swap _ _ _))) (List.Perm.swap _ _ _)) (List.Perm.cons _ (List.Perm.cons _ (List.Perm.cons _ (List.Perm.cons _ (List.Perm.swap _ _ _)))))) (List.Perm.cons _ (List.Perm.cons _ (List.Perm.cons _ (List.Perm.swap _ _ _))))) (List.Perm.cons _ (List.Perm.cons _ (List.Perm.swap _ _ _)))) (List.Perm.cons _ (List.Perm.swap _ _ _))) rfl ?_
                exact ih (p + 1) _ I0 (zWI_b (zWI_l hW2 _ _) _) (zfr_up (zfr_up (zfr_trans hf hf2) rfl) rfl) (zWm_trans hm hm2) (Nat.le_trans (zun_mono (I := J) _ (fun j _ hj => hj)) hu2) htn2 (by rw [zadd1 h0 (by omega)]; omega) (by rw [zadd1 h0 (by omega)]; omega)
            · have h5 := zc_eq.2.mp h5
              refine zg 6 (pc' := 111) (ls' := [(5, .int (zoth S p.toNatClampNeg t)), (0, .ref 135), (1, .int t), (2, .int came), (3, .int d), (4, .int p)]) (st' := [.int t, .ref 138, .int t, .ref 138]) (I' := I) rfl ?_
              obtain ⟨l10n, hl10n, hl10n0⟩ := id htn
              obtain ⟨l10x, hl10x, hl10y⟩ := hnum t.toNatClampNeg (by have : t.toNatClampNeg = t.toInt.toNat := rfl; omega)
              cases Option.some.inj (hl10n.symm.trans hl10x)
              obtain ⟨l10, hl10⟩ := hl10y hl10n0
              refine zia rfl rfl (zin_ok (n := 8) (by omega) (by omega)) hl10 ?_
              refine zg 3 (pc' := 118) (ls' := [(5, .int (zoth S p.toNatClampNeg t)), (0, .ref 135), (1, .int t), (2, .int came), (3, .int d), (4, .int p)]) (st' := [.int (zoth S p.toNatClampNeg t), .ref 137, .int l10, .int t, .ref 138]) (I' := I) rfl ?_
              refine zia rfl rfl (zin_ok (n := 8) (by omega) (by omega)) hno ?_
              refine zg 1 (pc' := 122) (ls' := [(5, .int (zoth S p.toNatClampNeg t)), (0, .ref 135), (1, .int t), (2, .int came), (3, .int d), (4, .int p)]) (st' := [.int (if no < l10 then no else l10), .int t, .ref 138]) (I' := I) rfl ?_
              refine zis rfl rfl (zin_ok (n := 8) (by omega) (by omega)) ?_
              refine zg 3 (pc' := 40) (ls' := [(4, .int (p + 1)), (5, .int (zoth S p.toNatClampNeg t)), (0, .ref 135), (1, .int t), (2, .int came), (3, .int d)]) (st' := []) (I' := (zup I 138 t.toNatClampNeg (if no < l10 then no else l10))) rfl ?_
              refine zfew (l1 := [(0, .ref 135), (1, .int t), (2, .int came), (3, .int d), (4, .int (p + 1))]) [(5, .int (zoth S p.toNatClampNeg t))] (List.Perm.trans (List.Perm.trans (List.Perm.trans (List.Perm.trans (List.Perm.trans (List.Perm.trans (List.Perm.trans (List.Perm.cons _ (List.Perm.cons _ (List.Perm.cons _ (List.Perm.swap _ _ _)))) (List.Perm.cons _ (List.Perm.cons _ (List.Perm.swap _ _ _)))) (List.Perm.cons _ (List.Perm.swap _ _ _))) (List.Perm.swap _ _ _)) (List.Perm.cons _ (List.Perm.cons _ (List.Perm.cons _ (List.Perm.cons _ (List.Perm.swap _ _ _)))))) (List.Perm.cons _ (List.Perm.cons _ (List.Perm.cons _ (List.Perm.swap _ _ _))))) (List.Perm.cons _ (List.Perm.cons _ (List.Perm.swap _ _ _)))) (List.Perm.cons _ (List.Perm.swap _ _ _))) rfl ?_
              exact ih (p + 1) _ I0 (zWI_l hW _ _) (zfr_up hf rfl) hm (Nat.le_trans (zun_mono (I := I) _ (fun j _ hj => hj)) hu) htn (by rw [zadd1 h0 (by omega)]; omega) (by rw [zadd1 h0 (by omega)]; omega)
          · skip
            refine zg 4 (pc' := 40) (ls' := [(4, .int (p + 1)), (5, .int (zoth S p.toNatClampNeg t)), (0, .ref 135), (1, .int t), (2, .int came), (3, .int d)]) (st' := []) (I' := I) rfl ?_
            refine zfew (l1 := [(0, .ref 135), (1, .int t), (2, .int came), (3, .int d), (4, .int (p + 1))]) [(5, .int (zoth S p.toNatClampNeg t))] (List.Perm.trans (List.Perm.trans (List.Perm.trans (List.Perm.trans (List.Perm.trans (List.Perm.trans (List.Perm.trans (List.Perm.cons _ (List.Perm.cons _ (List.Perm.cons _ (List.Perm.swap _ _ _)))) (List.Perm.cons _ (List.Perm.cons _ (List.Perm.swap _ _ _)))) (List.Perm.cons _ (List.Perm.swap _ _ _))) (List.Perm.swap _ _ _)) (List.Perm.cons _ (List.Perm.cons _ (List.Perm.cons _ (List.Perm.cons _ (List.Perm.swap _ _ _)))))) (List.Perm.cons _ (List.Perm.cons _ (List.Perm.cons _ (List.Perm.swap _ _ _))))) (List.Perm.cons _ (List.Perm.cons _ (List.Perm.swap _ _ _)))) (List.Perm.cons _ (List.Perm.swap _ _ _))) rfl ?_
            exact ih (p + 1) _ I0 hW hf hm hu htn (by rw [zadd1 h0 (by omega)]; omega) (by rw [zadd1 h0 (by omega)]; omega)
theorem zt_walk {sl dy : Nat} {S : Nat → Nat → Int32} (hV : zOK S) : ∀ (u : Nat) (D : Nat) (t came d : Int32) (I : zM), zWI S I → 0 ≤ t.toInt → t.toInt < (S 0 10).toInt → I 137 t.toNatClampNeg = some 0 → zun I (S 0 10).toInt.toNat ≤ u → 1 ≤ d.toInt → d.toInt + (u : Int) ≤ 9 → zW sl (D + u + 1) dy 8 0 [(0, .ref 135), (1, .int t), (2, .int came), (3, .int d)] [] I (zRg 0 (zQj (zQw S I t))) := by
  intro u
  induction u with
  | zero =>
    intro D t came d I hW ht0 ht1 hn hu hd0 hd1
    have := zun_pos hn (S 0 10).toInt.toNat (by have : t.toNatClampNeg = t.toInt.toNat := rfl; omega)
    omega
  | succ u ih =>
    intro D t came d I hW ht0 ht1 hn hu hd0 hd1
    obtain ⟨hB, ⟨m, hm, hm0, hm1⟩, hbb, hnum⟩ := id hW
    have hT := hV.1
    have hP := hV.2.1
    have z0 := zi0
    have z8 := zi8
    have z20 := zi20
    refine zg 2 (pc' := 3) (ls' := [(0, .ref 135), (1, .int t), (2, .int came), (3, .int d)]) (st' := [.int 8, .int d]) (I' := I) rfl ?_
    refine zicmp rfl rfl (fun h1 => ?_) (fun h1 => ?_)
    · have h1 := zc_le.1.mp h1
      refine zg 2 (pc' := 9) (ls' := [(0, .ref 135), (1, .int t), (2, .int came), (3, .int d)]) (st' := [.ref 135, .ref 135]) (I' := I) rfl ?_
      refine zgf rfl rfl rfl hm ?_
      refine zg 2 (pc' := 14) (ls' := [(0, .ref 135), (1, .int t), (2, .int came), (3, .int d)]) (st' := [.int (m + 1), .ref 135]) (I' := I) rfl ?_
      refine zpf rfl rfl rfl rfl rfl ?_
      refine zg 4 (pc' := 23) (ls' := [(0, .ref 135), (1, .int t), (2, .int came), (3, .int d)]) (st' := [.ref 135, .int t, .ref 137]) (I' := (zup I 135 10 (m + 1))) rfl ?_
      refine zgf rfl rfl rfl rfl ?_
      refine zis rfl rfl (zin_ok (n := 8) (by omega) (by omega)) ?_
      refine zg 4 (pc' := 33) (ls' := [(0, .ref 135), (1, .int t), (2, .int came), (3, .int d)]) (st' := [.ref 135, .int t, .ref 138]) (I' := (zup (zup I 135 10 (m + 1)) 137 t.toNatClampNeg (m + 1))) rfl ?_
      refine zgf rfl rfl rfl rfl ?_
      refine zis rfl rfl (zin_ok (n := 8) (by omega) (by omega)) ?_
      refine zg 2 (pc' := 40) (ls' := [(4, .int 0), (0, .ref 135), (1, .int t), (2, .int came), (3, .int d)]) (st' := []) (I' := (zup (zup (zup I 135 10 (m + 1)) 137 t.toNatClampNeg (m + 1)) 138 t.toNatClampNeg (m + 1))) rfl ?_
      refine zLp (List.Perm.trans (List.Perm.trans (List.Perm.trans (List.Perm.cons _ (List.Perm.cons _ (List.Perm.cons _ (List.Perm.swap _ _ _)))) (List.Perm.cons _ (List.Perm.cons _ (List.Perm.swap _ _ _)))) (List.Perm.cons _ (List.Perm.swap _ _ _))) (List.Perm.swap _ _ _)) rfl ?_
      obtain ⟨q1, q2, q3⟩ := zWI_n (y := m + 1) hW hm ht0 ht1 hV.1.2 hn
      have hm2 : zWm I (zup (zup (zup I 135 10 (m + 1)) 137 t.toNatClampNeg (m + 1)) 138 t.toNatClampNeg (m + 1)) := fun k x hx hx0 => by
        rw [zup_at, if_neg (by simp), zup_at]
        split
        · rename_i hc
          rw [hc.2, hn] at hx
          exact absurd (Option.some.inj hx).symm hx0
        · exact hx
      exact zt_wl (D := D + u + 1) hV u (fun t came d I a1 a2 a3 a4 a5 a6 a7 => ih D t came d I a1 a2 a3 a4 a5 a6 a7) t came d ht0 ht1 hd0 (by omega) (S 0 11).toInt.toNat 0 _ I q2 (zfr_up (zfr_up (zfr_up (zfr_refl I) rfl) rfl) rfl) hm2 (by omega) ⟨m + 1, by rw [zup_at, if_neg (by simp), zup_at, if_pos ⟨rfl, rfl⟩], q1⟩ (by decide) (by rw [z0]; omega)
    · have h1 := zc_le.2.mp h1
      exfalso; omega
theorem zt_brl {sl D dy : Nat} {S : Nat → Nat → Int32} (hV : zOK S) : ∀ (k : Nat) (t : Int32) (I I0 : zM) (hW : zWI S I) (hf : zfr I0 I) (h0 : 0 ≤ t.toInt) (hk : t.toInt + (k : Int) = (S 0 10).toInt), zW sl (D + 10) dy 7 20 [(0, .ref 135), (1, .int t)] [] I (zRg 0 (zQk (zfr I0))) := by
  intro k
  induction k with
  | zero =>
    intro t I I0 hW hf h0 hk
    obtain ⟨hB, -, ⟨bb, hbb⟩, hnum⟩ := id hW
    have hT := hV.1
    have hP := hV.2.1
    have z0 := zi0
    have z8 := zi8
    have z20 := zi20
    refine zg 3 (pc' := 25) (ls' := [(0, .ref 135), (1, .int t)]) (st' := [.ref 1, .int t]) (I' := I) rfl ?_
    refine zgf rfl rfl rfl (hB 0 10 rfl) ?_
    refine zicmp rfl rfl (fun h1 => ?_) (fun h1 => ?_)
    · have h1 := zc_ge.1.mp h1
      refine zg 1 (pc' := 54) (ls' := [(0, .ref 135), (1, .int t)]) (st' := [.ref 135]) (I' := I) rfl ?_
      refine zgf rfl rfl rfl hbb ?_
      refine ziret rfl rfl rfl ?_
      exact ⟨rfl, ⟨_, rfl⟩, hf⟩
    · have h1 := zc_ge.2.mp h1
      exfalso; omega
  | succ k ih =>
    intro t I I0 hW hf h0 hk
    obtain ⟨hB, -, ⟨bb, hbb⟩, hnum⟩ := id hW
    have hT := hV.1
    have hP := hV.2.1
    have z0 := zi0
    have z8 := zi8
    have z20 := zi20
    refine zg 3 (pc' := 25) (ls' := [(0, .ref 135), (1, .int t)]) (st' := [.ref 1, .int t]) (I' := I) rfl ?_
    refine zgf rfl rfl rfl (hB 0 10 rfl) ?_
    refine zicmp rfl rfl (fun h1 => ?_) (fun h1 => ?_)
    · have h1 := zc_ge.1.mp h1
      exfalso; omega
    · have h1 := zc_ge.2.mp h1
      obtain ⟨no, hno, hno1⟩ := hnum t.toNatClampNeg (by have : t.toNatClampNeg = t.toInt.toNat := rfl; omega)
      refine zg 3 (pc' := 36) (ls' := [(0, .ref 135), (1, .int t)]) (st' := [.int t, .ref 137]) (I' := I) rfl ?_
      refine zia rfl rfl (zin_ok (n := 8) (by omega) (by omega)) hno ?_
      refine zif rfl rfl (fun h2 => ?_) (fun h2 => ?_)
      · have h2 := zc_ne.1.mp h2
        refine zg 2 (pc' := 20) (ls' := [(1, .int (t + 1)), (0, .ref 135)]) (st' := []) (I' := I) rfl ?_
        refine zLp (List.Perm.swap _ _ _) rfl ?_
        exact ih (t + 1) I I0 hW hf (by rw [zadd1 h0 (by omega)]; omega) (by rw [zadd1 h0 (by omega)]; omega)
      · have h2 := zc_ne.2.mp h2
        refine zg 4 (pc' := 44) (ls' := [(0, .ref 135), (1, .int t)]) (st' := [.int 1, .int (-1), .int t, .ref 135]) (I' := I) rfl ?_
        have hno0 : I 137 t.toNatClampNeg = some 0 := by rw [hno, h2]
        refine zcj (b1 := 0) (b2 := 0) rfl rfl (zt_walk hV 8 D t (-1) 1 I hW h0 (by omega) hno0 (Nat.le_trans (zun_le I _) (by omega)) (by decide) (by decide)) (fun J q => ?_)
        obtain ⟨hW2, hf2, -, -⟩ := q
        refine zg 2 (pc' := 20) (ls' := [(1, .int (t + 1)), (0, .ref 135)]) (st' := []) (I' := J) rfl ?_
        refine zLp (List.Perm.swap _ _ _) rfl ?_
        exact ih (t + 1) J I0 hW2 (zfr_trans hf hf2) (by rw [zadd1 h0 (by omega)]; omega) (by rw [zadd1 h0 (by omega)]; omega)
theorem zWI_0 {S : Nat → Nat → Int32} {I : zM} (hB : zSB 1 S I) (hV : zOK S) : zWI S (zup (zup (zfl I 137 8 0) 135 10 0) 135 11 0) := by
  have hu := zun_le (zup (zup (zfl I 137 8 0) 135 10 0) 135 11 0) (S 0 10).toInt.toNat
  have hT := hV.1
  have z0 := zi0
  refine ⟨zSB_fr hB (zfr_up (zfr_up (zfl_fr (zfr_refl I) rfl) rfl) rfl), ⟨0, rfl, by decide, by omega⟩, ⟨0, rfl⟩, fun k hk => ⟨0, ?_, fun h => absurd rfl h⟩⟩
  rw [zup_at, if_neg (by simp), zup_at, if_neg (by simp)]
  unfold zfl
  rw [if_pos ⟨rfl, hk⟩]
theorem zt_bridges {sl D dy : Nat} {I : zM} {S : Nat → Nat → Int32} (hB : zSB 1 S I) (hV : zOK S) : zW sl (D + 10) dy 7 0 [(0, .ref 135)] [] I (zRg 0 (zQk (zfr I))) := by
  refine zg 3 (pc' := 5) (ls' := [(0, .ref 135)]) (st' := [.int 0, .ref 137]) (I' := I) rfl ?_
  refine zcm rfl rfl (zt_fill (n := 8) rfl (by decide)) ?_
  refine zg 2 (pc' := 10) (ls' := [(0, .ref 135)]) (st' := [.int 0, .ref 135]) (I' := (zfl I 137 8 0)) rfl ?_
  refine zpf rfl rfl rfl rfl rfl ?_
  refine zg 2 (pc' := 15) (ls' := [(0, .ref 135)]) (st' := [.int 0, .ref 135]) (I' := (zup (zfl I 137 8 0) 135 10 0)) rfl ?_
  refine zpf rfl rfl rfl rfl rfl ?_
  refine zg 2 (pc' := 20) (ls' := [(1, .int 0), (0, .ref 135)]) (st' := []) (I' := (zup (zup (zfl I 137 8 0) 135 10 0) 135 11 0)) rfl ?_
  refine zLp (List.Perm.swap _ _ _) rfl ?_
  exact zt_brl hV (S 0 10).toInt.toNat 0 _ I (zWI_0 hB hV) (zfr_up (zfr_up (zfl_fr (zfr_refl I) rfl) rfl) rfl) (by decide) (by have := hV.1; have z0 := zi0; omega)
theorem zt_bridgeCount {sl D dy : Nat} {I : zM} {S : Nat → Nat → Int32} (hB : zSB 1 S I) (hV : zOK S) : zW sl (D + 11) dy 102 0 [(0, .ref 0)] [] I (zRg 0 (zQk (zfr I))) := by
  refine zg 2 (pc' := 4) (ls' := [(0, .ref 0)]) (st' := [.ref 135]) (I' := I) rfl ?_
  refine zck (b1 := 0) (b2 := 0) rfl rfl (zt_bridges hB hV) (fun x J q => ?_)
  refine ziret rfl rfl rfl ?_
  exact ⟨rfl, ⟨_, rfl⟩, q⟩
theorem zt_groupCount {sl D dy : Nat} {I : zM} {S : Nat → Nat → Int32} (hB : zSB 1 S I) (hV : zOK S) : zW sl (D + 4) dy 100 0 [(0, .ref 0)] [] I (zRg 0 (zQi I)) := by
  refine zg 2 (pc' := 4) (ls' := [(0, .ref 0)]) (st' := [.ref 135]) (I' := I) rfl ?_
  refine zci rfl rfl (zt_groups hB hV) (fun x1 => ?_)
  refine ziret rfl rfl rfl ?_
  exact zi1
