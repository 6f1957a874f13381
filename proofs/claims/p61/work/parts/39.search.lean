/-! CONTRACTS: the search of the cleanest way -/
theorem zt_arrive {sl D dy : Nat} {I : zM} {S : Nat → Nat → Int32} (hI : zSI S I) (hV : zOK S) (t s : Int32) (ht0 : 0 ≤ t.toInt) (ht1 : t.toInt < (S 0 10).toInt) (hs0 : 0 ≤ s.toInt) (hs1 : s.toInt ≤ 255) : zW sl (D + 1) dy 14 0 [(0, .ref 135), (1, .int t), (2, .int s)] [] I (zRg 0 (zQj (fun J => zSI S J ∧ zfr I J))) := by
  obtain ⟨hB, ⟨q, hq, hq0, hq1, hqe⟩, hx2a, hx0a⟩ := id hI
  obtain ⟨x2, hx2⟩ := hx2a s.toNatClampNeg (by have : s.toNatClampNeg = s.toInt.toNat := rfl; omega)
  obtain ⟨x0, hx0⟩ := hx0a t.toNatClampNeg (by have : t.toNatClampNeg = t.toInt.toNat := rfl; have := hV.1; omega)
  have hT := hV.1
  have z256 : (256 : Int32).toInt = 256 := rfl
  have z2048 : (2048 : Int32).toInt = 2048 := rfl
  have zo2048 : (Int32.ofNat 2048).toInt = 2048 := rfl
  have he : 0 ≤ (t * 256 + s).toInt ∧ (t * 256 + s).toInt < (S 0 10).toInt * 256 := by
    have h1 := zti_mul (x := t) (y := 256) (by rw [z256]; omega) (by rw [z256]; omega)
    rw [z256] at h1
    have h2 := zti_add (x := t * 256) (y := s) (by omega) (by omega)
    omega
  refine zg 3 (pc' := 5) (ls' := [(0, .ref 135), (1, .int t), (2, .int s)]) (st' := [.int s, .ref 142]) (I' := I) rfl ?_
  refine zia rfl rfl (zin_ok (n := 256) (by omega) (by omega)) hx2 ?_
  refine zg 1 (pc' := 7) (ls' := [(0, .ref 135), (1, .int t), (2, .int s)]) (st' := [.int t, .int x2]) (I' := I) rfl ?_
  refine zcb rfl rfl (zt_cont x2 t) (fun h1 => ?_) (fun h1 => ?_)
  · skip
    refine zg 1 (pc' := 25) (ls' := [(0, .ref 135), (1, .int t), (2, .int s)]) (st' := []) (I' := I) rfl ?_
    refine zret rfl rfl ?_
    exact ⟨rfl, rfl, hI, zfr_refl I⟩
  · skip
    refine zg 2 (pc' := 14) (ls' := [(0, .ref 135), (1, .int t), (2, .int s)]) (st' := [.ref 135]) (I' := I) rfl ?_
    refine zgf rfl rfl rfl hq ?_
    refine zg 2 (pc' := 21) (ls' := [(0, .ref 135), (1, .int t), (2, .int s)]) (st' := [.ref 143, .int q]) (I' := I) rfl ?_
    refine zal rfl (n := 2048) rfl (by decide) ?_
    refine zicmp rfl rfl (fun h2 => ?_) (fun h2 => ?_)
    · have h2 := zc_lt.1.mp h2
      refine zg 4 (pc' := 32) (ls' := [(0, .ref 135), (1, .int t), (2, .int s)]) (st' := [.int s, .ref 142, .int s, .ref 142]) (I' := I) rfl ?_
      refine zia rfl rfl (zin_ok (n := 256) (by omega) (by omega)) hx2 ?_
      refine zg 4 (pc' := 37) (ls' := [(0, .ref 135), (1, .int t), (2, .int s)]) (st' := [.int ((x2 ||| (1 <<< (t &&& 31)))), .int s, .ref 142]) (I' := I) rfl ?_
      refine zis rfl rfl (zin_ok (n := 256) (by omega) (by omega)) ?_
      refine zg 3 (pc' := 43) (ls' := [(0, .ref 135), (1, .int t), (2, .int s)]) (st' := [.ref 135, .ref 143]) (I' := (zup I 142 s.toNatClampNeg ((x2 ||| (1 <<< (t &&& 31)))))) rfl ?_
      refine zgf rfl rfl rfl hq ?_
      refine zg 5 (pc' := 53) (ls' := [(0, .ref 135), (1, .int t), (2, .int s)]) (st' := [.int (((t * 256) + s)), .int q, .ref 143]) (I' := (zup I 142 s.toNatClampNeg ((x2 ||| (1 <<< (t &&& 31)))))) rfl ?_
      refine zis rfl rfl (zin_ok (n := 2048) (by omega) (by omega)) ?_
      refine zg 2 (pc' := 56) (ls' := [(0, .ref 135), (1, .int t), (2, .int s)]) (st' := [.ref 135, .ref 135]) (I' := (zup (zup I 142 s.toNatClampNeg ((x2 ||| (1 <<< (t &&& 31))))) 143 q.toNatClampNeg (((t * 256) + s)))) rfl ?_
      refine zgf rfl rfl rfl hq ?_
      refine zg 2 (pc' := 61) (ls' := [(0, .ref 135), (1, .int t), (2, .int s)]) (st' := [.int (q + 1), .ref 135]) (I' := (zup (zup I 142 s.toNatClampNeg ((x2 ||| (1 <<< (t &&& 31))))) 143 q.toNatClampNeg (((t * 256) + s)))) rfl ?_
      refine zpf rfl rfl rfl rfl rfl ?_
      refine zg 1 (pc' := 65) (ls' := [(0, .ref 135), (1, .int t), (2, .int s)]) (st' := [.int s]) (I' := (zup (zup (zup I 142 s.toNatClampNeg ((x2 ||| (1 <<< (t &&& 31))))) 143 q.toNatClampNeg (((t * 256) + s))) 135 9 (q + 1))) rfl ?_
      refine zcf rfl rfl (zt_bc0 s) ?_
      refine zg 4 (pc' := 74) (ls' := [(3, .int (zbc s)), (0, .ref 135), (1, .int t), (2, .int s)]) (st' := [.int t, .ref 140]) (I' := (zup (zup (zup I 142 s.toNatClampNeg ((x2 ||| (1 <<< (t &&& 31))))) 143 q.toNatClampNeg (((t * 256) + s))) 135 9 (q + 1))) rfl ?_
      refine zia rfl rfl (zin_ok (n := 8) (by omega) (by omega)) hx0 ?_
      refine zg 1 (pc' := 76) (ls' := [(3, .int (zbc s)), (0, .ref 135), (1, .int t), (2, .int s)]) (st' := [.int (-1), .int x0]) (I' := (zup (zup (zup I 142 s.toNatClampNeg ((x2 ||| (1 <<< (t &&& 31))))) 143 q.toNatClampNeg (((t * 256) + s))) 135 9 (q + 1))) rfl ?_
      refine zicmp rfl rfl (fun h3 => ?_) (fun h3 => ?_)
      · have h3 := zc_eq.1.mp h3
        refine zg 4 (pc' := 95) (ls' := [(3, .int (zbc s)), (0, .ref 135), (1, .int t), (2, .int s)]) (st' := [.int (zbc s), .int t, .ref 140]) (I' := (zup (zup (zup I 142 s.toNatClampNeg ((x2 ||| (1 <<< (t &&& 31))))) 143 q.toNatClampNeg (((t * 256) + s))) 135 9 (q + 1))) rfl ?_
        refine zis rfl rfl (zin_ok (n := 8) (by omega) (by omega)) ?_
        refine zret rfl rfl ?_
        exact ⟨rfl, rfl, zSI_a (zSI_b hI _ _ hq hq0 (by omega) he) _ _, zfr_up (zfr_up (zfr_up (zfr_up (zfr_refl I) rfl) rfl) rfl) rfl⟩
      · have h3 := zc_eq.2.mp h3
        refine zg 4 (pc' := 85) (ls' := [(3, .int (zbc s)), (0, .ref 135), (1, .int t), (2, .int s)]) (st' := [.int t, .ref 140, .int (zbc s)]) (I' := (zup (zup (zup I 142 s.toNatClampNeg ((x2 ||| (1 <<< (t &&& 31))))) 143 q.toNatClampNeg (((t * 256) + s))) 135 9 (q + 1))) rfl ?_
        refine zia rfl rfl (zin_ok (n := 8) (by omega) (by omega)) hx0 ?_
        refine zicmp rfl rfl (fun h4 => ?_) (fun h4 => ?_)
        · have h4 := zc_ge.1.mp h4
          refine zret rfl rfl ?_
          exact ⟨rfl, rfl, zSI_b hI _ _ hq hq0 (by omega) he, zfr_up (zfr_up (zfr_up (zfr_refl I) rfl) rfl) rfl⟩
        · have h4 := zc_ge.2.mp h4
          refine zg 4 (pc' := 95) (ls' := [(3, .int (zbc s)), (0, .ref 135), (1, .int t), (2, .int s)]) (st' := [.int (zbc s), .int t, .ref 140]) (I' := (zup (zup (zup I 142 s.toNatClampNeg ((x2 ||| (1 <<< (t &&& 31))))) 143 q.toNatClampNeg (((t * 256) + s))) 135 9 (q + 1))) rfl ?_
          refine zis rfl rfl (zin_ok (n := 8) (by omega) (by omega)) ?_
          refine zret rfl rfl ?_
          exact ⟨rfl, rfl, zSI_a (zSI_b hI _ _ hq hq0 (by omega) he) _ _, zfr_up (zfr_up (zfr_up (zfr_up (zfr_refl I) rfl) rfl) rfl) rfl⟩
    · have h2 := zc_lt.2.mp h2
      refine zret rfl rfl ?_
      exact ⟨rfl, rfl, hI, zfr_refl I⟩
/-- behind the search -/
def zQs (S : Nat → Nat → Int32) (I0 : zM) : Nat → Option Value → zM → Prop := zQj (fun J => zSI S J ∧ zfr I0 J)
theorem zt_si {sl D dy : Nat} {S : Nat → Nat → Int32} (hV : zOK S) {R : Nat → Option Value → zM → Prop} (f x t s : Int32) (hs0 : 0 ≤ s.toInt) (hs1 : s.toInt ≤ 255) : ∀ (k : Nat) (p : Int32) (I I0 : zM) (hI : zSI S I) (hf : zfr I0 I) (h0 : 0 ≤ p.toInt) (hk : p.toInt + (k : Int) = (S 0 11).toInt)
    (next : ∀ (p : Int32) (J : zM), zSI S J → zfr I0 J → zW sl (D + 2) dy 13 149 [(0, .ref 135), (1, .int f), (2, .int x), (3, .int t), (4, .int s), (5, .int p)] [] J (zRg 0 R)), zW sl (D + 2) dy 13 80 [(0, .ref 135), (1, .int f), (2, .int x), (3, .int t), (4, .int s), (5, .int p)] [] I (zRg 0 R) := by
  intro k
  induction k with
  | zero =>
    intro p I I0 hI hf h0 hk next
    obtain ⟨hB, -⟩ := id hI
    have hT := hV.1
    have hP := hV.2.1
    have z0 := zi0
    have z8 := zi8
    have z20 := zi20
    refine zg 3 (pc' := 86) (ls' := [(0, .ref 135), (1, .int f), (2, .int x), (3, .int t), (4, .int s), (5, .int p)]) (st' := [.ref 1, .int p]) (I' := I) rfl ?_
    refine zgf rfl rfl rfl (hB 0 11 rfl) ?_
    refine zicmp rfl rfl (fun h1 => ?_) (fun h1 => ?_)
    · have h1 := zc_ge.1.mp h1
      exact next p I hI hf
    · have h1 := zc_ge.2.mp h1
      exfalso; omega
  | succ k ih =>
    intro p I I0 hI hf h0 hk next
    obtain ⟨hB, -⟩ := id hI
    have hT := hV.1
    have hP := hV.2.1
    have z0 := zi0
    have z8 := zi8
    have z20 := zi20
    refine zg 3 (pc' := 86) (ls' := [(0, .ref 135), (1, .int f), (2, .int x), (3, .int t), (4, .int s), (5, .int p)]) (st' := [.ref 1, .int p]) (I' := I) rfl ?_
    refine zgf rfl rfl rfl (hB 0 11 rfl) ?_
    refine zicmp rfl rfl (fun h1 => ?_) (fun h1 => ?_)
    · have h1 := zc_ge.1.mp h1
      exfalso; omega
    · have h1 := zc_ge.2.mp h1
      refine zg 4 (pc' := 99) (ls' := [(0, .ref 135), (1, .int f), (2, .int x), (3, .int t), (4, .int s), (5, .int p)]) (st' := [.int t, .int p, .ref 1]) (I' := I) rfl ?_
      refine zcf rfl rfl (zt_other hB hV p t h0 (by omega)) ?_
      refine zg 3 (pc' := 107) (ls' := [(6, .int (zoth S p.toNatClampNeg t)), (0, .ref 135), (1, .int f), (2, .int x), (3, .int t), (4, .int s), (5, .int p)]) (st' := [.int (-1), .int (zoth S p.toNatClampNeg t)]) (I' := I) rfl ?_
      refine zicmp rfl rfl (fun h2 => ?_) (fun h2 => ?_)
      · have h2 := zc_eq.1.mp h2
        refine zg 2 (pc' := 80) (ls' := [(5, .int (p + 1)), (6, .int (zoth S p.toNatClampNeg t)), (0, .ref 135), (1, .int f), (2, .int x), (3, .int t), (4, .int s)]) (st' := []) (I' := I) rfl ?_
        refine zfew (l1 := [(0, .ref 135), (1, .int f), (2, .int x), (3, .int t), (4, .int s), (5, .int (p + 1))]) [(6, .int (zoth S p.toNatClampNeg t))] (List.Perm.trans (List.Perm.trans (List.Perm.trans (List.Perm.trans (List.Perm.trans (List.Perm.trans (List.Perm.trans (List.Perm.trans (List.Perm.trans (List.Perm.cons _ (List.Perm.cons _ (List.Perm.cons _ (List.Perm.cons _ (List.Perm.swap _ _ _))))) (List.Perm.cons _ (List.Perm.cons _ (List.Perm.cons _ (List.Perm.swap _ _ _))))) (List.Perm.cons _ (List.Perm.cons _ (List.Perm.swap _ _ _)))) (List.Perm.cons _ (List.Perm.swap _ _ _))) (List.Perm.swap _ _ _)) (List.Perm.cons _ (List.Perm.cons _ (List.Perm.cons _ (List.Perm.cons _ (List.Perm.cons _ (List.Perm.swap _ _ _))))))) (List.Perm.cons _ (List.Perm.cons _ (List.Perm.cons _ (List.Perm.cons _ (List.Perm.swap _ _ _)))))) (List.Perm.cons _ (List.Perm.cons _ (List.Perm.cons _ (List.Perm.swap _ _ _))))) (List.Perm.cons _ (List.Perm.cons _ (List.Perm.swap _ _ _)))) (List.Perm.cons _ (List.Perm.swap _ _ _))) rfl ?_
        exact ih (p + 1) I I0 hI hf (by rw [zadd1 h0 (by omega)]; omega) (by rw [zadd1 h0 (by omega)]; omega) next
      · have h2 := zc_eq.2.mp h2
        refine zg 3 (pc' := 116) (ls' := [(6, .int (zoth S p.toNatClampNeg t)), (0, .ref 135), (1, .int f), (2, .int x), (3, .int t), (4, .int s), (5, .int p)]) (st' := [.int p, .ref 1]) (I' := I) rfl ?_
        refine zcb rfl rfl (zt_letsThrough hB hV p h0 (by omega)) (fun h3 => ?_) (fun h3 => ?_)
        · skip
          refine zg 8 (pc' := 136) (ls' := [(6, .int (zoth S p.toNatClampNeg t)), (0, .ref 135), (1, .int f), (2, .int x), (3, .int t), (4, .int s), (5, .int p)]) (st' := [.int p, .ref 7, .int s, .int (zoth S p.toNatClampNeg t), .ref 135]) (I' := I) rfl ?_
          refine zia rfl rfl (zin_ok (n := 12) (by omega) (by omega)) (hB 6 _ (zcell_12 (by decide) (by omega) (by omega))) ?_
          refine zg 3 (pc' := 140) (ls' := [(6, .int (zoth S p.toNatClampNeg t)), (0, .ref 135), (1, .int f), (2, .int x), (3, .int t), (4, .int s), (5, .int p)]) (st' := [.int ((s &&& ((S 6 p.toNatClampNeg) ^^^ (-1)))), .int (zoth S p.toNatClampNeg t), .ref 135]) (I' := I) rfl ?_
          refine zcj (b1 := 0) (b2 := 0) rfl rfl (zt_arrive hI hV _ _ (zoth_in hV h0 (by omega) h2).1 (zoth_in hV h0 (by omega) h2).2 (zand_in _ hs0).1 (Int.le_trans (zand_in _ hs0).2 hs1)) (fun J q => ?_)
          obtain ⟨hI2, hf2⟩ := q
          refine zg 2 (pc' := 80) (ls' := [(5, .int (p + 1)), (6, .int (zoth S p.toNatClampNeg t)), (0, .ref 135), (1, .int f), (2, .int x), (3, .int t), (4, .int s)]) (st' := []) (I' := J) rfl ?_
          refine zfew (l1 := [(0, .ref 135), (1, .int f), (2, .int x), (3, .int t), (4, .int s), (5, .int (p + 1))]) [(6, .int (zoth S p.toNatClampNeg t))] (List.Perm.trans (List.Perm.trans (List.Perm.trans (List.Perm.trans (List.Perm.trans (List.Perm.trans (List.Perm.trans (List.Perm.trans (List.Perm.trans (List.Perm.cons _ (List.Perm.cons _ (List.Perm.cons _ (List.Perm.cons _ (List.Perm.swap _ _ _))))) (List.Perm.cons _ (List.Perm.cons _ (List.Perm.cons _ (List.Perm.swap _ _ _))))) (List.Perm.cons _ (List.Perm.cons _ (List.Perm.swap _ _ _)))) (List.Perm.cons _ (List.Perm.swap _ _ _))) (List.Perm.swap _ _ _)) (List.Perm.cons _ (List.Perm.cons _ (List.Perm.cons _ (List.Perm.cons _ (List.Perm.cons _ (List.Perm.swap _ _ _))))))) (List.Perm.cons _ (List.Perm.cons _ (List.Perm.cons _ (List.Perm.cons _ (List.Perm.swap _ _ _)))))) (List.Perm.cons _ (List.Perm.cons _ (List.Perm.cons _ (List.Perm.swap _ _ _))))) (List.Perm.cons _ (List.Perm.cons _ (List.Perm.swap _ _ _)))) (List.Perm.cons _ (List.Perm.swap _ _ _))) rfl ?_
          exact ih (p + 1) J I0 hI2 (zfr_trans hf hf2) (by rw [zadd1 h0 (by omega)]; omega) (by rw [zadd1 h0 (by omega)]; omega) next
        · skip
          refine zg 3 (pc' := 80) (ls' := [(5, .int (p + 1)), (6, .int (zoth S p.toNatClampNeg t)), (0, .ref 135), (1, .int f), (2, .int x), (3, .int t), (4, .int s)]) (st' := []) (I' := I) rfl ?_
          refine zfew (l1 := [(0, .ref 135), (1, .int f), (2, .int x), (3, .int t), (4, .int s), (5, .int (p + 1))]) [(6, .int (zoth S p.toNatClampNeg t))] (List.Perm.trans (List.Perm.trans (List.Perm.trans (List.Perm.trans (List.Perm.trans (List.Perm.trans (List.Perm.trans (List.Perm.trans (List.Perm.trans (List.Perm.cons _ (List.Perm.cons _ (List.Perm.cons _ (List.Perm.cons _ (List.Perm.swap _ _ _))))) (List.Perm.cons _ (List.Perm.cons _ (List.Perm.cons _ (List.Perm.swap _ _ _))))) (List.Perm.cons _ (List.Perm.cons _ (List.Perm.swap _ _ _)))) (List.Perm.cons _ (List.Perm.swap _ _ _))) (List.Perm.swap _ _ _)) (List.Perm.cons _ (List.Perm.cons _ (List.Perm.cons _ (List.Perm.cons _ (List.Perm.cons _ (List.Perm.swap _ _ _))))))) (List.Perm.cons _ (List.Perm.cons _ (List.Perm.cons _ (List.Perm.cons _ (List.Perm.swap _ _ _)))))) (List.Perm.cons _ (List.Perm.cons _ (List.Perm.cons _ (List.Perm.swap _ _ _))))) (List.Perm.cons _ (List.Perm.cons _ (List.Perm.swap _ _ _)))) (List.Perm.cons _ (List.Perm.swap _ _ _))) rfl ?_
          exact ih (p + 1) I I0 hI hf (by rw [zadd1 h0 (by omega)]; omega) (by rw [zadd1 h0 (by omega)]; omega) next
theorem zt_so {sl D dy : Nat} {S : Nat → Nat → Int32} (hV : zOK S) (f : Int32) : ∀ (k : Nat) (x : Int32) (I I0 : zM) (hI : zSI S I) (hf : zfr I0 I) (h0 : 0 ≤ x.toInt) (hk : x.toInt + (k : Int) = 2048), zW sl (D + 2) dy 13 37 [(0, .ref 135), (1, .int f), (2, .int x)] [] I (zRg 0 (zQs S I0)) := by
  intro k
  induction k with
  | zero =>
    intro x I I0 hI hf h0 hk
    obtain ⟨hB, ⟨q, hq, hq0, hq1, hqe⟩, hx2a, hx0a⟩ := id hI
    have hT := hV.1
    have hP := hV.2.1
    have z0 := zi0
    have z8 := zi8
    have z20 := zi20
    have zo2048 : (Int32.ofNat 2048).toInt = 2048 := rfl
    have z256 : (256 : Int32).toInt = 256 := rfl
    refine zg 2 (pc' := 39) (ls' := [(0, .ref 135), (1, .int f), (2, .int x)]) (st' := [.ref 135, .int x]) (I' := I) rfl ?_
    refine zgf rfl rfl rfl hq ?_
    refine zicmp rfl rfl (fun h1 => ?_) (fun h1 => ?_)
    · have h1 := zc_ge.1.mp h1
      refine zret rfl rfl ?_
      exact ⟨rfl, rfl, hI, hf⟩
    · have h1 := zc_ge.2.mp h1
      refine zg 3 (pc' := 50) (ls' := [(0, .ref 135), (1, .int f), (2, .int x)]) (st' := [.ref 143, .int x]) (I' := I) rfl ?_
      refine zal rfl (n := 2048) rfl (by decide) ?_
      refine zicmp rfl rfl (fun h2 => ?_) (fun h2 => ?_)
      · have h2 := zc_ge.1.mp h2
        refine zret rfl rfl ?_
        exact ⟨rfl, rfl, hI, hf⟩
      · have h2 := zc_ge.2.mp h2
        exfalso; omega
  | succ k ih =>
    intro x I I0 hI hf h0 hk
    obtain ⟨hB, ⟨q, hq, hq0, hq1, hqe⟩, hx2a, hx0a⟩ := id hI
    have hT := hV.1
    have hP := hV.2.1
    have z0 := zi0
    have z8 := zi8
    have z20 := zi20
    have zo2048 : (Int32.ofNat 2048).toInt = 2048 := rfl
    have z256 : (256 : Int32).toInt = 256 := rfl
    refine zg 2 (pc' := 39) (ls' := [(0, .ref 135), (1, .int f), (2, .int x)]) (st' := [.ref 135, .int x]) (I' := I) rfl ?_
    refine zgf rfl rfl rfl hq ?_
    refine zicmp rfl rfl (fun h1 => ?_) (fun h1 => ?_)
    · have h1 := zc_ge.1.mp h1
      refine zret rfl rfl ?_
      exact ⟨rfl, rfl, hI, hf⟩
    · have h1 := zc_ge.2.mp h1
      refine zg 3 (pc' := 50) (ls' := [(0, .ref 135), (1, .int f), (2, .int x)]) (st' := [.ref 143, .int x]) (I' := I) rfl ?_
      refine zal rfl (n := 2048) rfl (by decide) ?_
      refine zicmp rfl rfl (fun h2 => ?_) (fun h2 => ?_)
      · have h2 := zc_ge.1.mp h2
        exfalso; omega
      · have h2 := zc_ge.2.mp h2
        obtain ⟨e, he, he0, he1⟩ := hqe x.toNatClampNeg (by have : x.toNatClampNeg = x.toInt.toNat := rfl; omega)
        have hed := zti_div (x := e) (y := 256) he0 (by decide)
        rw [z256] at hed
        have hem := zti_mul (x := e / 256) (y := 256) (by rw [z256]; omega) (by rw [z256]; omega)
        rw [z256] at hem
        have hes := zti_sub (x := e) (y := e / 256 * 256) (by omega) (by omega)
        refine zg 3 (pc' := 59) (ls' := [(0, .ref 135), (1, .int f), (2, .int x)]) (st' := [.int x, .ref 143]) (I' := I) rfl ?_
        refine zia rfl rfl (zin_ok (n := 2048) (by omega) (by omega)) he ?_
        refine zg 1 (pc' := 63) (ls' := [(0, .ref 135), (1, .int f), (2, .int x)]) (st' := [.int 256, .int e]) (I' := I) rfl ?_
        refine zdivr rfl (by decide) ?_
        refine zg 4 (pc' := 70) (ls' := [(3, .int (e / 256)), (0, .ref 135), (1, .int f), (2, .int x)]) (st' := [.int x, .ref 143]) (I' := I) rfl ?_
        refine zia rfl rfl (zin_ok (n := 2048) (by omega) (by omega)) he ?_
        refine zg 1 (pc' := 74) (ls' := [(3, .int (e / 256)), (0, .ref 135), (1, .int f), (2, .int x)]) (st' := [.int 256, .int e]) (I' := I) rfl ?_
        refine zremr rfl (by decide) ?_
        refine zg 3 (pc' := 80) (ls' := [(5, .int 0), (4, .int (e - e / 256 * 256)), (3, .int (e / 256)), (0, .ref 135), (1, .int f), (2, .int x)]) (st' := []) (I' := I) rfl ?_
        refine zLp (List.Perm.trans (List.Perm.trans (List.Perm.trans (List.Perm.trans (List.Perm.trans (List.Perm.trans (List.Perm.trans (List.Perm.trans (List.Perm.trans (List.Perm.trans (List.Perm.trans (List.Perm.cons _ (List.Perm.cons _ (List.Perm.cons _ (List.Perm.cons _ (List.Perm.swap _ _ _))))) (List.Perm.cons _ (List.Perm.cons _ (List.Perm.cons _ (List.Perm.swap _ _ _))))) (List.Perm.cons _ (List.Perm.cons _ (List.Perm.swap _ _ _)))) (List.Perm.cons _ (List.Perm.swap _ _ _))) (List.Perm.swap _ _ _)) (List.Perm.cons _ (List.Perm.cons _ (List.Perm.cons _ (List.Perm.cons _ (List.Perm.swap _ _ _)))))) (List.Perm.cons _ (List.Perm.cons _ (List.Perm.cons _ (List.Perm.swap _ _ _))))) (List.Perm.cons _ (List.Perm.cons _ (List.Perm.swap _ _ _)))) (List.Perm.cons _ (List.Perm.swap _ _ _))) (List.Perm.cons _ (List.Perm.cons _ (List.Perm.cons _ (List.Perm.cons _ (List.Perm.swap _ _ _)))))) (List.Perm.cons _ (List.Perm.cons _ (List.Perm.cons _ (List.Perm.swap _ _ _))))) (List.Perm.cons _ (List.Perm.cons _ (List.Perm.swap _ _ _)))) rfl ?_
        refine zt_si hV f x (e / 256) (e - e / 256 * 256) (by omega) (by omega) (S 0 11).toInt.toNat 0 I I0 hI hf (by decide) (by rw [z0]; omega) (fun p J hJ hfJ => ?_)
        refine zg 2 (pc' := 37) (ls' := [(2, .int (x + 1)), (0, .ref 135), (1, .int f), (3, .int (e / 256)), (4, .int (e - e / 256 * 256)), (5, .int p)]) (st' := []) (I' := J) rfl ?_
        refine zfew (l1 := [(0, .ref 135), (1, .int f), (2, .int (x + 1))]) [(3, .int (e / 256)), (4, .int (e - e / 256 * 256)), (5, .int p)] (List.Perm.trans (List.Perm.cons _ (List.Perm.swap _ _ _)) (List.Perm.swap _ _ _)) rfl ?_
        exact ih (x + 1) J I0 hJ hfJ (by rw [zadd1 h0 (by omega)]; omega) (by rw [zadd1 h0 (by omega)]; omega)
theorem zSI_0 {S : Nat → Nat → Int32} {I : zM} (hB : zSB 1 S I) (hV : zOK S) : zSI S (zup (zfl (zfl I 140 8 (-1)) 142 256 0) 135 9 0) := by
  refine ⟨zSB_fr hB (zfr_up (zfl_fr (zfl_fr (zfr_refl I) rfl) rfl) rfl), ⟨0, rfl, by decide, by decide, fun j hj => ?_⟩, fun j hj => ⟨0, ?_⟩, fun j hj => ⟨-1, ?_⟩⟩
  · have : (0 : Int32).toInt = 0 := rfl
    omega
  · rw [zup_at, if_neg (by simp)]
    unfold zfl
    rw [if_pos ⟨rfl, hj⟩]
  · rw [zup_at, if_neg (by simp)]
    unfold zfl
    rw [if_neg (by simp), if_pos ⟨rfl, hj⟩]
theorem zt_search {sl D dy : Nat} {I : zM} {S : Nat → Nat → Int32} (hB : zSB 1 S I) (hV : zOK S) (f : Int32) (hf0 : 0 ≤ f.toInt) (hf1 : f.toInt < (S 0 10).toInt) : zW sl (D + 2) dy 13 0 [(0, .ref 135), (1, .int f)] [] I (zRg 0 (zQs S I)) := by
  have hT := hV.1
  have hP := hV.2.1
  have z0 := zi0
  have z8 := zi8
  have z20 := zi20
  have hBm : zSB 1 S (zup (zfl (zfl I 140 8 (-1)) 142 256 0) 135 9 0) := zSB_fr hB (zfr_up (zfl_fr (zfl_fr (zfr_refl I) rfl) rfl) rfl)
  refine zg 3 (pc' := 5) (ls' := [(0, .ref 135), (1, .int f)]) (st' := [.int (-1), .ref 140]) (I' := I) rfl ?_
  refine zcm rfl rfl (zt_fill (n := 8) rfl (by decide)) ?_
  refine zg 3 (pc' := 13) (ls' := [(0, .ref 135), (1, .int f)]) (st' := [.int 0, .ref 142]) (I' := (zfl I 140 8 (-1))) rfl ?_
  refine zcm rfl rfl (zt_fill (n := 256) rfl (by decide)) ?_
  refine zg 2 (pc' := 18) (ls' := [(0, .ref 135), (1, .int f)]) (st' := [.int 0, .ref 135]) (I' := (zfl (zfl I 140 8 (-1)) 142 256 0)) rfl ?_
  refine zpf rfl rfl rfl rfl rfl ?_
  refine zg 6 (pc' := 31) (ls' := [(0, .ref 135), (1, .int f)]) (st' := [.int f, .ref 4, .int f, .ref 135]) (I' := (zup (zfl (zfl I 140 8 (-1)) 142 256 0) 135 9 0)) rfl ?_
  refine zia rfl rfl (zin_ok (n := 8) (by omega) (by omega)) (hBm 3 _ (zcell_8 (by decide) (by omega) (by omega))) ?_
  have hI0 : zSI S (zup (zfl (zfl I 140 8 (-1)) 142 256 0) 135 9 0) := zSI_0 hB hV
  have hff : zfr I (zup (zfl (zfl I 140 8 (-1)) 142 256 0) 135 9 0) := zfr_up (zfl_fr (zfl_fr (zfr_refl I) rfl) rfl) rfl
  refine zcj (b1 := 0) (b2 := 0) rfl rfl (zt_arrive hI0 hV _ _ hf0 hf1 (zOK_tank hV hf0 hf1).2.2.1 (zOK_tank hV hf0 hf1).2.2.2) (fun J q => ?_)
  obtain ⟨hI2, hf2⟩ := q
  refine zg 2 (pc' := 37) (ls' := [(2, .int 0), (0, .ref 135), (1, .int f)]) (st' := []) (I' := J) rfl ?_
  refine zLp (List.Perm.trans (List.Perm.cons _ (List.Perm.swap _ _ _)) (List.Perm.swap _ _ _)) rfl ?_
  exact zwp (zt_so hV f 2048 0 J _ hI2 (zfr_trans hff hf2) (by decide) (by decide)) (fun c v J2 q => q)
