/-! CONTRACTS: what the law makes -/
theorem zmod2 {x n : Int32} (hn : 0 < n.toInt) (hn2 : n.toInt ≤ 1000) (h0 : 0 ≤ x.toInt) (h1 : x.toInt < 2 * n.toInt) : (x.toInt < n.toInt ∧ (x - x / n * n).toInt = x.toInt) ∨ (n.toInt ≤ x.toInt ∧ (x - x / n * n).toInt = x.toInt - n.toInt) := by
  have d1 := zti_div (x := x) (y := n) h0 hn
  by_cases h : x.toInt < n.toInt
  · have q : x.toInt / n.toInt = 0 := Int.ediv_eq_zero_of_lt h0 h
    rw [q] at d1
    have d2 : (x / n * n).toInt = 0 := by rw [zti_mul (by rw [d1]; omega) (by rw [d1]; omega), d1, Int.zero_mul]
    have d3 := zti_sub (x := x) (y := x / n * n) (by rw [d2]; omega) (by rw [d2]; omega)
    exact Or.inl ⟨h, by omega⟩
  · have q : x.toInt / n.toInt = 1 := by
      have q1 : 1 ≤ x.toInt / n.toInt := (Int.le_ediv_iff_mul_le hn).mpr (by omega)
      have q2 : x.toInt / n.toInt < 2 := (Int.ediv_lt_iff_lt_mul hn).mpr (by omega)
      omega
    rw [q] at d1
    have d2 : (x / n * n).toInt = n.toInt := by rw [zti_mul (by rw [d1]; omega) (by rw [d1]; omega), d1, Int.one_mul]
    have d3 := zti_sub (x := x) (y := x / n * n) (by rw [d2]; omega) (by rw [d2]; omega)
    exact Or.inr ⟨by omega, by omega⟩
theorem zand_255 (x : Int32) : 0 ≤ (x &&& 255).toInt ∧ (x &&& 255).toInt ≤ 255 := by
  have h := zand_in (x := 255) x (by decide)
  rw [Int32.and_comm] at h
  exact ⟨h.1, by have := h.2; have z : (255 : Int32).toInt = 255 := rfl; omega⟩
/-- the law's array is known -/
def zLw (sl : Nat) (I : zM) : Prop := ∀ k, k < sl → ∃ x, I 1000 k = some x
/-- while the law makes its waterworks -/
def zMk (sl : Nat) (m n : Int) (I0 : zM) (J : zM) : Prop := ∃ S L, zIv S L J ∧ (S 0 10).toInt = m ∧ (S 0 11).toInt = n ∧ zKp I0 J ∧ zLw sl J
theorem zMk_of {sl : Nat} {I0 I J : zM} {S T : Nat → Nat → Int32} {L : List (Nat → Nat → Int32)} {Q : (Nat → Nat → Int32) → Int32 → Prop} {x : Int32} (hI : zIv S L I) (hK : zKp I0 I) (hL : zLw sl I) (hB : zSB 1 T J) (hH : zHl ((S :: L).take 8) J) (hc : zfc I J) (hA : zAcc Q T x) : zIv T ((S :: L).take 8) J ∧ zKp I0 J ∧ zLw sl J :=
  ⟨⟨hB, hA.1, hH, by rw [hc _ _ (by decide)]; exact hI.2.2.2.1, fun k hk => by rw [hc _ _ (by decide)]; exact hI.2.2.2.2 k hk⟩, zKp_trans hK ⟨fun a k h1 h2 => hc a k (by omega), hc _ _ (by decide)⟩, fun k hk => by rw [hc _ _ (by decide)]; exact hL k hk⟩
theorem zrfT_ok {S : Nat → Nat → Int32} {a : Int32} (h : 10 ≤ a.toInt ∧ a.toInt ≤ 999) (h8 : (S 0 10).toInt < 8) : zrfT S a = 0 := by
  unfold zrfT
  rw [if_pos h, if_pos h8]
theorem zrfO_ok {S : Nat → Nat → Int32} {a b c : Int32} (h1 : 0 ≤ a.toInt ∧ a.toInt < (S 0 10).toInt) (h2 : (1 ≤ b.toInt ∧ b.toInt ≤ 999) ∧ (0 ≤ c.toInt ∧ c.toInt ≤ 255)) (h3 : (S 2 a.toNatClampNeg + b).toInt ≤ (S 1 a.toNatClampNeg).toInt) : zrfO S a b c = 0 := by
  unfold zrfO
  rw [if_pos h1, if_pos h2, if_pos h3]
theorem zrfP_ok {S : Nat → Nat → Int32} {a b c : Int32} (h1 : 0 ≤ a.toInt ∧ a.toInt < (S 0 10).toInt) (h2 : 0 ≤ b.toInt ∧ b.toInt < (S 0 10).toInt) (h3 : a.toInt ≠ b.toInt) (h4 : 0 ≤ c.toInt ∧ c.toInt ≤ 255) (h5 : (S 0 11).toInt < 12) : zrfP S a b c = 0 := by
  unfold zrfP
  rw [if_pos ⟨h1, h2⟩, if_neg h3, if_pos h4, if_pos h5]
theorem zrfV_ok {S : Nat → Nat → Int32} {m : Int} {a b : Int32} (h1 : 0 ≤ a.toInt ∧ a.toInt < (S 0 11).toInt) (h2 : 0 ≤ b.toInt ∧ b.toInt ≤ m) : zrfV S m a b = 0 := by
  unfold zrfV
  rw [if_pos h1, if_pos h2]
theorem zrfW_ok {a : Int32} (h : 1 ≤ a.toInt ∧ a.toInt ≤ 60) : zrfW a = 0 := by
  unfold zrfW
  rw [if_pos h]
set_option maxRecDepth 4000 in
theorem zt_mktl {sl D dy : Nat} {I0 : zM} {R : Nat → Option Value → zM → Prop} (hsl : sl ≤ 2147483647) (n : Int32) (hn8 : n.toInt ≤ 8) (kk : ∀ (S : Nat → Nat → Int32) (L : List (Nat → Nat → Int32)) (J : zM), zIv S L J → (S 0 10).toInt = n.toInt → (S 0 11).toInt = 0 → zKp I0 J → zLw sl J → zW sl (D + 8) dy 174 123 [(0, .ref 0), (1, .ref 1000), (2, .int n), (3, .int (S 0 10))] [] J (zRg 0 R)) : ∀ (k : Nat) (S : Nat → Nat → Int32) (L : List (Nat → Nat → Int32)) (I : zM) (hI : zIv S L I) (hm : (S 0 11).toInt = 0) (hK : zKp I0 I) (hL : zLw sl I) (hk : (S 0 10).toInt + (k : Int) = n.toInt), zW sl (D + 8) dy 174 15 [(0, .ref 0), (1, .ref 1000), (2, .int n), (3, .int (S 0 10))] [] I (zRg 0 (R)) := by
  intro k
  induction k with
  | zero =>
    intro S L I hI hm hK hL hk
    have zz0 : (0 : Int32).toInt = 0 := rfl
    have zz1 : (1 : Int32).toInt = 1 := rfl
    have zz2 : (2 : Int32).toInt = 2 := rfl
    have zz4 : (4 : Int32).toInt = 4 := rfl
    have zz5 : (5 : Int32).toInt = 5 := rfl
    have zz7 : (7 : Int32).toInt = 7 := rfl
    have zz8 : (8 : Int32).toInt = 8 := rfl
    have zz9 : (9 : Int32).toInt = 9 := rfl
    have zz10 : (10 : Int32).toInt = 10 := rfl
    have zz12 : (12 : Int32).toInt = 12 := rfl
    have zz100 : (100 : Int32).toInt = 100 := rfl
    have zz255 : (255 : Int32).toInt = 255 := rfl
    have zz990 : (990 : Int32).toInt = 990 := rfl
    have hT := hI.2.1.1
    have hP := hI.2.1.2.1
    refine zg 2 (pc' := 17) (ls' := [(0, .ref 0), (1, .ref 1000), (2, .int n), (3, .int (S 0 10))]) (st' := [.int n, .int (S 0 10)]) (I' := I) rfl ?_
    refine zicmp rfl rfl (fun h1 => ?_) (fun h1 => ?_)
    · have h1 := zc_ge.1.mp h1
      exact kk S L I hI (by omega) hm hK hL
    · have h1 := zc_ge.2.mp h1
      exfalso; omega
  | succ k ih =>
    intro S L I hI hm hK hL hk
    have zz0 : (0 : Int32).toInt = 0 := rfl
    have zz1 : (1 : Int32).toInt = 1 := rfl
    have zz2 : (2 : Int32).toInt = 2 := rfl
    have zz4 : (4 : Int32).toInt = 4 := rfl
    have zz5 : (5 : Int32).toInt = 5 := rfl
    have zz7 : (7 : Int32).toInt = 7 := rfl
    have zz8 : (8 : Int32).toInt = 8 := rfl
    have zz9 : (9 : Int32).toInt = 9 := rfl
    have zz10 : (10 : Int32).toInt = 10 := rfl
    have zz12 : (12 : Int32).toInt = 12 := rfl
    have zz100 : (100 : Int32).toInt = 100 := rfl
    have zz255 : (255 : Int32).toInt = 255 := rfl
    have zz990 : (990 : Int32).toInt = 990 := rfl
    have hT := hI.2.1.1
    have hP := hI.2.1.2.1
    refine zg 2 (pc' := 17) (ls' := [(0, .ref 0), (1, .ref 1000), (2, .int n), (3, .int (S 0 10))]) (st' := [.int n, .int (S 0 10)]) (I' := I) rfl ?_
    refine zicmp rfl rfl (fun h1 => ?_) (fun h1 => ?_)
    · have h1 := zc_ge.1.mp h1
      exfalso; omega
    · have h1 := zc_ge.2.mp h1
      have e1 := zti_add (x := 1) (y := S 0 10) (by omega) (by omega)
      have e2 := zti_add (x := 11) (y := S 0 10) (by have : (11 : Int32).toInt = 11 := rfl; omega) (by have : (11 : Int32).toInt = 11 := rfl; omega)
      have zz11 : (11 : Int32).toInt = 11 := rfl
      refine zg 5 (pc' := 26) (ls' := [(0, .ref 0), (1, .ref 1000), (2, .int n), (3, .int (S 0 10))]) (st' := [.int ((1 + (S 0 10))), .ref 1000, .int 10]) (I' := I) rfl ?_
      refine zcPi (b2 := 0) rfl rfl (zt_at ((1 + (S 0 10))) (by omega) hsl hL) (fun w2 hP => ?_)
      refine zg 2 (pc' := 32) (ls' := [(0, .ref 0), (1, .ref 1000), (2, .int n), (3, .int (S 0 10))]) (st' := [.int 9, .ref 1000, .int w2, .int 10]) (I' := I) rfl ?_
      refine zcPi (b2 := 0) rfl rfl (zt_at 9 (by decide) hsl hL) (fun w3 hP => ?_)
      refine zg 2 (pc' := 37) (ls' := [(0, .ref 0), (1, .ref 1000), (2, .int n), (3, .int (S 0 10))]) (st' := [.int (w3 &&& 1), .int w2, .int 10]) (I' := I) rfl ?_
      refine zif rfl rfl (fun h4 => ?_) (fun h4 => ?_)
      · have h4 := zc_ne.1.mp h4
        refine zg 1 (pc' := 48) (ls' := [(0, .ref 0), (1, .ref 1000), (2, .int n), (3, .int (S 0 10))]) (st' := [.int 990, .int w2, .int 10]) (I' := I) rfl ?_
        refine zcPi (b2 := 0) rfl rfl (zt_some w2 990 (by decide)) (fun r5 r5h => ?_)
        refine zg 1 (pc' := 52) (ls' := [(0, .ref 0), (1, .ref 1000), (2, .int n), (3, .int (S 0 10))]) (st' := [.int (10 + r5)]) (I' := I) rfl ?_
        have e4 := zti_add (x := 10) (y := r5) (by omega) (by omega)
        refine zg 3 (pc' := 57) (ls' := [(4, .int (10 + r5)), (0, .ref 0), (1, .ref 1000), (2, .int n), (3, .int (S 0 10))]) (st' := [.int (10 + r5), .ref 0]) (I' := I) rfl ?_
        refine zcP (b2 := 0) rfl rfl (zl_addTank_ok (D := D) hI.1 hI.2.1 hI.2.2.1 (10 + r5) (zrfT_ok (by omega) (by omega))) (fun x J1 hP => ?_)
        obtain ⟨T1, hB1, hH1, hc1, hA1⟩ := hP
        obtain ⟨hI1, hK1, hL1⟩ := zMk_of hI hK hL hB1 hH1 hc1 hA1
        obtain ⟨-, -, zT1, rfl⟩ := hA1
        have t10 : T1 0 10 = S 0 10 + 1 := by rw [zT1]; rfl
        have t11 : T1 0 11 = S 0 11 := by rw [zT1]; rfl
        have t1 : T1 1 (S 0 10).toNatClampNeg = (10 + r5) := by rw [zT1]; exact (show zsu S 1 _ _ 1 _ = _ from zsu_eq _ _ _ _)
        have t2 : T1 2 (S 0 10).toNatClampNeg = 0 := by rw [zT1]; exact (hI.2.1.2.2.2.1 (S 0 10).toNatClampNeg (by have := zcl_nat (x := S 0 10); omega) (by have := zcl_nat (x := S 0 10); omega)).1
        have t10i : (T1 0 10).toInt = (S 0 10).toInt + 1 := by rw [t10]; exact zadd1 (by omega) (by omega)
        refine zg 1 (pc' := 61) (ls' := [(4, .int (10 + r5)), (0, .ref 0), (1, .ref 1000), (2, .int n), (3, .int (S 0 10))]) (st' := [.int (S 0 10), .int (S 0 10)]) (I' := J1) rfl ?_
        refine zicmp rfl rfl (fun h6 => ?_) (fun h6 => ?_)
        · have h6 := zc_eq.1.mp h6
          refine zg 2 (pc' := 69) (ls' := [(4, .int (10 + r5)), (0, .ref 0), (1, .ref 1000), (2, .int n), (3, .int (S 0 10))]) (st' := [.int 10, .ref 1000]) (I' := J1) rfl ?_
          refine zcPi (b2 := 0) rfl rfl (zt_at 10 (by decide) hsl hL1) (fun w7 hP => ?_)
          refine zg 4 (pc' := 76) (ls' := [(4, .int (10 + r5)), (0, .ref 0), (1, .ref 1000), (2, .int n), (3, .int (S 0 10))]) (st' := [.int (((w7 >>> ((S 0 10) &&& 31)) &&& 1))]) (I' := J1) rfl ?_
          refine zif rfl rfl (fun h8 => ?_) (fun h8 => ?_)
          · have h8 := zc_ne.1.mp h8
            refine zg 2 (pc' := 15) (ls' := [(3, .int (((S 0 10) + 1))), (4, .int (10 + r5)), (0, .ref 0), (1, .ref 1000), (2, .int n)]) (st' := []) (I' := J1) rfl ?_
            refine zfew (l1 := [(0, .ref 0), (1, .ref 1000), (2, .int n), (3, .int (((S 0 10) + 1)))]) [(4, .int (10 + r5))] (List.Perm.trans (List.Perm.trans (List.Perm.trans (List.Perm.trans (List.Perm.trans (List.Perm.cons _ (List.Perm.cons _ (List.Perm.swap _ _ _))) (List.Perm.cons _ (List.Perm.swap _ _ _))) (List.Perm.swap _ _ _)) (List.Perm.cons _ (List.Perm.cons _ (List.Perm.cons _ (List.Perm.swap _ _ _))))) (List.Perm.cons _ (List.Perm.cons _ (List.Perm.swap _ _ _)))) (List.Perm.cons _ (List.Perm.swap _ _ _))) rfl ?_
            have q := ih T1 _ J1 hI1 (by rw [t11]; exact hm) hK1 hL1 (by rw [t10]; rw [t10] at t10i; omega)
            rw [t10] at q
            exact q
          · have h8 := zc_ne.2.mp h8
            refine zg 7 (pc' := 87) (ls' := [(4, .int (10 + r5)), (0, .ref 0), (1, .ref 1000), (2, .int n), (3, .int (S 0 10))]) (st' := [.int ((11 + (S 0 10))), .ref 1000, .int 1, .int (S 0 10), .ref 0]) (I' := J1) rfl ?_
            refine zcPi (b2 := 0) rfl rfl (zt_at ((11 + (S 0 10))) (by omega) hsl hL1) (fun w9 hP => ?_)
            refine zg 1 (pc' := 92) (ls' := [(4, .int (10 + r5)), (0, .ref 0), (1, .ref 1000), (2, .int n), (3, .int (S 0 10))]) (st' := [.int (10 + r5), .int w9, .int 1, .int (S 0 10), .ref 0]) (I' := J1) rfl ?_
            refine zcPi (b2 := 0) rfl rfl (zt_some w9 (10 + r5) (by omega)) (fun r10 r10h => ?_)
            have e5 := zti_add (x := 1) (y := r10) (by omega) (by omega)
            refine zg 3 (pc' := 99) (ls' := [(4, .int (10 + r5)), (0, .ref 0), (1, .ref 1000), (2, .int n), (3, .int (S 0 10))]) (st' := [.int 19, .ref 1000, .int (1 + r10), .int (S 0 10), .ref 0]) (I' := J1) rfl ?_
            refine zcPi (b2 := 0) rfl rfl (zt_at 19 (by decide) hsl hL1) (fun w11 hP => ?_)
            refine zg 4 (pc' := 108) (ls' := [(4, .int (10 + r5)), (0, .ref 0), (1, .ref 1000), (2, .int n), (3, .int (S 0 10))]) (st' := [.int (((w11 >>> ((S 0 10) &&& 31)) &&& 255)), .int (1 + r10), .int (S 0 10), .ref 0]) (I' := J1) rfl ?_
            refine zcP (b2 := 0) rfl rfl (zl_pour_ok (D := D) hI1.1 hI1.2.1 hI1.2.2.1 (S 0 10) (1 + r10) (((w11 >>> ((S 0 10) &&& 31)) &&& 255)) (zrfO_ok ⟨by omega, by omega⟩ ⟨by omega, zand_255 _⟩ (by rw [t2, t1, Int32.zero_add]; omega))) (fun x J2 hP => ?_)
            obtain ⟨T2, hB2, hH2, hc2, hA2⟩ := hP
            obtain ⟨hI2, hK2, hL2⟩ := zMk_of hI1 hK1 hL1 hB2 hH2 hc2 hA2
            obtain ⟨-, -, zT2, rfl⟩ := hA2
            have u10 : T2 0 10 = S 0 10 + 1 := by rw [zT2]; exact t10
            have u11 : T2 0 11 = S 0 11 := by rw [zT2]; exact t11
            have hx : (T1 2 (S 0 10).toNatClampNeg + (1 + r10)).toInt = (1 + r10).toInt := by rw [t2, Int32.zero_add]
            refine zg 1 (pc' := 112) (ls' := [(4, .int (10 + r5)), (0, .ref 0), (1, .ref 1000), (2, .int n), (3, .int (S 0 10))]) (st' := [.int 1, .int ((T1 2 (S 0 10).toNatClampNeg + (1 + r10)))]) (I' := J2) rfl ?_
            refine zicmp rfl rfl (fun h12 => ?_) (fun h12 => ?_)
            · have h12 := zc_ge.1.mp h12
              refine zg 2 (pc' := 15) (ls' := [(3, .int (((S 0 10) + 1))), (4, .int (10 + r5)), (0, .ref 0), (1, .ref 1000), (2, .int n)]) (st' := []) (I' := J2) rfl ?_
              refine zfew (l1 := [(0, .ref 0), (1, .ref 1000), (2, .int n), (3, .int (((S 0 10) + 1)))]) [(4, .int (10 + r5))] (List.Perm.trans (List.Perm.trans (List.Perm.trans (List.Perm.trans (List.Perm.trans (List.Perm.cons _ (List.Perm.cons _ (List.Perm.swap _ _ _))) (List.Perm.cons _ (List.Perm.swap _ _ _))) (List.Perm.swap _ _ _)) (List.Perm.cons _ (List.Perm.cons _ (List.Perm.cons _ (List.Perm.swap _ _ _))))) (List.Perm.cons _ (List.Perm.cons _ (List.Perm.swap _ _ _)))) (List.Perm.cons _ (List.Perm.swap _ _ _))) rfl ?_
              have q := ih T2 _ J2 hI2 (by rw [u11]; exact hm) hK2 hL2 (by rw [u10]; rw [t10] at t10i; omega)
              rw [u10] at q
              exact q
            · have h12 := zc_ge.2.mp h12
              exfalso; omega
        · have h6 := zc_eq.2.mp h6
          exact absurd rfl h6
      · have h4 := zc_ne.2.mp h4
        refine zg 2 (pc' := 48) (ls' := [(0, .ref 0), (1, .ref 1000), (2, .int n), (3, .int (S 0 10))]) (st' := [.int 100, .int w2, .int 10]) (I' := I) rfl ?_
        refine zcPi (b2 := 0) rfl rfl (zt_some w2 100 (by decide)) (fun r13 r13h => ?_)
        refine zg 1 (pc' := 52) (ls' := [(0, .ref 0), (1, .ref 1000), (2, .int n), (3, .int (S 0 10))]) (st' := [.int (10 + r13)]) (I' := I) rfl ?_
        have e4 := zti_add (x := 10) (y := r13) (by omega) (by omega)
        refine zg 3 (pc' := 57) (ls' := [(4, .int (10 + r13)), (0, .ref 0), (1, .ref 1000), (2, .int n), (3, .int (S 0 10))]) (st' := [.int (10 + r13), .ref 0]) (I' := I) rfl ?_
        refine zcP (b2 := 0) rfl rfl (zl_addTank_ok (D := D) hI.1 hI.2.1 hI.2.2.1 (10 + r13) (zrfT_ok (by omega) (by omega))) (fun x J3 hP => ?_)
        obtain ⟨T3, hB3, hH3, hc3, hA3⟩ := hP
        obtain ⟨hI3, hK3, hL3⟩ := zMk_of hI hK hL hB3 hH3 hc3 hA3
        obtain ⟨-, -, zT3, rfl⟩ := hA3
        have t10 : T3 0 10 = S 0 10 + 1 := by rw [zT3]; rfl
        have t11 : T3 0 11 = S 0 11 := by rw [zT3]; rfl
        have t1 : T3 1 (S 0 10).toNatClampNeg = (10 + r13) := by rw [zT3]; exact (show zsu S 1 _ _ 1 _ = _ from zsu_eq _ _ _ _)
        have t2 : T3 2 (S 0 10).toNatClampNeg = 0 := by rw [zT3]; exact (hI.2.1.2.2.2.1 (S 0 10).toNatClampNeg (by have := zcl_nat (x := S 0 10); omega) (by have := zcl_nat (x := S 0 10); omega)).1
        have t10i : (T3 0 10).toInt = (S 0 10).toInt + 1 := by rw [t10]; exact zadd1 (by omega) (by omega)
        refine zg 1 (pc' := 61) (ls' := [(4, .int (10 + r13)), (0, .ref 0), (1, .ref 1000), (2, .int n), (3, .int (S 0 10))]) (st' := [.int (S 0 10), .int (S 0 10)]) (I' := J3) rfl ?_
        refine zicmp rfl rfl (fun h14 => ?_) (fun h14 => ?_)
        · have h14 := zc_eq.1.mp h14
          refine zg 2 (pc' := 69) (ls' := [(4, .int (10 + r13)), (0, .ref 0), (1, .ref 1000), (2, .int n), (3, .int (S 0 10))]) (st' := [.int 10, .ref 1000]) (I' := J3) rfl ?_
          refine zcPi (b2 := 0) rfl rfl (zt_at 10 (by decide) hsl hL3) (fun w15 hP => ?_)
          refine zg 4 (pc' := 76) (ls' := [(4, .int (10 + r13)), (0, .ref 0), (1, .ref 1000), (2, .int n), (3, .int (S 0 10))]) (st' := [.int (((w15 >>> ((S 0 10) &&& 31)) &&& 1))]) (I' := J3) rfl ?_
          refine zif rfl rfl (fun h16 => ?_) (fun h16 => ?_)
          · have h16 := zc_ne.1.mp h16
            refine zg 2 (pc' := 15) (ls' := [(3, .int (((S 0 10) + 1))), (4, .int (10 + r13)), (0, .ref 0), (1, .ref 1000), (2, .int n)]) (st' := []) (I' := J3) rfl ?_
            refine zfew (l1 := [(0, .ref 0), (1, .ref 1000), (2, .int n), (3, .int (((S 0 10) + 1)))]) [(4, .int (10 + r13))] (List.Perm.trans (List.Perm.trans (List.Perm.trans (List.Perm.trans (List.Perm.trans (List.Perm.cons _ (List.Perm.cons _ (List.Perm.swap _ _ _))) (List.Perm.cons _ (List.Perm.swap _ _ _))) (List.Perm.swap _ _ _)) (List.Perm.cons _ (List.Perm.cons _ (List.Perm.cons _ (List.Perm.swap _ _ _))))) (List.Perm.cons _ (List.Perm.cons _ (List.Perm.swap _ _ _)))) (List.Perm.cons _ (List.Perm.swap _ _ _))) rfl ?_
            have q := ih T3 _ J3 hI3 (by rw [t11]; exact hm) hK3 hL3 (by rw [t10]; rw [t10] at t10i; omega)
            rw [t10] at q
            exact q
          · have h16 := zc_ne.2.mp h16
            refine zg 7 (pc' := 87) (ls' := [(4, .int (10 + r13)), (0, .ref 0), (1, .ref 1000), (2, .int n), (3, .int (S 0 10))]) (st' := [.int ((11 + (S 0 10))), .ref 1000, .int 1, .int (S 0 10), .ref 0]) (I' := J3) rfl ?_
            refine zcPi (b2 := 0) rfl rfl (zt_at ((11 + (S 0 10))) (by omega) hsl hL3) (fun w17 hP => ?_)
            refine zg 1 (pc' := 92) (ls' := [(4, .int (10 + r13)), (0, .ref 0), (1, .ref 1000), (2, .int n), (3, .int (S 0 10))]) (st' := [.int (10 + r13), .int w17, .int 1, .int (S 0 10), .ref 0]) (I' := J3) rfl ?_
            refine zcPi (b2 := 0) rfl rfl (zt_some w17 (10 + r13) (by omega)) (fun r18 r18h => ?_)
            have e5 := zti_add (x := 1) (y := r18) (by omega) (by omega)
            refine zg 3 (pc' := 99) (ls' := [(4, .int (10 + r13)), (0, .ref 0), (1, .ref 1000), (2, .int n), (3, .int (S 0 10))]) (st' := [.int 19, .ref 1000, .int (1 + r18), .int (S 0 10), .ref 0]) (I' := J3) rfl ?_
            refine zcPi (b2 := 0) rfl rfl (zt_at 19 (by decide) hsl hL3) (fun w19 hP => ?_)
            refine zg 4 (pc' := 108) (ls' := [(4, .int (10 + r13)), (0, .ref 0), (1, .ref 1000), (2, .int n), (3, .int (S 0 10))]) (st' := [.int (((w19 >>> ((S 0 10) &&& 31)) &&& 255)), .int (1 + r18), .int (S 0 10), .ref 0]) (I' := J3) rfl ?_
            refine zcP (b2 := 0) rfl rfl (zl_pour_ok (D := D) hI3.1 hI3.2.1 hI3.2.2.1 (S 0 10) (1 + r18) (((w19 >>> ((S 0 10) &&& 31)) &&& 255)) (zrfO_ok ⟨by omega, by omega⟩ ⟨by omega, zand_255 _⟩ (by rw [t2, t1, Int32.zero_add]; omega))) (fun x J4 hP => ?_)
            obtain ⟨T4, hB4, hH4, hc4, hA4⟩ := hP
            obtain ⟨hI4, hK4, hL4⟩ := zMk_of hI3 hK3 hL3 hB4 hH4 hc4 hA4
            obtain ⟨-, -, zT4, rfl⟩ := hA4
            have u10 : T4 0 10 = S 0 10 + 1 := by rw [zT4]; exact t10
            have u11 : T4 0 11 = S 0 11 := by rw [zT4]; exact t11
            have hx : (T3 2 (S 0 10).toNatClampNeg + (1 + r18)).toInt = (1 + r18).toInt := by rw [t2, Int32.zero_add]
            refine zg 1 (pc' := 112) (ls' := [(4, .int (10 + r13)), (0, .ref 0), (1, .ref 1000), (2, .int n), (3, .int (S 0 10))]) (st' := [.int 1, .int ((T3 2 (S 0 10).toNatClampNeg + (1 + r18)))]) (I' := J4) rfl ?_
            refine zicmp rfl rfl (fun h20 => ?_) (fun h20 => ?_)
            · have h20 := zc_ge.1.mp h20
              refine zg 2 (pc' := 15) (ls' := [(3, .int (((S 0 10) + 1))), (4, .int (10 + r13)), (0, .ref 0), (1, .ref 1000), (2, .int n)]) (st' := []) (I' := J4) rfl ?_
              refine zfew (l1 := [(0, .ref 0), (1, .ref 1000), (2, .int n), (3, .int (((S 0 10) + 1)))]) [(4, .int (10 + r13))] (List.Perm.trans (List.Perm.trans (List.Perm.trans (List.Perm.trans (List.Perm.trans (List.Perm.cons _ (List.Perm.cons _ (List.Perm.swap _ _ _))) (List.Perm.cons _ (List.Perm.swap _ _ _))) (List.Perm.swap _ _ _)) (List.Perm.cons _ (List.Perm.cons _ (List.Perm.cons _ (List.Perm.swap _ _ _))))) (List.Perm.cons _ (List.Perm.cons _ (List.Perm.swap _ _ _)))) (List.Perm.cons _ (List.Perm.swap _ _ _))) rfl ?_
              have q := ih T4 _ J4 hI4 (by rw [u11]; exact hm) hK4 hL4 (by rw [u10]; rw [t10] at t10i; omega)
              rw [u10] at q
              exact q
            · have h20 := zc_ge.2.mp h20
              exfalso; omega
        · have h14 := zc_eq.2.mp h14
          exact absurd rfl h14
set_option maxRecDepth 4000 in
theorem zt_mkpl {sl D dy : Nat} {I0 : zM} {R : Nat → Option Value → zM → Prop} (hsl : sl ≤ 2147483647) (n m : Int32) (hn2 : 2 ≤ n.toInt) (hn8 : n.toInt ≤ 8) (hm12 : m.toInt ≤ 12) (kk : ∀ (S : Nat → Nat → Int32) (L : List (Nat → Nat → Int32)) (J : zM), zIv S L J → (S 0 10).toInt = n.toInt → (S 0 11).toInt = m.toInt → zKp I0 J → zLw sl J → zW sl (D + 8) dy 174 290 [(0, .ref 0), (1, .ref 1000), (2, .int n), (3, .int m)] [] J (zRg 0 R)) : ∀ (k : Nat) (S : Nat → Nat → Int32) (L : List (Nat → Nat → Int32)) (I : zM) (hI : zIv S L I) (hn : (S 0 10).toInt = n.toInt) (hK : zKp I0 I) (hL : zLw sl I) (hk : (S 0 11).toInt + (k : Int) = m.toInt), zW sl (D + 8) dy 174 140 [(0, .ref 0), (1, .ref 1000), (2, .int n), (3, .int m), (4, .int (S 0 11))] [] I (zRg 0 (R)) := by
  intro k
  induction k with
  | zero =>
    intro S L I hI hn hK hL hk
    have zz0 : (0 : Int32).toInt = 0 := rfl
    have zz1 : (1 : Int32).toInt = 1 := rfl
    have zz2 : (2 : Int32).toInt = 2 := rfl
    have zz4 : (4 : Int32).toInt = 4 := rfl
    have zz5 : (5 : Int32).toInt = 5 := rfl
    have zz7 : (7 : Int32).toInt = 7 := rfl
    have zz8 : (8 : Int32).toInt = 8 := rfl
    have zz9 : (9 : Int32).toInt = 9 := rfl
    have zz10 : (10 : Int32).toInt = 10 := rfl
    have zz12 : (12 : Int32).toInt = 12 := rfl
    have zz100 : (100 : Int32).toInt = 100 := rfl
    have zz255 : (255 : Int32).toInt = 255 := rfl
    have zz990 : (990 : Int32).toInt = 990 := rfl
    have hT := hI.2.1.1
    have hP := hI.2.1.2.1
    refine zg 2 (pc' := 143) (ls' := [(0, .ref 0), (1, .ref 1000), (2, .int n), (3, .int m), (4, .int (S 0 11))]) (st' := [.int m, .int (S 0 11)]) (I' := I) rfl ?_
    refine zicmp rfl rfl (fun h1 => ?_) (fun h1 => ?_)
    · have h1 := zc_ge.1.mp h1
      refine zfew (l1 := [(0, .ref 0), (1, .ref 1000), (2, .int n), (3, .int m)]) [(4, .int (S 0 11))] (List.Perm.refl _) rfl ?_
      exact kk S L I hI hn (by omega) hK hL
    · have h1 := zc_ge.2.mp h1
      exfalso; omega
  | succ k ih =>
    intro S L I hI hn hK hL hk
    have zz0 : (0 : Int32).toInt = 0 := rfl
    have zz1 : (1 : Int32).toInt = 1 := rfl
    have zz2 : (2 : Int32).toInt = 2 := rfl
    have zz4 : (4 : Int32).toInt = 4 := rfl
    have zz5 : (5 : Int32).toInt = 5 := rfl
    have zz7 : (7 : Int32).toInt = 7 := rfl
    have zz8 : (8 : Int32).toInt = 8 := rfl
    have zz9 : (9 : Int32).toInt = 9 := rfl
    have zz10 : (10 : Int32).toInt = 10 := rfl
    have zz12 : (12 : Int32).toInt = 12 := rfl
    have zz100 : (100 : Int32).toInt = 100 := rfl
    have zz255 : (255 : Int32).toInt = 255 := rfl
    have zz990 : (990 : Int32).toInt = 990 := rfl
    have hT := hI.2.1.1
    have hP := hI.2.1.2.1
    refine zg 2 (pc' := 143) (ls' := [(0, .ref 0), (1, .ref 1000), (2, .int n), (3, .int m), (4, .int (S 0 11))]) (st' := [.int m, .int (S 0 11)]) (I' := I) rfl ?_
    refine zicmp rfl rfl (fun h1 => ?_) (fun h1 => ?_)
    · have h1 := zc_ge.1.mp h1
      exfalso; omega
    · have h1 := zc_ge.2.mp h1
      have e1 := zrem_in (v := S 0 11) (n := 12) (by decide)
      have zz21 : (21 : Int32).toInt = 21 := rfl
      have e2 := zti_add (x := 21) (y := S 0 11 - S 0 11 / 12 * 12) (by omega) (by omega)
      have e6 := zti_sub (x := n) (y := 1) (by omega) (by omega)
      refine zg 4 (pc' := 153) (ls' := [(0, .ref 0), (1, .ref 1000), (2, .int n), (3, .int m), (4, .int (S 0 11))]) (st' := [.int 12, .int (S 0 11), .int 21, .ref 1000]) (I' := I) rfl ?_
      refine zremr rfl (by decide) ?_
      refine zg 1 (pc' := 155) (ls' := [(0, .ref 0), (1, .ref 1000), (2, .int n), (3, .int m), (4, .int (S 0 11))]) (st' := [.int ((21 + ((S 0 11) - (S 0 11) / 12 * 12))), .ref 1000]) (I' := I) rfl ?_
      refine zcPi (b2 := 0) rfl rfl (zt_at ((21 + ((S 0 11) - (S 0 11) / 12 * 12))) (by omega) hsl hL) (fun w2 hP => ?_)
      refine zg 7 (pc' := 170) (ls' := [(5, .int ((w2 ^^^ ((S 0 11) * 911)))), (0, .ref 0), (1, .ref 1000), (2, .int n), (3, .int m), (4, .int (S 0 11))]) (st' := [.int n, .int ((w2 ^^^ ((S 0 11) * 911)))]) (I' := I) rfl ?_
      refine zcPi (b2 := 0) rfl rfl (zt_some ((w2 ^^^ ((S 0 11) * 911))) n (by omega)) (fun r3 r3h => ?_)
      refine zg 12 (pc' := 189) (ls' := [(6, .int r3), (5, .int ((w2 ^^^ ((S 0 11) * 911)))), (0, .ref 0), (1, .ref 1000), (2, .int n), (3, .int m), (4, .int (S 0 11))]) (st' := [.int (n - 1), .int (((w2 ^^^ ((S 0 11) * 911)) >>> ((4 : Int32) &&& 31))), .int (r3 + 1), .int r3, .ref 0]) (I' := I) rfl ?_
      refine zcPi (b2 := 0) rfl rfl (zt_some (((w2 ^^^ ((S 0 11) * 911)) >>> ((4 : Int32) &&& 31))) (n - 1) (by omega)) (fun r4 r4h => ?_)
      have e3 := zti_add (x := r3) (y := 1) (by omega) (by omega)
      have e4 := zti_add (x := r3 + 1) (y := r4) (by omega) (by omega)
      have e5 := zmod2 (x := r3 + 1 + r4) (n := n) (by omega) (by omega) (by omega) (by omega)
      refine zg 2 (pc' := 194) (ls' := [(6, .int r3), (5, .int ((w2 ^^^ ((S 0 11) * 911)))), (0, .ref 0), (1, .ref 1000), (2, .int n), (3, .int m), (4, .int (S 0 11))]) (st' := [.int n, .int (((r3 + 1) + r4)), .int r3, .ref 0]) (I' := I) rfl ?_
      refine zremr rfl (fun e => by rw [e] at hn2; exact absurd hn2 (by decide)) ?_
      refine zg 5 (pc' := 202) (ls' := [(6, .int r3), (5, .int ((w2 ^^^ ((S 0 11) * 911)))), (0, .ref 0), (1, .ref 1000), (2, .int n), (3, .int m), (4, .int (S 0 11))]) (st' := [.int ((((w2 ^^^ ((S 0 11) * 911)) >>> ((8 : Int32) &&& 31)) &&& 3)), .int ((((r3 + 1) + r4) - ((r3 + 1) + r4) / n * n)), .int r3, .ref 0]) (I' := I) rfl ?_
      refine zif rfl rfl (fun h5 => ?_) (fun h5 => ?_)
      · have h5 := zc_ne.1.mp h5
        refine zg 8 (pc' := 223) (ls' := [(6, .int r3), (5, .int ((w2 ^^^ ((S 0 11) * 911)))), (0, .ref 0), (1, .ref 1000), (2, .int n), (3, .int m), (4, .int (S 0 11))]) (st' := [.int (((w2 ^^^ ((S 0 11) * 911)) >>> ((13 : Int32) &&& 31))), .int ((((w2 ^^^ ((S 0 11) * 911)) >>> ((10 : Int32) &&& 31)) &&& 255)), .int ((((r3 + 1) + r4) - ((r3 + 1) + r4) / n * n)), .int r3, .ref 0]) (I' := I) rfl ?_
        have hmesh : 0 ≤ ((((w2 ^^^ ((S 0 11) * 911)) >>> ((10 : Int32) &&& 31)) &&& 255) &&& ((w2 ^^^ ((S 0 11) * 911)) >>> ((13 : Int32) &&& 31))).toInt ∧ ((((w2 ^^^ ((S 0 11) * 911)) >>> ((10 : Int32) &&& 31)) &&& 255) &&& ((w2 ^^^ ((S 0 11) * 911)) >>> ((13 : Int32) &&& 31))).toInt ≤ 255 := by
          have g1 := zand_255 (((w2 ^^^ ((S 0 11) * 911)) >>> ((10 : Int32) &&& 31)))
          have g2 := zand_in (x := (((w2 ^^^ ((S 0 11) * 911)) >>> ((10 : Int32) &&& 31)) &&& 255)) (((w2 ^^^ ((S 0 11) * 911)) >>> ((13 : Int32) &&& 31))) g1.1
          exact ⟨g2.1, by omega⟩
        refine zg 1 (pc' := 224) (ls' := [(6, .int r3), (5, .int ((w2 ^^^ ((S 0 11) * 911)))), (0, .ref 0), (1, .ref 1000), (2, .int n), (3, .int m), (4, .int (S 0 11))]) (st' := [.int (((((w2 ^^^ ((S 0 11) * 911)) >>> ((10 : Int32) &&& 31)) &&& 255) &&& ((w2 ^^^ ((S 0 11) * 911)) >>> ((13 : Int32) &&& 31)))), .int ((((r3 + 1) + r4) - ((r3 + 1) + r4) / n * n)), .int r3, .ref 0]) (I' := I) rfl ?_
        refine zcP (b2 := 0) rfl rfl (zl_addPipe_ok (D := D) hI.1 hI.2.1 hI.2.2.1 r3 ((((r3 + 1) + r4) - ((r3 + 1) + r4) / n * n)) (((((w2 ^^^ ((S 0 11) * 911)) >>> ((10 : Int32) &&& 31)) &&& 255) &&& ((w2 ^^^ ((S 0 11) * 911)) >>> ((13 : Int32) &&& 31)))) (zrfP_ok ⟨by omega, by omega⟩ ⟨by omega, by omega⟩ (by omega) (by first | decide | exact hmesh) (by omega))) (fun x J1 hP => ?_)
        obtain ⟨T1, hB1, hH1, hc1, hA1⟩ := hP
        obtain ⟨hI1, hK1, hL1⟩ := zMk_of hI hK hL hB1 hH1 hc1 hA1
        obtain ⟨-, -, zT1, rfl⟩ := hA1
        have t10 : T1 0 10 = S 0 10 := by rw [zT1]; rfl
        have t11 : T1 0 11 = S 0 11 + 1 := by rw [zT1]; exact zsu_eq _ _ _ _
        have t11i : (T1 0 11).toInt = (S 0 11).toInt + 1 := by rw [t11]; exact zadd1 (by omega) (by omega)
        have gg := hI.2.1.2.2.2.2.2 (S 0 11).toNatClampNeg (by have := zcl_nat (x := S 0 11); omega) (by have := zcl_nat (x := S 0 11); omega)
        have t7 : T1 7 (S 0 11).toNatClampNeg = 0 := by rw [zT1]; exact gg.1
        have t8 : T1 8 (S 0 11).toNatClampNeg = 0 := by rw [zT1]; exact gg.2.1
        refine zg 1 (pc' := 229) (ls' := [(6, .int r3), (5, .int ((w2 ^^^ ((S 0 11) * 911)))), (0, .ref 0), (1, .ref 1000), (2, .int n), (3, .int m), (4, .int (S 0 11))]) (st' := [.int (S 0 11), .int (S 0 11)]) (I' := J1) rfl ?_
        refine zicmp rfl rfl (fun h6 => ?_) (fun h6 => ?_)
        · have h6 := zc_ne.1.mp h6
          exact absurd rfl h6
        · have h6 := zc_ne.2.mp h6
          refine zg 6 (pc' := 241) (ls' := [(6, .int r3), (5, .int ((w2 ^^^ ((S 0 11) * 911)))), (0, .ref 0), (1, .ref 1000), (2, .int n), (3, .int m), (4, .int (S 0 11))]) (st' := [.int 5, .int (((w2 ^^^ ((S 0 11) * 911)) >>> ((7 : Int32) &&& 31))), .int (S 0 11), .ref 0]) (I' := J1) rfl ?_
          refine zcPi (b2 := 0) rfl rfl (zt_some (((w2 ^^^ ((S 0 11) * 911)) >>> ((7 : Int32) &&& 31))) 5 (by decide)) (fun r7 r7h => ?_)
          refine zcP (b2 := 0) rfl rfl (zl_setValve_ok (D := D) hI1.1 hI1.2.1 hI1.2.2.1 (S 0 11) r7 (zrfV_ok ⟨by omega, by omega⟩ ⟨by omega, by omega⟩)) (fun x J2 hP => ?_)
          obtain ⟨T2, hB2, hH2, hc2, hA2⟩ := hP
          obtain ⟨hI2, hK2, hL2⟩ := zMk_of hI1 hK1 hL1 hB2 hH2 hc2 hA2
          obtain ⟨-, -, zT2, rfl⟩ := hA2
          have u10 : T2 0 10 = S 0 10 := by rw [zT2]; exact t10
          have u11 : T2 0 11 = S 0 11 + 1 := by rw [zT2]; exact t11
          have u8 : T2 8 (S 0 11).toNatClampNeg = 0 := by rw [zT2]; exact t8
          have u11i : (T2 0 11).toInt = (S 0 11).toInt + 1 := by rw [u11, ← t11]; exact t11i
          refine zif rfl rfl (fun h8 => ?_) (fun h8 => ?_)
          · have h8 := zc_ne.1.mp h8
            exact absurd t7 h8
          · have h8 := zc_ne.2.mp h8
            refine zg 7 (pc' := 259) (ls' := [(6, .int r3), (5, .int ((w2 ^^^ ((S 0 11) * 911)))), (0, .ref 0), (1, .ref 1000), (2, .int n), (3, .int m), (4, .int (S 0 11))]) (st' := [.int ((((w2 ^^^ ((S 0 11) * 911)) >>> ((5 : Int32) &&& 31)) &&& 1)), .int (S 0 11), .ref 0]) (I' := J2) rfl ?_
            refine zif rfl rfl (fun h9 => ?_) (fun h9 => ?_)
            · have h9 := zc_ne.1.mp h9
              refine zg 4 (pc' := 273) (ls' := [(6, .int r3), (5, .int ((w2 ^^^ ((S 0 11) * 911)))), (0, .ref 0), (1, .ref 1000), (2, .int n), (3, .int m), (4, .int (S 0 11))]) (st' := [.int 10, .int (((w2 ^^^ ((S 0 11) * 911)) >>> ((6 : Int32) &&& 31))), .int (S 0 11), .ref 0]) (I' := J2) rfl ?_
              refine zcPi (b2 := 0) rfl rfl (zt_some (((w2 ^^^ ((S 0 11) * 911)) >>> ((6 : Int32) &&& 31))) 10 (by decide)) (fun r10 r10h => ?_)
              refine zcP (b2 := 0) rfl rfl (zl_setLeak_ok (D := D) hI2.1 hI2.2.1 hI2.2.2.1 (S 0 11) r10 (zrfV_ok ⟨by omega, by omega⟩ (by first | decide | (constructor <;> omega)))) (fun x J3 hP => ?_)
              obtain ⟨T3, hB3, hH3, hc3, hA3⟩ := hP
              obtain ⟨hI3, hK3, hL3⟩ := zMk_of hI2 hK2 hL2 hB3 hH3 hc3 hA3
              obtain ⟨-, -, zT3, rfl⟩ := hA3
              have v10 : T3 0 10 = S 0 10 := by rw [zT3]; exact u10
              have v11 : T3 0 11 = S 0 11 + 1 := by rw [zT3]; exact u11
              refine zif rfl rfl (fun h11 => ?_) (fun h11 => ?_)
              · have h11 := zc_eq.1.mp h11
                refine zg 2 (pc' := 140) (ls' := [(4, .int (((S 0 11) + 1))), (6, .int r3), (5, .int ((w2 ^^^ ((S 0 11) * 911)))), (0, .ref 0), (1, .ref 1000), (2, .int n), (3, .int m)]) (st' := []) (I' := J3) rfl ?_
                refine zfew (l1 := [(0, .ref 0), (1, .ref 1000), (2, .int n), (3, .int m), (4, .int (((S 0 11) + 1)))]) [(6, .int r3), (5, .int ((w2 ^^^ ((S 0 11) * 911))))] (List.Perm.trans (List.Perm.trans (List.Perm.trans (List.Perm.trans (List.Perm.trans (List.Perm.trans (List.Perm.trans (List.Perm.trans (List.Perm.trans (List.Perm.trans (List.Perm.trans (List.Perm.cons _ (List.Perm.cons _ (List.Perm.cons _ (List.Perm.swap _ _ _)))) (List.Perm.cons _ (List.Perm.cons _ (List.Perm.swap _ _ _)))) (List.Perm.cons _ (List.Perm.swap _ _ _))) (List.Perm.swap _ _ _)) (List.Perm.cons _ (List.Perm.cons _ (List.Perm.cons _ (List.Perm.cons _ (List.Perm.swap _ _ _)))))) (List.Perm.cons _ (List.Perm.cons _ (List.Perm.cons _ (List.Perm.swap _ _ _))))) (List.Perm.cons _ (List.Perm.cons _ (List.Perm.swap _ _ _)))) (List.Perm.cons _ (List.Perm.swap _ _ _))) (List.Perm.cons _ (List.Perm.cons _ (List.Perm.cons _ (List.Perm.cons _ (List.Perm.cons _ (List.Perm.swap _ _ _))))))) (List.Perm.cons _ (List.Perm.cons _ (List.Perm.cons _ (List.Perm.cons _ (List.Perm.swap _ _ _)))))) (List.Perm.cons _ (List.Perm.cons _ (List.Perm.cons _ (List.Perm.swap _ _ _))))) (List.Perm.cons _ (List.Perm.cons _ (List.Perm.swap _ _ _)))) rfl ?_
                have q := ih T3 _ J3 hI3 (by rw [v10]; exact hn) hK3 hL3 (by rw [v11, ← t11]; omega)
                rw [v11] at q
                exact q
              · have h11 := zc_eq.2.mp h11
                exact absurd u8 h11
            · have h9 := zc_ne.2.mp h9
              refine zg 2 (pc' := 276) (ls' := [(6, .int r3), (5, .int ((w2 ^^^ ((S 0 11) * 911)))), (0, .ref 0), (1, .ref 1000), (2, .int n), (3, .int m), (4, .int (S 0 11))]) (st' := [.int 0, .int (S 0 11), .ref 0]) (I' := J2) rfl ?_
              refine zcP (b2 := 0) rfl rfl (zl_setLeak_ok (D := D) hI2.1 hI2.2.1 hI2.2.2.1 (S 0 11) 0 (zrfV_ok ⟨by omega, by omega⟩ (by first | decide | (constructor <;> omega)))) (fun x J4 hP => ?_)
              obtain ⟨T4, hB4, hH4, hc4, hA4⟩ := hP
              obtain ⟨hI4, hK4, hL4⟩ := zMk_of hI2 hK2 hL2 hB4 hH4 hc4 hA4
              obtain ⟨-, -, zT4, rfl⟩ := hA4
              have v10 : T4 0 10 = S 0 10 := by rw [zT4]; exact u10
              have v11 : T4 0 11 = S 0 11 + 1 := by rw [zT4]; exact u11
              refine zif rfl rfl (fun h12 => ?_) (fun h12 => ?_)
              · have h12 := zc_eq.1.mp h12
                refine zg 2 (pc' := 140) (ls' := [(4, .int (((S 0 11) + 1))), (6, .int r3), (5, .int ((w2 ^^^ ((S 0 11) * 911)))), (0, .ref 0), (1, .ref 1000), (2, .int n), (3, .int m)]) (st' := []) (I' := J4) rfl ?_
                refine zfew (l1 := [(0, .ref 0), (1, .ref 1000), (2, .int n), (3, .int m), (4, .int (((S 0 11) + 1)))]) [(6, .int r3), (5, .int ((w2 ^^^ ((S 0 11) * 911))))] (List.Perm.trans (List.Perm.trans (List.Perm.trans (List.Perm.trans (List.Perm.trans (List.Perm.trans (List.Perm.trans (List.Perm.trans (List.Perm.trans (List.Perm.trans (List.Perm.trans (List.Perm.cons _ (List.Perm.cons _ (List.Perm.cons _ (List.Perm.swap _ _ _)))) (List.Perm.cons _ (List.Perm.cons _ (List.Perm.swap _ _ _)))) (List.Perm.cons _ (List.Perm.swap _ _ _))) (List.Perm.swap _ _ _)) (List.Perm.cons _ (List.Perm.cons _ (List.Perm.cons _ (List.Perm.cons _ (List.Perm.swap _ _ _)))))) (List.Perm.cons _ (List.Perm.cons _ (List.Perm.cons _ (List.Perm.swap _ _ _))))) (List.Perm.cons _ (List.Perm.cons _ (List.Perm.swap _ _ _)))) (List.Perm.cons _ (List.Perm.swap _ _ _))) (List.Perm.cons _ (List.Perm.cons _ (List.Perm.cons _ (List.Perm.cons _ (List.Perm.cons _ (List.Perm.swap _ _ _))))))) (List.Perm.cons _ (List.Perm.cons _ (List.Perm.cons _ (List.Perm.cons _ (List.Perm.swap _ _ _)))))) (List.Perm.cons _ (List.Perm.cons _ (List.Perm.cons _ (List.Perm.swap _ _ _))))) (List.Perm.cons _ (List.Perm.cons _ (List.Perm.swap _ _ _)))) rfl ?_
                have q := ih T4 _ J4 hI4 (by rw [v10]; exact hn) hK4 hL4 (by rw [v11, ← t11]; omega)
                rw [v11] at q
                exact q
              · have h12 := zc_eq.2.mp h12
                exact absurd u8 h12
      · have h5 := zc_ne.2.mp h5
        refine zg 2 (pc' := 224) (ls' := [(6, .int r3), (5, .int ((w2 ^^^ ((S 0 11) * 911)))), (0, .ref 0), (1, .ref 1000), (2, .int n), (3, .int m), (4, .int (S 0 11))]) (st' := [.int 0, .int ((((r3 + 1) + r4) - ((r3 + 1) + r4) / n * n)), .int r3, .ref 0]) (I' := I) rfl ?_
        refine zcP (b2 := 0) rfl rfl (zl_addPipe_ok (D := D) hI.1 hI.2.1 hI.2.2.1 r3 ((((r3 + 1) + r4) - ((r3 + 1) + r4) / n * n)) 0 (zrfP_ok ⟨by omega, by omega⟩ ⟨by omega, by omega⟩ (by omega) (by first | decide | exact hmesh) (by omega))) (fun x J5 hP => ?_)
        obtain ⟨T5, hB5, hH5, hc5, hA5⟩ := hP
        obtain ⟨hI5, hK5, hL5⟩ := zMk_of hI hK hL hB5 hH5 hc5 hA5
        obtain ⟨-, -, zT5, rfl⟩ := hA5
        have t10 : T5 0 10 = S 0 10 := by rw [zT5]; rfl
        have t11 : T5 0 11 = S 0 11 + 1 := by rw [zT5]; exact zsu_eq _ _ _ _
        have t11i : (T5 0 11).toInt = (S 0 11).toInt + 1 := by rw [t11]; exact zadd1 (by omega) (by omega)
        have gg := hI.2.1.2.2.2.2.2 (S 0 11).toNatClampNeg (by have := zcl_nat (x := S 0 11); omega) (by have := zcl_nat (x := S 0 11); omega)
        have t7 : T5 7 (S 0 11).toNatClampNeg = 0 := by rw [zT5]; exact gg.1
        have t8 : T5 8 (S 0 11).toNatClampNeg = 0 := by rw [zT5]; exact gg.2.1
        refine zg 1 (pc' := 229) (ls' := [(6, .int r3), (5, .int ((w2 ^^^ ((S 0 11) * 911)))), (0, .ref 0), (1, .ref 1000), (2, .int n), (3, .int m), (4, .int (S 0 11))]) (st' := [.int (S 0 11), .int (S 0 11)]) (I' := J5) rfl ?_
        refine zicmp rfl rfl (fun h13 => ?_) (fun h13 => ?_)
        · have h13 := zc_ne.1.mp h13
          exact absurd rfl h13
        · have h13 := zc_ne.2.mp h13
          refine zg 6 (pc' := 241) (ls' := [(6, .int r3), (5, .int ((w2 ^^^ ((S 0 11) * 911)))), (0, .ref 0), (1, .ref 1000), (2, .int n), (3, .int m), (4, .int (S 0 11))]) (st' := [.int 5, .int (((w2 ^^^ ((S 0 11) * 911)) >>> ((7 : Int32) &&& 31))), .int (S 0 11), .ref 0]) (I' := J5) rfl ?_
          refine zcPi (b2 := 0) rfl rfl (zt_some (((w2 ^^^ ((S 0 11) * 911)) >>> ((7 : Int32) &&& 31))) 5 (by decide)) (fun r14 r14h => ?_)
          refine zcP (b2 := 0) rfl rfl (zl_setValve_ok (D := D) hI5.1 hI5.2.1 hI5.2.2.1 (S 0 11) r14 (zrfV_ok ⟨by omega, by omega⟩ ⟨by omega, by omega⟩)) (fun x J6 hP => ?_)
          obtain ⟨T6, hB6, hH6, hc6, hA6⟩ := hP
          obtain ⟨hI6, hK6, hL6⟩ := zMk_of hI5 hK5 hL5 hB6 hH6 hc6 hA6
          obtain ⟨-, -, zT6, rfl⟩ := hA6
          have u10 : T6 0 10 = S 0 10 := by rw [zT6]; exact t10
          have u11 : T6 0 11 = S 0 11 + 1 := by rw [zT6]; exact t11
          have u8 : T6 8 (S 0 11).toNatClampNeg = 0 := by rw [zT6]; exact t8
          have u11i : (T6 0 11).toInt = (S 0 11).toInt + 1 := by rw [u11, ← t11]; exact t11i
          refine zif rfl rfl (fun h15 => ?_) (fun h15 => ?_)
          · have h15 := zc_ne.1.mp h15
            exact absurd t7 h15
          · have h15 := zc_ne.2.mp h15
            refine zg 7 (pc' := 259) (ls' := [(6, .int r3), (5, .int ((w2 ^^^ ((S 0 11) * 911)))), (0, .ref 0), (1, .ref 1000), (2, .int n), (3, .int m), (4, .int (S 0 11))]) (st' := [.int ((((w2 ^^^ ((S 0 11) * 911)) >>> ((5 : Int32) &&& 31)) &&& 1)), .int (S 0 11), .ref 0]) (I' := J6) rfl ?_
            refine zif rfl rfl (fun h16 => ?_) (fun h16 => ?_)
            · have h16 := zc_ne.1.mp h16
              refine zg 4 (pc' := 273) (ls' := [(6, .int r3), (5, .int ((w2 ^^^ ((S 0 11) * 911)))), (0, .ref 0), (1, .ref 1000), (2, .int n), (3, .int m), (4, .int (S 0 11))]) (st' := [.int 10, .int (((w2 ^^^ ((S 0 11) * 911)) >>> ((6 : Int32) &&& 31))), .int (S 0 11), .ref 0]) (I' := J6) rfl ?_
              refine zcPi (b2 := 0) rfl rfl (zt_some (((w2 ^^^ ((S 0 11) * 911)) >>> ((6 : Int32) &&& 31))) 10 (by decide)) (fun r17 r17h => ?_)
              refine zcP (b2 := 0) rfl rfl (zl_setLeak_ok (D := D) hI6.1 hI6.2.1 hI6.2.2.1 (S 0 11) r17 (zrfV_ok ⟨by omega, by omega⟩ (by first | decide | (constructor <;> omega)))) (fun x J7 hP => ?_)
              obtain ⟨T7, hB7, hH7, hc7, hA7⟩ := hP
              obtain ⟨hI7, hK7, hL7⟩ := zMk_of hI6 hK6 hL6 hB7 hH7 hc7 hA7
              obtain ⟨-, -, zT7, rfl⟩ := hA7
              have v10 : T7 0 10 = S 0 10 := by rw [zT7]; exact u10
              have v11 : T7 0 11 = S 0 11 + 1 := by rw [zT7]; exact u11
              refine zif rfl rfl (fun h18 => ?_) (fun h18 => ?_)
              · have h18 := zc_eq.1.mp h18
                refine zg 2 (pc' := 140) (ls' := [(4, .int (((S 0 11) + 1))), (6, .int r3), (5, .int ((w2 ^^^ ((S 0 11) * 911)))), (0, .ref 0), (1, .ref 1000), (2, .int n), (3, .int m)]) (st' := []) (I' := J7) rfl ?_
                refine zfew (l1 := [(0, .ref 0), (1, .ref 1000), (2, .int n), (3, .int m), (4, .int (((S 0 11) + 1)))]) [(6, .int r3), (5, .int ((w2 ^^^ ((S 0 11) * 911))))] (List.Perm.trans (List.Perm.trans (List.Perm.trans (List.Perm.trans (List.Perm.trans (List.Perm.trans (List.Perm.trans (List.Perm.trans (List.Perm.trans (List.Perm.trans (List.Perm.trans (List.Perm.cons _ (List.Perm.cons _ (List.Perm.cons _ (List.Perm.swap _ _ _)))) (List.Perm.cons _ (List.Perm.cons _ (List.Perm.swap _ _ _)))) (List.Perm.cons _ (List.Perm.swap _ _ _))) (List.Perm.swap _ _ _)) (List.Perm.cons _ (List.Perm.cons _ (List.Perm.cons _ (List.Perm.cons _ (List.Perm.swap _ _ _)))))) (List.Perm.cons _ (List.Perm.cons _ (List.Perm.cons _ (List.Perm.swap _ _ _))))) (List.Perm.cons _ (List.Perm.cons _ (List.Perm.swap _ _ _)))) (List.Perm.cons _ (List.Perm.swap _ _ _))) (List.Perm.cons _ (List.Perm.cons _ (List.Perm.cons _ (List.Perm.cons _ (List.Perm.cons _ (List.Perm.swap _ _ _))))))) (List.Perm.cons _ (List.Perm.cons _ (List.Perm.cons _ (List.Perm.cons _ (List.Perm.swap _ _ _)))))) (List.Perm.cons _ (List.Perm.cons _ (List.Perm.cons _ (List.Perm.swap _ _ _))))) (List.Perm.cons _ (List.Perm.cons _ (List.Perm.swap _ _ _)))) rfl ?_
                have q := ih T7 _ J7 hI7 (by rw [v10]; exact hn) hK7 hL7 (by rw [v11, ← t11]; omega)
                rw [v11] at q
                exact q
              · have h18 := zc_eq.2.mp h18
                exact absurd u8 h18
            · have h16 := zc_ne.2.mp h16
              refine zg 2 (pc' := 276) (ls' := [(6, .int r3), (5, .int ((w2 ^^^ ((S 0 11) * 911)))), (0, .ref 0), (1, .ref 1000), (2, .int n), (3, .int m), (4, .int (S 0 11))]) (st' := [.int 0, .int (S 0 11), .ref 0]) (I' := J6) rfl ?_
              refine zcP (b2 := 0) rfl rfl (zl_setLeak_ok (D := D) hI6.1 hI6.2.1 hI6.2.2.1 (S 0 11) 0 (zrfV_ok ⟨by omega, by omega⟩ (by first | decide | (constructor <;> omega)))) (fun x J8 hP => ?_)
              obtain ⟨T8, hB8, hH8, hc8, hA8⟩ := hP
              obtain ⟨hI8, hK8, hL8⟩ := zMk_of hI6 hK6 hL6 hB8 hH8 hc8 hA8
              obtain ⟨-, -, zT8, rfl⟩ := hA8
              have v10 : T8 0 10 = S 0 10 := by rw [zT8]; exact u10
              have v11 : T8 0 11 = S 0 11 + 1 := by rw [zT8]; exact u11
              refine zif rfl rfl (fun h19 => ?_) (fun h19 => ?_)
              · have h19 := zc_eq.1.mp h19
                refine zg 2 (pc' := 140) (ls' := [(4, .int (((S 0 11) + 1))), (6, .int r3), (5, .int ((w2 ^^^ ((S 0 11) * 911)))), (0, .ref 0), (1, .ref 1000), (2, .int n), (3, .int m)]) (st' := []) (I' := J8) rfl ?_
                refine zfew (l1 := [(0, .ref 0), (1, .ref 1000), (2, .int n), (3, .int m), (4, .int (((S 0 11) + 1)))]) [(6, .int r3), (5, .int ((w2 ^^^ ((S 0 11) * 911))))] (List.Perm.trans (List.Perm.trans (List.Perm.trans (List.Perm.trans (List.Perm.trans (List.Perm.trans (List.Perm.trans (List.Perm.trans (List.Perm.trans (List.Perm.trans (List.Perm.trans (List.Perm.cons _ (List.Perm.cons _ (List.Perm.cons _ (List.Perm.swap _ _ _)))) (List.Perm.cons _ (List.Perm.cons _ (List.Perm.swap _ _ _)))) (List.Perm.cons _ (List.Perm.swap _ _ _))) (List.Perm.swap _ _ _)) (List.Perm.cons _ (List.Perm.cons _ (List.Perm.cons _ (List.Perm.cons _ (List.Perm.swap _ _ _)))))) (List.Perm.cons _ (List.Perm.cons _ (List.Perm.cons _ (List.Perm.swap _ _ _))))) (List.Perm.cons _ (List.Perm.cons _ (List.Perm.swap _ _ _)))) (List.Perm.cons _ (List.Perm.swap _ _ _))) (List.Perm.cons _ (List.Perm.cons _ (List.Perm.cons _ (List.Perm.cons _ (List.Perm.cons _ (List.Perm.swap _ _ _))))))) (List.Perm.cons _ (List.Perm.cons _ (List.Perm.cons _ (List.Perm.cons _ (List.Perm.swap _ _ _)))))) (List.Perm.cons _ (List.Perm.cons _ (List.Perm.cons _ (List.Perm.swap _ _ _))))) (List.Perm.cons _ (List.Perm.cons _ (List.Perm.swap _ _ _)))) rfl ?_
                have q := ih T8 _ J8 hI8 (by rw [v10]; exact hn) hK8 hL8 (by rw [v11, ← t11]; omega)
                rw [v11] at q
                exact q
              · have h19 := zc_eq.2.mp h19
                exact absurd u8 h19
set_option maxRecDepth 4000 in
theorem zt_mk290 {sl D dy : Nat} {I : zM} {I0 : zM} {S : Nat → Nat → Int32} {L : List (Nat → Nat → Int32)} (hsl : sl ≤ 2147483647) (hI : zIv S L I) (hK : zKp I0 I) (hL : zLw sl I) (n m : Int32) (hn : 2 ≤ (S 0 10).toInt) (hm : 1 ≤ (S 0 11).toInt) : zW sl (D + 8) dy 174 290 [(0, .ref 0), (1, .ref 1000), (2, .int n), (3, .int m)] [] I (zRg 0 (zQP (fun x K => x = 1 ∧ ∃ S L, zIv S L K ∧ 2 ≤ (S 0 10).toInt ∧ 1 ≤ (S 0 11).toInt ∧ zKp I0 K))) := by
  have zz0 : (0 : Int32).toInt = 0 := rfl
  have zz1 : (1 : Int32).toInt = 1 := rfl
  have zz2 : (2 : Int32).toInt = 2 := rfl
  have zz4 : (4 : Int32).toInt = 4 := rfl
  have zz5 : (5 : Int32).toInt = 5 := rfl
  have zz7 : (7 : Int32).toInt = 7 := rfl
  have zz8 : (8 : Int32).toInt = 8 := rfl
  have zz9 : (9 : Int32).toInt = 9 := rfl
  have zz10 : (10 : Int32).toInt = 10 := rfl
  have zz12 : (12 : Int32).toInt = 12 := rfl
  have zz100 : (100 : Int32).toInt = 100 := rfl
  have zz255 : (255 : Int32).toInt = 255 := rfl
  have zz990 : (990 : Int32).toInt = 990 := rfl
  have hT := hI.2.1.1
  have hP := hI.2.1.2.1
  refine zg 4 (pc' := 295) (ls' := [(0, .ref 0), (1, .ref 1000), (2, .int n), (3, .int m)]) (st' := [.int 33, .ref 1000, .int 1, .ref 0]) (I' := I) rfl ?_
  refine zcPi (b2 := 0) rfl rfl (zt_at 33 (by decide) hsl hL) (fun w1 hP => ?_)
  refine zg 1 (pc' := 299) (ls' := [(0, .ref 0), (1, .ref 1000), (2, .int n), (3, .int m)]) (st' := [.int 4, .int w1, .int 1, .ref 0]) (I' := I) rfl ?_
  refine zcPi (b2 := 0) rfl rfl (zt_some w1 4 (by decide)) (fun r2 r2h => ?_)
  refine zg 1 (pc' := 303) (ls' := [(0, .ref 0), (1, .ref 1000), (2, .int n), (3, .int m)]) (st' := [.int (1 + r2), .ref 0]) (I' := I) rfl ?_
  have e1 := zti_add (x := 1) (y := r2) (by omega) (by omega)
  refine zcP (b2 := 0) rfl rfl (zl_advance_ok (D := D) hI.1 hI.2.1 hI.2.2.1 (1 + r2) (zrfW_ok (by omega))) (fun x J hP => ?_)
  obtain ⟨T, hB1, hH1, hc1, hA1⟩ := hP
  obtain ⟨hI1, hK1, hL1⟩ := zMk_of hI hK hL hB1 hH1 hc1 hA1
  obtain ⟨-, hx0, v10, v11⟩ := hA1
  refine zif rfl rfl (fun h3 => ?_) (fun h3 => ?_)
  · have h3 := zc_lt.1.mp h3
    exfalso; omega
  · have h3 := zc_lt.2.mp h3
    refine zg 2 (pc' := 314) (ls' := [(0, .ref 0), (1, .ref 1000), (2, .int n), (3, .int m)]) (st' := [.int 1]) (I' := J) rfl ?_
    refine ziret rfl rfl rfl ?_
    exact zP1 ⟨rfl, T, _, hI1, by rw [v10]; exact hn, by rw [v11]; exact hm, hK1⟩
set_option maxRecDepth 4000 in
theorem zt_mk123 {sl D dy : Nat} {I : zM} {I0 : zM} {S : Nat → Nat → Int32} {L : List (Nat → Nat → Int32)} (hsl : sl ≤ 2147483647) (hI : zIv S L I) (hK : zKp I0 I) (hL : zLw sl I) (n : Int32) (hn2 : 2 ≤ n.toInt) (hn8 : n.toInt ≤ 8) (hn : (S 0 10).toInt = n.toInt) (hm : (S 0 11).toInt = 0) : zW sl (D + 8) dy 174 123 [(0, .ref 0), (1, .ref 1000), (2, .int n), (3, .int (S 0 10))] [] I (zRg 0 (zQP (fun x K => x = 1 ∧ ∃ S L, zIv S L K ∧ 2 ≤ (S 0 10).toInt ∧ 1 ≤ (S 0 11).toInt ∧ zKp I0 K))) := by
  have zz0 : (0 : Int32).toInt = 0 := rfl
  have zz1 : (1 : Int32).toInt = 1 := rfl
  have zz2 : (2 : Int32).toInt = 2 := rfl
  have zz4 : (4 : Int32).toInt = 4 := rfl
  have zz5 : (5 : Int32).toInt = 5 := rfl
  have zz7 : (7 : Int32).toInt = 7 := rfl
  have zz8 : (8 : Int32).toInt = 8 := rfl
  have zz9 : (9 : Int32).toInt = 9 := rfl
  have zz10 : (10 : Int32).toInt = 10 := rfl
  have zz12 : (12 : Int32).toInt = 12 := rfl
  have zz100 : (100 : Int32).toInt = 100 := rfl
  have zz255 : (255 : Int32).toInt = 255 := rfl
  have zz990 : (990 : Int32).toInt = 990 := rfl
  have hT := hI.2.1.1
  have hP := hI.2.1.2.1
  refine zg 3 (pc' := 127) (ls' := [(0, .ref 0), (1, .ref 1000), (2, .int n), (3, .int (S 0 10))]) (st' := [.int 20, .ref 1000, .int 1]) (I' := I) rfl ?_
  refine zcPi (b2 := 0) rfl rfl (zt_at 20 (by decide) hsl hL) (fun w1 hP => ?_)
  refine zg 1 (pc' := 132) (ls' := [(0, .ref 0), (1, .ref 1000), (2, .int n), (3, .int (S 0 10))]) (st' := [.int 12, .int w1, .int 1]) (I' := I) rfl ?_
  refine zcPi (b2 := 0) rfl rfl (zt_some w1 12 (by decide)) (fun r2 r2h => ?_)
  refine zg 4 (pc' := 140) (ls' := [(4, .int 0), (3, .int (1 + r2)), (0, .ref 0), (1, .ref 1000), (2, .int n)]) (st' := []) (I' := I) rfl ?_
  have e1 := zti_add (x := 1) (y := r2) (by omega) (by omega)
  have hz : S 0 11 = 0 := Int32.toInt_inj.mp (by omega)
  refine zLp (List.Perm.trans (List.Perm.trans (List.Perm.trans (List.Perm.trans (List.Perm.trans (List.Perm.trans (List.Perm.cons _ (List.Perm.cons _ (List.Perm.cons _ (List.Perm.swap _ _ _)))) (List.Perm.cons _ (List.Perm.cons _ (List.Perm.swap _ _ _)))) (List.Perm.cons _ (List.Perm.swap _ _ _))) (List.Perm.swap _ _ _)) (List.Perm.cons _ (List.Perm.cons _ (List.Perm.cons _ (List.Perm.swap _ _ _))))) (List.Perm.cons _ (List.Perm.cons _ (List.Perm.swap _ _ _)))) (List.Perm.cons _ (List.Perm.swap _ _ _))) rfl ?_
  have q := zt_mkpl (dy := dy) (D := D) hsl n (1 + r2) (by omega) (by omega) (by omega) (fun S2 L2 J g1 g2 g3 g4 g5 => zt_mk290 hsl g1 g4 g5 n (1 + r2) (by omega) (by omega)) (1 + r2).toInt.toNat S L I hI hn hK hL (by omega)
  rw [hz] at q
  exact q
set_option maxRecDepth 4000 in
theorem zl_makes {sl D dy : Nat} {I : zM} {S : Nat → Nat → Int32} {L : List (Nat → Nat → Int32)} (hsl : sl ≤ 2147483647) (hI : zIv S L I) (hL : zLw sl I) (hn : (S 0 10).toInt = 0) (hm : (S 0 11).toInt = 0) : zW sl (D + 8) dy 174 0 [(0, .ref 0), (1, .ref 1000)] [] I (zRg 0 (zQP (fun x K => x = 1 ∧ ∃ S L, zIv S L K ∧ 2 ≤ (S 0 10).toInt ∧ 1 ≤ (S 0 11).toInt ∧ zKp I K))) := by
  have zz0 : (0 : Int32).toInt = 0 := rfl
  have zz1 : (1 : Int32).toInt = 1 := rfl
  have zz2 : (2 : Int32).toInt = 2 := rfl
  have zz4 : (4 : Int32).toInt = 4 := rfl
  have zz5 : (5 : Int32).toInt = 5 := rfl
  have zz7 : (7 : Int32).toInt = 7 := rfl
  have zz8 : (8 : Int32).toInt = 8 := rfl
  have zz9 : (9 : Int32).toInt = 9 := rfl
  have zz10 : (10 : Int32).toInt = 10 := rfl
  have zz12 : (12 : Int32).toInt = 12 := rfl
  have zz100 : (100 : Int32).toInt = 100 := rfl
  have zz255 : (255 : Int32).toInt = 255 := rfl
  have zz990 : (990 : Int32).toInt = 990 := rfl
  have hT := hI.2.1.1
  have hP := hI.2.1.2.1
  refine zg 3 (pc' := 3) (ls' := [(0, .ref 0), (1, .ref 1000)]) (st' := [.int 0, .ref 1000, .int 2]) (I' := I) rfl ?_
  refine zcPi (b2 := 0) rfl rfl (zt_at 0 (by decide) hsl hL) (fun w1 hP => ?_)
  refine zg 1 (pc' := 8) (ls' := [(0, .ref 0), (1, .ref 1000)]) (st' := [.int 7, .int w1, .int 2]) (I' := I) rfl ?_
  refine zcPi (b2 := 0) rfl rfl (zt_some w1 7 (by decide)) (fun r2 r2h => ?_)
  refine zg 4 (pc' := 15) (ls' := [(3, .int 0), (2, .int (2 + r2)), (0, .ref 0), (1, .ref 1000)]) (st' := []) (I' := I) rfl ?_
  have e1 := zti_add (x := 2) (y := r2) (by omega) (by omega)
  have hz : S 0 10 = 0 := Int32.toInt_inj.mp (by omega)
  refine zLp (List.Perm.trans (List.Perm.trans (List.Perm.trans (List.Perm.trans (List.Perm.cons _ (List.Perm.cons _ (List.Perm.swap _ _ _))) (List.Perm.cons _ (List.Perm.swap _ _ _))) (List.Perm.swap _ _ _)) (List.Perm.cons _ (List.Perm.cons _ (List.Perm.swap _ _ _)))) (List.Perm.cons _ (List.Perm.swap _ _ _))) rfl ?_
  have q := zt_mktl (dy := dy) (D := D) hsl (2 + r2) (by omega) (fun S2 L2 J g1 g2 g3 g4 g5 => zt_mk123 hsl g1 g4 g5 (2 + r2) (by omega) (by omega) g2 g3) (2 + r2).toInt.toNat S L I hI hm (zKp_refl I) hL (by omega)
  rw [hz] at q
  exact q
