/-! CONTRACTS: ways through open pipes -/
def zng (S : Nat → Nat → Int32) (ts least lo : Int32) : Int32 := znbl S ts least lo (S 0 11).toInt.toNat 0 0
/-- what is reached in k steps more -/
def zrcl (S : Nat → Nat → Int32) (least lo : Int32) : Nat → Int32 → Int32 → Int32
  | 0, _, r => r
  | k + 1, l, r => if l = 0 then r else zrcl S least lo k (zng S l least lo &&& (r ^^^ -1)) (r ||| (zng S l least lo &&& (r ^^^ -1)))
def zrch (S : Nat → Nat → Int32) (f least lo : Int32) : Int32 := zrcl S least lo 8 (1 <<< (f &&& 31)) (1 <<< (f &&& 31))
theorem zt_rcl {sl D dy : Nat} {I : zM} {S : Nat → Nat → Int32} (hB : zSB 1 S I) (hV : zOK S) (f least lo : Int32) : ∀ (k : Nat) (i l r : Int32) (h0 : 0 ≤ i.toInt) (hk : i.toInt + (k : Int) = 8), zW sl (D + 2) dy 2 12 [(0, .ref 135), (1, .int f), (2, .int least), (3, .int lo), (4, .int r), (5, .int l), (6, .int i)] [] I (zRg 0 (zQf I (some (.int (zrcl S least lo k l r))))) := by
  intro k
  induction k with
  | zero =>
    intro i l r h0 hk
    have hT := hV.1
    have hP := hV.2.1
    have z0 := zi0
    have z8 := zi8
    have z20 := zi20
    refine zg 1 (pc' := 14) (ls' := [(0, .ref 135), (1, .int f), (2, .int least), (3, .int lo), (4, .int r), (5, .int l), (6, .int i)]) (st' := [.int l]) (I' := I) rfl ?_
    refine zif rfl rfl (fun h1 => ?_) (fun h1 => ?_)
    · have h1 := zc_eq.1.mp h1
      refine zg 1 (pc' := 54) (ls' := [(0, .ref 135), (1, .int f), (2, .int least), (3, .int lo), (4, .int r), (5, .int l), (6, .int i)]) (st' := [.int r]) (I' := I) rfl ?_
      refine ziret rfl rfl rfl ?_
      first | exact zf1 | (refine ⟨rfl, ?_, rfl⟩; simp [zrcl, h1])
    · have h1 := zc_eq.2.mp h1
      refine zg 2 (pc' := 21) (ls' := [(0, .ref 135), (1, .int f), (2, .int least), (3, .int lo), (4, .int r), (5, .int l), (6, .int i)]) (st' := [.int 8, .int i]) (I' := I) rfl ?_
      refine zicmp rfl rfl (fun h2 => ?_) (fun h2 => ?_)
      · have h2 := zc_ge.1.mp h2
        refine zg 1 (pc' := 54) (ls' := [(0, .ref 135), (1, .int f), (2, .int least), (3, .int lo), (4, .int r), (5, .int l), (6, .int i)]) (st' := [.int r]) (I' := I) rfl ?_
        refine ziret rfl rfl rfl ?_
        first | exact zf1 | (refine ⟨rfl, ?_, rfl⟩; simp [zrcl, h1])
      · have h2 := zc_ge.2.mp h2
        exfalso; omega
  | succ k ih =>
    intro i l r h0 hk
    have hT := hV.1
    have hP := hV.2.1
    have z0 := zi0
    have z8 := zi8
    have z20 := zi20
    refine zg 1 (pc' := 14) (ls' := [(0, .ref 135), (1, .int f), (2, .int least), (3, .int lo), (4, .int r), (5, .int l), (6, .int i)]) (st' := [.int l]) (I' := I) rfl ?_
    refine zif rfl rfl (fun h1 => ?_) (fun h1 => ?_)
    · have h1 := zc_eq.1.mp h1
      refine zg 1 (pc' := 54) (ls' := [(0, .ref 135), (1, .int f), (2, .int least), (3, .int lo), (4, .int r), (5, .int l), (6, .int i)]) (st' := [.int r]) (I' := I) rfl ?_
      refine ziret rfl rfl rfl ?_
      first | exact zf1 | (refine ⟨rfl, ?_, rfl⟩; simp [zrcl, h1])
    · have h1 := zc_eq.2.mp h1
      refine zg 2 (pc' := 21) (ls' := [(0, .ref 135), (1, .int f), (2, .int least), (3, .int lo), (4, .int r), (5, .int l), (6, .int i)]) (st' := [.int 8, .int i]) (I' := I) rfl ?_
      refine zicmp rfl rfl (fun h2 => ?_) (fun h2 => ?_)
      · have h2 := zc_ge.1.mp h2
        exfalso; omega
      · have h2 := zc_ge.2.mp h2
        refine zg 4 (pc' := 29) (ls' := [(0, .ref 135), (1, .int f), (2, .int least), (3, .int lo), (4, .int r), (5, .int l), (6, .int i)]) (st' := [.int lo, .int least, .int l, .ref 135]) (I' := I) rfl ?_
        refine zcf rfl rfl (zt_neighbours hB hV l least lo) ?_
        refine zg 11 (pc' := 12) (ls' := [(6, .int (i + 1)), (4, .int ((r ||| ((zng S l least lo) &&& (r ^^^ (-1)))))), (5, .int (((zng S l least lo) &&& (r ^^^ (-1))))), (0, .ref 135), (1, .int f), (2, .int least), (3, .int lo)]) (st' := []) (I' := I) rfl ?_
        refine zLp (List.Perm.trans (List.Perm.trans (List.Perm.trans (List.Perm.trans (List.Perm.trans (List.Perm.trans (List.Perm.trans (List.Perm.trans (List.Perm.trans (List.Perm.trans (List.Perm.trans (List.Perm.trans (List.Perm.trans (List.Perm.cons _ (List.Perm.cons _ (List.Perm.cons _ (List.Perm.cons _ (List.Perm.cons _ (List.Perm.swap _ _ _)))))) (List.Perm.cons _ (List.Perm.cons _ (List.Perm.cons _ (List.Perm.cons _ (List.Perm.swap _ _ _)))))) (List.Perm.cons _ (List.Perm.cons _ (List.Perm.cons _ (List.Perm.swap _ _ _))))) (List.Perm.cons _ (List.Perm.cons _ (List.Perm.swap _ _ _)))) (List.Perm.cons _ (List.Perm.swap _ _ _))) (List.Perm.swap _ _ _)) (List.Perm.cons _ (List.Perm.cons _ (List.Perm.cons _ (List.Perm.cons _ (List.Perm.swap _ _ _)))))) (List.Perm.cons _ (List.Perm.cons _ (List.Perm.cons _ (List.Perm.swap _ _ _))))) (List.Perm.cons _ (List.Perm.cons _ (List.Perm.swap _ _ _)))) (List.Perm.cons _ (List.Perm.swap _ _ _))) (List.Perm.cons _ (List.Perm.cons _ (List.Perm.cons _ (List.Perm.cons _ (List.Perm.cons _ (List.Perm.swap _ _ _))))))) (List.Perm.cons _ (List.Perm.cons _ (List.Perm.cons _ (List.Perm.cons _ (List.Perm.swap _ _ _)))))) (List.Perm.cons _ (List.Perm.cons _ (List.Perm.cons _ (List.Perm.swap _ _ _))))) (List.Perm.cons _ (List.Perm.cons _ (List.Perm.swap _ _ _)))) rfl ?_
        show zW _ _ _ _ _ _ _ _ (zRg 0 (zQf I (some (.int (if l = 0 then r else zrcl S least lo k (zng S l least lo &&& (r ^^^ -1)) (r ||| (zng S l least lo &&& (r ^^^ -1))))))))
        rw [if_neg h1]
        exact ih (i + 1) _ _ (by rw [zadd1 h0 (by omega)]; omega) (by rw [zadd1 h0 (by omega)]; omega)
theorem zt_reachedFrom {sl D dy : Nat} {I : zM} {S : Nat → Nat → Int32} (hB : zSB 1 S I) (hV : zOK S) (f least lo : Int32) : zW sl (D + 2) dy 2 0 [(0, .ref 135), (1, .int f), (2, .int least), (3, .int lo)] [] I (zRg 0 (zQf I (some (.int (zrch S f least lo))))) := by
  refine zg 8 (pc' := 12) (ls' := [(6, .int 0), (5, .int ((1 <<< (f &&& 31)))), (4, .int ((1 <<< (f &&& 31)))), (0, .ref 135), (1, .int f), (2, .int least), (3, .int lo)]) (st' := []) (I' := I) rfl ?_
  refine zLp (List.Perm.trans (List.Perm.trans (List.Perm.trans (List.Perm.trans (List.Perm.trans (List.Perm.trans (List.Perm.trans (List.Perm.trans (List.Perm.trans (List.Perm.trans (List.Perm.trans (List.Perm.trans (List.Perm.trans (List.Perm.trans (List.Perm.cons _ (List.Perm.cons _ (List.Perm.cons _ (List.Perm.cons _ (List.Perm.cons _ (List.Perm.swap _ _ _)))))) (List.Perm.cons _ (List.Perm.cons _ (List.Perm.cons _ (List.Perm.cons _ (List.Perm.swap _ _ _)))))) (List.Perm.cons _ (List.Perm.cons _ (List.Perm.cons _ (List.Perm.swap _ _ _))))) (List.Perm.cons _ (List.Perm.cons _ (List.Perm.swap _ _ _)))) (List.Perm.cons _ (List.Perm.swap _ _ _))) (List.Perm.swap _ _ _)) (List.Perm.cons _ (List.Perm.cons _ (List.Perm.cons _ (List.Perm.cons _ (List.Perm.cons _ (List.Perm.swap _ _ _))))))) (List.Perm.cons _ (List.Perm.cons _ (List.Perm.cons _ (List.Perm.cons _ (List.Perm.swap _ _ _)))))) (List.Perm.cons _ (List.Perm.cons _ (List.Perm.cons _ (List.Perm.swap _ _ _))))) (List.Perm.cons _ (List.Perm.cons _ (List.Perm.swap _ _ _)))) (List.Perm.cons _ (List.Perm.swap _ _ _))) (List.Perm.cons _ (List.Perm.cons _ (List.Perm.cons _ (List.Perm.cons _ (List.Perm.cons _ (List.Perm.swap _ _ _))))))) (List.Perm.cons _ (List.Perm.cons _ (List.Perm.cons _ (List.Perm.cons _ (List.Perm.swap _ _ _)))))) (List.Perm.cons _ (List.Perm.cons _ (List.Perm.cons _ (List.Perm.swap _ _ _))))) (List.Perm.cons _ (List.Perm.cons _ (List.Perm.swap _ _ _)))) rfl ?_
  exact zt_rcl hB hV f least lo 8 0 _ _ (by decide) (by decide)
theorem zt_connect {sl D dy : Nat} {I : zM} {S : Nat → Nat → Int32} (hB : zSB 1 S I) (hV : zOK S) (f g : Int32) : zW sl (D + 3) dy 4 0 [(0, .ref 135), (1, .int f), (2, .int g)] [] I (zRg 0 (zQb I (zbt (zrch S f 1 (-1)) g = true))) := by
  refine zg 4 (pc' := 4) (ls' := [(0, .ref 135), (1, .int f), (2, .int g)]) (st' := [.int (-1), .int 1, .int f, .ref 135]) (I' := I) rfl ?_
  refine zcf rfl rfl (zt_reachedFrom hB hV f 1 (-1)) ?_
  refine zg 1 (pc' := 8) (ls' := [(0, .ref 135), (1, .int f), (2, .int g)]) (st' := [.int g, .int ((zrch S f 1 (-1)))]) (I' := I) rfl ?_
  refine zcb rfl rfl (zt_cont ((zrch S f 1 (-1))) g) (fun h1 => ?_) (fun h1 => ?_)
  · skip
    refine ziret rfl rfl rfl ?_
    exact zb1 (by assumption)
  · skip
    refine ziret rfl rfl rfl ?_
    exact zb0 (by assumption)
def zdep (S : Nat → Nat → Int32) (p : Int32) : Bool := zop S p.toNatClampNeg && !(zbt (zrch S (S 4 p.toNatClampNeg) 1 p) (S 5 p.toNatClampNeg))
theorem zt_dependOn {sl D dy : Nat} {I : zM} {S : Nat → Nat → Int32} (hB : zSB 1 S I) (hV : zOK S) (p : Int32) (h0 : 0 ≤ p.toInt) (hp : p.toInt < (S 0 11).toInt) : zW sl (D + 3) dy 6 0 [(0, .ref 135), (1, .int p)] [] I (zRg 0 (zQb I (zdep S p = true))) := by
  have hT := hV.1
  have hP := hV.2.1
  have z0 := zi0
  have z8 := zi8
  have z20 := zi20
  refine zg 3 (pc' := 5) (ls' := [(0, .ref 135), (1, .int p)]) (st' := [.int p, .ref 1]) (I' := I) rfl ?_
  refine zcb rfl rfl (zt_letsThrough hB hV p (by omega) (by omega)) (fun h1 => ?_) (fun h1 => ?_)
  · skip
    refine zg 6 (pc' := 20) (ls' := [(0, .ref 135), (1, .int p)]) (st' := [.int p, .ref 5, .ref 135]) (I' := I) rfl ?_
    refine zia rfl rfl (zin_ok (n := 12) (by omega) (by omega)) (hB 4 _ (zcell_12 (by decide) (by omega) (by omega))) ?_
    refine zg 2 (pc' := 23) (ls' := [(0, .ref 135), (1, .int p)]) (st' := [.int p, .int 1, .int (S 4 p.toNatClampNeg), .ref 135]) (I' := I) rfl ?_
    refine zcf rfl rfl (zt_reachedFrom hB hV (S 4 p.toNatClampNeg) 1 p) ?_
    refine zg 4 (pc' := 34) (ls' := [(0, .ref 135), (1, .int p)]) (st' := [.int p, .ref 6, .int ((zrch S (S 4 p.toNatClampNeg) 1 p))]) (I' := I) rfl ?_
    refine zia rfl rfl (zin_ok (n := 12) (by omega) (by omega)) (hB 5 _ (zcell_12 (by decide) (by omega) (by omega))) ?_
    refine zcb rfl rfl (zt_cont ((zrch S (S 4 p.toNatClampNeg) 1 p)) (S 5 p.toNatClampNeg)) (fun h2 => ?_) (fun h2 => ?_)
    · skip
      refine zg 2 (pc' := 46) (ls' := [(0, .ref 135), (1, .int p)]) (st' := [.int 0]) (I' := I) rfl ?_
      refine ziret rfl rfl rfl ?_
      exact zb0 (by simp_all [zdep])
    · skip
      refine zg 3 (pc' := 46) (ls' := [(0, .ref 135), (1, .int p)]) (st' := [.int 1]) (I' := I) rfl ?_
      refine ziret rfl rfl rfl ?_
      exact zb1 (by simp_all [zdep])
  · skip
    refine zg 2 (pc' := 46) (ls' := [(0, .ref 135), (1, .int p)]) (st' := [.int 0]) (I' := I) rfl ?_
    refine ziret rfl rfl rfl ?_
    exact zb0 (by simp_all [zdep])
theorem zt_gwl {sl D dy : Nat} {I : zM} {S : Nat → Nat → Int32} (hB : zSB 1 S I) (hV : zOK S) : ∀ (k : Nat) (n g t : Int32) (h0 : 0 ≤ t.toInt) (hk : t.toInt + (k : Int) = (S 0 10).toInt), zW sl (D + 3) dy 5 6 [(0, .ref 135), (1, .int n), (2, .int g), (3, .int t)] [] I (zRg 0 (zQi I)) := by
  intro k
  induction k with
  | zero =>
    intro n g t h0 hk
    have hT := hV.1
    have hP := hV.2.1
    have z0 := zi0
    have z8 := zi8
    have z20 := zi20
    refine zg 3 (pc' := 11) (ls' := [(0, .ref 135), (1, .int n), (2, .int g), (3, .int t)]) (st' := [.ref 1, .int t]) (I' := I) rfl ?_
    refine zgf rfl rfl rfl (hB 0 10 rfl) ?_
    refine zicmp rfl rfl (fun h1 => ?_) (fun h1 => ?_)
    · have h1 := zc_ge.1.mp h1
      refine zg 1 (pc' := 45) (ls' := [(0, .ref 135), (1, .int n), (2, .int g), (3, .int t)]) (st' := [.int n]) (I' := I) rfl ?_
      refine ziret rfl rfl rfl ?_
      exact zi1
    · have h1 := zc_ge.2.mp h1
      exfalso; omega
  | succ k ih =>
    intro n g t h0 hk
    have hT := hV.1
    have hP := hV.2.1
    have z0 := zi0
    have z8 := zi8
    have z20 := zi20
    refine zg 3 (pc' := 11) (ls' := [(0, .ref 135), (1, .int n), (2, .int g), (3, .int t)]) (st' := [.ref 1, .int t]) (I' := I) rfl ?_
    refine zgf rfl rfl rfl (hB 0 10 rfl) ?_
    refine zicmp rfl rfl (fun h1 => ?_) (fun h1 => ?_)
    · have h1 := zc_ge.1.mp h1
      exfalso; omega
    · have h1 := zc_ge.2.mp h1
      refine zg 2 (pc' := 19) (ls' := [(0, .ref 135), (1, .int n), (2, .int g), (3, .int t)]) (st' := [.int t, .int g]) (I' := I) rfl ?_
      refine zcb rfl rfl (zt_cont g t) (fun h2 => ?_) (fun h2 => ?_)
      · skip
        refine zg 3 (pc' := 6) (ls' := [(3, .int (t + 1)), (0, .ref 135), (1, .int n), (2, .int g)]) (st' := []) (I' := I) rfl ?_
        refine zLp (List.Perm.trans (List.Perm.trans (List.Perm.cons _ (List.Perm.cons _ (List.Perm.swap _ _ _))) (List.Perm.cons _ (List.Perm.swap _ _ _))) (List.Perm.swap _ _ _)) rfl ?_
        exact ih _ _ (t + 1) (by rw [zadd1 h0 (by omega)]; omega) (by rw [zadd1 h0 (by omega)]; omega)
      · skip
        refine zg 6 (pc' := 30) (ls' := [(0, .ref 135), (1, .int n), (2, .int g), (3, .int t)]) (st' := [.int (-1), .int 1, .int t, .ref 135, .int g]) (I' := I) rfl ?_
        refine zcf rfl rfl (zt_reachedFrom hB hV t 1 (-1)) ?_
        refine zg 5 (pc' := 6) (ls' := [(3, .int (t + 1)), (1, .int (n + 1)), (2, .int ((g ||| (zrch S t 1 (-1))))), (0, .ref 135)]) (st' := []) (I' := I) rfl ?_
        refine zLp (List.Perm.trans (List.Perm.trans (List.Perm.trans (List.Perm.trans (List.Perm.cons _ (List.Perm.cons _ (List.Perm.swap _ _ _))) (List.Perm.cons _ (List.Perm.swap _ _ _))) (List.Perm.swap _ _ _)) (List.Perm.cons _ (List.Perm.swap _ _ _))) (List.Perm.cons _ (List.Perm.cons _ (List.Perm.swap _ _ _)))) rfl ?_
        exact ih _ _ (t + 1) (by rw [zadd1 h0 (by omega)]; omega) (by rw [zadd1 h0 (by omega)]; omega)
theorem zt_groups {sl D dy : Nat} {I : zM} {S : Nat → Nat → Int32} (hB : zSB 1 S I) (hV : zOK S) : zW sl (D + 3) dy 5 0 [(0, .ref 135)] [] I (zRg 0 (zQi I)) := by
  refine zg 6 (pc' := 6) (ls' := [(3, .int 0), (2, .int 0), (1, .int 0), (0, .ref 135)]) (st' := []) (I' := I) rfl ?_
  refine zLp (List.Perm.trans (List.Perm.trans (List.Perm.trans (List.Perm.trans (List.Perm.trans (List.Perm.cons _ (List.Perm.cons _ (List.Perm.swap _ _ _))) (List.Perm.cons _ (List.Perm.swap _ _ _))) (List.Perm.swap _ _ _)) (List.Perm.cons _ (List.Perm.cons _ (List.Perm.swap _ _ _)))) (List.Perm.cons _ (List.Perm.swap _ _ _))) (List.Perm.cons _ (List.Perm.cons _ (List.Perm.swap _ _ _)))) rfl ?_
  exact zt_gwl hB hV (S 0 10).toInt.toNat 0 0 0 (by decide) (by have := hV.1; have z0 := zi0; omega)
