/-! CONTRACTS: the small methods -/
theorem zt_contains {sl D dy : Nat} {I : zM} (x y : Int32) : zW sl (D) dy 127 0 [(0, .int x), (1, .int y)] [] I (zRg 0 (zQb I (¬ (x >>> (y &&& 31)) &&& 1 = 0))) := by
  refine zg 5 (pc' := 5) (ls' := [(0, .int x), (1, .int y)]) (st' := [.int (((x >>> (y &&& 31)) &&& 1))]) (I' := I) rfl ?_
  refine zif rfl rfl (fun h1 => ?_) (fun h1 => ?_)
  · have h1 := zc_eq.1.mp h1
    refine zg 1 (pc' := 13) (ls' := [(0, .int x), (1, .int y)]) (st' := [.int 0]) (I' := I) rfl ?_
    refine ziret rfl rfl rfl ?_
    exact zb0 (fun q => q h1)
  · have h1 := zc_eq.2.mp h1
    refine zg 2 (pc' := 13) (ls' := [(0, .int x), (1, .int y)]) (st' := [.int 1]) (I' := I) rfl ?_
    refine ziret rfl rfl rfl ?_
    exact zb1 h1
theorem zt_hasTank {sl D dy : Nat} {I : zM} {S : Nat → Nat → Int32} (hB : zSB 1 S I) (t : Int32) : zW sl (D) dy 40 0 [(0, .ref 1), (1, .int t)] [] I (zRg 0 (zQb I (0 ≤ t.toInt ∧ t.toInt < (S 0 10).toInt))) := by
  refine zg 1 (pc' := 1) (ls' := [(0, .ref 1), (1, .int t)]) (st' := [.int t]) (I' := I) rfl ?_
  refine zif rfl rfl (fun h1 => ?_) (fun h1 => ?_)
  · have h1 := zc_lt.1.mp h1
    refine zg 1 (pc' := 17) (ls' := [(0, .ref 1), (1, .int t)]) (st' := [.int 0]) (I' := I) rfl ?_
    refine ziret rfl rfl rfl ?_
    have z0 : (0 : Int32).toInt = 0 := rfl
    exact zb0 (by omega)
  · have h1 := zc_lt.2.mp h1
    refine zg 2 (pc' := 6) (ls' := [(0, .ref 1), (1, .int t)]) (st' := [.ref 1, .int t]) (I' := I) rfl ?_
    refine zgf rfl rfl rfl (hB 0 10 rfl) ?_
    refine zicmp rfl rfl (fun h2 => ?_) (fun h2 => ?_)
    · have h2 := zc_ge.1.mp h2
      refine zg 1 (pc' := 17) (ls' := [(0, .ref 1), (1, .int t)]) (st' := [.int 0]) (I' := I) rfl ?_
      refine ziret rfl rfl rfl ?_
      have z0 : (0 : Int32).toInt = 0 := rfl
      exact zb0 (by omega)
    · have h2 := zc_ge.2.mp h2
      refine zg 2 (pc' := 17) (ls' := [(0, .ref 1), (1, .int t)]) (st' := [.int 1]) (I' := I) rfl ?_
      refine ziret rfl rfl rfl ?_
      have z0 : (0 : Int32).toInt = 0 := rfl
      exact zb1 (by omega)
theorem zt_hasPipe {sl D dy : Nat} {I : zM} {S : Nat → Nat → Int32} (hB : zSB 1 S I) (t : Int32) : zW sl (D) dy 41 0 [(0, .ref 1), (1, .int t)] [] I (zRg 0 (zQb I (0 ≤ t.toInt ∧ t.toInt < (S 0 11).toInt))) := by
  refine zg 1 (pc' := 1) (ls' := [(0, .ref 1), (1, .int t)]) (st' := [.int t]) (I' := I) rfl ?_
  refine zif rfl rfl (fun h1 => ?_) (fun h1 => ?_)
  · have h1 := zc_lt.1.mp h1
    refine zg 1 (pc' := 17) (ls' := [(0, .ref 1), (1, .int t)]) (st' := [.int 0]) (I' := I) rfl ?_
    refine ziret rfl rfl rfl ?_
    have z0 : (0 : Int32).toInt = 0 := rfl
    exact zb0 (by omega)
  · have h1 := zc_lt.2.mp h1
    refine zg 2 (pc' := 6) (ls' := [(0, .ref 1), (1, .int t)]) (st' := [.ref 1, .int t]) (I' := I) rfl ?_
    refine zgf rfl rfl rfl (hB 0 11 rfl) ?_
    refine zicmp rfl rfl (fun h2 => ?_) (fun h2 => ?_)
    · have h2 := zc_ge.1.mp h2
      refine zg 1 (pc' := 17) (ls' := [(0, .ref 1), (1, .int t)]) (st' := [.int 0]) (I' := I) rfl ?_
      refine ziret rfl rfl rfl ?_
      have z0 : (0 : Int32).toInt = 0 := rfl
      exact zb0 (by omega)
    · have h2 := zc_ge.2.mp h2
      refine zg 2 (pc' := 17) (ls' := [(0, .ref 1), (1, .int t)]) (st' := [.int 1]) (I' := I) rfl ?_
      refine ziret rfl rfl rfl ?_
      have z0 : (0 : Int32).toInt = 0 := rfl
      exact zb1 (by omega)
theorem zt_isWithin {sl D dy : Nat} {I : zM} (x a b : Int32) : zW sl (D) dy 43 0 [(0, .int x), (1, .int a), (2, .int b)] [] I (zRg 0 (zQb I (a.toInt ≤ x.toInt ∧ x.toInt ≤ b.toInt))) := by
  refine zg 2 (pc' := 2) (ls' := [(0, .int x), (1, .int a), (2, .int b)]) (st' := [.int a, .int x]) (I' := I) rfl ?_
  refine zicmp rfl rfl (fun h1 => ?_) (fun h1 => ?_)
  · have h1 := zc_lt.1.mp h1
    refine zg 1 (pc' := 15) (ls' := [(0, .int x), (1, .int a), (2, .int b)]) (st' := [.int 0]) (I' := I) rfl ?_
    refine ziret rfl rfl rfl ?_
    exact zb0 (by omega)
  · have h1 := zc_lt.2.mp h1
    refine zg 2 (pc' := 7) (ls' := [(0, .int x), (1, .int a), (2, .int b)]) (st' := [.int b, .int x]) (I' := I) rfl ?_
    refine zicmp rfl rfl (fun h2 => ?_) (fun h2 => ?_)
    · have h2 := zc_gt.1.mp h2
      refine zg 1 (pc' := 15) (ls' := [(0, .int x), (1, .int a), (2, .int b)]) (st' := [.int 0]) (I' := I) rfl ?_
      refine ziret rfl rfl rfl ?_
      exact zb0 (by omega)
    · have h2 := zc_gt.2.mp h2
      refine zg 2 (pc' := 15) (ls' := [(0, .int x), (1, .int a), (2, .int b)]) (st' := [.int 1]) (I' := I) rfl ?_
      refine ziret rfl rfl rfl ?_
      exact zb1 (by omega)
