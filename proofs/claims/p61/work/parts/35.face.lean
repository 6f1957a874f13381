/-! CONTRACTS: the tanks and pipes of the class, and the law's ways to ask for them -/
theorem zt_need_tank {sl D dy : Nat} {I : zM} {S : Nat → Nat → Int32} (hB : zSB 1 S I) (t : Int32) (hn : (0 ≤ t.toInt ∧ t.toInt < (S 0 10).toInt)) : zW sl (D + 1) dy 76 0 [(0, .ref 0), (1, .int t)] [] I (zRg 0 (zQf I none)) := by
  refine zg 3 (pc' := 5) (ls' := [(0, .ref 0), (1, .int t)]) (st' := [.int t, .ref 1]) (I' := I) rfl ?_
  refine zcb rfl rfl (zt_hasTank hB t) (fun h1 => ?_) (fun h1 => ?_)
  · skip
    refine zg 1 (pc' := 21) (ls' := [(0, .ref 0), (1, .int t)]) (st' := []) (I' := I) rfl ?_
    refine zret rfl rfl ?_
    exact zf1
  · skip
    exact absurd hn h1
theorem zt_need_tank_x {sl D dy : Nat} {I : zM} {S : Nat → Nat → Int32} (hB : zSB 1 S I) (t : Int32) (hn : ¬ (0 ≤ t.toInt ∧ t.toInt < (S 0 10).toInt)) : zW sl (D + 1) dy 76 0 [(0, .ref 0), (1, .int t)] [] I (zRg 1 (zQx I 0)) := by
  refine zg 3 (pc' := 5) (ls' := [(0, .ref 0), (1, .int t)]) (st' := [.int t, .ref 1]) (I' := I) rfl ?_
  refine zcb rfl rfl (zt_hasTank hB t) (fun h1 => ?_) (fun h1 => ?_)
  · skip
    exact absurd h1 hn
  · skip
    refine zg 1 (pc' := 11) (ls' := [(0, .ref 0), (1, .int t)]) (st' := []) (I' := I) rfl ?_
    exact zthrow rfl rfl zx1
theorem zt_need_pipe {sl D dy : Nat} {I : zM} {S : Nat → Nat → Int32} (hB : zSB 1 S I) (t : Int32) (hn : (0 ≤ t.toInt ∧ t.toInt < (S 0 11).toInt)) : zW sl (D + 1) dy 77 0 [(0, .ref 0), (1, .int t)] [] I (zRg 0 (zQf I none)) := by
  refine zg 3 (pc' := 5) (ls' := [(0, .ref 0), (1, .int t)]) (st' := [.int t, .ref 1]) (I' := I) rfl ?_
  refine zcb rfl rfl (zt_hasPipe hB t) (fun h1 => ?_) (fun h1 => ?_)
  · skip
    refine zg 1 (pc' := 21) (ls' := [(0, .ref 0), (1, .int t)]) (st' := []) (I' := I) rfl ?_
    refine zret rfl rfl ?_
    exact zf1
  · skip
    exact absurd hn h1
theorem zt_need_pipe_x {sl D dy : Nat} {I : zM} {S : Nat → Nat → Int32} (hB : zSB 1 S I) (t : Int32) (hn : ¬ (0 ≤ t.toInt ∧ t.toInt < (S 0 11).toInt)) : zW sl (D + 1) dy 77 0 [(0, .ref 0), (1, .int t)] [] I (zRg 1 (zQx I 0)) := by
  refine zg 3 (pc' := 5) (ls' := [(0, .ref 0), (1, .int t)]) (st' := [.int t, .ref 1]) (I' := I) rfl ?_
  refine zcb rfl rfl (zt_hasPipe hB t) (fun h1 => ?_) (fun h1 => ?_)
  · skip
    exact absurd h1 hn
  · skip
    refine zg 1 (pc' := 11) (ls' := [(0, .ref 0), (1, .int t)]) (st' := []) (I' := I) rfl ?_
    exact zthrow rfl rfl zx1
theorem zt_capacity {sl D dy : Nat} {I : zM} {S : Nat → Nat → Int32} (hB : zSB 1 S I) (hV : zOK S) (t : Int32) (hn : (0 ≤ t.toInt ∧ t.toInt < (S 0 10).toInt)) : zW sl (D + 2) dy 79 0 [(0, .ref 0), (1, .int t)] [] I (zRg 0 (zQf I (some (.int (S 1 t.toNatClampNeg))))) := by
  have hT := hV.1
  have hP := hV.2.1
  have z0 := zi0
  have z8 := zi8
  have z20 := zi20
  obtain ⟨hn0, hn1⟩ := id hn
  refine zg 2 (pc' := 2) (ls' := [(0, .ref 0), (1, .int t)]) (st' := [.int t, .ref 0]) (I' := I) rfl ?_
  refine zcv rfl rfl (zt_need_tank hB t hn) ?_
  refine zg 4 (pc' := 13) (ls' := [(0, .ref 0), (1, .int t)]) (st' := [.int t, .ref 2]) (I' := I) rfl ?_
  refine zia rfl rfl (zin_ok (n := 8) (by omega) (by omega)) (hB 1 _ (zcell_8 (by decide) (by omega) (by omega))) ?_
  refine ziret rfl rfl rfl ?_
  exact zf1
theorem zt_capacity_x {sl D dy : Nat} {I : zM} {S : Nat → Nat → Int32} (hB : zSB 1 S I) (t : Int32) (hn : ¬ (0 ≤ t.toInt ∧ t.toInt < (S 0 10).toInt)) : zW sl (D + 2) dy 79 0 [(0, .ref 0), (1, .int t)] [] I (zRg 1 (zQx I 0)) := by
  refine zg 2 (pc' := 2) (ls' := [(0, .ref 0), (1, .int t)]) (st' := [.int t, .ref 0]) (I' := I) rfl ?_
  exact zcx rfl rfl (zt_need_tank_x hB t hn) rfl zx1
theorem zl_capacity {sl D dy : Nat} {I : zM} {S : Nat → Nat → Int32} (hB : zSB 1 S I) (hV : zOK S) (t : Int32) (hn : (0 ≤ t.toInt ∧ t.toInt < (S 0 10).toInt)) : zW sl (D + 3) dy 140 0 [(0, .ref 0), (1, .int t)] [] I (zRg 0 (zQf I (some (.int (S 1 t.toNatClampNeg))))) := by
  refine zg 2 (pc' := 2) (ls' := [(0, .ref 0), (1, .int t)]) (st' := [.int t, .ref 0]) (I' := I) rfl ?_
  refine zcf rfl rfl (zt_capacity hB hV t hn) ?_
  refine ziret rfl rfl rfl ?_
  exact zf1
theorem zl_capacity_x {sl D dy : Nat} {I : zM} {S : Nat → Nat → Int32} (hB : zSB 1 S I) (t : Int32) (hn : ¬ (0 ≤ t.toInt ∧ t.toInt < (S 0 10).toInt)) : zW sl (D + 3) dy 140 0 [(0, .ref 0), (1, .int t)] [] I (zRg 1 (zQf I (some (.int (-1001))))) := by
  refine zg 2 (pc' := 2) (ls' := [(0, .ref 0), (1, .int t)]) (st' := [.int t, .ref 0]) (I' := I) rfl ?_
  refine zcct (b2 := 0) (pc2 := 7) (ls2 := [(0, .ref 0), (1, .int t)]) rfl rfl (zt_capacity_x hB t hn) rfl ?_
  refine zg 1 (pc' := 10) (ls' := [(0, .ref 0), (1, .int t)]) (st' := [.int (-1001)]) (I' := I) rfl ?_
  refine ziret rfl rfl rfl ?_
  exact zf1
theorem zt_content {sl D dy : Nat} {I : zM} {S : Nat → Nat → Int32} (hB : zSB 1 S I) (hV : zOK S) (t : Int32) (hn : (0 ≤ t.toInt ∧ t.toInt < (S 0 10).toInt)) : zW sl (D + 2) dy 80 0 [(0, .ref 0), (1, .int t)] [] I (zRg 0 (zQf I (some (.int (S 2 t.toNatClampNeg))))) := by
  have hT := hV.1
  have hP := hV.2.1
  have z0 := zi0
  have z8 := zi8
  have z20 := zi20
  obtain ⟨hn0, hn1⟩ := id hn
  refine zg 2 (pc' := 2) (ls' := [(0, .ref 0), (1, .int t)]) (st' := [.int t, .ref 0]) (I' := I) rfl ?_
  refine zcv rfl rfl (zt_need_tank hB t hn) ?_
  refine zg 4 (pc' := 13) (ls' := [(0, .ref 0), (1, .int t)]) (st' := [.int t, .ref 3]) (I' := I) rfl ?_
  refine zia rfl rfl (zin_ok (n := 8) (by omega) (by omega)) (hB 2 _ (zcell_8 (by decide) (by omega) (by omega))) ?_
  refine ziret rfl rfl rfl ?_
  exact zf1
theorem zt_content_x {sl D dy : Nat} {I : zM} {S : Nat → Nat → Int32} (hB : zSB 1 S I) (t : Int32) (hn : ¬ (0 ≤ t.toInt ∧ t.toInt < (S 0 10).toInt)) : zW sl (D + 2) dy 80 0 [(0, .ref 0), (1, .int t)] [] I (zRg 1 (zQx I 0)) := by
  refine zg 2 (pc' := 2) (ls' := [(0, .ref 0), (1, .int t)]) (st' := [.int t, .ref 0]) (I' := I) rfl ?_
  exact zcx rfl rfl (zt_need_tank_x hB t hn) rfl zx1
theorem zl_content {sl D dy : Nat} {I : zM} {S : Nat → Nat → Int32} (hB : zSB 1 S I) (hV : zOK S) (t : Int32) (hn : (0 ≤ t.toInt ∧ t.toInt < (S 0 10).toInt)) : zW sl (D + 3) dy 141 0 [(0, .ref 0), (1, .int t)] [] I (zRg 0 (zQf I (some (.int (S 2 t.toNatClampNeg))))) := by
  refine zg 2 (pc' := 2) (ls' := [(0, .ref 0), (1, .int t)]) (st' := [.int t, .ref 0]) (I' := I) rfl ?_
  refine zcf rfl rfl (zt_content hB hV t hn) ?_
  refine ziret rfl rfl rfl ?_
  exact zf1
theorem zl_content_x {sl D dy : Nat} {I : zM} {S : Nat → Nat → Int32} (hB : zSB 1 S I) (t : Int32) (hn : ¬ (0 ≤ t.toInt ∧ t.toInt < (S 0 10).toInt)) : zW sl (D + 3) dy 141 0 [(0, .ref 0), (1, .int t)] [] I (zRg 1 (zQf I (some (.int (-1001))))) := by
  refine zg 2 (pc' := 2) (ls' := [(0, .ref 0), (1, .int t)]) (st' := [.int t, .ref 0]) (I' := I) rfl ?_
  refine zcct (b2 := 0) (pc2 := 7) (ls2 := [(0, .ref 0), (1, .int t)]) rfl rfl (zt_content_x hB t hn) rfl ?_
  refine zg 1 (pc' := 10) (ls' := [(0, .ref 0), (1, .int t)]) (st' := [.int (-1001)]) (I' := I) rfl ?_
  refine ziret rfl rfl rfl ?_
  exact zf1
theorem zt_impurities {sl D dy : Nat} {I : zM} {S : Nat → Nat → Int32} (hB : zSB 1 S I) (hV : zOK S) (t : Int32) (hn : (0 ≤ t.toInt ∧ t.toInt < (S 0 10).toInt)) : zW sl (D + 2) dy 81 0 [(0, .ref 0), (1, .int t)] [] I (zRg 0 (zQf I (some (.int (S 3 t.toNatClampNeg))))) := by
  have hT := hV.1
  have hP := hV.2.1
  have z0 := zi0
  have z8 := zi8
  have z20 := zi20
  obtain ⟨hn0, hn1⟩ := id hn
  refine zg 2 (pc' := 2) (ls' := [(0, .ref 0), (1, .int t)]) (st' := [.int t, .ref 0]) (I' := I) rfl ?_
  refine zcv rfl rfl (zt_need_tank hB t hn) ?_
  refine zg 4 (pc' := 13) (ls' := [(0, .ref 0), (1, .int t)]) (st' := [.int t, .ref 4]) (I' := I) rfl ?_
  refine zia rfl rfl (zin_ok (n := 8) (by omega) (by omega)) (hB 3 _ (zcell_8 (by decide) (by omega) (by omega))) ?_
  refine ziret rfl rfl rfl ?_
  exact zf1
theorem zt_impurities_x {sl D dy : Nat} {I : zM} {S : Nat → Nat → Int32} (hB : zSB 1 S I) (t : Int32) (hn : ¬ (0 ≤ t.toInt ∧ t.toInt < (S 0 10).toInt)) : zW sl (D + 2) dy 81 0 [(0, .ref 0), (1, .int t)] [] I (zRg 1 (zQx I 0)) := by
  refine zg 2 (pc' := 2) (ls' := [(0, .ref 0), (1, .int t)]) (st' := [.int t, .ref 0]) (I' := I) rfl ?_
  exact zcx rfl rfl (zt_need_tank_x hB t hn) rfl zx1
theorem zl_impurities {sl D dy : Nat} {I : zM} {S : Nat → Nat → Int32} (hB : zSB 1 S I) (hV : zOK S) (t : Int32) (hn : (0 ≤ t.toInt ∧ t.toInt < (S 0 10).toInt)) : zW sl (D + 3) dy 142 0 [(0, .ref 0), (1, .int t)] [] I (zRg 0 (zQf I (some (.int (S 3 t.toNatClampNeg))))) := by
  refine zg 2 (pc' := 2) (ls' := [(0, .ref 0), (1, .int t)]) (st' := [.int t, .ref 0]) (I' := I) rfl ?_
  refine zcf rfl rfl (zt_impurities hB hV t hn) ?_
  refine ziret rfl rfl rfl ?_
  exact zf1
theorem zl_impurities_x {sl D dy : Nat} {I : zM} {S : Nat → Nat → Int32} (hB : zSB 1 S I) (t : Int32) (hn : ¬ (0 ≤ t.toInt ∧ t.toInt < (S 0 10).toInt)) : zW sl (D + 3) dy 142 0 [(0, .ref 0), (1, .int t)] [] I (zRg 1 (zQf I (some (.int (-1001))))) := by
  refine zg 2 (pc' := 2) (ls' := [(0, .ref 0), (1, .int t)]) (st' := [.int t, .ref 0]) (I' := I) rfl ?_
  refine zcct (b2 := 0) (pc2 := 7) (ls2 := [(0, .ref 0), (1, .int t)]) rfl rfl (zt_impurities_x hB t hn) rfl ?_
  refine zg 1 (pc' := 10) (ls' := [(0, .ref 0), (1, .int t)]) (st' := [.int (-1001)]) (I' := I) rfl ?_
  refine ziret rfl rfl rfl ?_
  exact zf1
theorem zt_firstOf {sl D dy : Nat} {I : zM} {S : Nat → Nat → Int32} (hB : zSB 1 S I) (hV : zOK S) (t : Int32) (hn : (0 ≤ t.toInt ∧ t.toInt < (S 0 11).toInt)) : zW sl (D + 2) dy 88 0 [(0, .ref 0), (1, .int t)] [] I (zRg 0 (zQf I (some (.int (S 4 t.toNatClampNeg))))) := by
  have hT := hV.1
  have hP := hV.2.1
  have z0 := zi0
  have z8 := zi8
  have z20 := zi20
  obtain ⟨hn0, hn1⟩ := id hn
  refine zg 2 (pc' := 2) (ls' := [(0, .ref 0), (1, .int t)]) (st' := [.int t, .ref 0]) (I' := I) rfl ?_
  refine zcv rfl rfl (zt_need_pipe hB t hn) ?_
  refine zg 4 (pc' := 13) (ls' := [(0, .ref 0), (1, .int t)]) (st' := [.int t, .ref 5]) (I' := I) rfl ?_
  refine zia rfl rfl (zin_ok (n := 12) (by omega) (by omega)) (hB 4 _ (zcell_12 (by decide) (by omega) (by omega))) ?_
  refine ziret rfl rfl rfl ?_
  exact zf1
theorem zt_firstOf_x {sl D dy : Nat} {I : zM} {S : Nat → Nat → Int32} (hB : zSB 1 S I) (t : Int32) (hn : ¬ (0 ≤ t.toInt ∧ t.toInt < (S 0 11).toInt)) : zW sl (D + 2) dy 88 0 [(0, .ref 0), (1, .int t)] [] I (zRg 1 (zQx I 0)) := by
  refine zg 2 (pc' := 2) (ls' := [(0, .ref 0), (1, .int t)]) (st' := [.int t, .ref 0]) (I' := I) rfl ?_
  exact zcx rfl rfl (zt_need_pipe_x hB t hn) rfl zx1
theorem zl_firstOf {sl D dy : Nat} {I : zM} {S : Nat → Nat → Int32} (hB : zSB 1 S I) (hV : zOK S) (t : Int32) (hn : (0 ≤ t.toInt ∧ t.toInt < (S 0 11).toInt)) : zW sl (D + 3) dy 147 0 [(0, .ref 0), (1, .int t)] [] I (zRg 0 (zQf I (some (.int (S 4 t.toNatClampNeg))))) := by
  refine zg 2 (pc' := 2) (ls' := [(0, .ref 0), (1, .int t)]) (st' := [.int t, .ref 0]) (I' := I) rfl ?_
  refine zcf rfl rfl (zt_firstOf hB hV t hn) ?_
  refine ziret rfl rfl rfl ?_
  exact zf1
theorem zl_firstOf_x {sl D dy : Nat} {I : zM} {S : Nat → Nat → Int32} (hB : zSB 1 S I) (t : Int32) (hn : ¬ (0 ≤ t.toInt ∧ t.toInt < (S 0 11).toInt)) : zW sl (D + 3) dy 147 0 [(0, .ref 0), (1, .int t)] [] I (zRg 1 (zQf I (some (.int (-1001))))) := by
  refine zg 2 (pc' := 2) (ls' := [(0, .ref 0), (1, .int t)]) (st' := [.int t, .ref 0]) (I' := I) rfl ?_
  refine zcct (b2 := 0) (pc2 := 7) (ls2 := [(0, .ref 0), (1, .int t)]) rfl rfl (zt_firstOf_x hB t hn) rfl ?_
  refine zg 1 (pc' := 10) (ls' := [(0, .ref 0), (1, .int t)]) (st' := [.int (-1001)]) (I' := I) rfl ?_
  refine ziret rfl rfl rfl ?_
  exact zf1
theorem zt_secondOf {sl D dy : Nat} {I : zM} {S : Nat → Nat → Int32} (hB : zSB 1 S I) (hV : zOK S) (t : Int32) (hn : (0 ≤ t.toInt ∧ t.toInt < (S 0 11).toInt)) : zW sl (D + 2) dy 89 0 [(0, .ref 0), (1, .int t)] [] I (zRg 0 (zQf I (some (.int (S 5 t.toNatClampNeg))))) := by
  have hT := hV.1
  have hP := hV.2.1
  have z0 := zi0
  have z8 := zi8
  have z20 := zi20
  obtain ⟨hn0, hn1⟩ := id hn
  refine zg 2 (pc' := 2) (ls' := [(0, .ref 0), (1, .int t)]) (st' := [.int t, .ref 0]) (I' := I) rfl ?_
  refine zcv rfl rfl (zt_need_pipe hB t hn) ?_
  refine zg 4 (pc' := 13) (ls' := [(0, .ref 0), (1, .int t)]) (st' := [.int t, .ref 6]) (I' := I) rfl ?_
  refine zia rfl rfl (zin_ok (n := 12) (by omega) (by omega)) (hB 5 _ (zcell_12 (by decide) (by omega) (by omega))) ?_
  refine ziret rfl rfl rfl ?_
  exact zf1
theorem zt_secondOf_x {sl D dy : Nat} {I : zM} {S : Nat → Nat → Int32} (hB : zSB 1 S I) (t : Int32) (hn : ¬ (0 ≤ t.toInt ∧ t.toInt < (S 0 11).toInt)) : zW sl (D + 2) dy 89 0 [(0, .ref 0), (1, .int t)] [] I (zRg 1 (zQx I 0)) := by
  refine zg 2 (pc' := 2) (ls' := [(0, .ref 0), (1, .int t)]) (st' := [.int t, .ref 0]) (I' := I) rfl ?_
  exact zcx rfl rfl (zt_need_pipe_x hB t hn) rfl zx1
theorem zl_secondOf {sl D dy : Nat} {I : zM} {S : Nat → Nat → Int32} (hB : zSB 1 S I) (hV : zOK S) (t : Int32) (hn : (0 ≤ t.toInt ∧ t.toInt < (S 0 11).toInt)) : zW sl (D + 3) dy 148 0 [(0, .ref 0), (1, .int t)] [] I (zRg 0 (zQf I (some (.int (S 5 t.toNatClampNeg))))) := by
  refine zg 2 (pc' := 2) (ls' := [(0, .ref 0), (1, .int t)]) (st' := [.int t, .ref 0]) (I' := I) rfl ?_
  refine zcf rfl rfl (zt_secondOf hB hV t hn) ?_
  refine ziret rfl rfl rfl ?_
  exact zf1
theorem zl_secondOf_x {sl D dy : Nat} {I : zM} {S : Nat → Nat → Int32} (hB : zSB 1 S I) (t : Int32) (hn : ¬ (0 ≤ t.toInt ∧ t.toInt < (S 0 11).toInt)) : zW sl (D + 3) dy 148 0 [(0, .ref 0), (1, .int t)] [] I (zRg 1 (zQf I (some (.int (-1001))))) := by
  refine zg 2 (pc' := 2) (ls' := [(0, .ref 0), (1, .int t)]) (st' := [.int t, .ref 0]) (I' := I) rfl ?_
  refine zcct (b2 := 0) (pc2 := 7) (ls2 := [(0, .ref 0), (1, .int t)]) rfl rfl (zt_secondOf_x hB t hn) rfl ?_
  refine zg 1 (pc' := 10) (ls' := [(0, .ref 0), (1, .int t)]) (st' := [.int (-1001)]) (I' := I) rfl ?_
  refine ziret rfl rfl rfl ?_
  exact zf1
theorem zt_valve {sl D dy : Nat} {I : zM} {S : Nat → Nat → Int32} (hB : zSB 1 S I) (hV : zOK S) (t : Int32) (hn : (0 ≤ t.toInt ∧ t.toInt < (S 0 11).toInt)) : zW sl (D + 2) dy 90 0 [(0, .ref 0), (1, .int t)] [] I (zRg 0 (zQf I (some (.int (S 7 t.toNatClampNeg))))) := by
  have hT := hV.1
  have hP := hV.2.1
  have z0 := zi0
  have z8 := zi8
  have z20 := zi20
  obtain ⟨hn0, hn1⟩ := id hn
  refine zg 2 (pc' := 2) (ls' := [(0, .ref 0), (1, .int t)]) (st' := [.int t, .ref 0]) (I' := I) rfl ?_
  refine zcv rfl rfl (zt_need_pipe hB t hn) ?_
  refine zg 4 (pc' := 13) (ls' := [(0, .ref 0), (1, .int t)]) (st' := [.int t, .ref 8]) (I' := I) rfl ?_
  refine zia rfl rfl (zin_ok (n := 12) (by omega) (by omega)) (hB 7 _ (zcell_12 (by decide) (by omega) (by omega))) ?_
  refine ziret rfl rfl rfl ?_
  exact zf1
theorem zt_valve_x {sl D dy : Nat} {I : zM} {S : Nat → Nat → Int32} (hB : zSB 1 S I) (t : Int32) (hn : ¬ (0 ≤ t.toInt ∧ t.toInt < (S 0 11).toInt)) : zW sl (D + 2) dy 90 0 [(0, .ref 0), (1, .int t)] [] I (zRg 1 (zQx I 0)) := by
  refine zg 2 (pc' := 2) (ls' := [(0, .ref 0), (1, .int t)]) (st' := [.int t, .ref 0]) (I' := I) rfl ?_
  exact zcx rfl rfl (zt_need_pipe_x hB t hn) rfl zx1
theorem zl_valve {sl D dy : Nat} {I : zM} {S : Nat → Nat → Int32} (hB : zSB 1 S I) (hV : zOK S) (t : Int32) (hn : (0 ≤ t.toInt ∧ t.toInt < (S 0 11).toInt)) : zW sl (D + 3) dy 149 0 [(0, .ref 0), (1, .int t)] [] I (zRg 0 (zQf I (some (.int (S 7 t.toNatClampNeg))))) := by
  refine zg 2 (pc' := 2) (ls' := [(0, .ref 0), (1, .int t)]) (st' := [.int t, .ref 0]) (I' := I) rfl ?_
  refine zcf rfl rfl (zt_valve hB hV t hn) ?_
  refine ziret rfl rfl rfl ?_
  exact zf1
theorem zl_valve_x {sl D dy : Nat} {I : zM} {S : Nat → Nat → Int32} (hB : zSB 1 S I) (t : Int32) (hn : ¬ (0 ≤ t.toInt ∧ t.toInt < (S 0 11).toInt)) : zW sl (D + 3) dy 149 0 [(0, .ref 0), (1, .int t)] [] I (zRg 1 (zQf I (some (.int (-1001))))) := by
  refine zg 2 (pc' := 2) (ls' := [(0, .ref 0), (1, .int t)]) (st' := [.int t, .ref 0]) (I' := I) rfl ?_
  refine zcct (b2 := 0) (pc2 := 7) (ls2 := [(0, .ref 0), (1, .int t)]) rfl rfl (zt_valve_x hB t hn) rfl ?_
  refine zg 1 (pc' := 10) (ls' := [(0, .ref 0), (1, .int t)]) (st' := [.int (-1001)]) (I' := I) rfl ?_
  refine ziret rfl rfl rfl ?_
  exact zf1
theorem zt_leak {sl D dy : Nat} {I : zM} {S : Nat → Nat → Int32} (hB : zSB 1 S I) (hV : zOK S) (t : Int32) (hn : (0 ≤ t.toInt ∧ t.toInt < (S 0 11).toInt)) : zW sl (D + 2) dy 91 0 [(0, .ref 0), (1, .int t)] [] I (zRg 0 (zQf I (some (.int (S 8 t.toNatClampNeg))))) := by
  have hT := hV.1
  have hP := hV.2.1
  have z0 := zi0
  have z8 := zi8
  have z20 := zi20
  obtain ⟨hn0, hn1⟩ := id hn
  refine zg 2 (pc' := 2) (ls' := [(0, .ref 0), (1, .int t)]) (st' := [.int t, .ref 0]) (I' := I) rfl ?_
  refine zcv rfl rfl (zt_need_pipe hB t hn) ?_
  refine zg 4 (pc' := 13) (ls' := [(0, .ref 0), (1, .int t)]) (st' := [.int t, .ref 9]) (I' := I) rfl ?_
  refine zia rfl rfl (zin_ok (n := 12) (by omega) (by omega)) (hB 8 _ (zcell_12 (by decide) (by omega) (by omega))) ?_
  refine ziret rfl rfl rfl ?_
  exact zf1
theorem zt_leak_x {sl D dy : Nat} {I : zM} {S : Nat → Nat → Int32} (hB : zSB 1 S I) (t : Int32) (hn : ¬ (0 ≤ t.toInt ∧ t.toInt < (S 0 11).toInt)) : zW sl (D + 2) dy 91 0 [(0, .ref 0), (1, .int t)] [] I (zRg 1 (zQx I 0)) := by
  refine zg 2 (pc' := 2) (ls' := [(0, .ref 0), (1, .int t)]) (st' := [.int t, .ref 0]) (I' := I) rfl ?_
  exact zcx rfl rfl (zt_need_pipe_x hB t hn) rfl zx1
theorem zl_leak {sl D dy : Nat} {I : zM} {S : Nat → Nat → Int32} (hB : zSB 1 S I) (hV : zOK S) (t : Int32) (hn : (0 ≤ t.toInt ∧ t.toInt < (S 0 11).toInt)) : zW sl (D + 3) dy 150 0 [(0, .ref 0), (1, .int t)] [] I (zRg 0 (zQf I (some (.int (S 8 t.toNatClampNeg))))) := by
  refine zg 2 (pc' := 2) (ls' := [(0, .ref 0), (1, .int t)]) (st' := [.int t, .ref 0]) (I' := I) rfl ?_
  refine zcf rfl rfl (zt_leak hB hV t hn) ?_
  refine ziret rfl rfl rfl ?_
  exact zf1
theorem zl_leak_x {sl D dy : Nat} {I : zM} {S : Nat → Nat → Int32} (hB : zSB 1 S I) (t : Int32) (hn : ¬ (0 ≤ t.toInt ∧ t.toInt < (S 0 11).toInt)) : zW sl (D + 3) dy 150 0 [(0, .ref 0), (1, .int t)] [] I (zRg 1 (zQf I (some (.int (-1001))))) := by
  refine zg 2 (pc' := 2) (ls' := [(0, .ref 0), (1, .int t)]) (st' := [.int t, .ref 0]) (I' := I) rfl ?_
  refine zcct (b2 := 0) (pc2 := 7) (ls2 := [(0, .ref 0), (1, .int t)]) rfl rfl (zt_leak_x hB t hn) rfl ?_
  refine zg 1 (pc' := 10) (ls' := [(0, .ref 0), (1, .int t)]) (st' := [.int (-1001)]) (I' := I) rfl ?_
  refine ziret rfl rfl rfl ?_
  exact zf1
theorem zt_mesh {sl D dy : Nat} {I : zM} {S : Nat → Nat → Int32} (hB : zSB 1 S I) (hV : zOK S) (t : Int32) (hn : (0 ≤ t.toInt ∧ t.toInt < (S 0 11).toInt)) : zW sl (D + 2) dy 92 0 [(0, .ref 0), (1, .int t)] [] I (zRg 0 (zQf I (some (.int (S 6 t.toNatClampNeg))))) := by
  have hT := hV.1
  have hP := hV.2.1
  have z0 := zi0
  have z8 := zi8
  have z20 := zi20
  obtain ⟨hn0, hn1⟩ := id hn
  refine zg 2 (pc' := 2) (ls' := [(0, .ref 0), (1, .int t)]) (st' := [.int t, .ref 0]) (I' := I) rfl ?_
  refine zcv rfl rfl (zt_need_pipe hB t hn) ?_
  refine zg 4 (pc' := 13) (ls' := [(0, .ref 0), (1, .int t)]) (st' := [.int t, .ref 7]) (I' := I) rfl ?_
  refine zia rfl rfl (zin_ok (n := 12) (by omega) (by omega)) (hB 6 _ (zcell_12 (by decide) (by omega) (by omega))) ?_
  refine ziret rfl rfl rfl ?_
  exact zf1
theorem zt_mesh_x {sl D dy : Nat} {I : zM} {S : Nat → Nat → Int32} (hB : zSB 1 S I) (t : Int32) (hn : ¬ (0 ≤ t.toInt ∧ t.toInt < (S 0 11).toInt)) : zW sl (D + 2) dy 92 0 [(0, .ref 0), (1, .int t)] [] I (zRg 1 (zQx I 0)) := by
  refine zg 2 (pc' := 2) (ls' := [(0, .ref 0), (1, .int t)]) (st' := [.int t, .ref 0]) (I' := I) rfl ?_
  exact zcx rfl rfl (zt_need_pipe_x hB t hn) rfl zx1
theorem zl_mesh {sl D dy : Nat} {I : zM} {S : Nat → Nat → Int32} (hB : zSB 1 S I) (hV : zOK S) (t : Int32) (hn : (0 ≤ t.toInt ∧ t.toInt < (S 0 11).toInt)) : zW sl (D + 3) dy 151 0 [(0, .ref 0), (1, .int t)] [] I (zRg 0 (zQf I (some (.int (S 6 t.toNatClampNeg))))) := by
  refine zg 2 (pc' := 2) (ls' := [(0, .ref 0), (1, .int t)]) (st' := [.int t, .ref 0]) (I' := I) rfl ?_
  refine zcf rfl rfl (zt_mesh hB hV t hn) ?_
  refine ziret rfl rfl rfl ?_
  exact zf1
theorem zl_mesh_x {sl D dy : Nat} {I : zM} {S : Nat → Nat → Int32} (hB : zSB 1 S I) (t : Int32) (hn : ¬ (0 ≤ t.toInt ∧ t.toInt < (S 0 11).toInt)) : zW sl (D + 3) dy 151 0 [(0, .ref 0), (1, .int t)] [] I (zRg 1 (zQf I (some (.int (-1001))))) := by
  refine zg 2 (pc' := 2) (ls' := [(0, .ref 0), (1, .int t)]) (st' := [.int t, .ref 0]) (I' := I) rfl ?_
  refine zcct (b2 := 0) (pc2 := 7) (ls2 := [(0, .ref 0), (1, .int t)]) rfl rfl (zt_mesh_x hB t hn) rfl ?_
  refine zg 1 (pc' := 10) (ls' := [(0, .ref 0), (1, .int t)]) (st' := [.int (-1001)]) (I' := I) rfl ?_
  refine ziret rfl rfl rfl ?_
  exact zf1
theorem zt_dirt {sl D dy : Nat} {I : zM} {S : Nat → Nat → Int32} (hB : zSB 1 S I) (hV : zOK S) (t : Int32) (hn : (0 ≤ t.toInt ∧ t.toInt < (S 0 11).toInt)) : zW sl (D + 2) dy 93 0 [(0, .ref 0), (1, .int t)] [] I (zRg 0 (zQf I (some (.int (S 9 t.toNatClampNeg))))) := by
  have hT := hV.1
  have hP := hV.2.1
  have z0 := zi0
  have z8 := zi8
  have z20 := zi20
  obtain ⟨hn0, hn1⟩ := id hn
  refine zg 2 (pc' := 2) (ls' := [(0, .ref 0), (1, .int t)]) (st' := [.int t, .ref 0]) (I' := I) rfl ?_
  refine zcv rfl rfl (zt_need_pipe hB t hn) ?_
  refine zg 4 (pc' := 13) (ls' := [(0, .ref 0), (1, .int t)]) (st' := [.int t, .ref 10]) (I' := I) rfl ?_
  refine zia rfl rfl (zin_ok (n := 12) (by omega) (by omega)) (hB 9 _ (zcell_12 (by decide) (by omega) (by omega))) ?_
  refine ziret rfl rfl rfl ?_
  exact zf1
theorem zt_dirt_x {sl D dy : Nat} {I : zM} {S : Nat → Nat → Int32} (hB : zSB 1 S I) (t : Int32) (hn : ¬ (0 ≤ t.toInt ∧ t.toInt < (S 0 11).toInt)) : zW sl (D + 2) dy 93 0 [(0, .ref 0), (1, .int t)] [] I (zRg 1 (zQx I 0)) := by
  refine zg 2 (pc' := 2) (ls' := [(0, .ref 0), (1, .int t)]) (st' := [.int t, .ref 0]) (I' := I) rfl ?_
  exact zcx rfl rfl (zt_need_pipe_x hB t hn) rfl zx1
theorem zl_dirt {sl D dy : Nat} {I : zM} {S : Nat → Nat → Int32} (hB : zSB 1 S I) (hV : zOK S) (t : Int32) (hn : (0 ≤ t.toInt ∧ t.toInt < (S 0 11).toInt)) : zW sl (D + 3) dy 152 0 [(0, .ref 0), (1, .int t)] [] I (zRg 0 (zQf I (some (.int (S 9 t.toNatClampNeg))))) := by
  refine zg 2 (pc' := 2) (ls' := [(0, .ref 0), (1, .int t)]) (st' := [.int t, .ref 0]) (I' := I) rfl ?_
  refine zcf rfl rfl (zt_dirt hB hV t hn) ?_
  refine ziret rfl rfl rfl ?_
  exact zf1
theorem zl_dirt_x {sl D dy : Nat} {I : zM} {S : Nat → Nat → Int32} (hB : zSB 1 S I) (t : Int32) (hn : ¬ (0 ≤ t.toInt ∧ t.toInt < (S 0 11).toInt)) : zW sl (D + 3) dy 152 0 [(0, .ref 0), (1, .int t)] [] I (zRg 1 (zQf I (some (.int (-1001))))) := by
  refine zg 2 (pc' := 2) (ls' := [(0, .ref 0), (1, .int t)]) (st' := [.int t, .ref 0]) (I' := I) rfl ?_
  refine zcct (b2 := 0) (pc2 := 7) (ls2 := [(0, .ref 0), (1, .int t)]) rfl rfl (zt_dirt_x hB t hn) rfl ?_
  refine zg 1 (pc' := 10) (ls' := [(0, .ref 0), (1, .int t)]) (st' := [.int (-1001)]) (I' := I) rfl ?_
  refine ziret rfl rfl rfl ?_
  exact zf1
theorem zt_litresThrough {sl D dy : Nat} {I : zM} {S : Nat → Nat → Int32} (hB : zSB 1 S I) (hV : zOK S) (t : Int32) (hn : (0 ≤ t.toInt ∧ t.toInt < (S 0 11).toInt)) : zW sl (D + 2) dy 96 0 [(0, .ref 0), (1, .int t)] [] I (zRg 0 (zQf I (some (.int (S 10 t.toNatClampNeg))))) := by
  have hT := hV.1
  have hP := hV.2.1
  have z0 := zi0
  have z8 := zi8
  have z20 := zi20
  obtain ⟨hn0, hn1⟩ := id hn
  refine zg 2 (pc' := 2) (ls' := [(0, .ref 0), (1, .int t)]) (st' := [.int t, .ref 0]) (I' := I) rfl ?_
  refine zcv rfl rfl (zt_need_pipe hB t hn) ?_
  refine zg 4 (pc' := 13) (ls' := [(0, .ref 0), (1, .int t)]) (st' := [.int t, .ref 11]) (I' := I) rfl ?_
  refine zia rfl rfl (zin_ok (n := 12) (by omega) (by omega)) (hB 10 _ (zcell_12 (by decide) (by omega) (by omega))) ?_
  refine ziret rfl rfl rfl ?_
  exact zf1
theorem zt_litresThrough_x {sl D dy : Nat} {I : zM} {S : Nat → Nat → Int32} (hB : zSB 1 S I) (t : Int32) (hn : ¬ (0 ≤ t.toInt ∧ t.toInt < (S 0 11).toInt)) : zW sl (D + 2) dy 96 0 [(0, .ref 0), (1, .int t)] [] I (zRg 1 (zQx I 0)) := by
  refine zg 2 (pc' := 2) (ls' := [(0, .ref 0), (1, .int t)]) (st' := [.int t, .ref 0]) (I' := I) rfl ?_
  exact zcx rfl rfl (zt_need_pipe_x hB t hn) rfl zx1
theorem zl_litres {sl D dy : Nat} {I : zM} {S : Nat → Nat → Int32} (hB : zSB 1 S I) (hV : zOK S) (t : Int32) (hn : (0 ≤ t.toInt ∧ t.toInt < (S 0 11).toInt)) : zW sl (D + 3) dy 155 0 [(0, .ref 0), (1, .int t)] [] I (zRg 0 (zQf I (some (.int (S 10 t.toNatClampNeg))))) := by
  refine zg 2 (pc' := 2) (ls' := [(0, .ref 0), (1, .int t)]) (st' := [.int t, .ref 0]) (I' := I) rfl ?_
  refine zcf rfl rfl (zt_litresThrough hB hV t hn) ?_
  refine ziret rfl rfl rfl ?_
  exact zf1
theorem zl_litres_x {sl D dy : Nat} {I : zM} {S : Nat → Nat → Int32} (hB : zSB 1 S I) (t : Int32) (hn : ¬ (0 ≤ t.toInt ∧ t.toInt < (S 0 11).toInt)) : zW sl (D + 3) dy 155 0 [(0, .ref 0), (1, .int t)] [] I (zRg 1 (zQf I (some (.int (-1001))))) := by
  refine zg 2 (pc' := 2) (ls' := [(0, .ref 0), (1, .int t)]) (st' := [.int t, .ref 0]) (I' := I) rfl ?_
  refine zcct (b2 := 0) (pc2 := 7) (ls2 := [(0, .ref 0), (1, .int t)]) rfl rfl (zt_litresThrough_x hB t hn) rfl ?_
  refine zg 1 (pc' := 10) (ls' := [(0, .ref 0), (1, .int t)]) (st' := [.int (-1001)]) (I' := I) rfl ?_
  refine ziret rfl rfl rfl ?_
  exact zf1
theorem zt_flow {sl D dy : Nat} {I : zM} {S : Nat → Nat → Int32} (hB : zSB 1 S I) (hV : zOK S) (t : Int32) (hn : (0 ≤ t.toInt ∧ t.toInt < (S 0 11).toInt)) : zW sl (D + 2) dy 95 0 [(0, .ref 0), (1, .int t)] [] I (zRg 0 (zQf I (some (.int (zlit S t.toNatClampNeg))))) := by
  have hT := hV.1
  have hP := hV.2.1
  have z0 := zi0
  have z8 := zi8
  have z20 := zi20
  obtain ⟨hn0, hn1⟩ := id hn
  refine zg 2 (pc' := 2) (ls' := [(0, .ref 0), (1, .int t)]) (st' := [.int t, .ref 0]) (I' := I) rfl ?_
  refine zcv rfl rfl (zt_need_pipe hB t hn) ?_
  refine zg 3 (pc' := 10) (ls' := [(0, .ref 0), (1, .int t)]) (st' := [.int t, .ref 1]) (I' := I) rfl ?_
  refine zcf rfl rfl (zt_litres hB hV t hn.1 hn.2) ?_
  refine ziret rfl rfl rfl ?_
  exact zf1
theorem zt_flow_x {sl D dy : Nat} {I : zM} {S : Nat → Nat → Int32} (hB : zSB 1 S I) (t : Int32) (hn : ¬ (0 ≤ t.toInt ∧ t.toInt < (S 0 11).toInt)) : zW sl (D + 2) dy 95 0 [(0, .ref 0), (1, .int t)] [] I (zRg 1 (zQx I 0)) := by
  refine zg 2 (pc' := 2) (ls' := [(0, .ref 0), (1, .int t)]) (st' := [.int t, .ref 0]) (I' := I) rfl ?_
  exact zcx rfl rfl (zt_need_pipe_x hB t hn) rfl zx1
theorem zl_flow {sl D dy : Nat} {I : zM} {S : Nat → Nat → Int32} (hB : zSB 1 S I) (hV : zOK S) (t : Int32) (hn : (0 ≤ t.toInt ∧ t.toInt < (S 0 11).toInt)) : zW sl (D + 3) dy 154 0 [(0, .ref 0), (1, .int t)] [] I (zRg 0 (zQf I (some (.int (zlit S t.toNatClampNeg))))) := by
  refine zg 2 (pc' := 2) (ls' := [(0, .ref 0), (1, .int t)]) (st' := [.int t, .ref 0]) (I' := I) rfl ?_
  refine zcf rfl rfl (zt_flow hB hV t hn) ?_
  refine ziret rfl rfl rfl ?_
  exact zf1
theorem zl_flow_x {sl D dy : Nat} {I : zM} {S : Nat → Nat → Int32} (hB : zSB 1 S I) (t : Int32) (hn : ¬ (0 ≤ t.toInt ∧ t.toInt < (S 0 11).toInt)) : zW sl (D + 3) dy 154 0 [(0, .ref 0), (1, .int t)] [] I (zRg 1 (zQf I (some (.int (-1001))))) := by
  refine zg 2 (pc' := 2) (ls' := [(0, .ref 0), (1, .int t)]) (st' := [.int t, .ref 0]) (I' := I) rfl ?_
  refine zcct (b2 := 0) (pc2 := 7) (ls2 := [(0, .ref 0), (1, .int t)]) rfl rfl (zt_flow_x hB t hn) rfl ?_
  refine zg 1 (pc' := 10) (ls' := [(0, .ref 0), (1, .int t)]) (st' := [.int (-1001)]) (I' := I) rfl ?_
  refine ziret rfl rfl rfl ?_
  exact zf1
theorem zt_tankCount {sl D dy : Nat} {I : zM} {S : Nat → Nat → Int32} (hB : zSB 1 S I) : zW sl (D) dy 78 0 [(0, .ref 0)] [] I (zRg 0 (zQf I (some (.int (S 0 10))))) := by
  refine zg 2 (pc' := 4) (ls' := [(0, .ref 0)]) (st' := [.ref 1]) (I' := I) rfl ?_
  refine zgf rfl rfl rfl (hB 0 10 rfl) ?_
  refine ziret rfl rfl rfl ?_
  exact zf1
theorem zt_pipeCount {sl D dy : Nat} {I : zM} {S : Nat → Nat → Int32} (hB : zSB 1 S I) : zW sl (D) dy 87 0 [(0, .ref 0)] [] I (zRg 0 (zQf I (some (.int (S 0 11))))) := by
  refine zg 2 (pc' := 4) (ls' := [(0, .ref 0)]) (st' := [.ref 1]) (I' := I) rfl ?_
  refine zgf rfl rfl rfl (hB 0 11 rfl) ?_
  refine ziret rfl rfl rfl ?_
  exact zf1
theorem zt_time {sl D dy : Nat} {I : zM} {S : Nat → Nat → Int32} (hB : zSB 1 S I) : zW sl (D) dy 108 0 [(0, .ref 0)] [] I (zRg 0 (zQf I (some (.int (S 0 12))))) := by
  refine zg 2 (pc' := 4) (ls' := [(0, .ref 0)]) (st' := [.ref 1]) (I' := I) rfl ?_
  refine zgf rfl rfl rfl (hB 0 12 rfl) ?_
  refine ziret rfl rfl rfl ?_
  exact zf1
theorem zt_pouredTotal {sl D dy : Nat} {I : zM} {S : Nat → Nat → Int32} (hB : zSB 1 S I) : zW sl (D) dy 109 0 [(0, .ref 0)] [] I (zRg 0 (zQf I (some (.int (S 0 13))))) := by
  refine zg 2 (pc' := 4) (ls' := [(0, .ref 0)]) (st' := [.ref 1]) (I' := I) rfl ?_
  refine zgf rfl rfl rfl (hB 0 13 rfl) ?_
  refine ziret rfl rfl rfl ?_
  exact zf1
theorem zt_drawnTotal {sl D dy : Nat} {I : zM} {S : Nat → Nat → Int32} (hB : zSB 1 S I) : zW sl (D) dy 110 0 [(0, .ref 0)] [] I (zRg 0 (zQf I (some (.int (S 0 14))))) := by
  refine zg 2 (pc' := 4) (ls' := [(0, .ref 0)]) (st' := [.ref 1]) (I' := I) rfl ?_
  refine zgf rfl rfl rfl (hB 0 14 rfl) ?_
  refine ziret rfl rfl rfl ?_
  exact zf1
theorem zt_spilledTotal {sl D dy : Nat} {I : zM} {S : Nat → Nat → Int32} (hB : zSB 1 S I) : zW sl (D) dy 111 0 [(0, .ref 0)] [] I (zRg 0 (zQf I (some (.int (S 0 15))))) := by
  refine zg 2 (pc' := 4) (ls' := [(0, .ref 0)]) (st' := [.ref 1]) (I' := I) rfl ?_
  refine zgf rfl rfl rfl (hB 0 15 rfl) ?_
  refine ziret rfl rfl rfl ?_
  exact zf1
