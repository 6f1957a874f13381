/-! CONTRACTS: what is refused of the queries -/
theorem zt_hasx {sl D dy : Nat} {I : zM} {S : Nat → Nat → Int32} (hB : zSB 1 S I) (t c : Int32) (hn : 0 ≤ t.toInt ∧ t.toInt < (S 0 10).toInt) (hc : c.toInt < 97 ∨ 104 < c.toInt) : zW sl (D + 2) dy 82 0 [(0, .ref 0), (1, .int t), (2, .int c)] [] I (zRg 1 (zQx I 1)) := by
  have z97 : (97 : Int32).toInt = 97 := rfl
  have z104 : (104 : Int32).toInt = 104 := rfl
  refine zg 2 (pc' := 2) (ls' := [(0, .ref 0), (1, .int t), (2, .int c)]) (st' := [.int t, .ref 0]) (I' := I) rfl ?_
  refine zcv rfl rfl (zt_need_tank hB t hn) ?_
  refine zg 2 (pc' := 8) (ls' := [(0, .ref 0), (1, .int t), (2, .int c)]) (st' := [.int 97, .int c]) (I' := I) rfl ?_
  refine zicmp rfl rfl (fun h1 => ?_) (fun h1 => ?_)
  · have h1 := zc_lt.1.mp h1
    exact zthrow rfl rfl zx1
  · have h1 := zc_lt.2.mp h1
    refine zg 2 (pc' := 14) (ls' := [(0, .ref 0), (1, .int t), (2, .int c)]) (st' := [.int 104, .int c]) (I' := I) rfl ?_
    refine zicmp rfl rfl (fun h2 => ?_) (fun h2 => ?_)
    · have h2 := zc_le.1.mp h2
      exfalso; omega
    · have h2 := zc_le.2.mp h2
      exact zthrow rfl rfl zx1
theorem zt_hasx0 {sl D dy : Nat} {I : zM} {S : Nat → Nat → Int32} (hB : zSB 1 S I) (t c : Int32) (hn : ¬ (0 ≤ t.toInt ∧ t.toInt < (S 0 10).toInt)) : zW sl (D + 2) dy 82 0 [(0, .ref 0), (1, .int t), (2, .int c)] [] I (zRg 1 (zQx I 0)) := by
  refine zg 2 (pc' := 2) (ls' := [(0, .ref 0), (1, .int t), (2, .int c)]) (st' := [.int t, .ref 0]) (I' := I) rfl ?_
  exact zcx rfl rfl (zt_need_tank_x hB t hn) rfl zx1
theorem zl_hasx {sl D dy : Nat} {I : zM} {S : Nat → Nat → Int32} (hB : zSB 1 S I) (t c : Int32) (hn : 0 ≤ t.toInt ∧ t.toInt < (S 0 10).toInt) (hc : c.toInt < 97 ∨ 104 < c.toInt) : zW sl (D + 3) dy 143 0 [(0, .ref 0), (1, .int t), (2, .int c)] [] I (zRg 1 (zQf I (some (.int (-1002))))) := by
  refine zg 3 (pc' := 3) (ls' := [(0, .ref 0), (1, .int t), (2, .int c)]) (st' := [.int c, .int t, .ref 0]) (I' := I) rfl ?_
  refine zcct (b2 := 0) (pc2 := 21) (ls2 := [(0, .ref 0), (1, .int t), (2, .int c)]) rfl rfl (zt_hasx hB t c hn hc) rfl ?_
  refine zg 1 (pc' := 24) (ls' := [(0, .ref 0), (1, .int t), (2, .int c)]) (st' := [.int (-1002)]) (I' := I) rfl ?_
  refine ziret rfl rfl rfl ?_
  exact zf1
theorem zl_hasx0 {sl D dy : Nat} {I : zM} {S : Nat → Nat → Int32} (hB : zSB 1 S I) (t c : Int32) (hn : ¬ (0 ≤ t.toInt ∧ t.toInt < (S 0 10).toInt)) : zW sl (D + 3) dy 143 0 [(0, .ref 0), (1, .int t), (2, .int c)] [] I (zRg 1 (zQf I (some (.int (-1001))))) := by
  refine zg 3 (pc' := 3) (ls' := [(0, .ref 0), (1, .int t), (2, .int c)]) (st' := [.int c, .int t, .ref 0]) (I' := I) rfl ?_
  refine zcct (b2 := 0) (pc2 := 16) (ls2 := [(0, .ref 0), (1, .int t), (2, .int c)]) rfl rfl (zt_hasx0 hB t c hn) rfl ?_
  refine zg 1 (pc' := 19) (ls' := [(0, .ref 0), (1, .int t), (2, .int c)]) (st' := [.int (-1001)]) (I' := I) rfl ?_
  refine ziret rfl rfl rfl ?_
  exact zf1
theorem zt_areC_f {sl D dy : Nat} {I : zM} {S : Nat → Nat → Int32} (hB : zSB 1 S I) (f t : Int32) (hn : ¬ (0 ≤ f.toInt ∧ f.toInt < (S 0 10).toInt)) : zW sl (D + 4) dy 99 0 [(0, .ref 0), (1, .int f), (2, .int t)] [] I (zRg 1 (zQx I 0)) := by
  refine zg 2 (pc' := 2) (ls' := [(0, .ref 0), (1, .int f), (2, .int t)]) (st' := [.int f, .ref 0]) (I' := I) rfl ?_
  exact zcx rfl rfl (zt_need_tank_x hB f hn) rfl zx1
theorem zl_areC_f {sl D dy : Nat} {I : zM} {S : Nat → Nat → Int32} (hB : zSB 1 S I) (f t : Int32) (hn : ¬ (0 ≤ f.toInt ∧ f.toInt < (S 0 10).toInt)) : zW sl (D + 4 + 1) dy 157 0 [(0, .ref 0), (1, .int f), (2, .int t)] [] I (zRg 1 (zQf I (some (.int (-1001))))) := by
  refine zg 3 (pc' := 3) (ls' := [(0, .ref 0), (1, .int f), (2, .int t)]) (st' := [.int t, .int f, .ref 0]) (I' := I) rfl ?_
  refine zcct (b2 := 0) (pc2 := 16) (ls2 := [(0, .ref 0), (1, .int f), (2, .int t)]) rfl rfl (zt_areC_f hB f t hn) rfl ?_
  refine zg 1 (pc' := 19) (ls' := [(0, .ref 0), (1, .int f), (2, .int t)]) (st' := [.int (-1001)]) (I' := I) rfl ?_
  refine ziret rfl rfl rfl ?_
  exact zf1
theorem zt_areC_t {sl D dy : Nat} {I : zM} {S : Nat → Nat → Int32} (hB : zSB 1 S I) (f t : Int32) (hn : ¬ (0 ≤ t.toInt ∧ t.toInt < (S 0 10).toInt)) (hg : 0 ≤ f.toInt ∧ f.toInt < (S 0 10).toInt) : zW sl (D + 4) dy 99 0 [(0, .ref 0), (1, .int f), (2, .int t)] [] I (zRg 1 (zQx I 0)) := by
  refine zg 2 (pc' := 2) (ls' := [(0, .ref 0), (1, .int f), (2, .int t)]) (st' := [.int f, .ref 0]) (I' := I) rfl ?_
  refine zcv rfl rfl (zt_need_tank hB f hg) ?_
  refine zg 2 (pc' := 7) (ls' := [(0, .ref 0), (1, .int f), (2, .int t)]) (st' := [.int t, .ref 0]) (I' := I) rfl ?_
  exact zcx rfl rfl (zt_need_tank_x hB t hn) rfl zx1
theorem zl_areC_t {sl D dy : Nat} {I : zM} {S : Nat → Nat → Int32} (hB : zSB 1 S I) (f t : Int32) (hn : ¬ (0 ≤ t.toInt ∧ t.toInt < (S 0 10).toInt)) (hg : 0 ≤ f.toInt ∧ f.toInt < (S 0 10).toInt) : zW sl (D + 4 + 1) dy 157 0 [(0, .ref 0), (1, .int f), (2, .int t)] [] I (zRg 1 (zQf I (some (.int (-1001))))) := by
  refine zg 3 (pc' := 3) (ls' := [(0, .ref 0), (1, .int f), (2, .int t)]) (st' := [.int t, .int f, .ref 0]) (I' := I) rfl ?_
  refine zcct (b2 := 0) (pc2 := 16) (ls2 := [(0, .ref 0), (1, .int f), (2, .int t)]) rfl rfl (zt_areC_t hB f t hn hg) rfl ?_
  refine zg 1 (pc' := 19) (ls' := [(0, .ref 0), (1, .int f), (2, .int t)]) (st' := [.int (-1001)]) (I' := I) rfl ?_
  refine ziret rfl rfl rfl ?_
  exact zf1
theorem zt_width_f {sl D dy : Nat} {I : zM} {S : Nat → Nat → Int32} (hB : zSB 1 S I) (f t : Int32) (hn : ¬ (0 ≤ f.toInt ∧ f.toInt < (S 0 10).toInt)) : zW sl (D + 4) dy 103 0 [(0, .ref 0), (1, .int f), (2, .int t)] [] I (zRg 1 (zQx I 0)) := by
  refine zg 2 (pc' := 2) (ls' := [(0, .ref 0), (1, .int f), (2, .int t)]) (st' := [.int f, .ref 0]) (I' := I) rfl ?_
  exact zcx rfl rfl (zt_need_tank_x hB f hn) rfl zx1
theorem zl_width_f {sl D dy : Nat} {I : zM} {S : Nat → Nat → Int32} (hB : zSB 1 S I) (f t : Int32) (hn : ¬ (0 ≤ f.toInt ∧ f.toInt < (S 0 10).toInt)) : zW sl (D + 4 + 1) dy 159 0 [(0, .ref 0), (1, .int f), (2, .int t)] [] I (zRg 1 (zQf I (some (.int (-1001))))) := by
  refine zg 3 (pc' := 3) (ls' := [(0, .ref 0), (1, .int f), (2, .int t)]) (st' := [.int t, .int f, .ref 0]) (I' := I) rfl ?_
  refine zcct (b2 := 0) (pc2 := 8) (ls2 := [(0, .ref 0), (1, .int f), (2, .int t)]) rfl rfl (zt_width_f hB f t hn) rfl ?_
  refine zg 1 (pc' := 11) (ls' := [(0, .ref 0), (1, .int f), (2, .int t)]) (st' := [.int (-1001)]) (I' := I) rfl ?_
  refine ziret rfl rfl rfl ?_
  exact zf1
theorem zt_width_t {sl D dy : Nat} {I : zM} {S : Nat → Nat → Int32} (hB : zSB 1 S I) (f t : Int32) (hn : ¬ (0 ≤ t.toInt ∧ t.toInt < (S 0 10).toInt)) (hg : 0 ≤ f.toInt ∧ f.toInt < (S 0 10).toInt) : zW sl (D + 4) dy 103 0 [(0, .ref 0), (1, .int f), (2, .int t)] [] I (zRg 1 (zQx I 0)) := by
  refine zg 2 (pc' := 2) (ls' := [(0, .ref 0), (1, .int f), (2, .int t)]) (st' := [.int f, .ref 0]) (I' := I) rfl ?_
  refine zcv rfl rfl (zt_need_tank hB f hg) ?_
  refine zg 2 (pc' := 7) (ls' := [(0, .ref 0), (1, .int f), (2, .int t)]) (st' := [.int t, .ref 0]) (I' := I) rfl ?_
  exact zcx rfl rfl (zt_need_tank_x hB t hn) rfl zx1
theorem zl_width_t {sl D dy : Nat} {I : zM} {S : Nat → Nat → Int32} (hB : zSB 1 S I) (f t : Int32) (hn : ¬ (0 ≤ t.toInt ∧ t.toInt < (S 0 10).toInt)) (hg : 0 ≤ f.toInt ∧ f.toInt < (S 0 10).toInt) : zW sl (D + 4 + 1) dy 159 0 [(0, .ref 0), (1, .int f), (2, .int t)] [] I (zRg 1 (zQf I (some (.int (-1001))))) := by
  refine zg 3 (pc' := 3) (ls' := [(0, .ref 0), (1, .int f), (2, .int t)]) (st' := [.int t, .int f, .ref 0]) (I' := I) rfl ?_
  refine zcct (b2 := 0) (pc2 := 8) (ls2 := [(0, .ref 0), (1, .int f), (2, .int t)]) rfl rfl (zt_width_t hB f t hn hg) rfl ?_
  refine zg 1 (pc' := 11) (ls' := [(0, .ref 0), (1, .int f), (2, .int t)]) (st' := [.int (-1001)]) (I' := I) rfl ?_
  refine ziret rfl rfl rfl ?_
  exact zf1
theorem zt_bySet_f {sl D dy : Nat} {I : zM} {S : Nat → Nat → Int32} (hB : zSB 1 S I) (f t : Int32) (hn : ¬ (0 ≤ f.toInt ∧ f.toInt < (S 0 10).toInt)) : zW sl (D + 4) dy 104 0 [(0, .ref 0), (1, .int f), (2, .int t)] [] I (zRg 1 (zQx I 0)) := by
  refine zg 2 (pc' := 2) (ls' := [(0, .ref 0), (1, .int f), (2, .int t)]) (st' := [.int f, .ref 0]) (I' := I) rfl ?_
  exact zcx rfl rfl (zt_need_tank_x hB f hn) rfl zx1
theorem zl_bySet_f {sl D dy : Nat} {I : zM} {S : Nat → Nat → Int32} (hB : zSB 1 S I) (f t : Int32) (hn : ¬ (0 ≤ f.toInt ∧ f.toInt < (S 0 10).toInt)) : zW sl (D + 4 + 1) dy 160 0 [(0, .ref 0), (1, .int f), (2, .int t)] [] I (zRg 1 (zQf I (some (.int (-1001))))) := by
  refine zg 3 (pc' := 3) (ls' := [(0, .ref 0), (1, .int f), (2, .int t)]) (st' := [.int t, .int f, .ref 0]) (I' := I) rfl ?_
  refine zcct (b2 := 0) (pc2 := 8) (ls2 := [(0, .ref 0), (1, .int f), (2, .int t)]) rfl rfl (zt_bySet_f hB f t hn) rfl ?_
  refine zg 1 (pc' := 11) (ls' := [(0, .ref 0), (1, .int f), (2, .int t)]) (st' := [.int (-1001)]) (I' := I) rfl ?_
  refine ziret rfl rfl rfl ?_
  exact zf1
theorem zt_bySet_t {sl D dy : Nat} {I : zM} {S : Nat → Nat → Int32} (hB : zSB 1 S I) (f t : Int32) (hn : ¬ (0 ≤ t.toInt ∧ t.toInt < (S 0 10).toInt)) (hg : 0 ≤ f.toInt ∧ f.toInt < (S 0 10).toInt) : zW sl (D + 4) dy 104 0 [(0, .ref 0), (1, .int f), (2, .int t)] [] I (zRg 1 (zQx I 0)) := by
  refine zg 2 (pc' := 2) (ls' := [(0, .ref 0), (1, .int f), (2, .int t)]) (st' := [.int f, .ref 0]) (I' := I) rfl ?_
  refine zcv rfl rfl (zt_need_tank hB f hg) ?_
  refine zg 2 (pc' := 7) (ls' := [(0, .ref 0), (1, .int f), (2, .int t)]) (st' := [.int t, .ref 0]) (I' := I) rfl ?_
  exact zcx rfl rfl (zt_need_tank_x hB t hn) rfl zx1
theorem zl_bySet_t {sl D dy : Nat} {I : zM} {S : Nat → Nat → Int32} (hB : zSB 1 S I) (f t : Int32) (hn : ¬ (0 ≤ t.toInt ∧ t.toInt < (S 0 10).toInt)) (hg : 0 ≤ f.toInt ∧ f.toInt < (S 0 10).toInt) : zW sl (D + 4 + 1) dy 160 0 [(0, .ref 0), (1, .int f), (2, .int t)] [] I (zRg 1 (zQf I (some (.int (-1001))))) := by
  refine zg 3 (pc' := 3) (ls' := [(0, .ref 0), (1, .int f), (2, .int t)]) (st' := [.int t, .int f, .ref 0]) (I' := I) rfl ?_
  refine zcct (b2 := 0) (pc2 := 8) (ls2 := [(0, .ref 0), (1, .int f), (2, .int t)]) rfl rfl (zt_bySet_t hB f t hn hg) rfl ?_
  refine zg 1 (pc' := 11) (ls' := [(0, .ref 0), (1, .int f), (2, .int t)]) (st' := [.int (-1001)]) (I' := I) rfl ?_
  refine ziret rfl rfl rfl ?_
  exact zf1
theorem zt_cleanx_f {sl D dy : Nat} {I : zM} {S : Nat → Nat → Int32} (hB : zSB 1 S I) (f t : Int32) (hn : ¬ (0 ≤ f.toInt ∧ f.toInt < (S 0 10).toInt)) : zW sl (D + 5) dy 105 0 [(0, .ref 0), (1, .int f), (2, .int t)] [] I (zRg 1 (zQx I 0)) := by
  refine zg 3 (pc' := 3) (ls' := [(0, .ref 0), (1, .int f), (2, .int t)]) (st' := [.int t, .int f, .ref 0]) (I' := I) rfl ?_
  exact zcx rfl rfl (zt_needC_f hB f t hn) rfl zx1
theorem zl_cleanx_f {sl D dy : Nat} {I : zM} {S : Nat → Nat → Int32} (hB : zSB 1 S I) (f t : Int32) (hn : ¬ (0 ≤ f.toInt ∧ f.toInt < (S 0 10).toInt)) : zW sl (D + 5 + 1) dy 161 0 [(0, .ref 0), (1, .int f), (2, .int t)] [] I (zRg 1 (zQf I (some (.int (-1001))))) := by
  refine zg 3 (pc' := 3) (ls' := [(0, .ref 0), (1, .int f), (2, .int t)]) (st' := [.int t, .int f, .ref 0]) (I' := I) rfl ?_
  refine zcct (b2 := 0) (pc2 := 8) (ls2 := [(0, .ref 0), (1, .int f), (2, .int t)]) rfl rfl (zt_cleanx_f hB f t hn) rfl ?_
  refine zg 1 (pc' := 11) (ls' := [(0, .ref 0), (1, .int f), (2, .int t)]) (st' := [.int (-1001)]) (I' := I) rfl ?_
  refine ziret rfl rfl rfl ?_
  exact zf1
theorem zt_cleanx_t {sl D dy : Nat} {I : zM} {S : Nat → Nat → Int32} (hB : zSB 1 S I) (f t : Int32) (hn : ¬ (0 ≤ t.toInt ∧ t.toInt < (S 0 10).toInt)) (hg : 0 ≤ f.toInt ∧ f.toInt < (S 0 10).toInt) : zW sl (D + 5) dy 105 0 [(0, .ref 0), (1, .int f), (2, .int t)] [] I (zRg 1 (zQx I 0)) := by
  refine zg 3 (pc' := 3) (ls' := [(0, .ref 0), (1, .int f), (2, .int t)]) (st' := [.int t, .int f, .ref 0]) (I' := I) rfl ?_
  exact zcx rfl rfl (zt_needC_t hB f t hn hg) rfl zx1
theorem zl_cleanx_t {sl D dy : Nat} {I : zM} {S : Nat → Nat → Int32} (hB : zSB 1 S I) (f t : Int32) (hn : ¬ (0 ≤ t.toInt ∧ t.toInt < (S 0 10).toInt)) (hg : 0 ≤ f.toInt ∧ f.toInt < (S 0 10).toInt) : zW sl (D + 5 + 1) dy 161 0 [(0, .ref 0), (1, .int f), (2, .int t)] [] I (zRg 1 (zQf I (some (.int (-1001))))) := by
  refine zg 3 (pc' := 3) (ls' := [(0, .ref 0), (1, .int f), (2, .int t)]) (st' := [.int t, .int f, .ref 0]) (I' := I) rfl ?_
  refine zcct (b2 := 0) (pc2 := 8) (ls2 := [(0, .ref 0), (1, .int f), (2, .int t)]) rfl rfl (zt_cleanx_t hB f t hn hg) rfl ?_
  refine zg 1 (pc' := 11) (ls' := [(0, .ref 0), (1, .int f), (2, .int t)]) (st' := [.int (-1001)]) (I' := I) rfl ?_
  refine ziret rfl rfl rfl ?_
  exact zf1
theorem zt_passx_f {sl D dy : Nat} {I : zM} {S : Nat → Nat → Int32} (hB : zSB 1 S I) (f t : Int32) (hn : ¬ (0 ≤ f.toInt ∧ f.toInt < (S 0 10).toInt)) : zW sl (D + 5) dy 106 0 [(0, .ref 0), (1, .int f), (2, .int t)] [] I (zRg 1 (zQx I 0)) := by
  refine zg 3 (pc' := 3) (ls' := [(0, .ref 0), (1, .int f), (2, .int t)]) (st' := [.int t, .int f, .ref 0]) (I' := I) rfl ?_
  exact zcx rfl rfl (zt_needC_f hB f t hn) rfl zx1
theorem zl_passx_f {sl D dy : Nat} {I : zM} {S : Nat → Nat → Int32} (hB : zSB 1 S I) (f t : Int32) (hn : ¬ (0 ≤ f.toInt ∧ f.toInt < (S 0 10).toInt)) : zW sl (D + 5 + 1) dy 162 0 [(0, .ref 0), (1, .int f), (2, .int t)] [] I (zRg 1 (zQf I (some (.int (-1001))))) := by
  refine zg 3 (pc' := 3) (ls' := [(0, .ref 0), (1, .int f), (2, .int t)]) (st' := [.int t, .int f, .ref 0]) (I' := I) rfl ?_
  refine zcct (b2 := 0) (pc2 := 8) (ls2 := [(0, .ref 0), (1, .int f), (2, .int t)]) rfl rfl (zt_passx_f hB f t hn) rfl ?_
  refine zg 1 (pc' := 11) (ls' := [(0, .ref 0), (1, .int f), (2, .int t)]) (st' := [.int (-1001)]) (I' := I) rfl ?_
  refine ziret rfl rfl rfl ?_
  exact zf1
theorem zt_passx_t {sl D dy : Nat} {I : zM} {S : Nat → Nat → Int32} (hB : zSB 1 S I) (f t : Int32) (hn : ¬ (0 ≤ t.toInt ∧ t.toInt < (S 0 10).toInt)) (hg : 0 ≤ f.toInt ∧ f.toInt < (S 0 10).toInt) : zW sl (D + 5) dy 106 0 [(0, .ref 0), (1, .int f), (2, .int t)] [] I (zRg 1 (zQx I 0)) := by
  refine zg 3 (pc' := 3) (ls' := [(0, .ref 0), (1, .int f), (2, .int t)]) (st' := [.int t, .int f, .ref 0]) (I' := I) rfl ?_
  exact zcx rfl rfl (zt_needC_t hB f t hn hg) rfl zx1
theorem zl_passx_t {sl D dy : Nat} {I : zM} {S : Nat → Nat → Int32} (hB : zSB 1 S I) (f t : Int32) (hn : ¬ (0 ≤ t.toInt ∧ t.toInt < (S 0 10).toInt)) (hg : 0 ≤ f.toInt ∧ f.toInt < (S 0 10).toInt) : zW sl (D + 5 + 1) dy 162 0 [(0, .ref 0), (1, .int f), (2, .int t)] [] I (zRg 1 (zQf I (some (.int (-1001))))) := by
  refine zg 3 (pc' := 3) (ls' := [(0, .ref 0), (1, .int f), (2, .int t)]) (st' := [.int t, .int f, .ref 0]) (I' := I) rfl ?_
  refine zcct (b2 := 0) (pc2 := 8) (ls2 := [(0, .ref 0), (1, .int f), (2, .int t)]) rfl rfl (zt_passx_t hB f t hn hg) rfl ?_
  refine zg 1 (pc' := 11) (ls' := [(0, .ref 0), (1, .int f), (2, .int t)]) (st' := [.int (-1001)]) (I' := I) rfl ?_
  refine ziret rfl rfl rfl ?_
  exact zf1
theorem zt_areC {sl D dy : Nat} {I : zM} {S : Nat → Nat → Int32} (hB : zSB 1 S I) (hV : zOK S) (f t : Int32) (hf : 0 ≤ f.toInt ∧ f.toInt < (S 0 10).toInt) (ht : 0 ≤ t.toInt ∧ t.toInt < (S 0 10).toInt) : zW sl (D + 4) dy 99 0 [(0, .ref 0), (1, .int f), (2, .int t)] [] I (zRg 0 (zQb I (zbt (zrch S f 1 (-1)) t = true))) := by
  refine zg 2 (pc' := 2) (ls' := [(0, .ref 0), (1, .int f), (2, .int t)]) (st' := [.int f, .ref 0]) (I' := I) rfl ?_
  refine zcv rfl rfl (zt_need_tank hB f hf) ?_
  refine zg 2 (pc' := 7) (ls' := [(0, .ref 0), (1, .int f), (2, .int t)]) (st' := [.int t, .ref 0]) (I' := I) rfl ?_
  refine zcv rfl rfl (zt_need_tank hB t ht) ?_
  refine zg 4 (pc' := 16) (ls' := [(0, .ref 0), (1, .int f), (2, .int t)]) (st' := [.int t, .int f, .ref 135]) (I' := I) rfl ?_
  refine zcb rfl rfl (zt_connect hB hV f t) (fun h1 => ?_) (fun h1 => ?_)
  · skip
    refine ziret rfl rfl rfl ?_
    exact zb1 (by assumption)
  · skip
    refine ziret rfl rfl rfl ?_
    exact zb0 (by assumption)
theorem zl_connected {sl D dy : Nat} {I : zM} {S : Nat → Nat → Int32} (hB : zSB 1 S I) (hV : zOK S) (f t : Int32) (hf : 0 ≤ f.toInt ∧ f.toInt < (S 0 10).toInt) (ht : 0 ≤ t.toInt ∧ t.toInt < (S 0 10).toInt) : zW sl (D + 5) dy 157 0 [(0, .ref 0), (1, .int f), (2, .int t)] [] I (zRg 0 (zQb I (zbt (zrch S f 1 (-1)) t = true))) := by
  refine zg 3 (pc' := 3) (ls' := [(0, .ref 0), (1, .int f), (2, .int t)]) (st' := [.int t, .int f, .ref 0]) (I' := I) rfl ?_
  refine zcb rfl rfl (zt_areC hB hV f t hf ht) (fun h1 => ?_) (fun h1 => ?_)
  · skip
    refine zg 3 (pc' := 14) (ls' := [(0, .ref 0), (1, .int f), (2, .int t)]) (st' := [.int 1]) (I' := I) rfl ?_
    refine ziret rfl rfl rfl ?_
    exact zb1 (by assumption)
  · skip
    refine zg 2 (pc' := 14) (ls' := [(0, .ref 0), (1, .int f), (2, .int t)]) (st' := [.int 0]) (I' := I) rfl ?_
    refine ziret rfl rfl rfl ?_
    exact zb0 (by assumption)
theorem zt_passx {sl D dy : Nat} {I : zM} {S : Nat → Nat → Int32} (hB : zSB 1 S I) (hV : zOK S) (f t : Int32) (hf : 0 ≤ f.toInt ∧ f.toInt < (S 0 10).toInt) (ht : 0 ≤ t.toInt ∧ t.toInt < (S 0 10).toInt) (hc : ¬ zbt (zrch S f 1 (-1)) t = true) : zW sl (D + 5) dy 106 0 [(0, .ref 0), (1, .int f), (2, .int t)] [] I (zRg 1 (zQx I 4)) := by
  refine zg 3 (pc' := 3) (ls' := [(0, .ref 0), (1, .int f), (2, .int t)]) (st' := [.int t, .int f, .ref 0]) (I' := I) rfl ?_
  exact zcx rfl rfl (zt_needCx hB hV f t hf ht hc) rfl zx1
theorem zl_passx {sl D dy : Nat} {I : zM} {S : Nat → Nat → Int32} (hB : zSB 1 S I) (hV : zOK S) (f t : Int32) (hf : 0 ≤ f.toInt ∧ f.toInt < (S 0 10).toInt) (ht : 0 ≤ t.toInt ∧ t.toInt < (S 0 10).toInt) (hc : ¬ zbt (zrch S f 1 (-1)) t = true) : zW sl (D + 6) dy 162 0 [(0, .ref 0), (1, .int f), (2, .int t)] [] I (zRg 1 (zQf I (some (.int (-1002))))) := by
  refine zg 3 (pc' := 3) (ls' := [(0, .ref 0), (1, .int f), (2, .int t)]) (st' := [.int t, .int f, .ref 0]) (I' := I) rfl ?_
  refine zcct (b2 := 0) (pc2 := 13) (ls2 := [(0, .ref 0), (1, .int f), (2, .int t)]) rfl rfl (zt_passx hB hV f t hf ht hc) rfl ?_
  refine zg 1 (pc' := 16) (ls' := [(0, .ref 0), (1, .int f), (2, .int t)]) (st' := [.int (-1002)]) (I' := I) rfl ?_
  refine ziret rfl rfl rfl ?_
  exact zf1
theorem zt_isOpen_x {sl D dy : Nat} {I : zM} {S : Nat → Nat → Int32} (hB : zSB 1 S I) (t : Int32) (hn : ¬ (0 ≤ t.toInt ∧ t.toInt < (S 0 11).toInt)) : zW sl (D + 2) dy 94 0 [(0, .ref 0), (1, .int t)] [] I (zRg 1 (zQx I 0)) := by
  refine zg 2 (pc' := 2) (ls' := [(0, .ref 0), (1, .int t)]) (st' := [.int t, .ref 0]) (I' := I) rfl ?_
  exact zcx rfl rfl (zt_need_pipe_x hB t hn) rfl zx1
theorem zl_isOpen_x {sl D dy : Nat} {I : zM} {S : Nat → Nat → Int32} (hB : zSB 1 S I) (t : Int32) (hn : ¬ (0 ≤ t.toInt ∧ t.toInt < (S 0 11).toInt)) : zW sl (D + 3) dy 153 0 [(0, .ref 0), (1, .int t)] [] I (zRg 1 (zQf I (some (.int (-1001))))) := by
  refine zg 2 (pc' := 2) (ls' := [(0, .ref 0), (1, .int t)]) (st' := [.int t, .ref 0]) (I' := I) rfl ?_
  refine zcct (b2 := 0) (pc2 := 15) (ls2 := [(0, .ref 0), (1, .int t)]) rfl rfl (zt_isOpen_x hB t hn) rfl ?_
  refine zg 1 (pc' := 18) (ls' := [(0, .ref 0), (1, .int t)]) (st' := [.int (-1001)]) (I' := I) rfl ?_
  refine ziret rfl rfl rfl ?_
  exact zf1
theorem zt_isBridge_x {sl D dy : Nat} {I : zM} {S : Nat → Nat → Int32} (hB : zSB 1 S I) (t : Int32) (hn : ¬ (0 ≤ t.toInt ∧ t.toInt < (S 0 11).toInt)) : zW sl (D + 2) dy 101 0 [(0, .ref 0), (1, .int t)] [] I (zRg 1 (zQx I 0)) := by
  refine zg 2 (pc' := 2) (ls' := [(0, .ref 0), (1, .int t)]) (st' := [.int t, .ref 0]) (I' := I) rfl ?_
  exact zcx rfl rfl (zt_need_pipe_x hB t hn) rfl zx1
theorem zl_isBridge_x {sl D dy : Nat} {I : zM} {S : Nat → Nat → Int32} (hB : zSB 1 S I) (t : Int32) (hn : ¬ (0 ≤ t.toInt ∧ t.toInt < (S 0 11).toInt)) : zW sl (D + 3) dy 158 0 [(0, .ref 0), (1, .int t)] [] I (zRg 1 (zQf I (some (.int (-1001))))) := by
  refine zg 2 (pc' := 2) (ls' := [(0, .ref 0), (1, .int t)]) (st' := [.int t, .ref 0]) (I' := I) rfl ?_
  refine zcct (b2 := 0) (pc2 := 15) (ls2 := [(0, .ref 0), (1, .int t)]) rfl rfl (zt_isBridge_x hB t hn) rfl ?_
  refine zg 1 (pc' := 18) (ls' := [(0, .ref 0), (1, .int t)]) (st' := [.int (-1001)]) (I' := I) rfl ?_
  refine ziret rfl rfl rfl ?_
  exact zf1
theorem zt_typex {sl D dy : Nat} {I : zM} (c : Int32) (hc : c.toInt < 32 ∨ 126 < c.toInt) : zW sl (D) dy 119 0 [(0, .ref 0), (1, .int c)] [] I (zRg 1 (zQx I 1)) := by
  have z32 : (32 : Int32).toInt = 32 := rfl
  have z126 : (126 : Int32).toInt = 126 := rfl
  refine zg 2 (pc' := 3) (ls' := [(0, .ref 0), (1, .int c)]) (st' := [.int 32, .int c]) (I' := I) rfl ?_
  refine zicmp rfl rfl (fun h1 => ?_) (fun h1 => ?_)
  · have h1 := zc_lt.1.mp h1
    exact zthrow rfl rfl zx1
  · have h1 := zc_lt.2.mp h1
    refine zg 2 (pc' := 9) (ls' := [(0, .ref 0), (1, .int c)]) (st' := [.int 126, .int c]) (I' := I) rfl ?_
    refine zicmp rfl rfl (fun h2 => ?_) (fun h2 => ?_)
    · have h2 := zc_le.1.mp h2
      exfalso; omega
    · have h2 := zc_le.2.mp h2
      exact zthrow rfl rfl zx1
theorem zl_typex {sl D dy : Nat} {I : zM} (c : Int32) (hc : c.toInt < 32 ∨ 126 < c.toInt) : zW sl (D + 1) dy 167 0 [(0, .ref 0), (1, .int c)] [] I (zRg 1 (zQf I (some (.int (-1001))))) := by
  refine zg 2 (pc' := 2) (ls' := [(0, .ref 0), (1, .int c)]) (st' := [.int c, .ref 0]) (I' := I) rfl ?_
  refine zcct (b2 := 0) (pc2 := 7) (ls2 := [(0, .ref 0), (1, .int c)]) rfl rfl (zt_typex c hc) rfl ?_
  refine zg 1 (pc' := 10) (ls' := [(0, .ref 0), (1, .int c)]) (st' := [.int (-1001)]) (I' := I) rfl ?_
  refine ziret rfl rfl rfl ?_
  exact zf1
