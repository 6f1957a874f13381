/-! CONTRACTS: cleanest; bridges by numbering -/
theorem zt_needC {sl D dy : Nat} {I : zM} {S : Nat → Nat → Int32} (hB : zSB 1 S I) (hV : zOK S) (f t : Int32) (hf : 0 ≤ f.toInt ∧ f.toInt < (S 0 10).toInt) (ht : 0 ≤ t.toInt ∧ t.toInt < (S 0 10).toInt) (hc : zbt (zrch S f 1 (-1)) t = true) : zW sl (D + 4) dy 107 0 [(0, .ref 0), (1, .int f), (2, .int t)] [] I (zRg 0 (zQf I none)) := by
  have hT := hV.1
  have hP := hV.2.1
  have z0 := zi0
  have z8 := zi8
  have z20 := zi20
  obtain ⟨hf0, hf1⟩ := id hf
  obtain ⟨ht0, ht1⟩ := id ht
  refine zg 2 (pc' := 2) (ls' := [(0, .ref 0), (1, .int f), (2, .int t)]) (st' := [.int f, .ref 0]) (I' := I) rfl ?_
  refine zcv rfl rfl (zt_need_tank hB f (by constructor <;> omega)) ?_
  refine zg 2 (pc' := 7) (ls' := [(0, .ref 0), (1, .int f), (2, .int t)]) (st' := [.int t, .ref 0]) (I' := I) rfl ?_
  refine zcv rfl rfl (zt_need_tank hB t (by constructor <;> omega)) ?_
  refine zg 4 (pc' := 16) (ls' := [(0, .ref 0), (1, .int f), (2, .int t)]) (st' := [.int t, .int f, .ref 135]) (I' := I) rfl ?_
  refine zcb rfl rfl (zt_connect hB hV f t) (fun h1 => ?_) (fun h1 => ?_)
  · skip
    refine zg 1 (pc' := 32) (ls' := [(0, .ref 0), (1, .int f), (2, .int t)]) (st' := []) (I' := I) rfl ?_
    refine zret rfl rfl ?_
    exact zf1
  · skip
    exact absurd hc h1
theorem zt_needCx {sl D dy : Nat} {I : zM} {S : Nat → Nat → Int32} (hB : zSB 1 S I) (hV : zOK S) (f t : Int32) (hf : 0 ≤ f.toInt ∧ f.toInt < (S 0 10).toInt) (ht : 0 ≤ t.toInt ∧ t.toInt < (S 0 10).toInt) (hc : ¬ zbt (zrch S f 1 (-1)) t = true) : zW sl (D + 4) dy 107 0 [(0, .ref 0), (1, .int f), (2, .int t)] [] I (zRg 1 (zQx I 4)) := by
  have hT := hV.1
  have hP := hV.2.1
  have z0 := zi0
  have z8 := zi8
  have z20 := zi20
  obtain ⟨hf0, hf1⟩ := id hf
  obtain ⟨ht0, ht1⟩ := id ht
  refine zg 2 (pc' := 2) (ls' := [(0, .ref 0), (1, .int f), (2, .int t)]) (st' := [.int f, .ref 0]) (I' := I) rfl ?_
  refine zcv rfl rfl (zt_need_tank hB f (by constructor <;> omega)) ?_
  refine zg 2 (pc' := 7) (ls' := [(0, .ref 0), (1, .int f), (2, .int t)]) (st' := [.int t, .ref 0]) (I' := I) rfl ?_
  refine zcv rfl rfl (zt_need_tank hB t (by constructor <;> omega)) ?_
  refine zg 4 (pc' := 16) (ls' := [(0, .ref 0), (1, .int f), (2, .int t)]) (st' := [.int t, .int f, .ref 135]) (I' := I) rfl ?_
  refine zcb rfl rfl (zt_connect hB hV f t) (fun h1 => ?_) (fun h1 => ?_)
  · skip
    exact absurd h1 hc
  · skip
    refine zg 1 (pc' := 22) (ls' := [(0, .ref 0), (1, .int f), (2, .int t)]) (st' := []) (I' := I) rfl ?_
    exact zthrow rfl rfl zx1
theorem zt_needC_f {sl D dy : Nat} {I : zM} {S : Nat → Nat → Int32} (hB : zSB 1 S I) (f t : Int32) (hn : ¬ (0 ≤ f.toInt ∧ f.toInt < (S 0 10).toInt)) : zW sl (D + 4) dy 107 0 [(0, .ref 0), (1, .int f), (2, .int t)] [] I (zRg 1 (zQx I 0)) := by
  refine zg 2 (pc' := 2) (ls' := [(0, .ref 0), (1, .int f), (2, .int t)]) (st' := [.int f, .ref 0]) (I' := I) rfl ?_
  exact zcx rfl rfl (zt_need_tank_x hB f hn) rfl zx1
theorem zt_needC_t {sl D dy : Nat} {I : zM} {S : Nat → Nat → Int32} (hB : zSB 1 S I) (f t : Int32) (hn : ¬ (0 ≤ t.toInt ∧ t.toInt < (S 0 10).toInt)) (hg : 0 ≤ f.toInt ∧ f.toInt < (S 0 10).toInt) : zW sl (D + 4) dy 107 0 [(0, .ref 0), (1, .int f), (2, .int t)] [] I (zRg 1 (zQx I 0)) := by
  refine zg 2 (pc' := 2) (ls' := [(0, .ref 0), (1, .int f), (2, .int t)]) (st' := [.int f, .ref 0]) (I' := I) rfl ?_
  refine zcv rfl rfl (zt_need_tank hB f hg) ?_
  refine zg 2 (pc' := 7) (ls' := [(0, .ref 0), (1, .int f), (2, .int t)]) (st' := [.int t, .ref 0]) (I' := I) rfl ?_
  exact zcx rfl rfl (zt_need_tank_x hB t hn) rfl zx1
theorem zt_cleanest {sl D dy : Nat} {I : zM} {S : Nat → Nat → Int32} (hB : zSB 1 S I) (hV : zOK S) (f t : Int32) (hf : 0 ≤ f.toInt ∧ f.toInt < (S 0 10).toInt) (ht : 0 ≤ t.toInt ∧ t.toInt < (S 0 10).toInt) (hc : zbt (zrch S f 1 (-1)) t = true) : zW sl (D + 5) dy 105 0 [(0, .ref 0), (1, .int f), (2, .int t)] [] I (zRg 0 (zQk (zfr I))) := by
  have hT := hV.1
  have hP := hV.2.1
  have z0 := zi0
  have z8 := zi8
  have z20 := zi20
  obtain ⟨hf0, hf1⟩ := id hf
  obtain ⟨ht0, ht1⟩ := id ht
  refine zg 3 (pc' := 3) (ls' := [(0, .ref 0), (1, .int f), (2, .int t)]) (st' := [.int t, .int f, .ref 0]) (I' := I) rfl ?_
  refine zcv rfl rfl (zt_needC hB hV f t hf ht hc) ?_
  refine zg 3 (pc' := 11) (ls' := [(0, .ref 0), (1, .int f), (2, .int t)]) (st' := [.int f, .ref 135]) (I' := I) rfl ?_
  refine zcj (b1 := 0) (b2 := 0) rfl rfl (zt_search hB hV f hf0 hf1) (fun J q => ?_)
  obtain ⟨hI2, hf2⟩ := q
  obtain ⟨x0, hx0⟩ := hI2.2.2.2 t.toNatClampNeg (by have : t.toNatClampNeg = t.toInt.toNat := rfl; omega)
  refine zg 4 (pc' := 22) (ls' := [(0, .ref 0), (1, .int f), (2, .int t)]) (st' := [.int t, .ref 140]) (I' := J) rfl ?_
  refine zia rfl rfl (zin_ok (n := 8) (by omega) (by omega)) hx0 ?_
  refine ziret rfl rfl rfl ?_
  exact ⟨rfl, ⟨_, rfl⟩, hf2⟩
theorem zt_cleanestx {sl D dy : Nat} {I : zM} {S : Nat → Nat → Int32} (hB : zSB 1 S I) (hV : zOK S) (f t : Int32) (hf : 0 ≤ f.toInt ∧ f.toInt < (S 0 10).toInt) (ht : 0 ≤ t.toInt ∧ t.toInt < (S 0 10).toInt) (hc : ¬ zbt (zrch S f 1 (-1)) t = true) : zW sl (D + 5) dy 105 0 [(0, .ref 0), (1, .int f), (2, .int t)] [] I (zRg 1 (zQx I 4)) := by
  refine zg 3 (pc' := 3) (ls' := [(0, .ref 0), (1, .int f), (2, .int t)]) (st' := [.int t, .int f, .ref 0]) (I' := I) rfl ?_
  exact zcx rfl rfl (zt_needCx hB hV f t hf ht hc) rfl zx1
theorem zl_cleanest1 {sl D dy : Nat} {I : zM} {S : Nat → Nat → Int32} (hB : zSB 1 S I) (hV : zOK S) (f t : Int32) (hf : 0 ≤ f.toInt ∧ f.toInt < (S 0 10).toInt) (ht : 0 ≤ t.toInt ∧ t.toInt < (S 0 10).toInt) (hc : zbt (zrch S f 1 (-1)) t = true) : zW sl (D + 6) dy 161 0 [(0, .ref 0), (1, .int f), (2, .int t)] [] I (zRg 1 (zQk (zfr I))) := by
  refine zg 3 (pc' := 3) (ls' := [(0, .ref 0), (1, .int f), (2, .int t)]) (st' := [.int t, .int f, .ref 0]) (I' := I) rfl ?_
  refine zck (b1 := 0) (b2 := 1) rfl rfl (zt_cleanest hB hV f t hf ht hc) (fun x J q => ?_)
  refine ziret rfl rfl rfl ?_
  exact ⟨rfl, ⟨_, rfl⟩, q⟩
theorem zl_cleanest0 {sl D dy : Nat} {I : zM} {S : Nat → Nat → Int32} (hB : zSB 1 S I) (hV : zOK S) (f t : Int32) (hf : 0 ≤ f.toInt ∧ f.toInt < (S 0 10).toInt) (ht : 0 ≤ t.toInt ∧ t.toInt < (S 0 10).toInt) (hc : ¬ zbt (zrch S f 1 (-1)) t = true) : zW sl (D + 6) dy 161 0 [(0, .ref 0), (1, .int f), (2, .int t)] [] I (zRg 1 (zQf I (some (.int (-1002))))) := by
  refine zg 3 (pc' := 3) (ls' := [(0, .ref 0), (1, .int f), (2, .int t)]) (st' := [.int t, .int f, .ref 0]) (I' := I) rfl ?_
  refine zcct (b2 := 0) (pc2 := 13) (ls2 := [(0, .ref 0), (1, .int f), (2, .int t)]) rfl rfl (zt_cleanestx hB hV f t hf ht hc) rfl ?_
  refine zg 1 (pc' := 16) (ls' := [(0, .ref 0), (1, .int f), (2, .int t)]) (st' := [.int (-1002)]) (I' := I) rfl ?_
  refine ziret rfl rfl rfl ?_
  exact zf1
theorem zl_cleanest {sl D dy : Nat} {I : zM} {S : Nat → Nat → Int32} (hB : zSB 1 S I) (hV : zOK S) (f t : Int32) (hf : 0 ≤ f.toInt ∧ f.toInt < (S 0 10).toInt) (ht : 0 ≤ t.toInt ∧ t.toInt < (S 0 10).toInt) : zW sl (D + 6) dy 161 0 [(0, .ref 0), (1, .int f), (2, .int t)] [] I (zRg 1 (zQk (zfr I))) := by
  by_cases hc : zbt (zrch S f 1 (-1)) t = true
  · exact zl_cleanest1 hB hV f t hf ht hc
  · exact zwp (zl_cleanest0 hB hV f t hf ht hc) (fun c v J q => ⟨q.1, ⟨_, q.2.1⟩, by rw [q.2.2]; exact zfr_refl I⟩)
