/-! CONTRACTS: rendering -/
theorem zlet {i : Int32} (h0 : 0 ≤ i.toInt) (h1 : i.toInt < 8) : ((97 + i).toUInt32 % 65536).toInt32.toInt = 97 + i.toInt := by
  have h : (List.range 8).all (fun k => decide (((97 + Int32.ofNat k).toUInt32 % 65536).toInt32.toInt = 97 + (k : Int))) = true := by decide +kernel
  have h2 := of_decide_eq_true (List.all_eq_true.mp h i.toInt.toNat (List.mem_range.mpr (by omega)))
  rw [zofi h0] at h2
  omega
theorem zt_letl {sl D dy : Nat} (x : Int32) : ∀ (k : Nat) (i n : Int32) (I I0 : zM) (hT : zTx I n) (hff : zfr I0 I) (h0 : 0 ≤ i.toInt) (hk : i.toInt + (k : Int) = 8) (hn : n.toInt + (k : Int) ≤ 40), zW sl (D + 1) dy 116 2 [(0, .ref 0), (1, .int x), (2, .int i)] [] I (zRg k (zQj (fun J => zfr I0 J ∧ ∃ n2, zTx J n2 ∧ n2.toInt ≤ n.toInt + (k : Int)))) := by
  intro k
  induction k with
  | zero =>
    intro i n I I0 hT hff h0 hk hn
    have z8 := zi8
    refine zg 2 (pc' := 5) (ls' := [(0, .ref 0), (1, .int x), (2, .int i)]) (st' := [.int 8, .int i]) (I' := I) rfl ?_
    refine zicmp rfl rfl (fun h1 => ?_) (fun h1 => ?_)
    · have h1 := zc_ge.1.mp h1
      refine zret rfl rfl ?_
      exact ⟨rfl, rfl, hff, n, hT, by omega⟩
    · have h1 := zc_ge.2.mp h1
      exfalso; omega
  | succ k ih =>
    intro i n I I0 hT hff h0 hk hn
    have z8 := zi8
    refine zg 2 (pc' := 5) (ls' := [(0, .ref 0), (1, .int x), (2, .int i)]) (st' := [.int 8, .int i]) (I' := I) rfl ?_
    refine zicmp rfl rfl (fun h1 => ?_) (fun h1 => ?_)
    · have h1 := zc_ge.1.mp h1
      exfalso; omega
    · have h1 := zc_ge.2.mp h1
      refine zg 2 (pc' := 10) (ls' := [(0, .ref 0), (1, .int x), (2, .int i)]) (st' := [.int i, .int x]) (I' := I) rfl ?_
      refine zcb rfl rfl (zt_cont x i) (fun h2 => ?_) (fun h2 => ?_)
      · skip
        refine zg 7 (pc' := 25) (ls' := [(0, .ref 0), (1, .int x), (2, .int i)]) (st' := [.int ((((97 + i) : Int32).toUInt32 % 65536).toInt32), .ref 148]) (I' := I) rfl ?_
        have hl := zlet h0 (by omega)
        refine zapc (b2 := k) rfl rfl hT (by omega) (by omega) (by omega) (fun J n2 hT2 hn2 hfj => ?_) (by omega)
        refine zg 3 (pc' := 2) (ls' := [(2, .int (i + 1)), (0, .ref 0), (1, .int x)]) (st' := []) (I' := J) rfl ?_
        refine zLp (List.Perm.trans (List.Perm.cons _ (List.Perm.swap _ _ _)) (List.Perm.swap _ _ _)) rfl ?_
        exact zwp (ih (i + 1) n2 J I0 hT2 (zfr_trans hff hfj) (by rw [zadd1 h0 (by omega)]; omega) (by rw [zadd1 h0 (by omega)]; omega) (by omega)) (fun c v J2 q => ⟨q.1, q.2.1, q.2.2.1, by obtain ⟨n3, q3, q4⟩ := q.2.2.2; exact ⟨n3, q3, by omega⟩⟩)
      · skip
        refine zg 3 (pc' := 2) (ls' := [(2, .int (i + 1)), (0, .ref 0), (1, .int x)]) (st' := []) (I' := I) rfl ?_
        refine zLp (List.Perm.trans (List.Perm.cons _ (List.Perm.swap _ _ _)) (List.Perm.swap _ _ _)) rfl ?_
        exact zwp (ih (i + 1) n I I0 hT hff (by rw [zadd1 h0 (by omega)]; omega) (by rw [zadd1 h0 (by omega)]; omega) (by omega)) (fun c v J2 q => ⟨q.1, q.2.1, q.2.2.1, by obtain ⟨n3, q3, q4⟩ := q.2.2.2; exact ⟨n3, q3, by omega⟩⟩)
theorem zt_letters {sl D dy : Nat} {I I0 : zM} (x n : Int32) (hT : zTx I n) (hff : zfr I0 I) (hn : n.toInt ≤ 30) : zW sl (D + 1) dy 116 0 [(0, .ref 0), (1, .int x)] [] I (zRg 8 (zQj (fun J => zfr I0 J ∧ ∃ n2, zTx J n2 ∧ n2.toInt ≤ n.toInt + 8))) := by
  refine zg 2 (pc' := 2) (ls' := [(2, .int 0), (0, .ref 0), (1, .int x)]) (st' := []) (I' := I) rfl ?_
  refine zLp (l1 := [(0, .ref 0), (1, .int x), (2, .int 0)]) (List.Perm.trans (List.Perm.cons _ (List.Perm.swap _ _ _)) (List.Perm.swap _ _ _)) rfl ?_
  exact zwp (zt_letl x 8 0 n I I0 hT hff (by decide) (by decide) (by omega)) (fun c v J q => q)
theorem zt_renderTank {sl D dy : Nat} {I : zM} {S : Nat → Nat → Int32} (hB : zSB 1 S I) (hV : zOK S) (t : Int32) (hn : 0 ≤ t.toInt ∧ t.toInt < (S 0 10).toInt) : zW sl (D + 4) dy 115 0 [(0, .ref 0), (1, .int t)] [] I (zRg 24 (zQr I 50)) := by
  have hT := hV.1
  have hP := hV.2.1
  have z0 := zi0
  have z8 := zi8
  have z20 := zi20
  have z61 : (61 : Int32).toInt = 61 := rfl
  have z47 : (47 : Int32).toInt = 47 := rfl
  have z58 : (58 : Int32).toInt = 58 := rfl
  have z45 : (45 : Int32).toInt = 45 := rfl
  have z118 : (118 : Int32).toInt = 118 := rfl
  have z100 : (100 : Int32).toInt = 100 := rfl
  have z108 : (108 : Int32).toInt = 108 := rfl
  have z42 : (42 : Int32).toInt = 42 := rfl
  have z97 : (97 : Int32).toInt = 97 := rfl
  have z46 : (46 : Int32).toInt = 46 := rfl
  have z115 : (115 : Int32).toInt = 115 := rfl
  have z32 : (32 : Int32).toInt = 32 := rfl
  have z44 : (44 : Int32).toInt = 44 := rfl
  have z8 := zi8
  obtain ⟨hn0, hn1⟩ := id hn
  have hta := zOK_tank hV hn.1 hn.2
  have hff := zfr_refl I
  refine zg 2 (pc' := 2) (ls' := [(0, .ref 0), (1, .int t)]) (st' := [.int t, .ref 0]) (I' := I) rfl ?_
  refine zcv rfl rfl (zt_need_tank hB t hn) ?_
  refine zg 3 (pc' := 10) (ls' := [(0, .ref 0), (1, .int t)]) (st' := [.int 0, .ref 148]) (I' := I) rfl ?_
  refine zasl rfl rfl (fun J n hT hn0 hfj => ?_)
  have hff := zfr_trans hff hfj
  have hB := zSB_fr hB hfj
  have hnb : n.toInt ≤ 0 := by omega
  refine zg 3 (pc' := 18) (ls' := [(0, .ref 0), (1, .int t)]) (st' := [.int t, .ref 148]) (I' := J) rfl ?_
  refine zapi (b2 := 23) rfl rfl hT (by omega) (by omega) (by omega) (fun J n2 hT2 hn2 hfj => ?_) (by omega)
  have hff := zfr_trans hff hfj
  have hB := zSB_fr hB hfj
  have hnb2 : n2.toInt ≤ 3 := by omega
  clear hnb hT hn2 hfj
  revert n2
  intro n hT hnb
  refine zg 1 (pc' := 23) (ls' := [(0, .ref 0), (1, .int t)]) (st' := [.int 61, .ref 148]) (I' := J) rfl ?_
  refine zapc (b2 := 22) rfl rfl hT (by omega) (by omega) (by omega) (fun J n2 hT2 hn2 hfj => ?_) (by omega)
  have hff := zfr_trans hff hfj
  have hB := zSB_fr hB hfj
  have hnb2 : n2.toInt ≤ 4 := by omega
  clear hnb hT hn2 hfj
  revert n2
  intro n hT hnb
  refine zg 4 (pc' := 34) (ls' := [(0, .ref 0), (1, .int t)]) (st' := [.int t, .ref 3, .ref 148]) (I' := J) rfl ?_
  refine zia rfl rfl (zin_ok (n := 8) (by omega) (by omega)) (hB 2 _ (zcell_8 (by decide) (by omega) (by omega))) ?_
  refine zapi (b2 := 21) rfl rfl hT (by omega) (by omega) (by omega) (fun J n2 hT2 hn2 hfj => ?_) (by omega)
  have hff := zfr_trans hff hfj
  have hB := zSB_fr hB hfj
  have hnb2 : n2.toInt ≤ 7 := by omega
  clear hnb hT hn2 hfj
  revert n2
  intro n hT hnb
  refine zg 1 (pc' := 40) (ls' := [(0, .ref 0), (1, .int t)]) (st' := [.int 47, .ref 148]) (I' := J) rfl ?_
  refine zapc (b2 := 20) rfl rfl hT (by omega) (by omega) (by omega) (fun J n2 hT2 hn2 hfj => ?_) (by omega)
  have hff := zfr_trans hff hfj
  have hB := zSB_fr hB hfj
  have hnb2 : n2.toInt ≤ 8 := by omega
  clear hnb hT hn2 hfj
  revert n2
  intro n hT hnb
  refine zg 4 (pc' := 51) (ls' := [(0, .ref 0), (1, .int t)]) (st' := [.int t, .ref 2, .ref 148]) (I' := J) rfl ?_
  refine zia rfl rfl (zin_ok (n := 8) (by omega) (by omega)) (hB 1 _ (zcell_8 (by decide) (by omega) (by omega))) ?_
  refine zapi (b2 := 19) rfl rfl hT (by omega) (by omega) (by omega) (fun J n2 hT2 hn2 hfj => ?_) (by omega)
  have hff := zfr_trans hff hfj
  have hB := zSB_fr hB hfj
  have hnb2 : n2.toInt ≤ 11 := by omega
  clear hnb hT hn2 hfj
  revert n2
  intro n hT hnb
  refine zg 5 (pc' := 64) (ls' := [(0, .ref 0), (1, .int t)]) (st' := [.int t, .ref 4]) (I' := J) rfl ?_
  refine zia rfl rfl (zin_ok (n := 8) (by omega) (by omega)) (hB 3 _ (zcell_8 (by decide) (by omega) (by omega))) ?_
  refine zif rfl rfl (fun h1 => ?_) (fun h1 => ?_)
  · have h1 := zc_eq.1.mp h1
    refine zg 2 (pc' := 95) (ls' := [(0, .ref 0), (1, .int t)]) (st' := [.ref 148]) (I' := J) rfl ?_
    refine zalen rfl rfl hT.1 ?_
    refine ziret rfl rfl rfl ?_
    exact ⟨rfl, ⟨n, rfl, hT, by omega⟩, hff⟩
  · have h1 := zc_eq.2.mp h1
    refine zg 3 (pc' := 74) (ls' := [(0, .ref 0), (1, .int t)]) (st' := [.int 58, .ref 148]) (I' := J) rfl ?_
    refine zapc (b2 := 18) rfl rfl hT (by omega) (by omega) (by omega) (fun J n2 hT2 hn2 hfj => ?_) (by omega)
    have hff := zfr_trans hff hfj
    have hB := zSB_fr hB hfj
    have hnb2 : n2.toInt ≤ 12 := by omega
    clear hnb hT hn2 hfj
    revert n2
    intro n hT hnb
    refine zg 6 (pc' := 87) (ls' := [(0, .ref 0), (1, .int t)]) (st' := [.int t, .ref 4, .ref 0]) (I' := J) rfl ?_
    refine zia rfl rfl (zin_ok (n := 8) (by omega) (by omega)) (hB 3 _ (zcell_8 (by decide) (by omega) (by omega))) ?_
    refine zcj (b1 := 8) (b2 := 10) rfl rfl (zt_letters _ n hT hff (by omega)) (fun J q => ?_) (by omega)
    obtain ⟨hff, n2, hT2, hn2⟩ := q
    have hnb2 : n2.toInt ≤ 40 := by omega
    clear hnb hT hn2 hB
    revert n2
    intro n hT hnb
    refine zg 2 (pc' := 95) (ls' := [(0, .ref 0), (1, .int t)]) (st' := [.ref 148]) (I' := J) rfl ?_
    refine zalen rfl rfl hT.1 ?_
    refine ziret rfl rfl rfl ?_
    exact ⟨rfl, ⟨n, rfl, hT, by omega⟩, hff⟩
theorem zt_renderPipe {sl D dy : Nat} {I : zM} {S : Nat → Nat → Int32} (hB : zSB 1 S I) (hV : zOK S) (t : Int32) (hn : 0 ≤ t.toInt ∧ t.toInt < (S 0 11).toInt) : zW sl (D + 4) dy 117 0 [(0, .ref 0), (1, .int t)] [] I (zRg 24 (zQr I 50)) := by
  have hT := hV.1
  have hP := hV.2.1
  have z0 := zi0
  have z8 := zi8
  have z20 := zi20
  have z61 : (61 : Int32).toInt = 61 := rfl
  have z47 : (47 : Int32).toInt = 47 := rfl
  have z58 : (58 : Int32).toInt = 58 := rfl
  have z45 : (45 : Int32).toInt = 45 := rfl
  have z118 : (118 : Int32).toInt = 118 := rfl
  have z100 : (100 : Int32).toInt = 100 := rfl
  have z108 : (108 : Int32).toInt = 108 := rfl
  have z42 : (42 : Int32).toInt = 42 := rfl
  have z97 : (97 : Int32).toInt = 97 := rfl
  have z46 : (46 : Int32).toInt = 46 := rfl
  have z115 : (115 : Int32).toInt = 115 := rfl
  have z32 : (32 : Int32).toInt = 32 := rfl
  have z44 : (44 : Int32).toInt = 44 := rfl
  have z8 := zi8
  obtain ⟨hn0, hn1⟩ := id hn
  have hta := zOK_pipe hV hn.1 hn.2
  have hff := zfr_refl I
  refine zg 2 (pc' := 2) (ls' := [(0, .ref 0), (1, .int t)]) (st' := [.int t, .ref 0]) (I' := I) rfl ?_
  refine zcv rfl rfl (zt_need_pipe hB t hn) ?_
  refine zg 3 (pc' := 10) (ls' := [(0, .ref 0), (1, .int t)]) (st' := [.int 0, .ref 148]) (I' := I) rfl ?_
  refine zasl rfl rfl (fun J n hT hn0 hfj => ?_)
  have hff := zfr_trans hff hfj
  have hB := zSB_fr hB hfj
  have hnb : n.toInt ≤ 0 := by omega
  refine zg 3 (pc' := 18) (ls' := [(0, .ref 0), (1, .int t)]) (st' := [.int t, .ref 148]) (I' := J) rfl ?_
  refine zapi (b2 := 23) rfl rfl hT (by omega) (by omega) (by omega) (fun J n2 hT2 hn2 hfj => ?_) (by omega)
  have hff := zfr_trans hff hfj
  have hB := zSB_fr hB hfj
  have hnb2 : n2.toInt ≤ 3 := by omega
  clear hnb hT hn2 hfj
  revert n2
  intro n hT hnb
  refine zg 1 (pc' := 23) (ls' := [(0, .ref 0), (1, .int t)]) (st' := [.int 58, .ref 148]) (I' := J) rfl ?_
  refine zapc (b2 := 22) rfl rfl hT (by omega) (by omega) (by omega) (fun J n2 hT2 hn2 hfj => ?_) (by omega)
  have hff := zfr_trans hff hfj
  have hB := zSB_fr hB hfj
  have hnb2 : n2.toInt ≤ 4 := by omega
  clear hnb hT hn2 hfj
  revert n2
  intro n hT hnb
  refine zg 4 (pc' := 34) (ls' := [(0, .ref 0), (1, .int t)]) (st' := [.int t, .ref 5, .ref 148]) (I' := J) rfl ?_
  refine zia rfl rfl (zin_ok (n := 12) (by omega) (by omega)) (hB 4 _ (zcell_12 (by decide) (by omega) (by omega))) ?_
  refine zapi (b2 := 21) rfl rfl hT (by omega) (by omega) (by omega) (fun J n2 hT2 hn2 hfj => ?_) (by omega)
  have hff := zfr_trans hff hfj
  have hB := zSB_fr hB hfj
  have hnb2 : n2.toInt ≤ 7 := by omega
  clear hnb hT hn2 hfj
  revert n2
  intro n hT hnb
  refine zg 1 (pc' := 40) (ls' := [(0, .ref 0), (1, .int t)]) (st' := [.int 45, .ref 148]) (I' := J) rfl ?_
  refine zapc (b2 := 20) rfl rfl hT (by omega) (by omega) (by omega) (fun J n2 hT2 hn2 hfj => ?_) (by omega)
  have hff := zfr_trans hff hfj
  have hB := zSB_fr hB hfj
  have hnb2 : n2.toInt ≤ 8 := by omega
  clear hnb hT hn2 hfj
  revert n2
  intro n hT hnb
  refine zg 4 (pc' := 51) (ls' := [(0, .ref 0), (1, .int t)]) (st' := [.int t, .ref 6, .ref 148]) (I' := J) rfl ?_
  refine zia rfl rfl (zin_ok (n := 12) (by omega) (by omega)) (hB 5 _ (zcell_12 (by decide) (by omega) (by omega))) ?_
  refine zapi (b2 := 19) rfl rfl hT (by omega) (by omega) (by omega) (fun J n2 hT2 hn2 hfj => ?_) (by omega)
  have hff := zfr_trans hff hfj
  have hB := zSB_fr hB hfj
  have hnb2 : n2.toInt ≤ 11 := by omega
  clear hnb hT hn2 hfj
  revert n2
  intro n hT hnb
  refine zg 4 (pc' := 62) (ls' := [(0, .ref 0), (1, .int t)]) (st' := [.int 118, .ref 148]) (I' := J) rfl ?_
  refine zapc (b2 := 18) rfl rfl hT (by omega) (by omega) (by omega) (fun J n2 hT2 hn2 hfj => ?_) (by omega)
  have hff := zfr_trans hff hfj
  have hB := zSB_fr hB hfj
  have hnb2 : n2.toInt ≤ 12 := by omega
  clear hnb hT hn2 hfj
  revert n2
  intro n hT hnb
  refine zg 4 (pc' := 73) (ls' := [(0, .ref 0), (1, .int t)]) (st' := [.int t, .ref 8, .ref 148]) (I' := J) rfl ?_
  refine zia rfl rfl (zin_ok (n := 12) (by omega) (by omega)) (hB 7 _ (zcell_12 (by decide) (by omega) (by omega))) ?_
  refine zapi (b2 := 17) rfl rfl hT (by omega) (by omega) (by omega) (fun J n2 hT2 hn2 hfj => ?_) (by omega)
  have hff := zfr_trans hff hfj
  have hB := zSB_fr hB hfj
  have hnb2 : n2.toInt ≤ 15 := by omega
  clear hnb hT hn2 hfj
  revert n2
  intro n hT hnb
  refine zg 1 (pc' := 79) (ls' := [(0, .ref 0), (1, .int t)]) (st' := [.int 100, .ref 148]) (I' := J) rfl ?_
  refine zapc (b2 := 16) rfl rfl hT (by omega) (by omega) (by omega) (fun J n2 hT2 hn2 hfj => ?_) (by omega)
  have hff := zfr_trans hff hfj
  have hB := zSB_fr hB hfj
  have hnb2 : n2.toInt ≤ 16 := by omega
  clear hnb hT hn2 hfj
  revert n2
  intro n hT hnb
  refine zg 4 (pc' := 90) (ls' := [(0, .ref 0), (1, .int t)]) (st' := [.int t, .ref 10, .ref 148]) (I' := J) rfl ?_
  refine zia rfl rfl (zin_ok (n := 12) (by omega) (by omega)) (hB 9 _ (zcell_12 (by decide) (by omega) (by omega))) ?_
  refine zapi (b2 := 15) rfl rfl hT (by omega) (by omega) (by omega) (fun J n2 hT2 hn2 hfj => ?_) (by omega)
  have hff := zfr_trans hff hfj
  have hB := zSB_fr hB hfj
  have hnb2 : n2.toInt ≤ 19 := by omega
  clear hnb hT hn2 hfj
  revert n2
  intro n hT hnb
  refine zg 5 (pc' := 103) (ls' := [(0, .ref 0), (1, .int t)]) (st' := [.int t, .ref 9]) (I' := J) rfl ?_
  refine zia rfl rfl (zin_ok (n := 12) (by omega) (by omega)) (hB 8 _ (zcell_12 (by decide) (by omega) (by omega))) ?_
  refine zif rfl rfl (fun h1 => ?_) (fun h1 => ?_)
  · have h1 := zc_eq.1.mp h1
    refine zg 3 (pc' := 134) (ls' := [(0, .ref 0), (1, .int t)]) (st' := [.int t, .ref 135]) (I' := J) rfl ?_
    refine zcb rfl rfl (zt_dependOn hB hV t hn.1 hn.2) (fun h2 => ?_) (fun h2 => ?_)
    · skip
      refine zg 4 (pc' := 146) (ls' := [(0, .ref 0), (1, .int t)]) (st' := [.int 42, .ref 148]) (I' := J) rfl ?_
      refine zapc (b2 := 14) rfl rfl hT (by omega) (by omega) (by omega) (fun J n2 hT2 hn2 hfj => ?_) (by omega)
      have hff := zfr_trans hff hfj
      have hB := zSB_fr hB hfj
      have hnb2 : n2.toInt ≤ 20 := by omega
      clear hnb hT hn2 hfj
      revert n2
      intro n hT hnb
      refine zg 3 (pc' := 154) (ls' := [(0, .ref 0), (1, .int t)]) (st' := [.ref 148]) (I' := J) rfl ?_
      refine zalen rfl rfl hT.1 ?_
      refine ziret rfl rfl rfl ?_
      exact ⟨rfl, ⟨n, rfl, hT, by omega⟩, hff⟩
    · skip
      refine zg 3 (pc' := 154) (ls' := [(0, .ref 0), (1, .int t)]) (st' := [.ref 148]) (I' := J) rfl ?_
      refine zalen rfl rfl hT.1 ?_
      refine ziret rfl rfl rfl ?_
      exact ⟨rfl, ⟨n, rfl, hT, by omega⟩, hff⟩
  · have h1 := zc_eq.2.mp h1
    refine zg 3 (pc' := 113) (ls' := [(0, .ref 0), (1, .int t)]) (st' := [.int 108, .ref 148]) (I' := J) rfl ?_
    refine zapc (b2 := 14) rfl rfl hT (by omega) (by omega) (by omega) (fun J n2 hT2 hn2 hfj => ?_) (by omega)
    have hff := zfr_trans hff hfj
    have hB := zSB_fr hB hfj
    have hnb2 : n2.toInt ≤ 20 := by omega
    clear hnb hT hn2 hfj
    revert n2
    intro n hT hnb
    refine zg 4 (pc' := 124) (ls' := [(0, .ref 0), (1, .int t)]) (st' := [.int t, .ref 9, .ref 148]) (I' := J) rfl ?_
    refine zia rfl rfl (zin_ok (n := 12) (by omega) (by omega)) (hB 8 _ (zcell_12 (by decide) (by omega) (by omega))) ?_
    refine zapi (b2 := 13) rfl rfl hT (by omega) (by omega) (by omega) (fun J n2 hT2 hn2 hfj => ?_) (by omega)
    have hff := zfr_trans hff hfj
    have hB := zSB_fr hB hfj
    have hnb2 : n2.toInt ≤ 23 := by omega
    clear hnb hT hn2 hfj
    revert n2
    intro n hT hnb
    refine zg 4 (pc' := 134) (ls' := [(0, .ref 0), (1, .int t)]) (st' := [.int t, .ref 135]) (I' := J) rfl ?_
    refine zcb rfl rfl (zt_dependOn hB hV t hn.1 hn.2) (fun h3 => ?_) (fun h3 => ?_)
    · skip
      refine zg 4 (pc' := 146) (ls' := [(0, .ref 0), (1, .int t)]) (st' := [.int 42, .ref 148]) (I' := J) rfl ?_
      refine zapc (b2 := 12) rfl rfl hT (by omega) (by omega) (by omega) (fun J n2 hT2 hn2 hfj => ?_) (by omega)
      have hff := zfr_trans hff hfj
      have hB := zSB_fr hB hfj
      have hnb2 : n2.toInt ≤ 24 := by omega
      clear hnb hT hn2 hfj
      revert n2
      intro n hT hnb
      refine zg 3 (pc' := 154) (ls' := [(0, .ref 0), (1, .int t)]) (st' := [.ref 148]) (I' := J) rfl ?_
      refine zalen rfl rfl hT.1 ?_
      refine ziret rfl rfl rfl ?_
      exact ⟨rfl, ⟨n, rfl, hT, by omega⟩, hff⟩
    · skip
      refine zg 3 (pc' := 154) (ls' := [(0, .ref 0), (1, .int t)]) (st' := [.ref 148]) (I' := J) rfl ?_
      refine zalen rfl rfl hT.1 ?_
      refine ziret rfl rfl rfl ?_
      exact ⟨rfl, ⟨n, rfl, hT, by omega⟩, hff⟩
