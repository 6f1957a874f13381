/-! CONTRACTS: shares, means, fingerprint -/
theorem zt_bofl {sl D dy : Nat} {I : zM} (w : UInt32) : ∀ (k : Nat) (e : Int32) (x : UInt32) (hx : vf_n32 x) (hk : e.toInt = (k : Int) + 1), zW sl (D) dy 128 13 [(0, .float w), (1, .int e), (2, .float x)] [] I (zRg 0 (zQi I)) := by
  intro k
  induction k with
  | zero =>
    intro e x hx hk
    have hee := Int32.toInt_lt e
    refine zg 3 (pc' := 16) (ls' := [(0, .float w), (1, .int e), (2, .float x)]) (st' := [.int ((Op.cmpValue (FP.fcmp x (FP.fconst1)) .g))]) (I' := I) rfl ?_
    refine zif rfl rfl (fun h1 => ?_) (fun h1 => ?_)
    · have h1 := zc_ge.1.mp h1
      refine zg 5 (pc' := 40) (ls' := [(0, .float w), (1, .int e), (2, .float x)]) (st' := [.float (FP.fconst1), .float x, .int ((e <<< (23 &&& 31)))]) (I' := I) rfl ?_
      refine zfpf rfl rfl (zfsub hx (by decide +kernel)) ?_
      refine zg 1 (pc' := 44) (ls' := [(0, .float w), (1, .int e), (2, .float x)]) (st' := [.float 1258291200, .float ((FP.fsub x (FP.fconst1))), .int ((e <<< (23 &&& 31)))]) (I' := I) rfl ?_
      refine zfpf rfl rfl (zfmul (zfsub hx (by decide +kernel)) (by decide +kernel)) ?_
      refine zg 2 (pc' := 47) (ls' := [(0, .float w), (1, .int e), (2, .float x)]) (st' := [.int (((e <<< (23 &&& 31)) + (FP.f2i ((FP.fmul ((FP.fsub x (FP.fconst1))) 1258291200)))))]) (I' := I) rfl ?_
      refine ziret rfl rfl rfl ?_
      exact zi1
    · have h1 := zc_ge.2.mp h1
      refine zg 2 (pc' := 21) (ls' := [(0, .float w), (1, .int e), (2, .float x)]) (st' := [.int 1, .int e]) (I' := I) rfl ?_
      refine zicmp rfl rfl (fun h2 => ?_) (fun h2 => ?_)
      · have h2 := zc_le.1.mp h2
        refine zg 5 (pc' := 40) (ls' := [(0, .float w), (1, .int e), (2, .float x)]) (st' := [.float (FP.fconst1), .float x, .int ((e <<< (23 &&& 31)))]) (I' := I) rfl ?_
        refine zfpf rfl rfl (zfsub hx (by decide +kernel)) ?_
        refine zg 1 (pc' := 44) (ls' := [(0, .float w), (1, .int e), (2, .float x)]) (st' := [.float 1258291200, .float ((FP.fsub x (FP.fconst1))), .int ((e <<< (23 &&& 31)))]) (I' := I) rfl ?_
        refine zfpf rfl rfl (zfmul (zfsub hx (by decide +kernel)) (by decide +kernel)) ?_
        refine zg 2 (pc' := 47) (ls' := [(0, .float w), (1, .int e), (2, .float x)]) (st' := [.int (((e <<< (23 &&& 31)) + (FP.f2i ((FP.fmul ((FP.fsub x (FP.fconst1))) 1258291200)))))]) (I' := I) rfl ?_
        refine ziret rfl rfl rfl ?_
        exact zi1
      · have h2 := zc_le.2.mp h2
        exfalso; have z1 : (1 : Int32).toInt = 1 := rfl; omega
  | succ k ih =>
    intro e x hx hk
    have hee := Int32.toInt_lt e
    refine zg 3 (pc' := 16) (ls' := [(0, .float w), (1, .int e), (2, .float x)]) (st' := [.int ((Op.cmpValue (FP.fcmp x (FP.fconst1)) .g))]) (I' := I) rfl ?_
    refine zif rfl rfl (fun h1 => ?_) (fun h1 => ?_)
    · have h1 := zc_ge.1.mp h1
      refine zg 5 (pc' := 40) (ls' := [(0, .float w), (1, .int e), (2, .float x)]) (st' := [.float (FP.fconst1), .float x, .int ((e <<< (23 &&& 31)))]) (I' := I) rfl ?_
      refine zfpf rfl rfl (zfsub hx (by decide +kernel)) ?_
      refine zg 1 (pc' := 44) (ls' := [(0, .float w), (1, .int e), (2, .float x)]) (st' := [.float 1258291200, .float ((FP.fsub x (FP.fconst1))), .int ((e <<< (23 &&& 31)))]) (I' := I) rfl ?_
      refine zfpf rfl rfl (zfmul (zfsub hx (by decide +kernel)) (by decide +kernel)) ?_
      refine zg 2 (pc' := 47) (ls' := [(0, .float w), (1, .int e), (2, .float x)]) (st' := [.int (((e <<< (23 &&& 31)) + (FP.f2i ((FP.fmul ((FP.fsub x (FP.fconst1))) 1258291200)))))]) (I' := I) rfl ?_
      refine ziret rfl rfl rfl ?_
      exact zi1
    · have h1 := zc_ge.2.mp h1
      refine zg 2 (pc' := 21) (ls' := [(0, .float w), (1, .int e), (2, .float x)]) (st' := [.int 1, .int e]) (I' := I) rfl ?_
      refine zicmp rfl rfl (fun h2 => ?_) (fun h2 => ?_)
      · have h2 := zc_le.1.mp h2
        exfalso; have z1 : (1 : Int32).toInt = 1 := rfl; omega
      · have h2 := zc_le.2.mp h2
        refine zg 2 (pc' := 26) (ls' := [(0, .float w), (1, .int e), (2, .float x)]) (st' := [.float (FP.fconst2), .float x]) (I' := I) rfl ?_
        refine zfpf rfl rfl (zfmul hx (by decide +kernel)) ?_
        refine zg 3 (pc' := 13) (ls' := [(1, .int ((e + (-1)))), (2, .float ((FP.fmul x (FP.fconst2)))), (0, .float w)]) (st' := []) (I' := I) rfl ?_
        refine zLp (List.Perm.trans (List.Perm.swap _ _ _) (List.Perm.cons _ (List.Perm.swap _ _ _))) rfl ?_
        exact ih (e + (-1)) ((FP.fmul x (FP.fconst2))) (zfmul hx (by decide +kernel)) (by have h9 := zti_add (x := e) (y := -1) (by have : (-1 : Int32).toInt = -1 := rfl; omega) (by have : (-1 : Int32).toInt = -1 := rfl; omega); have : (-1 : Int32).toInt = -1 := rfl; omega)
theorem zt_bof {sl D dy : Nat} {I : zM} (x : UInt32) (hx : vf_n32 x) : zW sl (D) dy 128 0 [(0, .float x)] [] I (zRg 0 (zQi I)) := by
  refine zg 3 (pc' := 3) (ls' := [(0, .float x)]) (st' := [.int ((Op.cmpValue (FP.fcmp x (FP.fconst0)) .g))]) (I' := I) rfl ?_
  refine zif rfl rfl (fun h1 => ?_) (fun h1 => ?_)
  · have h1 := zc_gt.1.mp h1
    refine zg 4 (pc' := 13) (ls' := [(2, .float x), (1, .int 127), (0, .float x)]) (st' := []) (I' := I) rfl ?_
    refine zLp (List.Perm.trans (List.Perm.trans (List.Perm.cons _ (List.Perm.swap _ _ _)) (List.Perm.swap _ _ _)) (List.Perm.cons _ (List.Perm.swap _ _ _))) rfl ?_
    exact zt_bofl x 126 127 x hx (by decide)
  · have h1 := zc_gt.2.mp h1
    refine zg 1 (pc' := 7) (ls' := [(0, .float x)]) (st' := [.int 0]) (I' := I) rfl ?_
    refine ziret rfl rfl rfl ?_
    exact zi1
theorem zt_bod2 {sl D dy : Nat} {I : zM} (w : UInt64) : ∀ (k : Nat) (e : Int32) (x : UInt64) (hx : vf_n64 x) (hk : e.toInt = (k : Int) + 1), zW sl (D) dy 129 41 [(0, .double w), (2, .int e), (3, .double x)] [] I (zRg 0 (zQl I)) := by
  intro k
  induction k with
  | zero =>
    intro e x hx hk
    have hee := Int32.toInt_lt e
    refine zg 3 (pc' := 44) (ls' := [(0, .double w), (2, .int e), (3, .double x)]) (st' := [.int ((Op.cmpValue (FP.dcmp x (FP.dconst1)) .g))]) (I' := I) rfl ?_
    refine zif rfl rfl (fun h1 => ?_) (fun h1 => ?_)
    · have h1 := zc_ge.1.mp h1
      refine zg 6 (pc' := 71) (ls' := [(0, .double w), (2, .int e), (3, .double x)]) (st' := [.double (FP.dconst1), .double x, .long (((e : Int32).toInt64 <<< ((52 : Int32).toInt64 &&& 63)))]) (I' := I) rfl ?_
      refine zfpd rfl rfl (zdsub hx (by decide +kernel)) ?_
      refine zg 1 (pc' := 75) (ls' := [(0, .double w), (2, .int e), (3, .double x)]) (st' := [.double 4841369599423283200, .double ((FP.dsub x (FP.dconst1))), .long (((e : Int32).toInt64 <<< ((52 : Int32).toInt64 &&& 63)))]) (I' := I) rfl ?_
      refine zfpd rfl rfl (zdmul (zdsub hx (by decide +kernel)) (by decide +kernel)) ?_
      refine zg 2 (pc' := 78) (ls' := [(0, .double w), (2, .int e), (3, .double x)]) (st' := [.long ((((e : Int32).toInt64 <<< ((52 : Int32).toInt64 &&& 63)) + (FP.d2l ((FP.dmul ((FP.dsub x (FP.dconst1))) 4841369599423283200)))))]) (I' := I) rfl ?_
      refine zret rfl rfl ?_
      exact zl1'
    · have h1 := zc_ge.2.mp h1
      refine zg 2 (pc' := 49) (ls' := [(0, .double w), (2, .int e), (3, .double x)]) (st' := [.int 1, .int e]) (I' := I) rfl ?_
      refine zicmp rfl rfl (fun h2 => ?_) (fun h2 => ?_)
      · have h2 := zc_le.1.mp h2
        refine zg 6 (pc' := 71) (ls' := [(0, .double w), (2, .int e), (3, .double x)]) (st' := [.double (FP.dconst1), .double x, .long (((e : Int32).toInt64 <<< ((52 : Int32).toInt64 &&& 63)))]) (I' := I) rfl ?_
        refine zfpd rfl rfl (zdsub hx (by decide +kernel)) ?_
        refine zg 1 (pc' := 75) (ls' := [(0, .double w), (2, .int e), (3, .double x)]) (st' := [.double 4841369599423283200, .double ((FP.dsub x (FP.dconst1))), .long (((e : Int32).toInt64 <<< ((52 : Int32).toInt64 &&& 63)))]) (I' := I) rfl ?_
        refine zfpd rfl rfl (zdmul (zdsub hx (by decide +kernel)) (by decide +kernel)) ?_
        refine zg 2 (pc' := 78) (ls' := [(0, .double w), (2, .int e), (3, .double x)]) (st' := [.long ((((e : Int32).toInt64 <<< ((52 : Int32).toInt64 &&& 63)) + (FP.d2l ((FP.dmul ((FP.dsub x (FP.dconst1))) 4841369599423283200)))))]) (I' := I) rfl ?_
        refine zret rfl rfl ?_
        exact zl1'
      · have h2 := zc_le.2.mp h2
        exfalso; have z1 : (1 : Int32).toInt = 1 := rfl; omega
  | succ k ih =>
    intro e x hx hk
    have hee := Int32.toInt_lt e
    refine zg 3 (pc' := 44) (ls' := [(0, .double w), (2, .int e), (3, .double x)]) (st' := [.int ((Op.cmpValue (FP.dcmp x (FP.dconst1)) .g))]) (I' := I) rfl ?_
    refine zif rfl rfl (fun h1 => ?_) (fun h1 => ?_)
    · have h1 := zc_ge.1.mp h1
      refine zg 6 (pc' := 71) (ls' := [(0, .double w), (2, .int e), (3, .double x)]) (st' := [.double (FP.dconst1), .double x, .long (((e : Int32).toInt64 <<< ((52 : Int32).toInt64 &&& 63)))]) (I' := I) rfl ?_
      refine zfpd rfl rfl (zdsub hx (by decide +kernel)) ?_
      refine zg 1 (pc' := 75) (ls' := [(0, .double w), (2, .int e), (3, .double x)]) (st' := [.double 4841369599423283200, .double ((FP.dsub x (FP.dconst1))), .long (((e : Int32).toInt64 <<< ((52 : Int32).toInt64 &&& 63)))]) (I' := I) rfl ?_
      refine zfpd rfl rfl (zdmul (zdsub hx (by decide +kernel)) (by decide +kernel)) ?_
      refine zg 2 (pc' := 78) (ls' := [(0, .double w), (2, .int e), (3, .double x)]) (st' := [.long ((((e : Int32).toInt64 <<< ((52 : Int32).toInt64 &&& 63)) + (FP.d2l ((FP.dmul ((FP.dsub x (FP.dconst1))) 4841369599423283200)))))]) (I' := I) rfl ?_
      refine zret rfl rfl ?_
      exact zl1'
    · have h1 := zc_ge.2.mp h1
      refine zg 2 (pc' := 49) (ls' := [(0, .double w), (2, .int e), (3, .double x)]) (st' := [.int 1, .int e]) (I' := I) rfl ?_
      refine zicmp rfl rfl (fun h2 => ?_) (fun h2 => ?_)
      · have h2 := zc_le.1.mp h2
        exfalso; have z1 : (1 : Int32).toInt = 1 := rfl; omega
      · have h2 := zc_le.2.mp h2
        refine zg 2 (pc' := 56) (ls' := [(0, .double w), (2, .int e), (3, .double x)]) (st' := [.double 4611686018427387904, .double x]) (I' := I) rfl ?_
        refine zfpd rfl rfl (zdmul hx (by decide +kernel)) ?_
        refine zg 3 (pc' := 41) (ls' := [(2, .int ((e + (-1)))), (3, .double (FP.dmul x 4611686018427387904)), (0, .double w)]) (st' := []) (I' := I) rfl ?_
        refine zLp (List.Perm.trans (List.Perm.swap _ _ _) (List.Perm.cons _ (List.Perm.swap _ _ _))) rfl ?_
        exact ih (e + (-1)) (FP.dmul x 4611686018427387904) (zdmul hx (by decide +kernel)) (by have h9 := zti_add (x := e) (y := -1) (by have : (-1 : Int32).toInt = -1 := rfl; omega) (by have : (-1 : Int32).toInt = -1 := rfl; omega); have : (-1 : Int32).toInt = -1 := rfl; omega)
theorem zt_bod1 {sl D dy : Nat} {I : zM} (w : UInt64) : ∀ (k : Nat) (e : Int32) (x : UInt64) (hx : vf_n64 x) (h0 : 1 ≤ e.toInt) (hk : e.toInt + (k : Int) = 2046), zW sl (D) dy 129 14 [(0, .double w), (2, .int e), (3, .double x)] [] I (zRg 0 (zQl I)) := by
  intro k
  induction k with
  | zero =>
    intro e x hx h0 hk
    refine zg 3 (pc' := 19) (ls' := [(0, .double w), (2, .int e), (3, .double x)]) (st' := [.int ((Op.cmpValue (FP.dcmp x 4611686018427387904) .l))]) (I' := I) rfl ?_
    refine zif rfl rfl (fun h1 => ?_) (fun h1 => ?_)
    · have h1 := zc_lt.1.mp h1
      exact zt_bod2 w (e.toInt - 1).toNat e x hx (by omega)
    · have h1 := zc_lt.2.mp h1
      refine zg 2 (pc' := 26) (ls' := [(0, .double w), (2, .int e), (3, .double x)]) (st' := [.int 2046, .int e]) (I' := I) rfl ?_
      refine zicmp rfl rfl (fun h2 => ?_) (fun h2 => ?_)
      · have h2 := zc_ge.1.mp h2
        exact zt_bod2 w (e.toInt - 1).toNat e x hx (by omega)
      · have h2 := zc_ge.2.mp h2
        exfalso; have z1 : (2046 : Int32).toInt = 2046 := rfl; omega
  | succ k ih =>
    intro e x hx h0 hk
    refine zg 3 (pc' := 19) (ls' := [(0, .double w), (2, .int e), (3, .double x)]) (st' := [.int ((Op.cmpValue (FP.dcmp x 4611686018427387904) .l))]) (I' := I) rfl ?_
    refine zif rfl rfl (fun h1 => ?_) (fun h1 => ?_)
    · have h1 := zc_lt.1.mp h1
      exact zt_bod2 w (e.toInt - 1).toNat e x hx (by omega)
    · have h1 := zc_lt.2.mp h1
      refine zg 2 (pc' := 26) (ls' := [(0, .double w), (2, .int e), (3, .double x)]) (st' := [.int 2046, .int e]) (I' := I) rfl ?_
      refine zicmp rfl rfl (fun h2 => ?_) (fun h2 => ?_)
      · have h2 := zc_ge.1.mp h2
        exfalso; have z1 : (2046 : Int32).toInt = 2046 := rfl; omega
      · have h2 := zc_ge.2.mp h2
        refine zg 2 (pc' := 33) (ls' := [(0, .double w), (2, .int e), (3, .double x)]) (st' := [.double 4611686018427387904, .double x]) (I' := I) rfl ?_
        refine zfpd rfl rfl (zddiv hx (by decide +kernel)) ?_
        refine zg 3 (pc' := 14) (ls' := [(2, .int (e + 1)), (3, .double (FP.ddiv x 4611686018427387904)), (0, .double w)]) (st' := []) (I' := I) rfl ?_
        refine zLp (List.Perm.trans (List.Perm.swap _ _ _) (List.Perm.cons _ (List.Perm.swap _ _ _))) rfl ?_
        exact ih (e + 1) (FP.ddiv x 4611686018427387904) (zddiv hx (by decide +kernel)) (by rw [zadd1 (by omega) (by omega)]; omega) (by rw [zadd1 (by omega) (by omega)]; omega)
theorem zt_bod {sl D dy : Nat} {I : zM} (x : UInt64) (hx : vf_n64 x) : zW sl (D) dy 129 0 [(0, .double x)] [] I (zRg 0 (zQl I)) := by
  refine zg 3 (pc' := 3) (ls' := [(0, .double x)]) (st' := [.int ((Op.cmpValue (FP.dcmp x (FP.dconst0)) .g))]) (I' := I) rfl ?_
  refine zif rfl rfl (fun h1 => ?_) (fun h1 => ?_)
  · have h1 := zc_gt.1.mp h1
    refine zg 4 (pc' := 14) (ls' := [(3, .double x), (2, .int 1023), (0, .double x)]) (st' := []) (I' := I) rfl ?_
    refine zLp (List.Perm.trans (List.Perm.trans (List.Perm.cons _ (List.Perm.swap _ _ _)) (List.Perm.swap _ _ _)) (List.Perm.cons _ (List.Perm.swap _ _ _))) rfl ?_
    exact zt_bod1 x 1023 1023 x hx (by decide) (by decide)
  · have h1 := zc_gt.2.mp h1
    refine zg 1 (pc' := 7) (ls' := [(0, .double x)]) (st' := [.long 0]) (I' := I) rfl ?_
    refine zret rfl rfl ?_
    exact zl1'
theorem zt_fillShare {sl D dy : Nat} {I : zM} {S : Nat → Nat → Int32} (hB : zSB 1 S I) (hV : zOK S) (t : Int32) (hn : 0 ≤ t.toInt ∧ t.toInt < (S 0 10).toInt) : zW sl (D + 2) dy 85 0 [(0, .ref 0), (1, .int t)] [] I (zRg 0 (zQf I (some (.float (FP.fdiv (FP.i2f (S 2 t.toNatClampNeg)) (FP.i2f (S 1 t.toNatClampNeg))))))) := by
  have hT := hV.1
  have hP := hV.2.1
  have z0 := zi0
  have z8 := zi8
  have z20 := zi20
  obtain ⟨hn0, hn1⟩ := id hn
  refine zg 2 (pc' := 2) (ls' := [(0, .ref 0), (1, .int t)]) (st' := [.int t, .ref 0]) (I' := I) rfl ?_
  refine zcv rfl rfl (zt_need_tank hB t hn) ?_
  refine zg 4 (pc' := 13) (ls' := [(0, .ref 0), (1, .int t)]) (st' := [.int t, .ref 3]) (I' := I) rfl ?_
  refine zia rfl rfl (zin_ok (n := 8) (by omega) (by omega)) (hB 2 _ (zcell_8 (by decide) (by omega) (by omega))) ?_
  refine zg 5 (pc' := 23) (ls' := [(0, .ref 0), (1, .int t)]) (st' := [.int t, .ref 2, .float ((FP.i2f (S 2 t.toNatClampNeg)))]) (I' := I) rfl ?_
  refine zia rfl rfl (zin_ok (n := 8) (by omega) (by omega)) (hB 1 _ (zcell_8 (by decide) (by omega) (by omega))) ?_
  refine zg 1 (pc' := 25) (ls' := [(0, .ref 0), (1, .int t)]) (st' := [.float ((FP.i2f (S 1 t.toNatClampNeg))), .float ((FP.i2f (S 2 t.toNatClampNeg)))]) (I' := I) rfl ?_
  refine zfpf rfl rfl (zfdiv (zi2f_nn _) (zcap_nz (by have := (zOK_tank hV hn.1 hn.2).1; omega) (zOK_tank hV hn.1 hn.2).1.2)) ?_
  refine zret rfl rfl ?_
  exact zf1
theorem zt_fillShare_x {sl D dy : Nat} {I : zM} {S : Nat → Nat → Int32} (hB : zSB 1 S I) (t : Int32) (hn : ¬ (0 ≤ t.toInt ∧ t.toInt < (S 0 10).toInt)) : zW sl (D + 2) dy 85 0 [(0, .ref 0), (1, .int t)] [] I (zRg 1 (zQx I 0)) := by
  refine zg 2 (pc' := 2) (ls' := [(0, .ref 0), (1, .int t)]) (st' := [.int t, .ref 0]) (I' := I) rfl ?_
  exact zcx rfl rfl (zt_need_tank_x hB t hn) rfl zx1
theorem zt_fillBits {sl D dy : Nat} {I : zM} {S : Nat → Nat → Int32} (hB : zSB 1 S I) (hV : zOK S) (t : Int32) (hn : 0 ≤ t.toInt ∧ t.toInt < (S 0 10).toInt) : zW sl (D + 3) dy 86 0 [(0, .ref 0), (1, .int t)] [] I (zRg 0 (zQi I)) := by
  refine zg 2 (pc' := 2) (ls' := [(0, .ref 0), (1, .int t)]) (st' := [.int t, .ref 0]) (I' := I) rfl ?_
  refine zcf rfl rfl (zt_fillShare hB hV t hn) ?_
  refine zci rfl rfl (zt_bof _ (zfdiv (zi2f_nn _) (zcap_nz (by have := (zOK_tank hV hn.1 hn.2).1; omega) (zOK_tank hV hn.1 hn.2).1.2))) (fun x1 => ?_)
  refine ziret rfl rfl rfl ?_
  exact zi1
theorem zt_fillBits_x {sl D dy : Nat} {I : zM} {S : Nat → Nat → Int32} (hB : zSB 1 S I) (t : Int32) (hn : ¬ (0 ≤ t.toInt ∧ t.toInt < (S 0 10).toInt)) : zW sl (D + 3) dy 86 0 [(0, .ref 0), (1, .int t)] [] I (zRg 1 (zQx I 0)) := by
  refine zg 2 (pc' := 2) (ls' := [(0, .ref 0), (1, .int t)]) (st' := [.int t, .ref 0]) (I' := I) rfl ?_
  exact zcx rfl rfl (zt_fillShare_x hB t hn) rfl zx1
theorem zl_fillBits {sl D dy : Nat} {I : zM} {S : Nat → Nat → Int32} (hB : zSB 1 S I) (hV : zOK S) (t : Int32) (hn : 0 ≤ t.toInt ∧ t.toInt < (S 0 10).toInt) : zW sl (D + 4) dy 146 0 [(0, .ref 0), (1, .int t)] [] I (zRg 0 (zQi I)) := by
  refine zg 2 (pc' := 2) (ls' := [(0, .ref 0), (1, .int t)]) (st' := [.int t, .ref 0]) (I' := I) rfl ?_
  refine zci rfl rfl (zt_fillBits hB hV t hn) (fun x1 => ?_)
  refine ziret rfl rfl rfl ?_
  exact zi1
theorem zl_fillBits_x {sl D dy : Nat} {I : zM} {S : Nat → Nat → Int32} (hB : zSB 1 S I) (t : Int32) (hn : ¬ (0 ≤ t.toInt ∧ t.toInt < (S 0 10).toInt)) : zW sl (D + 4) dy 146 0 [(0, .ref 0), (1, .int t)] [] I (zRg 1 (zQf I (some (.int (-1001))))) := by
  refine zg 2 (pc' := 2) (ls' := [(0, .ref 0), (1, .int t)]) (st' := [.int t, .ref 0]) (I' := I) rfl ?_
  refine zcct (b2 := 0) (pc2 := 7) (ls2 := [(0, .ref 0), (1, .int t)]) rfl rfl (zt_fillBits_x hB t hn) rfl ?_
  refine zg 1 (pc' := 10) (ls' := [(0, .ref 0), (1, .int t)]) (st' := [.int (-1001)]) (I' := I) rfl ?_
  refine ziret rfl rfl rfl ?_
  exact zf1
theorem zl_fillShare_x {sl D dy : Nat} {I : zM} {S : Nat → Nat → Int32} (hB : zSB 1 S I) (t : Int32) (hn : ¬ (0 ≤ t.toInt ∧ t.toInt < (S 0 10).toInt)) : zW sl (D + 4) dy 145 0 [(0, .ref 0), (1, .int t)] [] I (zRg 1 (zQf I (some (.float (UInt32.ofNat 3296346112))))) := by
  refine zg 2 (pc' := 2) (ls' := [(0, .ref 0), (1, .int t)]) (st' := [.int t, .ref 0]) (I' := I) rfl ?_
  refine zcct (b2 := 0) (pc2 := 7) (ls2 := [(0, .ref 0), (1, .int t)]) rfl rfl (zt_fillShare_x hB t hn) rfl ?_
  refine zg 1 (pc' := 9) (ls' := [(0, .ref 0), (1, .int t)]) (st' := [.float 3296346112]) (I' := I) rfl ?_
  refine zret rfl rfl ?_
  exact zf1
theorem zt_mean {sl D dy : Nat} {I : zM} {S : Nat → Nat → Int32} (hB : zSB 1 S I) (hV : zOK S) (hn2 : 1 ≤ (S 0 10).toInt) : zW sl (D + 1) dy 112 0 [(0, .ref 0)] [] I (zRg 0 (zQf I (some (.double (FP.ddiv (FP.i2d (zsum S)) (FP.i2d (S 0 10))))))) := by
  have hT := hV.1
  have hP := hV.2.1
  have z0 := zi0
  have z8 := zi8
  have z20 := zi20
  refine zg 2 (pc' := 4) (ls' := [(0, .ref 0)]) (st' := [.ref 1]) (I' := I) rfl ?_
  refine zgf rfl rfl rfl (hB 0 10 rfl) ?_
  refine zif rfl rfl (fun h1 => ?_) (fun h1 => ?_)
  · have h1 := zc_ne.1.mp h1
    refine zg 2 (pc' := 25) (ls' := [(0, .ref 0)]) (st' := [.ref 1]) (I' := I) rfl ?_
    refine zcf rfl rfl (zt_sum hB hV) ?_
    refine zg 3 (pc' := 33) (ls' := [(0, .ref 0)]) (st' := [.ref 1, .double ((FP.i2d (zsum S)))]) (I' := I) rfl ?_
    refine zgf rfl rfl rfl (hB 0 10 rfl) ?_
    refine zg 1 (pc' := 37) (ls' := [(0, .ref 0)]) (st' := [.double ((FP.i2d (S 0 10))), .double ((FP.i2d (zsum S)))]) (I' := I) rfl ?_
    refine zfpd rfl rfl (zddiv (zi2d_nn _) (ztnk_nz (by omega) (by omega))) ?_
    refine zret rfl rfl ?_
    exact zf1
  · have h1 := zc_ne.2.mp h1
    exfalso; rw [h1] at hn2; exact absurd hn2 (by decide)
theorem zt_meanBits {sl D dy : Nat} {I : zM} {S : Nat → Nat → Int32} (hB : zSB 1 S I) (hV : zOK S) (hn2 : 1 ≤ (S 0 10).toInt) : zW sl (D + 2) dy 113 0 [(0, .ref 0)] [] I (zRg 0 (zQl I)) := by
  refine zg 1 (pc' := 1) (ls' := [(0, .ref 0)]) (st' := [.ref 0]) (I' := I) rfl ?_
  refine zcf rfl rfl (zt_mean hB hV hn2) ?_
  refine zcl rfl rfl (zt_bod _ (zddiv (zi2d_nn _) (ztnk_nz (by have := hV.1; omega) (by have := hV.1; omega)))) (fun x => ?_)
  refine zret rfl rfl ?_
  exact zl1'
theorem zl_meanBits {sl D dy : Nat} {I : zM} {S : Nat → Nat → Int32} (hB : zSB 1 S I) (hV : zOK S) (hn2 : 1 ≤ (S 0 10).toInt) : zW sl (D + 3) dy 163 0 [(0, .ref 0)] [] I (zRg 0 (zQl I)) := by
  refine zg 1 (pc' := 1) (ls' := [(0, .ref 0)]) (st' := [.ref 0]) (I' := I) rfl ?_
  refine zcl rfl rfl (zt_meanBits hB hV hn2) (fun x => ?_)
  refine zret rfl rfl ?_
  exact zl1'
theorem zt_fg2 {sl D dy : Nat} {I : zM} {S : Nat → Nat → Int32} (hB : zSB 1 S I) (hV : zOK S) : ∀ (k : Nat) (g : Int64) (t : Int32) (h0 : 0 ≤ t.toInt) (hk : t.toInt + (k : Int) = (S 0 11).toInt), zW sl (D + 1) dy 114 43 [(0, .ref 0), (1, .long g), (3, .int t)] [] I (zRg 0 (zQl I)) := by
  intro k
  induction k with
  | zero =>
    intro g t h0 hk
    have hT := hV.1
    have hP := hV.2.1
    have z0 := zi0
    have z8 := zi8
    have z20 := zi20
    refine zg 3 (pc' := 48) (ls' := [(0, .ref 0), (1, .long g), (3, .int t)]) (st' := [.ref 1, .int t]) (I' := I) rfl ?_
    refine zgf rfl rfl rfl (hB 0 11 rfl) ?_
    refine zicmp rfl rfl (fun h1 => ?_) (fun h1 => ?_)
    · have h1 := zc_ge.1.mp h1
      refine zg 1 (pc' := 80) (ls' := [(0, .ref 0), (1, .long g), (3, .int t)]) (st' := [.long g]) (I' := I) rfl ?_
      refine zret rfl rfl ?_
      exact zl1'
    · have h1 := zc_ge.2.mp h1
      exfalso; omega
  | succ k ih =>
    intro g t h0 hk
    have hT := hV.1
    have hP := hV.2.1
    have z0 := zi0
    have z8 := zi8
    have z20 := zi20
    refine zg 3 (pc' := 48) (ls' := [(0, .ref 0), (1, .long g), (3, .int t)]) (st' := [.ref 1, .int t]) (I' := I) rfl ?_
    refine zgf rfl rfl rfl (hB 0 11 rfl) ?_
    refine zicmp rfl rfl (fun h1 => ?_) (fun h1 => ?_)
    · have h1 := zc_ge.1.mp h1
      exfalso; omega
    · have h1 := zc_ge.2.mp h1
      refine zg 10 (pc' := 68) (ls' := [(0, .ref 0), (1, .long g), (3, .int t)]) (st' := [.int t, .ref 1, .long (((g <<< ((7 : Int32).toInt64 &&& 63)) ||| (((g).toUInt64 >>> ((57 : Int32).toInt64.toUInt64 &&& Int64.toUInt64 63)).toInt64)))]) (I' := I) rfl ?_
      refine zcl rfl rfl (zt_pipeNumber hB hV t h0 (by omega)) (fun y2 => ?_)
      refine zg 4 (pc' := 43) (ls' := [(3, .int (t + 1)), (1, .long ((((g <<< ((7 : Int32).toInt64 &&& 63)) ||| (((g).toUInt64 >>> ((57 : Int32).toInt64.toUInt64 &&& Int64.toUInt64 63)).toInt64)) ^^^ y2))), (0, .ref 0)]) (st' := []) (I' := I) rfl ?_
      refine zLp (List.Perm.trans (List.Perm.trans (List.Perm.cons _ (List.Perm.swap _ _ _)) (List.Perm.swap _ _ _)) (List.Perm.cons _ (List.Perm.swap _ _ _))) rfl ?_
      exact ih _ (t + 1) (by rw [zadd1 h0 (by omega)]; omega) (by rw [zadd1 h0 (by omega)]; omega)
theorem zt_fg1 {sl D dy : Nat} {I : zM} {S : Nat → Nat → Int32} (hB : zSB 1 S I) (hV : zOK S) : ∀ (k : Nat) (g : Int64) (t : Int32) (h0 : 0 ≤ t.toInt) (hk : t.toInt + (k : Int) = (S 0 10).toInt), zW sl (D + 1) dy 114 6 [(0, .ref 0), (1, .long g), (3, .int t)] [] I (zRg 0 (zQl I)) := by
  intro k
  induction k with
  | zero =>
    intro g t h0 hk
    have hT := hV.1
    have hP := hV.2.1
    have z0 := zi0
    have z8 := zi8
    have z20 := zi20
    refine zg 3 (pc' := 11) (ls' := [(0, .ref 0), (1, .long g), (3, .int t)]) (st' := [.ref 1, .int t]) (I' := I) rfl ?_
    refine zgf rfl rfl rfl (hB 0 10 rfl) ?_
    refine zicmp rfl rfl (fun h1 => ?_) (fun h1 => ?_)
    · have h1 := zc_ge.1.mp h1
      refine zg 2 (pc' := 43) (ls' := [(3, .int 0), (0, .ref 0), (1, .long g)]) (st' := []) (I' := I) rfl ?_
      refine zLp (List.Perm.trans (List.Perm.cons _ (List.Perm.swap _ _ _)) (List.Perm.swap _ _ _)) rfl ?_
      exact zt_fg2 hB hV (S 0 11).toInt.toNat _ 0 (by decide) (by rw [z0]; omega)
    · have h1 := zc_ge.2.mp h1
      exfalso; omega
  | succ k ih =>
    intro g t h0 hk
    have hT := hV.1
    have hP := hV.2.1
    have z0 := zi0
    have z8 := zi8
    have z20 := zi20
    refine zg 3 (pc' := 11) (ls' := [(0, .ref 0), (1, .long g), (3, .int t)]) (st' := [.ref 1, .int t]) (I' := I) rfl ?_
    refine zgf rfl rfl rfl (hB 0 10 rfl) ?_
    refine zicmp rfl rfl (fun h1 => ?_) (fun h1 => ?_)
    · have h1 := zc_ge.1.mp h1
      exfalso; omega
    · have h1 := zc_ge.2.mp h1
      refine zg 10 (pc' := 30) (ls' := [(0, .ref 0), (1, .long g), (3, .int t)]) (st' := [.int t, .ref 1, .long (((g <<< ((5 : Int32).toInt64 &&& 63)) ||| (((g).toUInt64 >>> ((59 : Int32).toInt64.toUInt64 &&& Int64.toUInt64 63)).toInt64)))]) (I' := I) rfl ?_
      refine zcl rfl rfl (zt_tankNumber hB hV t h0 (by omega)) (fun y2 => ?_)
      refine zg 4 (pc' := 6) (ls' := [(3, .int (t + 1)), (1, .long ((((g <<< ((5 : Int32).toInt64 &&& 63)) ||| (((g).toUInt64 >>> ((59 : Int32).toInt64.toUInt64 &&& Int64.toUInt64 63)).toInt64)) ^^^ y2))), (0, .ref 0)]) (st' := []) (I' := I) rfl ?_
      refine zLp (List.Perm.trans (List.Perm.trans (List.Perm.cons _ (List.Perm.swap _ _ _)) (List.Perm.swap _ _ _)) (List.Perm.cons _ (List.Perm.swap _ _ _))) rfl ?_
      exact ih _ (t + 1) (by rw [zadd1 h0 (by omega)]; omega) (by rw [zadd1 h0 (by omega)]; omega)
theorem zt_fingerprint {sl D dy : Nat} {I : zM} {S : Nat → Nat → Int32} (hB : zSB 1 S I) (hV : zOK S) : zW sl (D + 1) dy 114 0 [(0, .ref 0)] [] I (zRg 0 (zQl I)) := by
  refine zg 4 (pc' := 6) (ls' := [(3, .int 0), (1, .long 17), (0, .ref 0)]) (st' := []) (I' := I) rfl ?_
  refine zLp (List.Perm.trans (List.Perm.trans (List.Perm.cons _ (List.Perm.swap _ _ _)) (List.Perm.swap _ _ _)) (List.Perm.cons _ (List.Perm.swap _ _ _))) rfl ?_
  exact zt_fg1 hB hV (S 0 10).toInt.toNat _ 0 (by decide) (by have := hV.1; have z0 := zi0; omega)
