/-! CONTRACTS: ranks -/
/-- how many stand before it -/
def zrTl (S : Nat → Nat → Int32) (a : Int32) : Nat → Int32 → Int32 → Int32
  | 0, _, s => s
  | k + 1, t, s => zrTl S a k (t + 1) (if ztb S t a = true then s + 1 else s)
def zrT (S : Nat → Nat → Int32) (a : Int32) : Int32 := zrTl S a (S 0 10).toInt.toNat 0 0
theorem zt_rTl {sl D dy : Nat} {I : zM} {S : Nat → Nat → Int32} (hB : zSB 1 S I) (hV : zOK S) (a : Int32) (ha : 0 ≤ a.toInt) (ha1 : a.toInt < (S 0 10).toInt) : ∀ (k : Nat) (t s : Int32) (h0 : 0 ≤ t.toInt) (hk : t.toInt + (k : Int) = (S 0 10).toInt), zW sl (D + 2) dy 84 4 [(0, .ref 0), (1, .int a), (2, .int s), (3, .int t)] [] I (zRg 0 (zQf I (some (.int (zrTl S a k t s))))) := by
  intro k
  induction k with
  | zero =>
    intro t s h0 hk
    have hT := hV.1
    have hP := hV.2.1
    have z0 := zi0
    have z8 := zi8
    have z20 := zi20
    refine zg 3 (pc' := 9) (ls' := [(0, .ref 0), (1, .int a), (2, .int s), (3, .int t)]) (st' := [.ref 1, .int t]) (I' := I) rfl ?_
    refine zgf rfl rfl rfl (hB 0 10 rfl) ?_
    refine zicmp rfl rfl (fun h1 => ?_) (fun h1 => ?_)
    · have h1 := zc_ge.1.mp h1
      refine zg 1 (pc' := 37) (ls' := [(0, .ref 0), (1, .int a), (2, .int s), (3, .int t)]) (st' := [.int s]) (I' := I) rfl ?_
      refine ziret rfl rfl rfl ?_
      exact zf1
    · have h1 := zc_ge.2.mp h1
      exfalso; omega
  | succ k ih =>
    intro t s h0 hk
    have hT := hV.1
    have hP := hV.2.1
    have z0 := zi0
    have z8 := zi8
    have z20 := zi20
    refine zg 3 (pc' := 9) (ls' := [(0, .ref 0), (1, .int a), (2, .int s), (3, .int t)]) (st' := [.ref 1, .int t]) (I' := I) rfl ?_
    refine zgf rfl rfl rfl (hB 0 10 rfl) ?_
    refine zicmp rfl rfl (fun h1 => ?_) (fun h1 => ?_)
    · have h1 := zc_ge.1.mp h1
      exfalso; omega
    · have h1 := zc_ge.2.mp h1
      refine zg 4 (pc' := 21) (ls' := [(0, .ref 0), (1, .int a), (2, .int s), (3, .int t)]) (st' := [.int a, .int t, .ref 1]) (I' := I) rfl ?_
      refine zcb rfl rfl (zt_isTankBefore hB hV t a (by omega) (by omega) (by omega) (by omega)) (fun h2 => ?_) (fun h2 => ?_)
      · skip
        refine zg 4 (pc' := 4) (ls' := [(3, .int (t + 1)), (2, .int (s + 1)), (0, .ref 0), (1, .int a)]) (st' := []) (I' := I) rfl ?_
        refine zLp (List.Perm.trans (List.Perm.trans (List.Perm.trans (List.Perm.trans (List.Perm.cons _ (List.Perm.cons _ (List.Perm.swap _ _ _))) (List.Perm.cons _ (List.Perm.swap _ _ _))) (List.Perm.swap _ _ _)) (List.Perm.cons _ (List.Perm.cons _ (List.Perm.swap _ _ _)))) (List.Perm.cons _ (List.Perm.swap _ _ _))) rfl ?_
        have e : zrTl S a (k + 1) t s = zrTl S a k (t + 1) (s + 1) := by
          show zrTl S a k (t + 1) (if ztb S t a = true then s + 1 else s) = _
          simp only [*, if_true, if_false]
          try simp
        rw [e]
        exact ih (t + 1) _ (by rw [zadd1 h0 (by omega)]; omega) (by rw [zadd1 h0 (by omega)]; omega)
      · skip
        refine zg 3 (pc' := 4) (ls' := [(3, .int (t + 1)), (0, .ref 0), (1, .int a), (2, .int s)]) (st' := []) (I' := I) rfl ?_
        refine zLp (List.Perm.trans (List.Perm.trans (List.Perm.cons _ (List.Perm.cons _ (List.Perm.swap _ _ _))) (List.Perm.cons _ (List.Perm.swap _ _ _))) (List.Perm.swap _ _ _)) rfl ?_
        have e : zrTl S a (k + 1) t s = zrTl S a k (t + 1) s := by
          show zrTl S a k (t + 1) (if ztb S t a = true then s + 1 else s) = _
          simp only [*, if_true, if_false]
          try simp
        rw [e]
        exact ih (t + 1) _ (by rw [zadd1 h0 (by omega)]; omega) (by rw [zadd1 h0 (by omega)]; omega)
theorem zt_rT {sl D dy : Nat} {I : zM} {S : Nat → Nat → Int32} (hB : zSB 1 S I) (hV : zOK S) (a : Int32) (ha : 0 ≤ a.toInt) (ha1 : a.toInt < (S 0 10).toInt) : zW sl (D + 2) dy 84 0 [(0, .ref 0), (1, .int a)] [] I (zRg 0 (zQf I (some (.int (zrT S a))))) := by
  refine zg 4 (pc' := 4) (ls' := [(3, .int 0), (2, .int 0), (0, .ref 0), (1, .int a)]) (st' := []) (I' := I) rfl ?_
  refine zLp (List.Perm.trans (List.Perm.trans (List.Perm.trans (List.Perm.trans (List.Perm.cons _ (List.Perm.cons _ (List.Perm.swap _ _ _))) (List.Perm.cons _ (List.Perm.swap _ _ _))) (List.Perm.swap _ _ _)) (List.Perm.cons _ (List.Perm.cons _ (List.Perm.swap _ _ _)))) (List.Perm.cons _ (List.Perm.swap _ _ _))) rfl ?_
  exact zt_rTl hB hV a ha ha1 (S 0 10).toInt.toNat 0 0 (by decide) (by have := hV.1; have := hV.2.1; have z0 := zi0; omega)
theorem zt_byTl {sl D dy : Nat} {I : zM} {S : Nat → Nat → Int32} (hB : zSB 1 S I) (hV : zOK S) (r : Int32) : ∀ (k : Nat) (t : Int32) (h0 : 0 ≤ t.toInt) (hk : t.toInt + (k : Int) = (S 0 10).toInt), zW sl (D + 3) dy 83 2 [(0, .ref 0), (1, .int r), (2, .int t)] [] I (zRg 1 (zQt I 4)) := by
  intro k
  induction k with
  | zero =>
    intro t h0 hk
    have hT := hV.1
    have hP := hV.2.1
    have z0 := zi0
    have z8 := zi8
    have z20 := zi20
    refine zg 3 (pc' := 7) (ls' := [(0, .ref 0), (1, .int r), (2, .int t)]) (st' := [.ref 1, .int t]) (I' := I) rfl ?_
    refine zgf rfl rfl rfl (hB 0 10 rfl) ?_
    refine zicmp rfl rfl (fun h1 => ?_) (fun h1 => ?_)
    · have h1 := zc_ge.1.mp h1
      exact zthrow rfl rfl zt2
    · have h1 := zc_ge.2.mp h1
      exfalso; omega
  | succ k ih =>
    intro t h0 hk
    have hT := hV.1
    have hP := hV.2.1
    have z0 := zi0
    have z8 := zi8
    have z20 := zi20
    refine zg 3 (pc' := 7) (ls' := [(0, .ref 0), (1, .int r), (2, .int t)]) (st' := [.ref 1, .int t]) (I' := I) rfl ?_
    refine zgf rfl rfl rfl (hB 0 10 rfl) ?_
    refine zicmp rfl rfl (fun h1 => ?_) (fun h1 => ?_)
    · have h1 := zc_ge.1.mp h1
      exfalso; omega
    · have h1 := zc_ge.2.mp h1
      refine zg 2 (pc' := 15) (ls' := [(0, .ref 0), (1, .int r), (2, .int t)]) (st' := [.int t, .ref 0]) (I' := I) rfl ?_
      refine zcf rfl rfl (zt_rT hB hV t h0 (by omega)) ?_
      refine zg 1 (pc' := 19) (ls' := [(0, .ref 0), (1, .int r), (2, .int t)]) (st' := [.int r, .int (zrT S t)]) (I' := I) rfl ?_
      refine zicmp rfl rfl (fun h2 => ?_) (fun h2 => ?_)
      · have h2 := zc_ne.1.mp h2
        refine zg 2 (pc' := 2) (ls' := [(2, .int (t + 1)), (0, .ref 0), (1, .int r)]) (st' := []) (I' := I) rfl ?_
        refine zLp (List.Perm.trans (List.Perm.cons _ (List.Perm.swap _ _ _)) (List.Perm.swap _ _ _)) rfl ?_
        exact ih (t + 1) (by rw [zadd1 h0 (by omega)]; omega) (by rw [zadd1 h0 (by omega)]; omega)
      · have h2 := zc_ne.2.mp h2
        refine zg 1 (pc' := 23) (ls' := [(0, .ref 0), (1, .int r), (2, .int t)]) (st' := [.int t]) (I' := I) rfl ?_
        refine ziret rfl rfl rfl ?_
        exact zt1
theorem zt_byT {sl D dy : Nat} {I : zM} {S : Nat → Nat → Int32} (hB : zSB 1 S I) (hV : zOK S) (r : Int32) : zW sl (D + 3) dy 83 0 [(0, .ref 0), (1, .int r)] [] I (zRg 1 (zQt I 4)) := by
  refine zg 2 (pc' := 2) (ls' := [(2, .int 0), (0, .ref 0), (1, .int r)]) (st' := []) (I' := I) rfl ?_
  refine zLp (List.Perm.trans (List.Perm.cons _ (List.Perm.swap _ _ _)) (List.Perm.swap _ _ _)) rfl ?_
  exact zt_byTl hB hV r (S 0 10).toInt.toNat 0 (by decide) (by have := hV.1; have := hV.2.1; have z0 := zi0; omega)
theorem zt_byTxl {sl D dy : Nat} {I : zM} {S : Nat → Nat → Int32} (hB : zSB 1 S I) (hV : zOK S) (r : Int32) (hno : ∀ t : Int32, 0 ≤ t.toInt → t.toInt < (S 0 10).toInt → ¬ zrT S t = r) : ∀ (k : Nat) (t : Int32) (h0 : 0 ≤ t.toInt) (hk : t.toInt + (k : Int) = (S 0 10).toInt), zW sl (D + 3) dy 83 2 [(0, .ref 0), (1, .int r), (2, .int t)] [] I (zRg 1 (zQx I 4)) := by
  intro k
  induction k with
  | zero =>
    intro t h0 hk
    have hT := hV.1
    have hP := hV.2.1
    have z0 := zi0
    have z8 := zi8
    have z20 := zi20
    refine zg 3 (pc' := 7) (ls' := [(0, .ref 0), (1, .int r), (2, .int t)]) (st' := [.ref 1, .int t]) (I' := I) rfl ?_
    refine zgf rfl rfl rfl (hB 0 10 rfl) ?_
    refine zicmp rfl rfl (fun h1 => ?_) (fun h1 => ?_)
    · have h1 := zc_ge.1.mp h1
      exact zthrow rfl rfl zx1
    · have h1 := zc_ge.2.mp h1
      exfalso; omega
  | succ k ih =>
    intro t h0 hk
    have hT := hV.1
    have hP := hV.2.1
    have z0 := zi0
    have z8 := zi8
    have z20 := zi20
    refine zg 3 (pc' := 7) (ls' := [(0, .ref 0), (1, .int r), (2, .int t)]) (st' := [.ref 1, .int t]) (I' := I) rfl ?_
    refine zgf rfl rfl rfl (hB 0 10 rfl) ?_
    refine zicmp rfl rfl (fun h1 => ?_) (fun h1 => ?_)
    · have h1 := zc_ge.1.mp h1
      exfalso; omega
    · have h1 := zc_ge.2.mp h1
      refine zg 2 (pc' := 15) (ls' := [(0, .ref 0), (1, .int r), (2, .int t)]) (st' := [.int t, .ref 0]) (I' := I) rfl ?_
      refine zcf rfl rfl (zt_rT hB hV t h0 (by omega)) ?_
      refine zg 1 (pc' := 19) (ls' := [(0, .ref 0), (1, .int r), (2, .int t)]) (st' := [.int r, .int (zrT S t)]) (I' := I) rfl ?_
      refine zicmp rfl rfl (fun h2 => ?_) (fun h2 => ?_)
      · have h2 := zc_ne.1.mp h2
        refine zg 2 (pc' := 2) (ls' := [(2, .int (t + 1)), (0, .ref 0), (1, .int r)]) (st' := []) (I' := I) rfl ?_
        refine zLp (List.Perm.trans (List.Perm.cons _ (List.Perm.swap _ _ _)) (List.Perm.swap _ _ _)) rfl ?_
        exact ih (t + 1) (by rw [zadd1 h0 (by omega)]; omega) (by rw [zadd1 h0 (by omega)]; omega)
      · have h2 := zc_ne.2.mp h2
        exact absurd h2 (hno t h0 (by omega))
theorem zt_byTx {sl D dy : Nat} {I : zM} {S : Nat → Nat → Int32} (hB : zSB 1 S I) (hV : zOK S) (r : Int32) (hno : ∀ t : Int32, 0 ≤ t.toInt → t.toInt < (S 0 10).toInt → ¬ zrT S t = r) : zW sl (D + 3) dy 83 0 [(0, .ref 0), (1, .int r)] [] I (zRg 1 (zQx I 4)) := by
  refine zg 2 (pc' := 2) (ls' := [(2, .int 0), (0, .ref 0), (1, .int r)]) (st' := []) (I' := I) rfl ?_
  refine zLp (List.Perm.trans (List.Perm.cons _ (List.Perm.swap _ _ _)) (List.Perm.swap _ _ _)) rfl ?_
  exact zt_byTxl hB hV r hno (S 0 10).toInt.toNat 0 (by decide) (by have := hV.1; have := hV.2.1; have z0 := zi0; omega)
theorem zl_byT {sl D dy : Nat} {I : zM} {S : Nat → Nat → Int32} (hB : zSB 1 S I) (hV : zOK S) (r : Int32) : zW sl (D + 4) dy 144 0 [(0, .ref 0), (1, .int r)] [] I (zRg 1 (zQi I)) := by
  refine zg 2 (pc' := 2) (ls' := [(0, .ref 0), (1, .int r)]) (st' := [.int r, .ref 0]) (I' := I) rfl ?_
  refine zcit (b2 := 0) (pc2 := 7) (ls2 := [(0, .ref 0), (1, .int r)]) rfl rfl (zt_byT hB hV r) rfl (fun x => ?_) ?_
  · skip
    refine ziret rfl rfl rfl ?_
    exact zi1
  · skip
    refine zg 1 (pc' := 10) (ls' := [(0, .ref 0), (1, .int r)]) (st' := [.int (-1001)]) (I' := I) rfl ?_
    refine ziret rfl rfl rfl ?_
    exact zi1
theorem zl_byTx {sl D dy : Nat} {I : zM} {S : Nat → Nat → Int32} (hB : zSB 1 S I) (hV : zOK S) (r : Int32) (hno : ∀ t : Int32, 0 ≤ t.toInt → t.toInt < (S 0 10).toInt → ¬ zrT S t = r) : zW sl (D + 4) dy 144 0 [(0, .ref 0), (1, .int r)] [] I (zRg 1 (zQf I (some (.int (-1001))))) := by
  refine zg 2 (pc' := 2) (ls' := [(0, .ref 0), (1, .int r)]) (st' := [.int r, .ref 0]) (I' := I) rfl ?_
  refine zcct (b2 := 0) (pc2 := 7) (ls2 := [(0, .ref 0), (1, .int r)]) rfl rfl (zt_byTx hB hV r hno) rfl ?_
  refine zg 1 (pc' := 10) (ls' := [(0, .ref 0), (1, .int r)]) (st' := [.int (-1001)]) (I' := I) rfl ?_
  refine ziret rfl rfl rfl ?_
  exact zf1
theorem zrTl_le {S : Nat → Nat → Int32} {a : Int32} : ∀ (k : Nat) (t s : Int32), 0 ≤ t.toInt → t.toInt + (k : Int) ≤ 100 → 0 ≤ s.toInt → s.toInt + (k : Int) ≤ 1000 →
    s.toInt ≤ (zrTl S a k t s).toInt ∧ (zrTl S a k t s).toInt ≤ s.toInt + (k : Int) ∧ (t.toInt ≤ a.toInt → a.toInt < t.toInt + (k : Int) → (zrTl S a k t s).toInt + 1 ≤ s.toInt + (k : Int))
  | 0, t, s, h0, h1, h2, h3 => ⟨Int.le_refl _, by simp [zrTl], fun q1 q2 => by simp at q2; omega⟩
  | k + 1, t, s, h0, h1, h2, h3 => by
    have e1 := zadd1 h0 (by omega)
    have e2 := zadd1 h2 (by omega)
    have hs : zrTl S a (k + 1) t s = zrTl S a k (t + 1) (if ztb S t a = true then s + 1 else s) := rfl
    rw [hs]
    by_cases hq : ztb S t a = true
    · rw [if_pos hq]
      obtain ⟨g1, g2, g3⟩ := zrTl_le (S := S) (a := a) k (t + 1) (s + 1) (by omega) (by omega) (by omega) (by omega)
      refine ⟨by omega, by omega, fun q1 q2 => ?_⟩
      have : t.toInt ≠ a.toInt := fun e => by
        have := Int32.toInt_inj.mp e
        subst this
        rw [ztb_irr] at hq
        cases hq
      have := g3 (by omega) (by omega)
      omega
    · rw [if_neg hq]
      obtain ⟨g1, g2, g3⟩ := zrTl_le (S := S) (a := a) k (t + 1) s (by omega) (by omega) (by omega) (by omega)
      refine ⟨by omega, by omega, fun q1 q2 => ?_⟩
      by_cases hta : t.toInt = a.toInt
      · omega
      · have := g3 (by omega) (by omega)
        omega
/-- how many stand before it -/
def zrPl (S : Nat → Nat → Int32) (a : Int32) : Nat → Int32 → Int32 → Int32
  | 0, _, s => s
  | k + 1, t, s => zrPl S a k (t + 1) (if zpb S t a = true then s + 1 else s)
def zrP (S : Nat → Nat → Int32) (a : Int32) : Int32 := zrPl S a (S 0 11).toInt.toNat 0 0
theorem zt_rPl {sl D dy : Nat} {I : zM} {S : Nat → Nat → Int32} (hB : zSB 1 S I) (hV : zOK S) (a : Int32) (ha : 0 ≤ a.toInt) (ha1 : a.toInt < (S 0 11).toInt) : ∀ (k : Nat) (t s : Int32) (h0 : 0 ≤ t.toInt) (hk : t.toInt + (k : Int) = (S 0 11).toInt), zW sl (D + 2) dy 98 4 [(0, .ref 0), (1, .int a), (2, .int s), (3, .int t)] [] I (zRg 0 (zQf I (some (.int (zrPl S a k t s))))) := by
  intro k
  induction k with
  | zero =>
    intro t s h0 hk
    have hT := hV.1
    have hP := hV.2.1
    have z0 := zi0
    have z8 := zi8
    have z20 := zi20
    refine zg 3 (pc' := 9) (ls' := [(0, .ref 0), (1, .int a), (2, .int s), (3, .int t)]) (st' := [.ref 1, .int t]) (I' := I) rfl ?_
    refine zgf rfl rfl rfl (hB 0 11 rfl) ?_
    refine zicmp rfl rfl (fun h1 => ?_) (fun h1 => ?_)
    · have h1 := zc_ge.1.mp h1
      refine zg 1 (pc' := 37) (ls' := [(0, .ref 0), (1, .int a), (2, .int s), (3, .int t)]) (st' := [.int s]) (I' := I) rfl ?_
      refine ziret rfl rfl rfl ?_
      exact zf1
    · have h1 := zc_ge.2.mp h1
      exfalso; omega
  | succ k ih =>
    intro t s h0 hk
    have hT := hV.1
    have hP := hV.2.1
    have z0 := zi0
    have z8 := zi8
    have z20 := zi20
    refine zg 3 (pc' := 9) (ls' := [(0, .ref 0), (1, .int a), (2, .int s), (3, .int t)]) (st' := [.ref 1, .int t]) (I' := I) rfl ?_
    refine zgf rfl rfl rfl (hB 0 11 rfl) ?_
    refine zicmp rfl rfl (fun h1 => ?_) (fun h1 => ?_)
    · have h1 := zc_ge.1.mp h1
      exfalso; omega
    · have h1 := zc_ge.2.mp h1
      refine zg 4 (pc' := 21) (ls' := [(0, .ref 0), (1, .int a), (2, .int s), (3, .int t)]) (st' := [.int a, .int t, .ref 1]) (I' := I) rfl ?_
      refine zcb rfl rfl (zt_isPipeBefore hB hV t a (by omega) (by omega) (by omega) (by omega)) (fun h2 => ?_) (fun h2 => ?_)
      · skip
        refine zg 4 (pc' := 4) (ls' := [(3, .int (t + 1)), (2, .int (s + 1)), (0, .ref 0), (1, .int a)]) (st' := []) (I' := I) rfl ?_
        refine zLp (List.Perm.trans (List.Perm.trans (List.Perm.trans (List.Perm.trans (List.Perm.cons _ (List.Perm.cons _ (List.Perm.swap _ _ _))) (List.Perm.cons _ (List.Perm.swap _ _ _))) (List.Perm.swap _ _ _)) (List.Perm.cons _ (List.Perm.cons _ (List.Perm.swap _ _ _)))) (List.Perm.cons _ (List.Perm.swap _ _ _))) rfl ?_
        have e : zrPl S a (k + 1) t s = zrPl S a k (t + 1) (s + 1) := by
          show zrPl S a k (t + 1) (if zpb S t a = true then s + 1 else s) = _
          simp only [*, if_true, if_false]
          try simp
        rw [e]
        exact ih (t + 1) _ (by rw [zadd1 h0 (by omega)]; omega) (by rw [zadd1 h0 (by omega)]; omega)
      · skip
        refine zg 3 (pc' := 4) (ls' := [(3, .int (t + 1)), (0, .ref 0), (1, .int a), (2, .int s)]) (st' := []) (I' := I) rfl ?_
        refine zLp (List.Perm.trans (List.Perm.trans (List.Perm.cons _ (List.Perm.cons _ (List.Perm.swap _ _ _))) (List.Perm.cons _ (List.Perm.swap _ _ _))) (List.Perm.swap _ _ _)) rfl ?_
        have e : zrPl S a (k + 1) t s = zrPl S a k (t + 1) s := by
          show zrPl S a k (t + 1) (if zpb S t a = true then s + 1 else s) = _
          simp only [*, if_true, if_false]
          try simp
        rw [e]
        exact ih (t + 1) _ (by rw [zadd1 h0 (by omega)]; omega) (by rw [zadd1 h0 (by omega)]; omega)
theorem zt_rP {sl D dy : Nat} {I : zM} {S : Nat → Nat → Int32} (hB : zSB 1 S I) (hV : zOK S) (a : Int32) (ha : 0 ≤ a.toInt) (ha1 : a.toInt < (S 0 11).toInt) : zW sl (D + 2) dy 98 0 [(0, .ref 0), (1, .int a)] [] I (zRg 0 (zQf I (some (.int (zrP S a))))) := by
  refine zg 4 (pc' := 4) (ls' := [(3, .int 0), (2, .int 0), (0, .ref 0), (1, .int a)]) (st' := []) (I' := I) rfl ?_
  refine zLp (List.Perm.trans (List.Perm.trans (List.Perm.trans (List.Perm.trans (List.Perm.cons _ (List.Perm.cons _ (List.Perm.swap _ _ _))) (List.Perm.cons _ (List.Perm.swap _ _ _))) (List.Perm.swap _ _ _)) (List.Perm.cons _ (List.Perm.cons _ (List.Perm.swap _ _ _)))) (List.Perm.cons _ (List.Perm.swap _ _ _))) rfl ?_
  exact zt_rPl hB hV a ha ha1 (S 0 11).toInt.toNat 0 0 (by decide) (by have := hV.1; have := hV.2.1; have z0 := zi0; omega)
theorem zt_byPl {sl D dy : Nat} {I : zM} {S : Nat → Nat → Int32} (hB : zSB 1 S I) (hV : zOK S) (r : Int32) : ∀ (k : Nat) (t : Int32) (h0 : 0 ≤ t.toInt) (hk : t.toInt + (k : Int) = (S 0 11).toInt), zW sl (D + 3) dy 97 2 [(0, .ref 0), (1, .int r), (2, .int t)] [] I (zRg 1 (zQt I 4)) := by
  intro k
  induction k with
  | zero =>
    intro t h0 hk
    have hT := hV.1
    have hP := hV.2.1
    have z0 := zi0
    have z8 := zi8
    have z20 := zi20
    refine zg 3 (pc' := 7) (ls' := [(0, .ref 0), (1, .int r), (2, .int t)]) (st' := [.ref 1, .int t]) (I' := I) rfl ?_
    refine zgf rfl rfl rfl (hB 0 11 rfl) ?_
    refine zicmp rfl rfl (fun h1 => ?_) (fun h1 => ?_)
    · have h1 := zc_ge.1.mp h1
      exact zthrow rfl rfl zt2
    · have h1 := zc_ge.2.mp h1
      exfalso; omega
  | succ k ih =>
    intro t h0 hk
    have hT := hV.1
    have hP := hV.2.1
    have z0 := zi0
    have z8 := zi8
    have z20 := zi20
    refine zg 3 (pc' := 7) (ls' := [(0, .ref 0), (1, .int r), (2, .int t)]) (st' := [.ref 1, .int t]) (I' := I) rfl ?_
    refine zgf rfl rfl rfl (hB 0 11 rfl) ?_
    refine zicmp rfl rfl (fun h1 => ?_) (fun h1 => ?_)
    · have h1 := zc_ge.1.mp h1
      exfalso; omega
    · have h1 := zc_ge.2.mp h1
      refine zg 2 (pc' := 15) (ls' := [(0, .ref 0), (1, .int r), (2, .int t)]) (st' := [.int t, .ref 0]) (I' := I) rfl ?_
      refine zcf rfl rfl (zt_rP hB hV t h0 (by omega)) ?_
      refine zg 1 (pc' := 19) (ls' := [(0, .ref 0), (1, .int r), (2, .int t)]) (st' := [.int r, .int (zrP S t)]) (I' := I) rfl ?_
      refine zicmp rfl rfl (fun h2 => ?_) (fun h2 => ?_)
      · have h2 := zc_ne.1.mp h2
        refine zg 2 (pc' := 2) (ls' := [(2, .int (t + 1)), (0, .ref 0), (1, .int r)]) (st' := []) (I' := I) rfl ?_
        refine zLp (List.Perm.trans (List.Perm.cons _ (List.Perm.swap _ _ _)) (List.Perm.swap _ _ _)) rfl ?_
        exact ih (t + 1) (by rw [zadd1 h0 (by omega)]; omega) (by rw [zadd1 h0 (by omega)]; omega)
      · have h2 := zc_ne.2.mp h2
        refine zg 1 (pc' := 23) (ls' := [(0, .ref 0), (1, .int r), (2, .int t)]) (st' := [.int t]) (I' := I) rfl ?_
        refine ziret rfl rfl rfl ?_
        exact zt1
theorem zt_byP {sl D dy : Nat} {I : zM} {S : Nat → Nat → Int32} (hB : zSB 1 S I) (hV : zOK S) (r : Int32) : zW sl (D + 3) dy 97 0 [(0, .ref 0), (1, .int r)] [] I (zRg 1 (zQt I 4)) := by
  refine zg 2 (pc' := 2) (ls' := [(2, .int 0), (0, .ref 0), (1, .int r)]) (st' := []) (I' := I) rfl ?_
  refine zLp (List.Perm.trans (List.Perm.cons _ (List.Perm.swap _ _ _)) (List.Perm.swap _ _ _)) rfl ?_
  exact zt_byPl hB hV r (S 0 11).toInt.toNat 0 (by decide) (by have := hV.1; have := hV.2.1; have z0 := zi0; omega)
theorem zt_byPxl {sl D dy : Nat} {I : zM} {S : Nat → Nat → Int32} (hB : zSB 1 S I) (hV : zOK S) (r : Int32) (hno : ∀ t : Int32, 0 ≤ t.toInt → t.toInt < (S 0 11).toInt → ¬ zrP S t = r) : ∀ (k : Nat) (t : Int32) (h0 : 0 ≤ t.toInt) (hk : t.toInt + (k : Int) = (S 0 11).toInt), zW sl (D + 3) dy 97 2 [(0, .ref 0), (1, .int r), (2, .int t)] [] I (zRg 1 (zQx I 4)) := by
  intro k
  induction k with
  | zero =>
    intro t h0 hk
    have hT := hV.1
    have hP := hV.2.1
    have z0 := zi0
    have z8 := zi8
    have z20 := zi20
    refine zg 3 (pc' := 7) (ls' := [(0, .ref 0), (1, .int r), (2, .int t)]) (st' := [.ref 1, .int t]) (I' := I) rfl ?_
    refine zgf rfl rfl rfl (hB 0 11 rfl) ?_
    refine zicmp rfl rfl (fun h1 => ?_) (fun h1 => ?_)
    · have h1 := zc_ge.1.mp h1
      exact zthrow rfl rfl zx1
    · have h1 := zc_ge.2.mp h1
      exfalso; omega
  | succ k ih =>
    intro t h0 hk
    have hT := hV.1
    have hP := hV.2.1
    have z0 := zi0
    have z8 := zi8
    have z20 := zi20
    refine zg 3 (pc' := 7) (ls' := [(0, .ref 0), (1, .int r), (2, .int t)]) (st' := [.ref 1, .int t]) (I' := I) rfl ?_
    refine zgf rfl rfl rfl (hB 0 11 rfl) ?_
    refine zicmp rfl rfl (fun h1 => ?_) (fun h1 => ?_)
    · have h1 := zc_ge.1.mp h1
      exfalso; omega
    · have h1 := zc_ge.2.mp h1
      refine zg 2 (pc' := 15) (ls' := [(0, .ref 0), (1, .int r), (2, .int t)]) (st' := [.int t, .ref 0]) (I' := I) rfl ?_
      refine zcf rfl rfl (zt_rP hB hV t h0 (by omega)) ?_
      refine zg 1 (pc' := 19) (ls' := [(0, .ref 0), (1, .int r), (2, .int t)]) (st' := [.int r, .int (zrP S t)]) (I' := I) rfl ?_
      refine zicmp rfl rfl (fun h2 => ?_) (fun h2 => ?_)
      · have h2 := zc_ne.1.mp h2
        refine zg 2 (pc' := 2) (ls' := [(2, .int (t + 1)), (0, .ref 0), (1, .int r)]) (st' := []) (I' := I) rfl ?_
        refine zLp (List.Perm.trans (List.Perm.cons _ (List.Perm.swap _ _ _)) (List.Perm.swap _ _ _)) rfl ?_
        exact ih (t + 1) (by rw [zadd1 h0 (by omega)]; omega) (by rw [zadd1 h0 (by omega)]; omega)
      · have h2 := zc_ne.2.mp h2
        exact absurd h2 (hno t h0 (by omega))
theorem zt_byPx {sl D dy : Nat} {I : zM} {S : Nat → Nat → Int32} (hB : zSB 1 S I) (hV : zOK S) (r : Int32) (hno : ∀ t : Int32, 0 ≤ t.toInt → t.toInt < (S 0 11).toInt → ¬ zrP S t = r) : zW sl (D + 3) dy 97 0 [(0, .ref 0), (1, .int r)] [] I (zRg 1 (zQx I 4)) := by
  refine zg 2 (pc' := 2) (ls' := [(2, .int 0), (0, .ref 0), (1, .int r)]) (st' := []) (I' := I) rfl ?_
  refine zLp (List.Perm.trans (List.Perm.cons _ (List.Perm.swap _ _ _)) (List.Perm.swap _ _ _)) rfl ?_
  exact zt_byPxl hB hV r hno (S 0 11).toInt.toNat 0 (by decide) (by have := hV.1; have := hV.2.1; have z0 := zi0; omega)
theorem zl_byP {sl D dy : Nat} {I : zM} {S : Nat → Nat → Int32} (hB : zSB 1 S I) (hV : zOK S) (r : Int32) : zW sl (D + 4) dy 156 0 [(0, .ref 0), (1, .int r)] [] I (zRg 1 (zQi I)) := by
  refine zg 2 (pc' := 2) (ls' := [(0, .ref 0), (1, .int r)]) (st' := [.int r, .ref 0]) (I' := I) rfl ?_
  refine zcit (b2 := 0) (pc2 := 7) (ls2 := [(0, .ref 0), (1, .int r)]) rfl rfl (zt_byP hB hV r) rfl (fun x => ?_) ?_
  · skip
    refine ziret rfl rfl rfl ?_
    exact zi1
  · skip
    refine zg 1 (pc' := 10) (ls' := [(0, .ref 0), (1, .int r)]) (st' := [.int (-1001)]) (I' := I) rfl ?_
    refine ziret rfl rfl rfl ?_
    exact zi1
theorem zl_byPx {sl D dy : Nat} {I : zM} {S : Nat → Nat → Int32} (hB : zSB 1 S I) (hV : zOK S) (r : Int32) (hno : ∀ t : Int32, 0 ≤ t.toInt → t.toInt < (S 0 11).toInt → ¬ zrP S t = r) : zW sl (D + 4) dy 156 0 [(0, .ref 0), (1, .int r)] [] I (zRg 1 (zQf I (some (.int (-1001))))) := by
  refine zg 2 (pc' := 2) (ls' := [(0, .ref 0), (1, .int r)]) (st' := [.int r, .ref 0]) (I' := I) rfl ?_
  refine zcct (b2 := 0) (pc2 := 7) (ls2 := [(0, .ref 0), (1, .int r)]) rfl rfl (zt_byPx hB hV r hno) rfl ?_
  refine zg 1 (pc' := 10) (ls' := [(0, .ref 0), (1, .int r)]) (st' := [.int (-1001)]) (I' := I) rfl ?_
  refine ziret rfl rfl rfl ?_
  exact zf1
theorem zrPl_le {S : Nat → Nat → Int32} {a : Int32} : ∀ (k : Nat) (t s : Int32), 0 ≤ t.toInt → t.toInt + (k : Int) ≤ 100 → 0 ≤ s.toInt → s.toInt + (k : Int) ≤ 1000 →
    s.toInt ≤ (zrPl S a k t s).toInt ∧ (zrPl S a k t s).toInt ≤ s.toInt + (k : Int) ∧ (t.toInt ≤ a.toInt → a.toInt < t.toInt + (k : Int) → (zrPl S a k t s).toInt + 1 ≤ s.toInt + (k : Int))
  | 0, t, s, h0, h1, h2, h3 => ⟨Int.le_refl _, by simp [zrPl], fun q1 q2 => by simp at q2; omega⟩
  | k + 1, t, s, h0, h1, h2, h3 => by
    have e1 := zadd1 h0 (by omega)
    have e2 := zadd1 h2 (by omega)
    have hs : zrPl S a (k + 1) t s = zrPl S a k (t + 1) (if zpb S t a = true then s + 1 else s) := rfl
    rw [hs]
    by_cases hq : zpb S t a = true
    · rw [if_pos hq]
      obtain ⟨g1, g2, g3⟩ := zrPl_le (S := S) (a := a) k (t + 1) (s + 1) (by omega) (by omega) (by omega) (by omega)
      refine ⟨by omega, by omega, fun q1 q2 => ?_⟩
      have : t.toInt ≠ a.toInt := fun e => by
        have := Int32.toInt_inj.mp e
        subst this
        rw [zpb_irr] at hq
        cases hq
      have := g3 (by omega) (by omega)
      omega
    · rw [if_neg hq]
      obtain ⟨g1, g2, g3⟩ := zrPl_le (S := S) (a := a) k (t + 1) s (by omega) (by omega) (by omega) (by omega)
      refine ⟨by omega, by omega, fun q1 q2 => ?_⟩
      by_cases hta : t.toInt = a.toInt
      · omega
      · have := g3 (by omega) (by omega)
        omega
