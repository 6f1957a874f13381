/-! CONTRACTS: the output asked, all that is asked -/
theorem znar {x : Int32} (h0 : 0 ≤ x.toInt) (h1 : x.toInt < 128) : narrow .char (.int x) = .int x := by
  have h : (List.range 128).all (fun k => match narrow .char (.int (Int32.ofNat k)) with | .int y => decide (y = Int32.ofNat k) | _ => false) = true := by decide +kernel
  have h2 := List.all_eq_true.mp h x.toInt.toNat (List.mem_range.mpr (by omega))
  rw [zofi h0] at h2
  revert h2
  cases narrow .char (.int x) <;> intro h2 <;> first | cases h2 | exact congrArg _ (of_decide_eq_true h2)
section ZWR9
variable {sl D dy mi pc : Nat} {ls : zLs} {st : List Value} {I : zM} {b : Nat} {R : Nat → Option Value → zM → Prop}
theorem zcib {e : Instr × Nat × Nat × Nat × Nat} {m pc' b1 b2 : Nat} {la : zLs} {st' : List Value} (h : zl mi pc = some e) (hs : zstep sl dy mi pc e ls st I = some (.inr (.inr (.inr (m, pc', la, st', 0)))))
    (hc : zW sl D dy m 0 la [] I (zRg b1 (zQi I))) (kr : ∀ x : Int32, zW sl (D + 1) dy mi pc' ls (.int x :: st') I (zRg b2 R)) (hb : b1 + b2 ≤ b := by omega) : zW sl (D + 1) dy mi pc ls st I (zRg b R) :=
  zcal (b1 := b1) (b2 := b2) h hs hc (fun w J ⟨_, ⟨x, h2⟩, h3⟩ => by rw [h2, h3]; exact kr x) (fun c w J ⟨h1, _⟩ => by cases h1) hb
theorem zcr {e : Instr × Nat × Nat × Nat × Nat} {m pc' b1 b2 : Nat} {q : Int} {la : zLs} {st' : List Value} (h : zl mi pc = some e) (hs : zstep sl dy mi pc e ls st I = some (.inr (.inr (.inr (m, pc', la, st', 0)))))
    (hc : zW sl D dy m 0 la [] I (zRg b1 (zQr I q))) (kr : ∀ (n : Int32) (J : zM), zTx J n → n.toInt ≤ q → zfr I J → zW sl (D + 1) dy mi pc' ls (.int n :: st') J (zRg b2 R)) (hb : b1 + b2 ≤ b := by omega) : zW sl (D + 1) dy mi pc ls st I (zRg b R) :=
  zcal (b1 := b1) (b2 := b2) h hs hc (fun w J ⟨_, ⟨x, h2, h4, h5⟩, h3⟩ => by rw [h2]; exact kr x J h4 h5 h3) (fun c w J ⟨h1, _⟩ => by cases h1) hb
end ZWR9
/-- some long is answered, no more than scratch is changed -/
def zOo (J : zM) : Prop := ∃ n, J 148 0 = some n ∧ n.toInt ≤ 60
def zQa (I : zM) : Nat → Option Value → zM → Prop := fun c v J => c = 0 ∧ (∃ x, v = some (.long x)) ∧ zfr I J ∧ zOo J
theorem zt_outputAt {sl D dy : Nat} {I : zM} (n i : Int32) (hT : zTx I n) (hi0 : 0 ≤ i.toInt) (hi1 : i.toInt < n.toInt) : zW sl (D) dy 118 0 [(0, .ref 0), (1, .int i)] [] I (zRg 0 (zQi I)) := by
  have z0 := zi0
  have hc : i.toNatClampNeg = i.toInt.toNat := rfl
  obtain ⟨x, hx, hx0, hx1⟩ := hT.2.2.2 i.toNatClampNeg (by omega)
  refine zg 1 (pc' := 1) (ls' := [(0, .ref 0), (1, .int i)]) (st' := [.int i]) (I' := I) rfl ?_
  refine zif rfl rfl (fun h1 => ?_) (fun h1 => ?_)
  · have h1 := zc_lt.1.mp h1
    exfalso; omega
  · have h1 := zc_lt.2.mp h1
    refine zg 3 (pc' := 9) (ls' := [(0, .ref 0), (1, .int i)]) (st' := [.ref 148, .int i]) (I' := I) rfl ?_
    refine zalen rfl rfl hT.1 ?_
    refine zicmp rfl rfl (fun h2 => ?_) (fun h2 => ?_)
    · have h2 := zc_lt.1.mp h2
      refine zg 3 (pc' := 31) (ls' := [(0, .ref 0), (1, .int i)]) (st' := [.int i, .ref 148]) (I' := I) rfl ?_
      refine zacat rfl rfl hT.1 hi0 hi1 hx ?_
      exact ziret rfl rfl (znar hx0 hx1) zi1
    · have h2 := zc_lt.2.mp h2
      exfalso; omega
theorem zt_outputAt_x {sl D dy : Nat} {I : zM} (n i : Int32) (hT : I 148 0 = some n) (hi0 : i.toInt < 0 ∨ n.toInt ≤ i.toInt) : zW sl (D) dy 118 0 [(0, .ref 0), (1, .int i)] [] I (zRg 1 (zQx I 0)) := by
  have z0 := zi0
  refine zg 1 (pc' := 1) (ls' := [(0, .ref 0), (1, .int i)]) (st' := [.int i]) (I' := I) rfl ?_
  refine zif rfl rfl (fun h1 => ?_) (fun h1 => ?_)
  · have h1 := zc_lt.1.mp h1
    exact zthrow rfl rfl zx1
  · have h1 := zc_lt.2.mp h1
    refine zg 3 (pc' := 9) (ls' := [(0, .ref 0), (1, .int i)]) (st' := [.ref 148, .int i]) (I' := I) rfl ?_
    refine zalen rfl rfl hT ?_
    refine zicmp rfl rfl (fun h2 => ?_) (fun h2 => ?_)
    · have h2 := zc_lt.1.mp h2
      exfalso; omega
    · have h2 := zc_lt.2.mp h2
      exact zthrow rfl rfl zx1
theorem zl_outputAt {sl D dy : Nat} {I : zM} (n i : Int32) (hT : zTx I n) (hi0 : 0 ≤ i.toInt) (hi1 : i.toInt < n.toInt) : zW sl (D + 1) dy 166 0 [(0, .ref 0), (1, .int i)] [] I (zRg 0 (zQi I)) := by
  refine zg 2 (pc' := 2) (ls' := [(0, .ref 0), (1, .int i)]) (st' := [.int i, .ref 0]) (I' := I) rfl ?_
  refine zci rfl rfl (zt_outputAt n i hT hi0 hi1) (fun x1 => ?_)
  refine ziret rfl rfl rfl ?_
  exact zi1
theorem zl_outputAt_x {sl D dy : Nat} {I : zM} (n i : Int32) (hT : I 148 0 = some n) (hi0 : i.toInt < 0 ∨ n.toInt ≤ i.toInt) : zW sl (D + 1) dy 166 0 [(0, .ref 0), (1, .int i)] [] I (zRg 1 (zQf I (some (.int (-1001))))) := by
  refine zg 2 (pc' := 2) (ls' := [(0, .ref 0), (1, .int i)]) (st' := [.int i, .ref 0]) (I' := I) rfl ?_
  refine zcct (b2 := 0) (pc2 := 7) (ls2 := [(0, .ref 0), (1, .int i)]) rfl rfl (zt_outputAt_x n i hT hi0) rfl ?_
  refine zg 1 (pc' := 10) (ls' := [(0, .ref 0), (1, .int i)]) (st' := [.int (-1001)]) (I' := I) rfl ?_
  refine ziret rfl rfl rfl ?_
  exact zf1
theorem zl_renderTank {sl D dy : Nat} {I : zM} {S : Nat → Nat → Int32} (hB : zSB 1 S I) (hV : zOK S) (t : Int32) (hn : (0 ≤ t.toInt ∧ t.toInt < (S 0 10).toInt)) : zW sl (D + 5) dy 164 0 [(0, .ref 0), (1, .int t)] [] I (zRg 24 (zQr I 50)) := by
  refine zg 2 (pc' := 2) (ls' := [(0, .ref 0), (1, .int t)]) (st' := [.int t, .ref 0]) (I' := I) rfl ?_
  refine zcr (b2 := 0) rfl rfl (zt_renderTank hB hV t hn) (fun n J hT hnb hff => ?_)
  refine ziret rfl rfl rfl ?_
  exact ⟨rfl, ⟨n, rfl, hT, hnb⟩, hff⟩
theorem zt_renderTank_x {sl D dy : Nat} {I : zM} {S : Nat → Nat → Int32} (hB : zSB 1 S I) (t : Int32) (hn : ¬ (0 ≤ t.toInt ∧ t.toInt < (S 0 10).toInt)) : zW sl (D + 2) dy 115 0 [(0, .ref 0), (1, .int t)] [] I (zRg 1 (zQx I 0)) := by
  refine zg 2 (pc' := 2) (ls' := [(0, .ref 0), (1, .int t)]) (st' := [.int t, .ref 0]) (I' := I) rfl ?_
  exact zcx rfl rfl (zt_need_tank_x hB t hn) rfl zx1
theorem zl_renderTank_x {sl D dy : Nat} {I : zM} {S : Nat → Nat → Int32} (hB : zSB 1 S I) (t : Int32) (hn : ¬ (0 ≤ t.toInt ∧ t.toInt < (S 0 10).toInt)) : zW sl (D + 3) dy 164 0 [(0, .ref 0), (1, .int t)] [] I (zRg 1 (zQf I (some (.int (-1001))))) := by
  refine zg 2 (pc' := 2) (ls' := [(0, .ref 0), (1, .int t)]) (st' := [.int t, .ref 0]) (I' := I) rfl ?_
  refine zcct (b2 := 0) (pc2 := 7) (ls2 := [(0, .ref 0), (1, .int t)]) rfl rfl (zt_renderTank_x hB t hn) rfl ?_
  refine zg 1 (pc' := 10) (ls' := [(0, .ref 0), (1, .int t)]) (st' := [.int (-1001)]) (I' := I) rfl ?_
  refine ziret rfl rfl rfl ?_
  exact zf1
theorem zl_renderPipe {sl D dy : Nat} {I : zM} {S : Nat → Nat → Int32} (hB : zSB 1 S I) (hV : zOK S) (t : Int32) (hn : (0 ≤ t.toInt ∧ t.toInt < (S 0 11).toInt)) : zW sl (D + 5) dy 165 0 [(0, .ref 0), (1, .int t)] [] I (zRg 24 (zQr I 50)) := by
  refine zg 2 (pc' := 2) (ls' := [(0, .ref 0), (1, .int t)]) (st' := [.int t, .ref 0]) (I' := I) rfl ?_
  refine zcr (b2 := 0) rfl rfl (zt_renderPipe hB hV t hn) (fun n J hT hnb hff => ?_)
  refine ziret rfl rfl rfl ?_
  exact ⟨rfl, ⟨n, rfl, hT, hnb⟩, hff⟩
theorem zt_renderPipe_x {sl D dy : Nat} {I : zM} {S : Nat → Nat → Int32} (hB : zSB 1 S I) (t : Int32) (hn : ¬ (0 ≤ t.toInt ∧ t.toInt < (S 0 11).toInt)) : zW sl (D + 2) dy 117 0 [(0, .ref 0), (1, .int t)] [] I (zRg 1 (zQx I 0)) := by
  refine zg 2 (pc' := 2) (ls' := [(0, .ref 0), (1, .int t)]) (st' := [.int t, .ref 0]) (I' := I) rfl ?_
  exact zcx rfl rfl (zt_need_pipe_x hB t hn) rfl zx1
theorem zl_renderPipe_x {sl D dy : Nat} {I : zM} {S : Nat → Nat → Int32} (hB : zSB 1 S I) (t : Int32) (hn : ¬ (0 ≤ t.toInt ∧ t.toInt < (S 0 11).toInt)) : zW sl (D + 3) dy 165 0 [(0, .ref 0), (1, .int t)] [] I (zRg 1 (zQf I (some (.int (-1001))))) := by
  refine zg 2 (pc' := 2) (ls' := [(0, .ref 0), (1, .int t)]) (st' := [.int t, .ref 0]) (I' := I) rfl ?_
  refine zcct (b2 := 0) (pc2 := 7) (ls2 := [(0, .ref 0), (1, .int t)]) rfl rfl (zt_renderPipe_x hB t hn) rfl ?_
  refine zg 1 (pc' := 10) (ls' := [(0, .ref 0), (1, .int t)]) (st' := [.int (-1001)]) (I' := I) rfl ?_
  refine ziret rfl rfl rfl ?_
  exact zf1
theorem zt_askt {sl D dy : Nat} {I : zM} {b : Nat} {R : Nat → Option Value → zM → Prop} (n m p n2 : Int32) (hT : zTx I n2) (kk : ∀ sum : Int64, zW sl (D + 2) dy 175 188 [(0, .ref 0), (1, .int n), (2, .int m), (3, .long sum), (5, .int p)] [] I (zRg b R)) : ∀ (k : Nat) (sum : Int64) (i : Int32) (h0 : 0 ≤ i.toInt) (hk : i.toInt + (k : Int) = n2.toInt), zW sl (D + 2) dy 175 161 [(0, .ref 0), (1, .int n), (2, .int m), (3, .long sum), (5, .int p), (6, .int n2), (7, .int i)] [] I (zRg b (R)) := by
  intro k
  induction k with
  | zero =>
    intro sum i h0 hk
    have hc2 := hT.2
    refine zg 2 (pc' := 165) (ls' := [(0, .ref 0), (1, .int n), (2, .int m), (3, .long sum), (5, .int p), (6, .int n2), (7, .int i)]) (st' := [.int n2, .int i]) (I' := I) rfl ?_
    refine zicmp rfl rfl (fun h1 => ?_) (fun h1 => ?_)
    · have h1 := zc_ge.1.mp h1
      refine zfew (l1 := [(0, .ref 0), (1, .int n), (2, .int m), (3, .long sum), (5, .int p)]) [(6, .int n2), (7, .int i)] (List.Perm.refl _) rfl ?_
      exact kk _
    · have h1 := zc_ge.2.mp h1
      exfalso; omega
  | succ k ih =>
    intro sum i h0 hk
    have hc2 := hT.2
    refine zg 2 (pc' := 165) (ls' := [(0, .ref 0), (1, .int n), (2, .int m), (3, .long sum), (5, .int p), (6, .int n2), (7, .int i)]) (st' := [.int n2, .int i]) (I' := I) rfl ?_
    refine zicmp rfl rfl (fun h1 => ?_) (fun h1 => ?_)
    · have h1 := zc_ge.1.mp h1
      exfalso; omega
    · have h1 := zc_ge.2.mp h1
      refine zg 5 (pc' := 176) (ls' := [(0, .ref 0), (1, .int n), (2, .int m), (3, .long sum), (5, .int p), (6, .int n2), (7, .int i)]) (st' := [.int i, .ref 0, .long (31 * sum)]) (I' := I) rfl ?_
      refine zci rfl rfl (zl_outputAt n2 i hT h0 (by omega)) (fun x2 => ?_)
      refine zg 5 (pc' := 161) (ls' := [(7, .int (i + 1)), (3, .long (((31 * sum) + (x2 : Int32).toInt64))), (0, .ref 0), (1, .int n), (2, .int m), (5, .int p), (6, .int n2)]) (st' := []) (I' := I) rfl ?_
      refine zLp (List.Perm.trans (List.Perm.trans (List.Perm.trans (List.Perm.trans (List.Perm.trans (List.Perm.trans (List.Perm.trans (List.Perm.trans (List.Perm.cons _ (List.Perm.cons _ (List.Perm.cons _ (List.Perm.cons _ (List.Perm.cons _ (List.Perm.swap _ _ _)))))) (List.Perm.cons _ (List.Perm.cons _ (List.Perm.cons _ (List.Perm.cons _ (List.Perm.swap _ _ _)))))) (List.Perm.cons _ (List.Perm.cons _ (List.Perm.cons _ (List.Perm.swap _ _ _))))) (List.Perm.cons _ (List.Perm.cons _ (List.Perm.swap _ _ _)))) (List.Perm.cons _ (List.Perm.swap _ _ _))) (List.Perm.swap _ _ _)) (List.Perm.cons _ (List.Perm.cons _ (List.Perm.cons _ (List.Perm.swap _ _ _))))) (List.Perm.cons _ (List.Perm.cons _ (List.Perm.swap _ _ _)))) (List.Perm.cons _ (List.Perm.swap _ _ _))) rfl ?_
      exact ih _ (i + 1) (by rw [zadd1 h0 (by omega)]; omega) (by rw [zadd1 h0 (by omega)]; omega)
theorem zt_askp {sl D dy : Nat} {I : zM} {b : Nat} {R : Nat → Option Value → zM → Prop} (n m p n2 : Int32) (hT : zTx I n2) (kk : ∀ sum : Int64, zW sl (D + 2) dy 175 291 [(0, .ref 0), (1, .int n), (2, .int m), (3, .long sum), (5, .int p)] [] I (zRg b R)) : ∀ (k : Nat) (sum : Int64) (i : Int32) (h0 : 0 ≤ i.toInt) (hk : i.toInt + (k : Int) = n2.toInt), zW sl (D + 2) dy 175 264 [(0, .ref 0), (1, .int n), (2, .int m), (3, .long sum), (5, .int p), (6, .int n2), (7, .int i)] [] I (zRg b (R)) := by
  intro k
  induction k with
  | zero =>
    intro sum i h0 hk
    have hc2 := hT.2
    refine zg 2 (pc' := 268) (ls' := [(0, .ref 0), (1, .int n), (2, .int m), (3, .long sum), (5, .int p), (6, .int n2), (7, .int i)]) (st' := [.int n2, .int i]) (I' := I) rfl ?_
    refine zicmp rfl rfl (fun h1 => ?_) (fun h1 => ?_)
    · have h1 := zc_ge.1.mp h1
      refine zfew (l1 := [(0, .ref 0), (1, .int n), (2, .int m), (3, .long sum), (5, .int p)]) [(6, .int n2), (7, .int i)] (List.Perm.refl _) rfl ?_
      exact kk _
    · have h1 := zc_ge.2.mp h1
      exfalso; omega
  | succ k ih =>
    intro sum i h0 hk
    have hc2 := hT.2
    refine zg 2 (pc' := 268) (ls' := [(0, .ref 0), (1, .int n), (2, .int m), (3, .long sum), (5, .int p), (6, .int n2), (7, .int i)]) (st' := [.int n2, .int i]) (I' := I) rfl ?_
    refine zicmp rfl rfl (fun h1 => ?_) (fun h1 => ?_)
    · have h1 := zc_ge.1.mp h1
      exfalso; omega
    · have h1 := zc_ge.2.mp h1
      refine zg 5 (pc' := 279) (ls' := [(0, .ref 0), (1, .int n), (2, .int m), (3, .long sum), (5, .int p), (6, .int n2), (7, .int i)]) (st' := [.int i, .ref 0, .long (31 * sum)]) (I' := I) rfl ?_
      refine zci rfl rfl (zl_outputAt n2 i hT h0 (by omega)) (fun x2 => ?_)
      refine zg 5 (pc' := 264) (ls' := [(7, .int (i + 1)), (3, .long (((31 * sum) + (x2 : Int32).toInt64))), (0, .ref 0), (1, .int n), (2, .int m), (5, .int p), (6, .int n2)]) (st' := []) (I' := I) rfl ?_
      refine zLp (List.Perm.trans (List.Perm.trans (List.Perm.trans (List.Perm.trans (List.Perm.trans (List.Perm.trans (List.Perm.trans (List.Perm.trans (List.Perm.cons _ (List.Perm.cons _ (List.Perm.cons _ (List.Perm.cons _ (List.Perm.cons _ (List.Perm.swap _ _ _)))))) (List.Perm.cons _ (List.Perm.cons _ (List.Perm.cons _ (List.Perm.cons _ (List.Perm.swap _ _ _)))))) (List.Perm.cons _ (List.Perm.cons _ (List.Perm.cons _ (List.Perm.swap _ _ _))))) (List.Perm.cons _ (List.Perm.cons _ (List.Perm.swap _ _ _)))) (List.Perm.cons _ (List.Perm.swap _ _ _))) (List.Perm.swap _ _ _)) (List.Perm.cons _ (List.Perm.cons _ (List.Perm.cons _ (List.Perm.swap _ _ _))))) (List.Perm.cons _ (List.Perm.cons _ (List.Perm.swap _ _ _)))) (List.Perm.cons _ (List.Perm.swap _ _ _))) rfl ?_
      exact ih _ (i + 1) (by rw [zadd1 h0 (by omega)]; omega) (by rw [zadd1 h0 (by omega)]; omega)
theorem zt_askP {sl D dy : Nat} {I0 : zM} {S : Nat → Nat → Int32} (hV : zOK S) : ∀ (k : Nat) (sum : Int64) (p : Int32) (I : zM) (hB : zSB 1 S I) (hff : zfr I0 I) (hO : zOo I) (h0 : 0 ≤ p.toInt) (hk : p.toInt + (k : Int) = (S 0 11).toInt), zW sl (D + 12) dy 175 197 [(0, .ref 0), (1, .int (S 0 10)), (2, .int (S 0 11)), (3, .long sum), (5, .int p)] [] I (zRg (k * 25) (zQa I0)) := by
  intro k
  induction k with
  | zero =>
    intro sum p I hB hff hO h0 hk
    have hT := hV.1
    have hP := hV.2.1
    have z0 := zi0
    have z8 := zi8
    have z20 := zi20
    refine zg 2 (pc' := 200) (ls' := [(0, .ref 0), (1, .int (S 0 10)), (2, .int (S 0 11)), (3, .long sum), (5, .int p)]) (st' := [.int (S 0 11), .int p]) (I' := I) rfl ?_
    refine zicmp rfl rfl (fun h1 => ?_) (fun h1 => ?_)
    · have h1 := zc_ge.1.mp h1
      refine zg 1 (pc' := 298) (ls' := [(0, .ref 0), (1, .int (S 0 10)), (2, .int (S 0 11)), (3, .long sum), (5, .int p)]) (st' := [.long sum]) (I' := I) rfl ?_
      exact zret rfl rfl ⟨rfl, ⟨_, rfl⟩, hff, hO⟩
    · have h1 := zc_ge.2.mp h1
      exfalso; omega
  | succ k ih =>
    intro sum p I hB hff hO h0 hk
    have hT := hV.1
    have hP := hV.2.1
    have z0 := zi0
    have z8 := zi8
    have z20 := zi20
    refine zg 2 (pc' := 200) (ls' := [(0, .ref 0), (1, .int (S 0 10)), (2, .int (S 0 11)), (3, .long sum), (5, .int p)]) (st' := [.int (S 0 11), .int p]) (I' := I) rfl ?_
    refine zicmp rfl rfl (fun h1 => ?_) (fun h1 => ?_)
    · have h1 := zc_ge.1.mp h1
      exfalso; omega
    · have h1 := zc_ge.2.mp h1
      refine zg 8 (pc' := 220) (ls' := [(0, .ref 0), (1, .int (S 0 10)), (2, .int (S 0 11)), (3, .long sum), (5, .int p)]) (st' := [.int p, .ref 0, .long (31 * sum), .long 31, .long 31, .long 31]) (I' := I) rfl ?_
      refine zcf rfl rfl (zl_flow hB hV p ⟨h0, by omega⟩) ?_
      refine zg 5 (pc' := 229) (ls' := [(0, .ref 0), (1, .int (S 0 10)), (2, .int (S 0 11)), (3, .long sum), (5, .int p)]) (st' := [.int p, .ref 0, .long ((31 * ((31 * sum) + ((zlit S p.toNatClampNeg) : Int32).toInt64))), .long 31, .long 31]) (I' := I) rfl ?_
      refine zcf rfl rfl (zl_litres hB hV p ⟨h0, by omega⟩) ?_
      refine zg 5 (pc' := 238) (ls' := [(0, .ref 0), (1, .int (S 0 10)), (2, .int (S 0 11)), (3, .long sum), (5, .int p)]) (st' := [.int p, .ref 0, .long ((31 * ((31 * ((31 * sum) + ((zlit S p.toNatClampNeg) : Int32).toInt64)) + ((S 10 p.toNatClampNeg) : Int32).toInt64))), .long 31]) (I' := I) rfl ?_
      refine zcib (b2 := k * 25 + 24) rfl rfl (zl_byP hB hV p) (fun x2 => ?_)
      refine zg 5 (pc' := 247) (ls' := [(0, .ref 0), (1, .int (S 0 10)), (2, .int (S 0 11)), (3, .long sum), (5, .int p)]) (st' := [.int p, .ref 0, .long ((31 * ((31 * ((31 * ((31 * sum) + ((zlit S p.toNatClampNeg) : Int32).toInt64)) + ((S 10 p.toNatClampNeg) : Int32).toInt64)) + (x2 : Int32).toInt64)))]) (I' := I) rfl ?_
      refine zcf rfl rfl (zl_mesh hB hV p ⟨h0, by omega⟩) ?_
      refine zg 5 (pc' := 256) (ls' := [(3, .long (((31 * ((31 * ((31 * ((31 * sum) + ((zlit S p.toNatClampNeg) : Int32).toInt64)) + ((S 10 p.toNatClampNeg) : Int32).toInt64)) + (x2 : Int32).toInt64)) + ((S 6 p.toNatClampNeg) : Int32).toInt64))), (0, .ref 0), (1, .int (S 0 10)), (2, .int (S 0 11)), (5, .int p)]) (st' := [.int p, .ref 0]) (I' := I) rfl ?_
      refine zcr (b2 := k * 25) rfl rfl (zl_renderPipe hB hV p ⟨h0, by omega⟩) (fun n2 J hT hnb hfj => ?_)
      have hff := zfr_trans hff hfj
      have hB := zSB_fr hB hfj
      have hO : zOo J := ⟨n2, hT.1, by omega⟩
      refine zg 3 (pc' := 264) (ls' := [(7, .int 0), (6, .int n2), (3, .long (((31 * ((31 * ((31 * ((31 * sum) + ((zlit S p.toNatClampNeg) : Int32).toInt64)) + ((S 10 p.toNatClampNeg) : Int32).toInt64)) + (x2 : Int32).toInt64)) + ((S 6 p.toNatClampNeg) : Int32).toInt64))), (0, .ref 0), (1, .int (S 0 10)), (2, .int (S 0 11)), (5, .int p)]) (st' := []) (I' := J) rfl ?_
      refine zLp (List.Perm.trans (List.Perm.trans (List.Perm.trans (List.Perm.trans (List.Perm.trans (List.Perm.trans (List.Perm.trans (List.Perm.trans (List.Perm.trans (List.Perm.trans (List.Perm.trans (List.Perm.trans (List.Perm.trans (List.Perm.cons _ (List.Perm.cons _ (List.Perm.cons _ (List.Perm.cons _ (List.Perm.cons _ (List.Perm.swap _ _ _)))))) (List.Perm.cons _ (List.Perm.cons _ (List.Perm.cons _ (List.Perm.cons _ (List.Perm.swap _ _ _)))))) (List.Perm.cons _ (List.Perm.cons _ (List.Perm.cons _ (List.Perm.swap _ _ _))))) (List.Perm.cons _ (List.Perm.cons _ (List.Perm.swap _ _ _)))) (List.Perm.cons _ (List.Perm.swap _ _ _))) (List.Perm.swap _ _ _)) (List.Perm.cons _ (List.Perm.cons _ (List.Perm.cons _ (List.Perm.cons _ (List.Perm.cons _ (List.Perm.swap _ _ _))))))) (List.Perm.cons _ (List.Perm.cons _ (List.Perm.cons _ (List.Perm.cons _ (List.Perm.swap _ _ _)))))) (List.Perm.cons _ (List.Perm.cons _ (List.Perm.cons _ (List.Perm.swap _ _ _))))) (List.Perm.cons _ (List.Perm.cons _ (List.Perm.swap _ _ _)))) (List.Perm.cons _ (List.Perm.swap _ _ _))) (List.Perm.cons _ (List.Perm.cons _ (List.Perm.cons _ (List.Perm.cons _ (List.Perm.swap _ _ _)))))) (List.Perm.cons _ (List.Perm.cons _ (List.Perm.cons _ (List.Perm.swap _ _ _))))) (List.Perm.cons _ (List.Perm.cons _ (List.Perm.swap _ _ _)))) rfl ?_
      refine zt_askp (D := D + 10) _ _ p n2 hT (fun sum2 => ?_) n2.toInt.toNat _ 0 (by decide) (by have := hT.2.1; rw [z0]; omega)
      refine zg 2 (pc' := 197) (ls' := [(5, .int (p + 1)), (0, .ref 0), (1, .int (S 0 10)), (2, .int (S 0 11)), (3, .long sum2)]) (st' := []) (I' := J) rfl ?_
      refine zLp (List.Perm.trans (List.Perm.trans (List.Perm.trans (List.Perm.cons _ (List.Perm.cons _ (List.Perm.cons _ (List.Perm.swap _ _ _)))) (List.Perm.cons _ (List.Perm.cons _ (List.Perm.swap _ _ _)))) (List.Perm.cons _ (List.Perm.swap _ _ _))) (List.Perm.swap _ _ _)) rfl ?_
      exact ih _ (p + 1) J hB hff hO (by rw [zadd1 h0 (by omega)]; omega) (by rw [zadd1 h0 (by omega)]; omega)
theorem zt_askT {sl D dy : Nat} {I0 : zM} {S : Nat → Nat → Int32} (hV : zOK S) : ∀ (k : Nat) (sum : Int64) (p : Int32) (I : zM) (hB : zSB 1 S I) (hff : zfr I0 I) (hO : 1 ≤ k ∨ zOo I) (h0 : 0 ≤ p.toInt) (hk : p.toInt + (k : Int) = (S 0 10).toInt), zW sl (D + 12) dy 175 105 [(0, .ref 0), (1, .int (S 0 10)), (2, .int (S 0 11)), (3, .long sum), (5, .int p)] [] I (zRg (k * 26 + 300) (zQa I0)) := by
  intro k
  induction k with
  | zero =>
    intro sum p I hB hff hO h0 hk
    have hT := hV.1
    have hP := hV.2.1
    have z0 := zi0
    have z8 := zi8
    have z20 := zi20
    refine zg 2 (pc' := 108) (ls' := [(0, .ref 0), (1, .int (S 0 10)), (2, .int (S 0 11)), (3, .long sum), (5, .int p)]) (st' := [.int (S 0 10), .int p]) (I' := I) rfl ?_
    refine zicmp rfl rfl (fun h1 => ?_) (fun h1 => ?_)
    · have h1 := zc_ge.1.mp h1
      refine zg 2 (pc' := 197) (ls' := [(5, .int 0), (0, .ref 0), (1, .int (S 0 10)), (2, .int (S 0 11)), (3, .long sum)]) (st' := []) (I' := I) rfl ?_
      refine zLp (List.Perm.trans (List.Perm.trans (List.Perm.trans (List.Perm.cons _ (List.Perm.cons _ (List.Perm.cons _ (List.Perm.swap _ _ _)))) (List.Perm.cons _ (List.Perm.cons _ (List.Perm.swap _ _ _)))) (List.Perm.cons _ (List.Perm.swap _ _ _))) (List.Perm.swap _ _ _)) rfl ?_
      have hO : zOo I := by
        rcases hO with hO | hO
        · omega
        · exact hO
      exact zwp (zt_askP (D := D) hV (S 0 11).toInt.toNat _ 0 I hB hff hO (by decide) (by rw [z0]; omega)) (fun c v J q => q) (by omega)
    · have h1 := zc_ge.2.mp h1
      exfalso; omega
  | succ k ih =>
    intro sum p I hB hff hO h0 hk
    have hT := hV.1
    have hP := hV.2.1
    have z0 := zi0
    have z8 := zi8
    have z20 := zi20
    refine zg 2 (pc' := 108) (ls' := [(0, .ref 0), (1, .int (S 0 10)), (2, .int (S 0 11)), (3, .long sum), (5, .int p)]) (st' := [.int (S 0 10), .int p]) (I' := I) rfl ?_
    refine zicmp rfl rfl (fun h1 => ?_) (fun h1 => ?_)
    · have h1 := zc_ge.1.mp h1
      exfalso; omega
    · have h1 := zc_ge.2.mp h1
      refine zg 7 (pc' := 125) (ls' := [(0, .ref 0), (1, .int (S 0 10)), (2, .int (S 0 11)), (3, .long sum), (5, .int p)]) (st' := [.int p, .ref 0, .long (31 * sum), .long 31, .long 31]) (I' := I) rfl ?_
      refine zci rfl rfl (zl_fillBits hB hV p ⟨h0, by omega⟩) (fun x2 => ?_)
      refine zg 5 (pc' := 134) (ls' := [(0, .ref 0), (1, .int (S 0 10)), (2, .int (S 0 11)), (3, .long sum), (5, .int p)]) (st' := [.int p, .ref 0, .long ((31 * ((31 * sum) + (x2 : Int32).toInt64))), .long 31]) (I' := I) rfl ?_
      refine zcib (b2 := k * 26 + 325) rfl rfl (zl_byT hB hV p) (fun x3 => ?_)
      refine zg 6 (pc' := 144) (ls' := [(0, .ref 0), (1, .int (S 0 10)), (2, .int (S 0 11)), (3, .long sum), (5, .int p)]) (st' := [.int p, .int 0, .ref 0, .long ((31 * ((31 * ((31 * sum) + (x2 : Int32).toInt64)) + (x3 : Int32).toInt64)))]) (I' := I) rfl ?_
      refine zck (b2 := k * 26 + 324) rfl rfl (zl_cleanest hB hV 0 p (by rw [z0]; omega) ⟨h0, by omega⟩) (fun x4 J2 hfj => ?_)
      have hff := zfr_trans hff hfj
      have hB := zSB_fr hB hfj
      refine zg 5 (pc' := 153) (ls' := [(3, .long (((31 * ((31 * ((31 * sum) + (x2 : Int32).toInt64)) + (x3 : Int32).toInt64)) + (x4 : Int32).toInt64))), (0, .ref 0), (1, .int (S 0 10)), (2, .int (S 0 11)), (5, .int p)]) (st' := [.int p, .ref 0]) (I' := J2) rfl ?_
      refine zcr (b2 := k * 26 + 300) rfl rfl (zl_renderTank hB hV p ⟨h0, by omega⟩) (fun n2 J hT hnb hfj => ?_)
      have hff := zfr_trans hff hfj
      have hB := zSB_fr hB hfj
      have hO : zOo J := ⟨n2, hT.1, by omega⟩
      refine zg 3 (pc' := 161) (ls' := [(7, .int 0), (6, .int n2), (3, .long (((31 * ((31 * ((31 * sum) + (x2 : Int32).toInt64)) + (x3 : Int32).toInt64)) + (x4 : Int32).toInt64))), (0, .ref 0), (1, .int (S 0 10)), (2, .int (S 0 11)), (5, .int p)]) (st' := []) (I' := J) rfl ?_
      refine zLp (List.Perm.trans (List.Perm.trans (List.Perm.trans (List.Perm.trans (List.Perm.trans (List.Perm.trans (List.Perm.trans (List.Perm.trans (List.Perm.trans (List.Perm.trans (List.Perm.trans (List.Perm.trans (List.Perm.trans (List.Perm.cons _ (List.Perm.cons _ (List.Perm.cons _ (List.Perm.cons _ (List.Perm.cons _ (List.Perm.swap _ _ _)))))) (List.Perm.cons _ (List.Perm.cons _ (List.Perm.cons _ (List.Perm.cons _ (List.Perm.swap _ _ _)))))) (List.Perm.cons _ (List.Perm.cons _ (List.Perm.cons _ (List.Perm.swap _ _ _))))) (List.Perm.cons _ (List.Perm.cons _ (List.Perm.swap _ _ _)))) (List.Perm.cons _ (List.Perm.swap _ _ _))) (List.Perm.swap _ _ _)) (List.Perm.cons _ (List.Perm.cons _ (List.Perm.cons _ (List.Perm.cons _ (List.Perm.cons _ (List.Perm.swap _ _ _))))))) (List.Perm.cons _ (List.Perm.cons _ (List.Perm.cons _ (List.Perm.cons _ (List.Perm.swap _ _ _)))))) (List.Perm.cons _ (List.Perm.cons _ (List.Perm.cons _ (List.Perm.swap _ _ _))))) (List.Perm.cons _ (List.Perm.cons _ (List.Perm.swap _ _ _)))) (List.Perm.cons _ (List.Perm.swap _ _ _))) (List.Perm.cons _ (List.Perm.cons _ (List.Perm.cons _ (List.Perm.cons _ (List.Perm.swap _ _ _)))))) (List.Perm.cons _ (List.Perm.cons _ (List.Perm.cons _ (List.Perm.swap _ _ _))))) (List.Perm.cons _ (List.Perm.cons _ (List.Perm.swap _ _ _)))) rfl ?_
      refine zt_askt (D := D + 10) _ _ p n2 hT (fun sum2 => ?_) n2.toInt.toNat _ 0 (by decide) (by have := hT.2.1; rw [z0]; omega)
      refine zg 2 (pc' := 105) (ls' := [(5, .int (p + 1)), (0, .ref 0), (1, .int (S 0 10)), (2, .int (S 0 11)), (3, .long sum2)]) (st' := []) (I' := J) rfl ?_
      refine zLp (List.Perm.trans (List.Perm.trans (List.Perm.trans (List.Perm.cons _ (List.Perm.cons _ (List.Perm.cons _ (List.Perm.swap _ _ _)))) (List.Perm.cons _ (List.Perm.cons _ (List.Perm.swap _ _ _)))) (List.Perm.cons _ (List.Perm.swap _ _ _))) (List.Perm.swap _ _ _)) rfl ?_
      exact ih _ (p + 1) J hB hff (Or.inr hO) (by rw [zadd1 h0 (by omega)]; omega) (by rw [zadd1 h0 (by omega)]; omega)
theorem zl_asks {sl D dy : Nat} {I : zM} {S : Nat → Nat → Int32} (hB : zSB 1 S I) (hV : zOK S) (hn2 : 1 ≤ (S 0 10).toInt) : zW sl (D + 12) dy 175 0 [(0, .ref 0)] [] I (zRg 508 (zQa I)) := by
  have hT := hV.1
  have hP := hV.2.1
  have z0 := zi0
  have z8 := zi8
  have z20 := zi20
  have hff := zfr_refl I
  refine zg 1 (pc' := 1) (ls' := [(0, .ref 0)]) (st' := [.ref 0]) (I' := I) rfl ?_
  refine zcf rfl rfl (zt_tankCount hB) ?_
  refine zg 2 (pc' := 6) (ls' := [(1, .int (S 0 10)), (0, .ref 0)]) (st' := [.ref 0]) (I' := I) rfl ?_
  refine zcf rfl rfl (zt_pipeCount hB) ?_
  refine zg 3 (pc' := 14) (ls' := [(2, .int (S 0 11)), (1, .int (S 0 10)), (0, .ref 0)]) (st' := [.ref 0, .long 31]) (I' := I) rfl ?_
  refine zcl rfl rfl (zl_meanBits hB hV hn2) (fun y1 => ?_)
  refine zg 2 (pc' := 19) (ls' := [(2, .int (S 0 11)), (1, .int (S 0 10)), (0, .ref 0)]) (st' := [.ref 0, .long (31 * y1)]) (I' := I) rfl ?_
  refine zcl rfl rfl (zt_fingerprint hB hV) (fun y2 => ?_)
  refine zg 18 (pc' := 50) (ls' := [(3, .long (((31 * y1) + y2))), (2, .int (S 0 11)), (1, .int (S 0 10)), (0, .ref 0)]) (st' := [.ref 0, .long ((31 * ((31 * ((31 * ((31 * y1) + y2)) + ((S 0 10) : Int32).toInt64)) + ((S 0 11) : Int32).toInt64))), .long 31, .long 31]) (I' := I) rfl ?_
  refine zcf rfl rfl (zt_time hB) ?_
  refine zg 4 (pc' := 57) (ls' := [(3, .long (((31 * y1) + y2))), (2, .int (S 0 11)), (1, .int (S 0 10)), (0, .ref 0)]) (st' := [.ref 0, .long ((31 * ((31 * ((31 * ((31 * ((31 * y1) + y2)) + ((S 0 10) : Int32).toInt64)) + ((S 0 11) : Int32).toInt64)) + ((S 0 12) : Int32).toInt64))), .long 31]) (I' := I) rfl ?_
  refine zcf rfl rfl (zt_pouredTotal hB) ?_
  refine zg 4 (pc' := 64) (ls' := [(3, .long (((31 * y1) + y2))), (2, .int (S 0 11)), (1, .int (S 0 10)), (0, .ref 0)]) (st' := [.ref 0, .long ((31 * ((31 * ((31 * ((31 * ((31 * ((31 * y1) + y2)) + ((S 0 10) : Int32).toInt64)) + ((S 0 11) : Int32).toInt64)) + ((S 0 12) : Int32).toInt64)) + ((S 0 13) : Int32).toInt64)))]) (I' := I) rfl ?_
  refine zcf rfl rfl (zt_drawnTotal hB) ?_
  refine zg 9 (pc' := 82) (ls' := [(3, .long (((31 * ((31 * ((31 * ((31 * ((31 * ((31 * y1) + y2)) + ((S 0 10) : Int32).toInt64)) + ((S 0 11) : Int32).toInt64)) + ((S 0 12) : Int32).toInt64)) + ((S 0 13) : Int32).toInt64)) + ((S 0 14) : Int32).toInt64))), (2, .int (S 0 11)), (1, .int (S 0 10)), (0, .ref 0)]) (st' := [.ref 0, .long ((31 * ((31 * ((31 * ((31 * ((31 * ((31 * ((31 * y1) + y2)) + ((S 0 10) : Int32).toInt64)) + ((S 0 11) : Int32).toInt64)) + ((S 0 12) : Int32).toInt64)) + ((S 0 13) : Int32).toInt64)) + ((S 0 14) : Int32).toInt64))), .long 31, .long 31]) (I' := I) rfl ?_
  refine zcf rfl rfl (zt_spilledTotal hB) ?_
  refine zg 4 (pc' := 89) (ls' := [(3, .long (((31 * ((31 * ((31 * ((31 * ((31 * ((31 * y1) + y2)) + ((S 0 10) : Int32).toInt64)) + ((S 0 11) : Int32).toInt64)) + ((S 0 12) : Int32).toInt64)) + ((S 0 13) : Int32).toInt64)) + ((S 0 14) : Int32).toInt64))), (2, .int (S 0 11)), (1, .int (S 0 10)), (0, .ref 0)]) (st' := [.ref 0, .long ((31 * ((31 * ((31 * ((31 * ((31 * ((31 * ((31 * ((31 * y1) + y2)) + ((S 0 10) : Int32).toInt64)) + ((S 0 11) : Int32).toInt64)) + ((S 0 12) : Int32).toInt64)) + ((S 0 13) : Int32).toInt64)) + ((S 0 14) : Int32).toInt64)) + ((S 0 15) : Int32).toInt64))), .long 31]) (I' := I) rfl ?_
  refine zci rfl rfl (zt_groupCount hB hV) (fun x3 => ?_)
  refine zg 4 (pc' := 96) (ls' := [(3, .long (((31 * ((31 * ((31 * ((31 * ((31 * ((31 * y1) + y2)) + ((S 0 10) : Int32).toInt64)) + ((S 0 11) : Int32).toInt64)) + ((S 0 12) : Int32).toInt64)) + ((S 0 13) : Int32).toInt64)) + ((S 0 14) : Int32).toInt64))), (2, .int (S 0 11)), (1, .int (S 0 10)), (0, .ref 0)]) (st' := [.ref 0, .long ((31 * ((31 * ((31 * ((31 * ((31 * ((31 * ((31 * ((31 * ((31 * y1) + y2)) + ((S 0 10) : Int32).toInt64)) + ((S 0 11) : Int32).toInt64)) + ((S 0 12) : Int32).toInt64)) + ((S 0 13) : Int32).toInt64)) + ((S 0 14) : Int32).toInt64)) + ((S 0 15) : Int32).toInt64)) + (x3 : Int32).toInt64)))]) (I' := I) rfl ?_
  refine zck (b2 := 508) rfl rfl (zt_bridgeCount hB hV) (fun x4 J hfj => ?_)
  have hff := zfr_trans hff hfj
  have hB := zSB_fr hB hfj
  refine zg 5 (pc' := 105) (ls' := [(5, .int 0), (3, .long (((31 * ((31 * ((31 * ((31 * ((31 * ((31 * ((31 * ((31 * ((31 * y1) + y2)) + ((S 0 10) : Int32).toInt64)) + ((S 0 11) : Int32).toInt64)) + ((S 0 12) : Int32).toInt64)) + ((S 0 13) : Int32).toInt64)) + ((S 0 14) : Int32).toInt64)) + ((S 0 15) : Int32).toInt64)) + (x3 : Int32).toInt64)) + (x4 : Int32).toInt64))), (2, .int (S 0 11)), (1, .int (S 0 10)), (0, .ref 0)]) (st' := []) (I' := J) rfl ?_
  refine zLp (List.Perm.trans (List.Perm.trans (List.Perm.trans (List.Perm.trans (List.Perm.trans (List.Perm.trans (List.Perm.trans (List.Perm.trans (List.Perm.trans (List.Perm.cons _ (List.Perm.cons _ (List.Perm.cons _ (List.Perm.swap _ _ _)))) (List.Perm.cons _ (List.Perm.cons _ (List.Perm.swap _ _ _)))) (List.Perm.cons _ (List.Perm.swap _ _ _))) (List.Perm.swap _ _ _)) (List.Perm.cons _ (List.Perm.cons _ (List.Perm.cons _ (List.Perm.swap _ _ _))))) (List.Perm.cons _ (List.Perm.cons _ (List.Perm.swap _ _ _)))) (List.Perm.cons _ (List.Perm.swap _ _ _))) (List.Perm.cons _ (List.Perm.cons _ (List.Perm.cons _ (List.Perm.swap _ _ _))))) (List.Perm.cons _ (List.Perm.cons _ (List.Perm.swap _ _ _)))) (List.Perm.cons _ (List.Perm.cons _ (List.Perm.cons _ (List.Perm.swap _ _ _))))) rfl ?_
  exact zwp (zt_askT (D := D) hV (S 0 10).toInt.toNat _ 0 J hB hff (Or.inl (by omega)) (by decide) (by rw [z0]; omega)) (fun c v J q => q) (by omega)
