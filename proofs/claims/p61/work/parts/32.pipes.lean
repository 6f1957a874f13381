/-! CONTRACTS: pipes and tanks of a state -/
/-- an open pipe -/
def zop (S : Nat → Nat → Int32) (p : Nat) : Bool := !(decide (S 7 p = 0)) && decide ((S 9 p).toInt < 20)
theorem zop_iff {S : Nat → Nat → Int32} {p : Nat} : zop S p = true ↔ ¬ S 7 p = 0 ∧ (S 9 p).toInt < 20 := by simp [zop]
theorem zt_letsThrough {sl D dy : Nat} {I : zM} {S : Nat → Nat → Int32} (hB : zSB 1 S I) (hV : zOK S) (p : Int32) (h0 : 0 ≤ p.toInt) (hp : p.toInt < (S 0 11).toInt) : zW sl (D) dy 58 0 [(0, .ref 1), (1, .int p)] [] I (zRg 0 (zQb I (zop S p.toNatClampNeg = true))) := by
  have hT := hV.1
  have hP := hV.2.1
  have z0 := zi0
  have z8 := zi8
  have z20 := zi20
  refine zg 3 (pc' := 5) (ls' := [(0, .ref 1), (1, .int p)]) (st' := [.int p, .ref 8]) (I' := I) rfl ?_
  refine zia rfl rfl (zin_ok (n := 12) (by omega) (by omega)) (hB 7 _ (zcell_12 (by decide) (by omega) (by omega))) ?_
  refine zif rfl rfl (fun h1 => ?_) (fun h1 => ?_)
  · have h1 := zc_eq.1.mp h1
    refine zg 1 (pc' := 25) (ls' := [(0, .ref 1), (1, .int p)]) (st' := [.int 0]) (I' := I) rfl ?_
    refine ziret rfl rfl rfl ?_
    exact zb0 (fun q => by have q := zop_iff.mp q; first | exact q.1 h1 | (have := q.2; omega))
  · have h1 := zc_eq.2.mp h1
    refine zg 3 (pc' := 14) (ls' := [(0, .ref 1), (1, .int p)]) (st' := [.int p, .ref 10]) (I' := I) rfl ?_
    refine zia rfl rfl (zin_ok (n := 12) (by omega) (by omega)) (hB 9 _ (zcell_12 (by decide) (by omega) (by omega))) ?_
    refine zg 1 (pc' := 17) (ls' := [(0, .ref 1), (1, .int p)]) (st' := [.int 20, .int (S 9 p.toNatClampNeg)]) (I' := I) rfl ?_
    refine zicmp rfl rfl (fun h2 => ?_) (fun h2 => ?_)
    · have h2 := zc_ge.1.mp h2
      refine zg 1 (pc' := 25) (ls' := [(0, .ref 1), (1, .int p)]) (st' := [.int 0]) (I' := I) rfl ?_
      refine ziret rfl rfl rfl ?_
      exact zb0 (fun q => by have q := zop_iff.mp q; first | exact q.1 h1 | (have := q.2; omega))
    · have h2 := zc_ge.2.mp h2
      refine zg 2 (pc' := 25) (ls' := [(0, .ref 1), (1, .int p)]) (st' := [.int 1]) (I' := I) rfl ?_
      refine ziret rfl rfl rfl ?_
      exact zb1 (zop_iff.mpr ⟨h1, by omega⟩)
def zoth (S : Nat → Nat → Int32) (p : Nat) (t : Int32) : Int32 := if S 4 p = t then S 5 p else if S 5 p = t then S 4 p else -1
theorem zt_other {sl D dy : Nat} {I : zM} {S : Nat → Nat → Int32} (hB : zSB 1 S I) (hV : zOK S) (p t : Int32) (h0 : 0 ≤ p.toInt) (hp : p.toInt < (S 0 11).toInt) : zW sl (D) dy 1 0 [(0, .ref 1), (1, .int p), (2, .int t)] [] I (zRg 0 (zQf I (some (.int (zoth S p.toNatClampNeg t))))) := by
  have hT := hV.1
  have hP := hV.2.1
  have z0 := zi0
  have z8 := zi8
  have z20 := zi20
  refine zg 3 (pc' := 5) (ls' := [(0, .ref 1), (1, .int p), (2, .int t)]) (st' := [.int p, .ref 5]) (I' := I) rfl ?_
  refine zia rfl rfl (zin_ok (n := 12) (by omega) (by omega)) (hB 4 _ (zcell_12 (by decide) (by omega) (by omega))) ?_
  refine zg 1 (pc' := 7) (ls' := [(0, .ref 1), (1, .int p), (2, .int t)]) (st' := [.int t, .int (S 4 p.toNatClampNeg)]) (I' := I) rfl ?_
  refine zicmp rfl rfl (fun h1 => ?_) (fun h1 => ?_)
  · have h1 := zc_ne.1.mp h1
    refine zg 3 (pc' := 22) (ls' := [(0, .ref 1), (1, .int p), (2, .int t)]) (st' := [.int p, .ref 6]) (I' := I) rfl ?_
    refine zia rfl rfl (zin_ok (n := 12) (by omega) (by omega)) (hB 5 _ (zcell_12 (by decide) (by omega) (by omega))) ?_
    refine zg 1 (pc' := 24) (ls' := [(0, .ref 1), (1, .int p), (2, .int t)]) (st' := [.int t, .int (S 5 p.toNatClampNeg)]) (I' := I) rfl ?_
    refine zicmp rfl rfl (fun h2 => ?_) (fun h2 => ?_)
    · have h2 := zc_ne.1.mp h2
      refine zg 1 (pc' := 37) (ls' := [(0, .ref 1), (1, .int p), (2, .int t)]) (st' := [.int (-1)]) (I' := I) rfl ?_
      refine ziret rfl rfl rfl ?_
      refine ⟨rfl, ?_, rfl⟩
      unfold zoth
      first | rw [if_pos h1] | simp only [h1, h2, if_true, if_false]
    · have h2 := zc_ne.2.mp h2
      refine zg 3 (pc' := 32) (ls' := [(0, .ref 1), (1, .int p), (2, .int t)]) (st' := [.int p, .ref 5]) (I' := I) rfl ?_
      refine zia rfl rfl (zin_ok (n := 12) (by omega) (by omega)) (hB 4 _ (zcell_12 (by decide) (by omega) (by omega))) ?_
      refine zg 1 (pc' := 37) (ls' := [(0, .ref 1), (1, .int p), (2, .int t)]) (st' := [.int (S 4 p.toNatClampNeg)]) (I' := I) rfl ?_
      refine ziret rfl rfl rfl ?_
      refine ⟨rfl, ?_, rfl⟩
      unfold zoth
      first | rw [if_pos h1] | simp only [h1, h2, if_true, if_false]
  · have h1 := zc_ne.2.mp h1
    refine zg 3 (pc' := 15) (ls' := [(0, .ref 1), (1, .int p), (2, .int t)]) (st' := [.int p, .ref 6]) (I' := I) rfl ?_
    refine zia rfl rfl (zin_ok (n := 12) (by omega) (by omega)) (hB 5 _ (zcell_12 (by decide) (by omega) (by omega))) ?_
    refine ziret rfl rfl rfl ?_
    refine ⟨rfl, ?_, rfl⟩
    unfold zoth
    first | rw [if_pos h1] | simp only [h1, h2, if_true, if_false]
theorem zoth_in {S : Nat → Nat → Int32} (hV : zOK S) {p : Int32} {t : Int32} (h0 : 0 ≤ p.toInt) (hp : p.toInt < (S 0 11).toInt) (hn : ¬ zoth S p.toNatClampNeg t = -1) : 0 ≤ (zoth S p.toNatClampNeg t).toInt ∧ (zoth S p.toNatClampNeg t).toInt < (S 0 10).toInt := by
  have h := zOK_pipe hV h0 hp
  unfold zoth at hn ⊢
  split
  · exact h.2.1
  · rename_i q
    rw [if_neg q] at hn
    split
    · exact h.1
    · rename_i q2
      rw [if_neg q2] at hn
      exact absurd rfl hn
/-- bit y of x -/
def zbt (x y : Int32) : Bool := !(decide ((x >>> (y &&& 31)) &&& 1 = 0))
theorem zbt_iff {x y : Int32} : zbt x y = true ↔ ¬ (x >>> (y &&& 31)) &&& 1 = 0 := by simp [zbt]
theorem zt_cont {sl D dy : Nat} {I : zM} (x y : Int32) : zW sl D dy 127 0 [(0, .int x), (1, .int y)] [] I (zRg 0 (zQb I (zbt x y = true))) :=
  zwp (zt_contains x y) (fun c v J h => ⟨h.1, h.2.1, by rw [zbt_iff]; exact h.2.2⟩)
def znst (S : Nat → Nat → Int32) (ts least lo p f : Int32) : Int32 :=
  if p = lo then f else if zop S p.toNatClampNeg = true then
    if least.toInt ≤ (S 7 p.toNatClampNeg).toInt then
      if zbt ts (S 5 p.toNatClampNeg) = true then (if zbt ts (S 4 p.toNatClampNeg) = true then f ||| (1 <<< (S 5 p.toNatClampNeg &&& 31)) else f) ||| (1 <<< (S 4 p.toNatClampNeg &&& 31))
      else if zbt ts (S 4 p.toNatClampNeg) = true then f ||| (1 <<< (S 5 p.toNatClampNeg &&& 31)) else f
    else f
  else f
def znbl (S : Nat → Nat → Int32) (ts least lo : Int32) : Nat → Int32 → Int32 → Int32
  | 0, _, f => f
  | k + 1, p, f => znbl S ts least lo k (p + 1) (znst S ts least lo p f)
theorem zadd1 {x : Int32} (h0 : 0 ≤ x.toInt) (h1 : x.toInt < 1000000000) : (x + 1).toInt = x.toInt + 1 := by
  have h2 : (1 : Int32).toInt = 1 := rfl
  rw [Int32.toInt_add, h2]
  exact Int.bmod_eq_of_le (by omega) (by omega)
theorem zt_nbl {sl D dy : Nat} {I : zM} {S : Nat → Nat → Int32} (hB : zSB 1 S I) (hV : zOK S) (ts least lo : Int32) : ∀ (k : Nat) (p f : Int32) (h0 : 0 ≤ p.toInt) (hk : p.toInt + (k : Int) = (S 0 11).toInt), zW sl (D + 1) dy 3 6 [(5, .int p), (4, .int f), (0, .ref 135), (1, .int ts), (2, .int least), (3, .int lo)] [] I (zRg 0 (zQf I (some (.int (znbl S ts least lo k p f))))) := by
  intro k
  induction k with
  | zero =>
    intro p f h0 hk
    have hT := hV.1
    have hP := hV.2.1
    have z0 := zi0
    have z8 := zi8
    have z20 := zi20
    refine zg 3 (pc' := 12) (ls' := [(5, .int p), (4, .int f), (0, .ref 135), (1, .int ts), (2, .int least), (3, .int lo)]) (st' := [.ref 1, .int p]) (I' := I) rfl ?_
    refine zgf rfl rfl rfl (hB 0 11 rfl) ?_
    refine zicmp rfl rfl (fun h1 => ?_) (fun h1 => ?_)
    · have h1 := zc_ge.1.mp h1
      refine zg 1 (pc' := 129) (ls' := [(5, .int p), (4, .int f), (0, .ref 135), (1, .int ts), (2, .int least), (3, .int lo)]) (st' := [.int f]) (I' := I) rfl ?_
      refine ziret rfl rfl rfl ?_
      exact zf1
    · have h1 := zc_ge.2.mp h1
      exfalso; omega
  | succ k ih =>
    intro p f h0 hk
    have hT := hV.1
    have hP := hV.2.1
    have z0 := zi0
    have z8 := zi8
    have z20 := zi20
    refine zg 3 (pc' := 12) (ls' := [(5, .int p), (4, .int f), (0, .ref 135), (1, .int ts), (2, .int least), (3, .int lo)]) (st' := [.ref 1, .int p]) (I' := I) rfl ?_
    refine zgf rfl rfl rfl (hB 0 11 rfl) ?_
    refine zicmp rfl rfl (fun h1 => ?_) (fun h1 => ?_)
    · have h1 := zc_ge.1.mp h1
      exfalso; omega
    · have h1 := zc_ge.2.mp h1
      refine zg 2 (pc' := 21) (ls' := [(5, .int p), (4, .int f), (0, .ref 135), (1, .int ts), (2, .int least), (3, .int lo)]) (st' := [.int lo, .int p]) (I' := I) rfl ?_
      refine zicmp rfl rfl (fun h2 => ?_) (fun h2 => ?_)
      · have h2 := zc_eq.1.mp h2
        refine zg 2 (pc' := 6) (ls' := [(5, .int (p + 1)), (4, .int f), (0, .ref 135), (1, .int ts), (2, .int least), (3, .int lo)]) (st' := []) (I' := I) rfl ?_
        have e : znst S ts least lo p f = f := by
          unfold znst
          simp only [*, if_true, if_false]
          try simp
        show zW _ _ _ _ _ _ _ _ (zRg 0 (zQf I (some (.int (znbl S ts least lo k (p + 1) (znst S ts least lo p f))))))
        rw [e]
        exact (ih (p + 1) f (by rw [zadd1 h0 (by omega)]; omega) (by rw [zadd1 h0 (by omega)]; omega))
      · have h2 := zc_eq.2.mp h2
        refine zg 3 (pc' := 30) (ls' := [(5, .int p), (4, .int f), (0, .ref 135), (1, .int ts), (2, .int least), (3, .int lo)]) (st' := [.int p, .ref 1]) (I' := I) rfl ?_
        refine zcb rfl rfl (zt_letsThrough hB hV p (by omega) (by omega)) (fun h3 => ?_) (fun h3 => ?_)
        · skip
          refine zg 5 (pc' := 45) (ls' := [(5, .int p), (4, .int f), (0, .ref 135), (1, .int ts), (2, .int least), (3, .int lo)]) (st' := [.int p, .ref 8]) (I' := I) rfl ?_
          refine zia rfl rfl (zin_ok (n := 12) (by omega) (by omega)) (hB 7 _ (zcell_12 (by decide) (by omega) (by omega))) ?_
          refine zg 1 (pc' := 47) (ls' := [(5, .int p), (4, .int f), (0, .ref 135), (1, .int ts), (2, .int least), (3, .int lo)]) (st' := [.int least, .int (S 7 p.toNatClampNeg)]) (I' := I) rfl ?_
          refine zicmp rfl rfl (fun h4 => ?_) (fun h4 => ?_)
          · have h4 := zc_ge.1.mp h4
            refine zg 5 (pc' := 63) (ls' := [(5, .int p), (4, .int f), (0, .ref 135), (1, .int ts), (2, .int least), (3, .int lo)]) (st' := [.int p, .ref 5, .int ts]) (I' := I) rfl ?_
            refine zia rfl rfl (zin_ok (n := 12) (by omega) (by omega)) (hB 4 _ (zcell_12 (by decide) (by omega) (by omega))) ?_
            refine zcb rfl rfl (zt_cont ts (S 4 p.toNatClampNeg)) (fun h5 => ?_) (fun h5 => ?_)
            · skip
              refine zg 7 (pc' := 82) (ls' := [(5, .int p), (4, .int f), (0, .ref 135), (1, .int ts), (2, .int least), (3, .int lo)]) (st' := [.int p, .ref 6, .int 1, .int f]) (I' := I) rfl ?_
              refine zia rfl rfl (zin_ok (n := 12) (by omega) (by omega)) (hB 5 _ (zcell_12 (by decide) (by omega) (by omega))) ?_
              refine zg 8 (pc' := 97) (ls' := [(4, .int ((f ||| (1 <<< ((S 5 p.toNatClampNeg) &&& 31))))), (5, .int p), (0, .ref 135), (1, .int ts), (2, .int least), (3, .int lo)]) (st' := [.int p, .ref 6, .int ts]) (I' := I) rfl ?_
              refine zia rfl rfl (zin_ok (n := 12) (by omega) (by omega)) (hB 5 _ (zcell_12 (by decide) (by omega) (by omega))) ?_
              refine zcb rfl rfl (zt_cont ts (S 5 p.toNatClampNeg)) (fun h6 => ?_) (fun h6 => ?_)
              · skip
                refine zg 7 (pc' := 116) (ls' := [(4, .int ((f ||| (1 <<< ((S 5 p.toNatClampNeg) &&& 31))))), (5, .int p), (0, .ref 135), (1, .int ts), (2, .int least), (3, .int lo)]) (st' := [.int p, .ref 5, .int 1, .int ((f ||| (1 <<< ((S 5 p.toNatClampNeg) &&& 31))))]) (I' := I) rfl ?_
                refine zia rfl rfl (zin_ok (n := 12) (by omega) (by omega)) (hB 4 _ (zcell_12 (by decide) (by omega) (by omega))) ?_
                refine zg 5 (pc' := 6) (ls' := [(5, .int (p + 1)), (4, .int (((f ||| (1 <<< ((S 5 p.toNatClampNeg) &&& 31))) ||| (1 <<< ((S 4 p.toNatClampNeg) &&& 31))))), (0, .ref 135), (1, .int ts), (2, .int least), (3, .int lo)]) (st' := []) (I' := I) rfl ?_
                have e : znst S ts least lo p f = ((f ||| (1 <<< ((S 5 p.toNatClampNeg) &&& 31))) ||| (1 <<< ((S 4 p.toNatClampNeg) &&& 31))) := by
                  unfold znst
                  simp only [*, if_true, if_false]
                  try simp
                show zW _ _ _ _ _ _ _ _ (zRg 0 (zQf I (some (.int (znbl S ts least lo k (p + 1) (znst S ts least lo p f))))))
                rw [e]
                exact (ih (p + 1) (((f ||| (1 <<< ((S 5 p.toNatClampNeg) &&& 31))) ||| (1 <<< ((S 4 p.toNatClampNeg) &&& 31)))) (by rw [zadd1 h0 (by omega)]; omega) (by rw [zadd1 h0 (by omega)]; omega))
              · skip
                refine zg 3 (pc' := 6) (ls' := [(5, .int (p + 1)), (4, .int ((f ||| (1 <<< ((S 5 p.toNatClampNeg) &&& 31))))), (0, .ref 135), (1, .int ts), (2, .int least), (3, .int lo)]) (st' := []) (I' := I) rfl ?_
                have e : znst S ts least lo p f = (f ||| (1 <<< ((S 5 p.toNatClampNeg) &&& 31))) := by
                  unfold znst
                  simp only [*, if_true, if_false]
                  try simp
                show zW _ _ _ _ _ _ _ _ (zRg 0 (zQf I (some (.int (znbl S ts least lo k (p + 1) (znst S ts least lo p f))))))
                rw [e]
                exact (ih (p + 1) ((f ||| (1 <<< ((S 5 p.toNatClampNeg) &&& 31)))) (by rw [zadd1 h0 (by omega)]; omega) (by rw [zadd1 h0 (by omega)]; omega))
            · skip
              refine zg 6 (pc' := 97) (ls' := [(5, .int p), (4, .int f), (0, .ref 135), (1, .int ts), (2, .int least), (3, .int lo)]) (st' := [.int p, .ref 6, .int ts]) (I' := I) rfl ?_
              refine zia rfl rfl (zin_ok (n := 12) (by omega) (by omega)) (hB 5 _ (zcell_12 (by decide) (by omega) (by omega))) ?_
              refine zcb rfl rfl (zt_cont ts (S 5 p.toNatClampNeg)) (fun h7 => ?_) (fun h7 => ?_)
              · skip
                refine zg 7 (pc' := 116) (ls' := [(5, .int p), (4, .int f), (0, .ref 135), (1, .int ts), (2, .int least), (3, .int lo)]) (st' := [.int p, .ref 5, .int 1, .int f]) (I' := I) rfl ?_
                refine zia rfl rfl (zin_ok (n := 12) (by omega) (by omega)) (hB 4 _ (zcell_12 (by decide) (by omega) (by omega))) ?_
                refine zg 5 (pc' := 6) (ls' := [(5, .int (p + 1)), (4, .int ((f ||| (1 <<< ((S 4 p.toNatClampNeg) &&& 31))))), (0, .ref 135), (1, .int ts), (2, .int least), (3, .int lo)]) (st' := []) (I' := I) rfl ?_
                have e : znst S ts least lo p f = (f ||| (1 <<< ((S 4 p.toNatClampNeg) &&& 31))) := by
                  unfold znst
                  simp only [*, if_true, if_false]
                  try simp
                show zW _ _ _ _ _ _ _ _ (zRg 0 (zQf I (some (.int (znbl S ts least lo k (p + 1) (znst S ts least lo p f))))))
                rw [e]
                exact (ih (p + 1) ((f ||| (1 <<< ((S 4 p.toNatClampNeg) &&& 31)))) (by rw [zadd1 h0 (by omega)]; omega) (by rw [zadd1 h0 (by omega)]; omega))
              · skip
                refine zg 3 (pc' := 6) (ls' := [(5, .int (p + 1)), (4, .int f), (0, .ref 135), (1, .int ts), (2, .int least), (3, .int lo)]) (st' := []) (I' := I) rfl ?_
                have e : znst S ts least lo p f = f := by
                  unfold znst
                  simp only [*, if_true, if_false]
                  try simp
                show zW _ _ _ _ _ _ _ _ (zRg 0 (zQf I (some (.int (znbl S ts least lo k (p + 1) (znst S ts least lo p f))))))
                rw [e]
                exact (ih (p + 1) f (by rw [zadd1 h0 (by omega)]; omega) (by rw [zadd1 h0 (by omega)]; omega))
          · have h4 := zc_ge.2.mp h4
            refine zg 3 (pc' := 6) (ls' := [(5, .int (p + 1)), (4, .int f), (0, .ref 135), (1, .int ts), (2, .int least), (3, .int lo)]) (st' := []) (I' := I) rfl ?_
            have e : znst S ts least lo p f = f := by
              unfold znst
              simp only [*, if_true, if_false]
              try simp
            show zW _ _ _ _ _ _ _ _ (zRg 0 (zQf I (some (.int (znbl S ts least lo k (p + 1) (znst S ts least lo p f))))))
            rw [e]
            exact (ih (p + 1) f (by rw [zadd1 h0 (by omega)]; omega) (by rw [zadd1 h0 (by omega)]; omega))
        · skip
          refine zg 3 (pc' := 6) (ls' := [(5, .int (p + 1)), (4, .int f), (0, .ref 135), (1, .int ts), (2, .int least), (3, .int lo)]) (st' := []) (I' := I) rfl ?_
          have e : znst S ts least lo p f = f := by
            unfold znst
            simp only [*, if_true, if_false]
            try simp
          show zW _ _ _ _ _ _ _ _ (zRg 0 (zQf I (some (.int (znbl S ts least lo k (p + 1) (znst S ts least lo p f))))))
          rw [e]
          exact (ih (p + 1) f (by rw [zadd1 h0 (by omega)]; omega) (by rw [zadd1 h0 (by omega)]; omega))
theorem zt_neighbours {sl D dy : Nat} {I : zM} {S : Nat → Nat → Int32} (hB : zSB 1 S I) (hV : zOK S) (ts least lo : Int32) : zW sl (D + 1) dy 3 0 [(0, .ref 135), (1, .int ts), (2, .int least), (3, .int lo)] [] I (zRg 0 (zQf I (some (.int (znbl S ts least lo (S 0 11).toInt.toNat 0 0))))) := by
  have hT := hV.1
  have hP := hV.2.1
  have z0 := zi0
  have z8 := zi8
  have z20 := zi20
  refine zg 4 (pc' := 6) (ls' := [(5, .int 0), (4, .int 0), (0, .ref 135), (1, .int ts), (2, .int least), (3, .int lo)]) (st' := []) (I' := I) rfl ?_
  exact zt_nbl hB hV ts least lo _ 0 0 (by omega) (by omega)
