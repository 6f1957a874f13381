/-! CONTRACTS: flows, ranks, sums -/
/-- what would flow through a pipe -/
def zldf (S : Nat → Nat → Int32) (p : Nat) : Int32 := S 2 (S 4 p).toNatClampNeg - S 2 (S 5 p).toNatClampNeg
def zlq (S : Nat → Nat → Int32) (p : Nat) (to : Int32) : Int32 :=
  if (if (S 1 to.toNatClampNeg - S 2 to.toNatClampNeg) < ((if 0 ≤ zldf S p then zldf S p else 0 - zldf S p) / 2) then (S 1 to.toNatClampNeg - S 2 to.toNatClampNeg) else ((if 0 ≤ zldf S p then zldf S p else 0 - zldf S p) / 2)) < (5 * S 7 p) then (if (S 1 to.toNatClampNeg - S 2 to.toNatClampNeg) < ((if 0 ≤ zldf S p then zldf S p else 0 - zldf S p) / 2) then (S 1 to.toNatClampNeg - S 2 to.toNatClampNeg) else ((if 0 ≤ zldf S p then zldf S p else 0 - zldf S p) / 2)) else (5 * S 7 p)
def zlit (S : Nat → Nat → Int32) (p : Nat) : Int32 := if zop S p = true then (if (zldf S p).toInt ≤ (0 : Int32).toInt then -(zlq S p (S 4 p)) else zlq S p (S 5 p)) else 0
theorem zt_litres {sl D dy : Nat} {I : zM} {S : Nat → Nat → Int32} (hB : zSB 1 S I) (hV : zOK S) (p : Int32) (h0 : 0 ≤ p.toInt) (hp : p.toInt < (S 0 11).toInt) : zW sl (D + 1) dy 59 0 [(0, .ref 1), (1, .int p)] [] I (zRg 0 (zQf I (some (.int (zlit S p.toNatClampNeg))))) := by
  have hT := hV.1
  have hP := hV.2.1
  have z0 := zi0
  have z8 := zi8
  have z20 := zi20
  have hF := zOK_pipe hV h0 hp
  refine zg 2 (pc' := 2) (ls' := [(0, .ref 1), (1, .int p)]) (st' := [.int p, .ref 1]) (I' := I) rfl ?_
  refine zcb rfl rfl (zt_letsThrough hB hV p (by omega) (by omega)) (fun h1 => ?_) (fun h1 => ?_)
  · skip
    refine zg 6 (pc' := 19) (ls' := [(0, .ref 1), (1, .int p)]) (st' := [.int p, .ref 5, .ref 3]) (I' := I) rfl ?_
    refine zia rfl rfl (zin_ok (n := 12) (by omega) (by omega)) (hB 4 _ (zcell_12 (by decide) (by omega) (by omega))) ?_
    refine zia rfl rfl (zin_ok (n := 8) (by omega) (by omega)) (hB 2 _ (zcell_8 (by decide) (by omega) (by omega))) ?_
    refine zg 5 (pc' := 30) (ls' := [(0, .ref 1), (1, .int p)]) (st' := [.int p, .ref 6, .ref 3, .int ((S 2 (S 4 p.toNatClampNeg).toNatClampNeg))]) (I' := I) rfl ?_
    refine zia rfl rfl (zin_ok (n := 12) (by omega) (by omega)) (hB 5 _ (zcell_12 (by decide) (by omega) (by omega))) ?_
    refine zia rfl rfl (zin_ok (n := 8) (by omega) (by omega)) (hB 2 _ (zcell_8 (by decide) (by omega) (by omega))) ?_
    refine zg 3 (pc' := 35) (ls' := [(2, .int (((S 2 (S 4 p.toNatClampNeg).toNatClampNeg) - (S 2 (S 5 p.toNatClampNeg).toNatClampNeg)))), (0, .ref 1), (1, .int p)]) (st' := [.int (((S 2 (S 4 p.toNatClampNeg).toNatClampNeg) - (S 2 (S 5 p.toNatClampNeg).toNatClampNeg)))]) (I' := I) rfl ?_
    refine zif rfl rfl (fun h2 => ?_) (fun h2 => ?_)
    · have h2 := zc_le.1.mp h2
      refine zg 3 (pc' := 52) (ls' := [(2, .int (((S 2 (S 4 p.toNatClampNeg).toNatClampNeg) - (S 2 (S 5 p.toNatClampNeg).toNatClampNeg)))), (0, .ref 1), (1, .int p)]) (st' := [.int p, .ref 5]) (I' := I) rfl ?_
      refine zia rfl rfl (zin_ok (n := 12) (by omega) (by omega)) (hB 4 _ (zcell_12 (by decide) (by omega) (by omega))) ?_
      refine zg 4 (pc' := 59) (ls' := [(3, .int (S 4 p.toNatClampNeg)), (2, .int (((S 2 (S 4 p.toNatClampNeg).toNatClampNeg) - (S 2 (S 5 p.toNatClampNeg).toNatClampNeg)))), (0, .ref 1), (1, .int p)]) (st' := [.int (S 4 p.toNatClampNeg), .ref 2]) (I' := I) rfl ?_
      refine zia rfl rfl (zin_ok (n := 8) (by omega) (by omega)) (hB 1 _ (zcell_8 (by decide) (by omega) (by omega))) ?_
      refine zg 3 (pc' := 65) (ls' := [(3, .int (S 4 p.toNatClampNeg)), (2, .int (((S 2 (S 4 p.toNatClampNeg).toNatClampNeg) - (S 2 (S 5 p.toNatClampNeg).toNatClampNeg)))), (0, .ref 1), (1, .int p)]) (st' := [.int (S 4 p.toNatClampNeg), .ref 3, .int ((S 1 (S 4 p.toNatClampNeg).toNatClampNeg))]) (I' := I) rfl ?_
      refine zia rfl rfl (zin_ok (n := 8) (by omega) (by omega)) (hB 2 _ (zcell_8 (by decide) (by omega) (by omega))) ?_
      refine zg 6 (pc' := 75) (ls' := [(4, .int (((S 1 (S 4 p.toNatClampNeg).toNatClampNeg) - (S 2 (S 4 p.toNatClampNeg).toNatClampNeg)))), (3, .int (S 4 p.toNatClampNeg)), (2, .int (((S 2 (S 4 p.toNatClampNeg).toNatClampNeg) - (S 2 (S 5 p.toNatClampNeg).toNatClampNeg)))), (0, .ref 1), (1, .int p)]) (st' := [.int p, .ref 8, .int 5]) (I' := I) rfl ?_
      refine zia rfl rfl (zin_ok (n := 12) (by omega) (by omega)) (hB 7 _ (zcell_12 (by decide) (by omega) (by omega))) ?_
      refine zg 4 (pc' := 82) (ls' := [(4, .int (((S 1 (S 4 p.toNatClampNeg).toNatClampNeg) - (S 2 (S 4 p.toNatClampNeg).toNatClampNeg)))), (3, .int (S 4 p.toNatClampNeg)), (2, .int (((S 2 (S 4 p.toNatClampNeg).toNatClampNeg) - (S 2 (S 5 p.toNatClampNeg).toNatClampNeg)))), (0, .ref 1), (1, .int p)]) (st' := [.int 2, .int ((if 0 ≤ ((S 2 (S 4 p.toNatClampNeg).toNatClampNeg) - (S 2 (S 5 p.toNatClampNeg).toNatClampNeg)) then ((S 2 (S 4 p.toNatClampNeg).toNatClampNeg) - (S 2 (S 5 p.toNatClampNeg).toNatClampNeg)) else 0 - ((S 2 (S 4 p.toNatClampNeg).toNatClampNeg) - (S 2 (S 5 p.toNatClampNeg).toNatClampNeg)))), .int ((5 * (S 7 p.toNatClampNeg)))]) (I' := I) rfl ?_
      refine zdivr rfl (by decide) ?_
      refine zg 5 (pc' := 94) (ls' := [(5, .int ((if (if ((S 1 (S 4 p.toNatClampNeg).toNatClampNeg) - (S 2 (S 4 p.toNatClampNeg).toNatClampNeg)) < ((if 0 ≤ ((S 2 (S 4 p.toNatClampNeg).toNatClampNeg) - (S 2 (S 5 p.toNatClampNeg).toNatClampNeg)) then ((S 2 (S 4 p.toNatClampNeg).toNatClampNeg) - (S 2 (S 5 p.toNatClampNeg).toNatClampNeg)) else 0 - ((S 2 (S 4 p.toNatClampNeg).toNatClampNeg) - (S 2 (S 5 p.toNatClampNeg).toNatClampNeg))) / 2) then ((S 1 (S 4 p.toNatClampNeg).toNatClampNeg) - (S 2 (S 4 p.toNatClampNeg).toNatClampNeg)) else ((if 0 ≤ ((S 2 (S 4 p.toNatClampNeg).toNatClampNeg) - (S 2 (S 5 p.toNatClampNeg).toNatClampNeg)) then ((S 2 (S 4 p.toNatClampNeg).toNatClampNeg) - (S 2 (S 5 p.toNatClampNeg).toNatClampNeg)) else 0 - ((S 2 (S 4 p.toNatClampNeg).toNatClampNeg) - (S 2 (S 5 p.toNatClampNeg).toNatClampNeg))) / 2)) < (5 * (S 7 p.toNatClampNeg)) then (if ((S 1 (S 4 p.toNatClampNeg).toNatClampNeg) - (S 2 (S 4 p.toNatClampNeg).toNatClampNeg)) < ((if 0 ≤ ((S 2 (S 4 p.toNatClampNeg).toNatClampNeg) - (S 2 (S 5 p.toNatClampNeg).toNatClampNeg)) then ((S 2 (S 4 p.toNatClampNeg).toNatClampNeg) - (S 2 (S 5 p.toNatClampNeg).toNatClampNeg)) else 0 - ((S 2 (S 4 p.toNatClampNeg).toNatClampNeg) - (S 2 (S 5 p.toNatClampNeg).toNatClampNeg))) / 2) then ((S 1 (S 4 p.toNatClampNeg).toNatClampNeg) - (S 2 (S 4 p.toNatClampNeg).toNatClampNeg)) else ((if 0 ≤ ((S 2 (S 4 p.toNatClampNeg).toNatClampNeg) - (S 2 (S 5 p.toNatClampNeg).toNatClampNeg)) then ((S 2 (S 4 p.toNatClampNeg).toNatClampNeg) - (S 2 (S 5 p.toNatClampNeg).toNatClampNeg)) else 0 - ((S 2 (S 4 p.toNatClampNeg).toNatClampNeg) - (S 2 (S 5 p.toNatClampNeg).toNatClampNeg))) / 2)) else (5 * (S 7 p.toNatClampNeg))))), (4, .int (((S 1 (S 4 p.toNatClampNeg).toNatClampNeg) - (S 2 (S 4 p.toNatClampNeg).toNatClampNeg)))), (3, .int (S 4 p.toNatClampNeg)), (2, .int (((S 2 (S 4 p.toNatClampNeg).toNatClampNeg) - (S 2 (S 5 p.toNatClampNeg).toNatClampNeg)))), (0, .ref 1), (1, .int p)]) (st' := [.int (((S 2 (S 4 p.toNatClampNeg).toNatClampNeg) - (S 2 (S 5 p.toNatClampNeg).toNatClampNeg)))]) (I' := I) rfl ?_
      refine zif rfl rfl (fun h3 => ?_) (fun h3 => ?_)
      · have h3 := zc_le.1.mp h3
        refine zg 2 (pc' := 105) (ls' := [(5, .int ((if (if ((S 1 (S 4 p.toNatClampNeg).toNatClampNeg) - (S 2 (S 4 p.toNatClampNeg).toNatClampNeg)) < ((if 0 ≤ ((S 2 (S 4 p.toNatClampNeg).toNatClampNeg) - (S 2 (S 5 p.toNatClampNeg).toNatClampNeg)) then ((S 2 (S 4 p.toNatClampNeg).toNatClampNeg) - (S 2 (S 5 p.toNatClampNeg).toNatClampNeg)) else 0 - ((S 2 (S 4 p.toNatClampNeg).toNatClampNeg) - (S 2 (S 5 p.toNatClampNeg).toNatClampNeg))) / 2) then ((S 1 (S 4 p.toNatClampNeg).toNatClampNeg) - (S 2 (S 4 p.toNatClampNeg).toNatClampNeg)) else ((if 0 ≤ ((S 2 (S 4 p.toNatClampNeg).toNatClampNeg) - (S 2 (S 5 p.toNatClampNeg).toNatClampNeg)) then ((S 2 (S 4 p.toNatClampNeg).toNatClampNeg) - (S 2 (S 5 p.toNatClampNeg).toNatClampNeg)) else 0 - ((S 2 (S 4 p.toNatClampNeg).toNatClampNeg) - (S 2 (S 5 p.toNatClampNeg).toNatClampNeg))) / 2)) < (5 * (S 7 p.toNatClampNeg)) then (if ((S 1 (S 4 p.toNatClampNeg).toNatClampNeg) - (S 2 (S 4 p.toNatClampNeg).toNatClampNeg)) < ((if 0 ≤ ((S 2 (S 4 p.toNatClampNeg).toNatClampNeg) - (S 2 (S 5 p.toNatClampNeg).toNatClampNeg)) then ((S 2 (S 4 p.toNatClampNeg).toNatClampNeg) - (S 2 (S 5 p.toNatClampNeg).toNatClampNeg)) else 0 - ((S 2 (S 4 p.toNatClampNeg).toNatClampNeg) - (S 2 (S 5 p.toNatClampNeg).toNatClampNeg))) / 2) then ((S 1 (S 4 p.toNatClampNeg).toNatClampNeg) - (S 2 (S 4 p.toNatClampNeg).toNatClampNeg)) else ((if 0 ≤ ((S 2 (S 4 p.toNatClampNeg).toNatClampNeg) - (S 2 (S 5 p.toNatClampNeg).toNatClampNeg)) then ((S 2 (S 4 p.toNatClampNeg).toNatClampNeg) - (S 2 (S 5 p.toNatClampNeg).toNatClampNeg)) else 0 - ((S 2 (S 4 p.toNatClampNeg).toNatClampNeg) - (S 2 (S 5 p.toNatClampNeg).toNatClampNeg))) / 2)) else (5 * (S 7 p.toNatClampNeg))))), (4, .int (((S 1 (S 4 p.toNatClampNeg).toNatClampNeg) - (S 2 (S 4 p.toNatClampNeg).toNatClampNeg)))), (3, .int (S 4 p.toNatClampNeg)), (2, .int (((S 2 (S 4 p.toNatClampNeg).toNatClampNeg) - (S 2 (S 5 p.toNatClampNeg).toNatClampNeg)))), (0, .ref 1), (1, .int p)]) (st' := [.int ((-((if (if ((S 1 (S 4 p.toNatClampNeg).toNatClampNeg) - (S 2 (S 4 p.toNatClampNeg).toNatClampNeg)) < ((if 0 ≤ ((S 2 (S 4 p.toNatClampNeg).toNatClampNeg) - (S 2 (S 5 p.toNatClampNeg).toNatClampNeg)) then ((S 2 (S 4 p.toNatClampNeg).toNatClampNeg) - (S 2 (S 5 p.toNatClampNeg).toNatClampNeg)) else 0 - ((S 2 (S 4 p.toNatClampNeg).toNatClampNeg) - (S 2 (S 5 p.toNatClampNeg).toNatClampNeg))) / 2) then ((S 1 (S 4 p.toNatClampNeg).toNatClampNeg) - (S 2 (S 4 p.toNatClampNeg).toNatClampNeg)) else ((if 0 ≤ ((S 2 (S 4 p.toNatClampNeg).toNatClampNeg) - (S 2 (S 5 p.toNatClampNeg).toNatClampNeg)) then ((S 2 (S 4 p.toNatClampNeg).toNatClampNeg) - (S 2 (S 5 p.toNatClampNeg).toNatClampNeg)) else 0 - ((S 2 (S 4 p.toNatClampNeg).toNatClampNeg) - (S 2 (S 5 p.toNatClampNeg).toNatClampNeg))) / 2)) < (5 * (S 7 p.toNatClampNeg)) then (if ((S 1 (S 4 p.toNatClampNeg).toNatClampNeg) - (S 2 (S 4 p.toNatClampNeg).toNatClampNeg)) < ((if 0 ≤ ((S 2 (S 4 p.toNatClampNeg).toNatClampNeg) - (S 2 (S 5 p.toNatClampNeg).toNatClampNeg)) then ((S 2 (S 4 p.toNatClampNeg).toNatClampNeg) - (S 2 (S 5 p.toNatClampNeg).toNatClampNeg)) else 0 - ((S 2 (S 4 p.toNatClampNeg).toNatClampNeg) - (S 2 (S 5 p.toNatClampNeg).toNatClampNeg))) / 2) then ((S 1 (S 4 p.toNatClampNeg).toNatClampNeg) - (S 2 (S 4 p.toNatClampNeg).toNatClampNeg)) else ((if 0 ≤ ((S 2 (S 4 p.toNatClampNeg).toNatClampNeg) - (S 2 (S 5 p.toNatClampNeg).toNatClampNeg)) then ((S 2 (S 4 p.toNatClampNeg).toNatClampNeg) - (S 2 (S 5 p.toNatClampNeg).toNatClampNeg)) else 0 - ((S 2 (S 4 p.toNatClampNeg).toNatClampNeg) - (S 2 (S 5 p.toNatClampNeg).toNatClampNeg))) / 2)) else (5 * (S 7 p.toNatClampNeg))))))]) (I' := I) rfl ?_
        refine ziret rfl rfl rfl ?_
        first
          | exact absurd h2 h3
          | exact absurd h4 h2
          | (have h2' : (zldf S p.toNatClampNeg).toInt ≤ (0 : Int32).toInt := h2
             have e : zlit S p.toNatClampNeg = -(zlq S p.toNatClampNeg (S 4 p.toNatClampNeg)) := by unfold zlit; rw [if_pos h1, if_pos h2']
             refine ⟨rfl, ?_, rfl⟩
             rw [e]
             rfl)
          | (have h2' : ¬ (zldf S p.toNatClampNeg).toInt ≤ (0 : Int32).toInt := h2
             have e : zlit S p.toNatClampNeg = zlq S p.toNatClampNeg (S 5 p.toNatClampNeg) := by unfold zlit; rw [if_pos h1, if_neg h2']
             refine ⟨rfl, ?_, rfl⟩
             rw [e]
             rfl)
          | (have e : zlit S p.toNatClampNeg = 0 := by unfold zlit; rw [if_neg h1]
             refine ⟨rfl, ?_, rfl⟩
             rw [e])
      · have h3 := zc_le.2.mp h3
        refine zg 2 (pc' := 105) (ls' := [(5, .int ((if (if ((S 1 (S 4 p.toNatClampNeg).toNatClampNeg) - (S 2 (S 4 p.toNatClampNeg).toNatClampNeg)) < ((if 0 ≤ ((S 2 (S 4 p.toNatClampNeg).toNatClampNeg) - (S 2 (S 5 p.toNatClampNeg).toNatClampNeg)) then ((S 2 (S 4 p.toNatClampNeg).toNatClampNeg) - (S 2 (S 5 p.toNatClampNeg).toNatClampNeg)) else 0 - ((S 2 (S 4 p.toNatClampNeg).toNatClampNeg) - (S 2 (S 5 p.toNatClampNeg).toNatClampNeg))) / 2) then ((S 1 (S 4 p.toNatClampNeg).toNatClampNeg) - (S 2 (S 4 p.toNatClampNeg).toNatClampNeg)) else ((if 0 ≤ ((S 2 (S 4 p.toNatClampNeg).toNatClampNeg) - (S 2 (S 5 p.toNatClampNeg).toNatClampNeg)) then ((S 2 (S 4 p.toNatClampNeg).toNatClampNeg) - (S 2 (S 5 p.toNatClampNeg).toNatClampNeg)) else 0 - ((S 2 (S 4 p.toNatClampNeg).toNatClampNeg) - (S 2 (S 5 p.toNatClampNeg).toNatClampNeg))) / 2)) < (5 * (S 7 p.toNatClampNeg)) then (if ((S 1 (S 4 p.toNatClampNeg).toNatClampNeg) - (S 2 (S 4 p.toNatClampNeg).toNatClampNeg)) < ((if 0 ≤ ((S 2 (S 4 p.toNatClampNeg).toNatClampNeg) - (S 2 (S 5 p.toNatClampNeg).toNatClampNeg)) then ((S 2 (S 4 p.toNatClampNeg).toNatClampNeg) - (S 2 (S 5 p.toNatClampNeg).toNatClampNeg)) else 0 - ((S 2 (S 4 p.toNatClampNeg).toNatClampNeg) - (S 2 (S 5 p.toNatClampNeg).toNatClampNeg))) / 2) then ((S 1 (S 4 p.toNatClampNeg).toNatClampNeg) - (S 2 (S 4 p.toNatClampNeg).toNatClampNeg)) else ((if 0 ≤ ((S 2 (S 4 p.toNatClampNeg).toNatClampNeg) - (S 2 (S 5 p.toNatClampNeg).toNatClampNeg)) then ((S 2 (S 4 p.toNatClampNeg).toNatClampNeg) - (S 2 (S 5 p.toNatClampNeg).toNatClampNeg)) else 0 - ((S 2 (S 4 p.toNatClampNeg).toNatClampNeg) - (S 2 (S 5 p.toNatClampNeg).toNatClampNeg))) / 2)) else (5 * (S 7 p.toNatClampNeg))))), (4, .int (((S 1 (S 4 p.toNatClampNeg).toNatClampNeg) - (S 2 (S 4 p.toNatClampNeg).toNatClampNeg)))), (3, .int (S 4 p.toNatClampNeg)), (2, .int (((S 2 (S 4 p.toNatClampNeg).toNatClampNeg) - (S 2 (S 5 p.toNatClampNeg).toNatClampNeg)))), (0, .ref 1), (1, .int p)]) (st' := [.int ((if (if ((S 1 (S 4 p.toNatClampNeg).toNatClampNeg) - (S 2 (S 4 p.toNatClampNeg).toNatClampNeg)) < ((if 0 ≤ ((S 2 (S 4 p.toNatClampNeg).toNatClampNeg) - (S 2 (S 5 p.toNatClampNeg).toNatClampNeg)) then ((S 2 (S 4 p.toNatClampNeg).toNatClampNeg) - (S 2 (S 5 p.toNatClampNeg).toNatClampNeg)) else 0 - ((S 2 (S 4 p.toNatClampNeg).toNatClampNeg) - (S 2 (S 5 p.toNatClampNeg).toNatClampNeg))) / 2) then ((S 1 (S 4 p.toNatClampNeg).toNatClampNeg) - (S 2 (S 4 p.toNatClampNeg).toNatClampNeg)) else ((if 0 ≤ ((S 2 (S 4 p.toNatClampNeg).toNatClampNeg) - (S 2 (S 5 p.toNatClampNeg).toNatClampNeg)) then ((S 2 (S 4 p.toNatClampNeg).toNatClampNeg) - (S 2 (S 5 p.toNatClampNeg).toNatClampNeg)) else 0 - ((S 2 (S 4 p.toNatClampNeg).toNatClampNeg) - (S 2 (S 5 p.toNatClampNeg).toNatClampNeg))) / 2)) < (5 * (S 7 p.toNatClampNeg)) then (if ((S 1 (S 4 p.toNatClampNeg).toNatClampNeg) - (S 2 (S 4 p.toNatClampNeg).toNatClampNeg)) < ((if 0 ≤ ((S 2 (S 4 p.toNatClampNeg).toNatClampNeg) - (S 2 (S 5 p.toNatClampNeg).toNatClampNeg)) then ((S 2 (S 4 p.toNatClampNeg).toNatClampNeg) - (S 2 (S 5 p.toNatClampNeg).toNatClampNeg)) else 0 - ((S 2 (S 4 p.toNatClampNeg).toNatClampNeg) - (S 2 (S 5 p.toNatClampNeg).toNatClampNeg))) / 2) then ((S 1 (S 4 p.toNatClampNeg).toNatClampNeg) - (S 2 (S 4 p.toNatClampNeg).toNatClampNeg)) else ((if 0 ≤ ((S 2 (S 4 p.toNatClampNeg).toNatClampNeg) - (S 2 (S 5 p.toNatClampNeg).toNatClampNeg)) then ((S 2 (S 4 p.toNatClampNeg).toNatClampNeg) - (S 2 (S 5 p.toNatClampNeg).toNatClampNeg)) else 0 - ((S 2 (S 4 p.toNatClampNeg).toNatClampNeg) - (S 2 (S 5 p.toNatClampNeg).toNatClampNeg))) / 2)) else (5 * (S 7 p.toNatClampNeg))))]) (I' := I) rfl ?_
        refine ziret rfl rfl rfl ?_
        first
          | exact absurd h2 h3
          | exact absurd h4 h2
          | (have h2' : (zldf S p.toNatClampNeg).toInt ≤ (0 : Int32).toInt := h2
             have e : zlit S p.toNatClampNeg = -(zlq S p.toNatClampNeg (S 4 p.toNatClampNeg)) := by unfold zlit; rw [if_pos h1, if_pos h2']
             refine ⟨rfl, ?_, rfl⟩
             rw [e]
             rfl)
          | (have h2' : ¬ (zldf S p.toNatClampNeg).toInt ≤ (0 : Int32).toInt := h2
             have e : zlit S p.toNatClampNeg = zlq S p.toNatClampNeg (S 5 p.toNatClampNeg) := by unfold zlit; rw [if_pos h1, if_neg h2']
             refine ⟨rfl, ?_, rfl⟩
             rw [e]
             rfl)
          | (have e : zlit S p.toNatClampNeg = 0 := by unfold zlit; rw [if_neg h1]
             refine ⟨rfl, ?_, rfl⟩
             rw [e])
    · have h2 := zc_le.2.mp h2
      refine zg 3 (pc' := 43) (ls' := [(2, .int (((S 2 (S 4 p.toNatClampNeg).toNatClampNeg) - (S 2 (S 5 p.toNatClampNeg).toNatClampNeg)))), (0, .ref 1), (1, .int p)]) (st' := [.int p, .ref 6]) (I' := I) rfl ?_
      refine zia rfl rfl (zin_ok (n := 12) (by omega) (by omega)) (hB 5 _ (zcell_12 (by decide) (by omega) (by omega))) ?_
      refine zg 5 (pc' := 59) (ls' := [(3, .int (S 5 p.toNatClampNeg)), (2, .int (((S 2 (S 4 p.toNatClampNeg).toNatClampNeg) - (S 2 (S 5 p.toNatClampNeg).toNatClampNeg)))), (0, .ref 1), (1, .int p)]) (st' := [.int (S 5 p.toNatClampNeg), .ref 2]) (I' := I) rfl ?_
      refine zia rfl rfl (zin_ok (n := 8) (by omega) (by omega)) (hB 1 _ (zcell_8 (by decide) (by omega) (by omega))) ?_
      refine zg 3 (pc' := 65) (ls' := [(3, .int (S 5 p.toNatClampNeg)), (2, .int (((S 2 (S 4 p.toNatClampNeg).toNatClampNeg) - (S 2 (S 5 p.toNatClampNeg).toNatClampNeg)))), (0, .ref 1), (1, .int p)]) (st' := [.int (S 5 p.toNatClampNeg), .ref 3, .int ((S 1 (S 5 p.toNatClampNeg).toNatClampNeg))]) (I' := I) rfl ?_
      refine zia rfl rfl (zin_ok (n := 8) (by omega) (by omega)) (hB 2 _ (zcell_8 (by decide) (by omega) (by omega))) ?_
      refine zg 6 (pc' := 75) (ls' := [(4, .int (((S 1 (S 5 p.toNatClampNeg).toNatClampNeg) - (S 2 (S 5 p.toNatClampNeg).toNatClampNeg)))), (3, .int (S 5 p.toNatClampNeg)), (2, .int (((S 2 (S 4 p.toNatClampNeg).toNatClampNeg) - (S 2 (S 5 p.toNatClampNeg).toNatClampNeg)))), (0, .ref 1), (1, .int p)]) (st' := [.int p, .ref 8, .int 5]) (I' := I) rfl ?_
      refine zia rfl rfl (zin_ok (n := 12) (by omega) (by omega)) (hB 7 _ (zcell_12 (by decide) (by omega) (by omega))) ?_
      refine zg 4 (pc' := 82) (ls' := [(4, .int (((S 1 (S 5 p.toNatClampNeg).toNatClampNeg) - (S 2 (S 5 p.toNatClampNeg).toNatClampNeg)))), (3, .int (S 5 p.toNatClampNeg)), (2, .int (((S 2 (S 4 p.toNatClampNeg).toNatClampNeg) - (S 2 (S 5 p.toNatClampNeg).toNatClampNeg)))), (0, .ref 1), (1, .int p)]) (st' := [.int 2, .int ((if 0 ≤ ((S 2 (S 4 p.toNatClampNeg).toNatClampNeg) - (S 2 (S 5 p.toNatClampNeg).toNatClampNeg)) then ((S 2 (S 4 p.toNatClampNeg).toNatClampNeg) - (S 2 (S 5 p.toNatClampNeg).toNatClampNeg)) else 0 - ((S 2 (S 4 p.toNatClampNeg).toNatClampNeg) - (S 2 (S 5 p.toNatClampNeg).toNatClampNeg)))), .int ((5 * (S 7 p.toNatClampNeg)))]) (I' := I) rfl ?_
      refine zdivr rfl (by decide) ?_
      refine zg 5 (pc' := 94) (ls' := [(5, .int ((if (if ((S 1 (S 5 p.toNatClampNeg).toNatClampNeg) - (S 2 (S 5 p.toNatClampNeg).toNatClampNeg)) < ((if 0 ≤ ((S 2 (S 4 p.toNatClampNeg).toNatClampNeg) - (S 2 (S 5 p.toNatClampNeg).toNatClampNeg)) then ((S 2 (S 4 p.toNatClampNeg).toNatClampNeg) - (S 2 (S 5 p.toNatClampNeg).toNatClampNeg)) else 0 - ((S 2 (S 4 p.toNatClampNeg).toNatClampNeg) - (S 2 (S 5 p.toNatClampNeg).toNatClampNeg))) / 2) then ((S 1 (S 5 p.toNatClampNeg).toNatClampNeg) - (S 2 (S 5 p.toNatClampNeg).toNatClampNeg)) else ((if 0 ≤ ((S 2 (S 4 p.toNatClampNeg).toNatClampNeg) - (S 2 (S 5 p.toNatClampNeg).toNatClampNeg)) then ((S 2 (S 4 p.toNatClampNeg).toNatClampNeg) - (S 2 (S 5 p.toNatClampNeg).toNatClampNeg)) else 0 - ((S 2 (S 4 p.toNatClampNeg).toNatClampNeg) - (S 2 (S 5 p.toNatClampNeg).toNatClampNeg))) / 2)) < (5 * (S 7 p.toNatClampNeg)) then (if ((S 1 (S 5 p.toNatClampNeg).toNatClampNeg) - (S 2 (S 5 p.toNatClampNeg).toNatClampNeg)) < ((if 0 ≤ ((S 2 (S 4 p.toNatClampNeg).toNatClampNeg) - (S 2 (S 5 p.toNatClampNeg).toNatClampNeg)) then ((S 2 (S 4 p.toNatClampNeg).toNatClampNeg) - (S 2 (S 5 p.toNatClampNeg).toNatClampNeg)) else 0 - ((S 2 (S 4 p.toNatClampNeg).toNatClampNeg) - (S 2 (S 5 p.toNatClampNeg).toNatClampNeg))) / 2) then ((S 1 (S 5 p.toNatClampNeg).toNatClampNeg) - (S 2 (S 5 p.toNatClampNeg).toNatClampNeg)) else ((if 0 ≤ ((S 2 (S 4 p.toNatClampNeg).toNatClampNeg) - (S 2 (S 5 p.toNatClampNeg).toNatClampNeg)) then ((S 2 (S 4 p.toNatClampNeg).toNatClampNeg) - (S 2 (S 5 p.toNatClampNeg).toNatClampNeg)) else 0 - ((S 2 (S 4 p.toNatClampNeg).toNatClampNeg) - (S 2 (S 5 p.toNatClampNeg).toNatClampNeg))) / 2)) else (5 * (S 7 p.toNatClampNeg))))), (4, .int (((S 1 (S 5 p.toNatClampNeg).toNatClampNeg) - (S 2 (S 5 p.toNatClampNeg).toNatClampNeg)))), (3, .int (S 5 p.toNatClampNeg)), (2, .int (((S 2 (S 4 p.toNatClampNeg).toNatClampNeg) - (S 2 (S 5 p.toNatClampNeg).toNatClampNeg)))), (0, .ref 1), (1, .int p)]) (st' := [.int (((S 2 (S 4 p.toNatClampNeg).toNatClampNeg) - (S 2 (S 5 p.toNatClampNeg).toNatClampNeg)))]) (I' := I) rfl ?_
      refine zif rfl rfl (fun h4 => ?_) (fun h4 => ?_)
      · have h4 := zc_le.1.mp h4
        refine zg 2 (pc' := 105) (ls' := [(5, .int ((if (if ((S 1 (S 5 p.toNatClampNeg).toNatClampNeg) - (S 2 (S 5 p.toNatClampNeg).toNatClampNeg)) < ((if 0 ≤ ((S 2 (S 4 p.toNatClampNeg).toNatClampNeg) - (S 2 (S 5 p.toNatClampNeg).toNatClampNeg)) then ((S 2 (S 4 p.toNatClampNeg).toNatClampNeg) - (S 2 (S 5 p.toNatClampNeg).toNatClampNeg)) else 0 - ((S 2 (S 4 p.toNatClampNeg).toNatClampNeg) - (S 2 (S 5 p.toNatClampNeg).toNatClampNeg))) / 2) then ((S 1 (S 5 p.toNatClampNeg).toNatClampNeg) - (S 2 (S 5 p.toNatClampNeg).toNatClampNeg)) else ((if 0 ≤ ((S 2 (S 4 p.toNatClampNeg).toNatClampNeg) - (S 2 (S 5 p.toNatClampNeg).toNatClampNeg)) then ((S 2 (S 4 p.toNatClampNeg).toNatClampNeg) - (S 2 (S 5 p.toNatClampNeg).toNatClampNeg)) else 0 - ((S 2 (S 4 p.toNatClampNeg).toNatClampNeg) - (S 2 (S 5 p.toNatClampNeg).toNatClampNeg))) / 2)) < (5 * (S 7 p.toNatClampNeg)) then (if ((S 1 (S 5 p.toNatClampNeg).toNatClampNeg) - (S 2 (S 5 p.toNatClampNeg).toNatClampNeg)) < ((if 0 ≤ ((S 2 (S 4 p.toNatClampNeg).toNatClampNeg) - (S 2 (S 5 p.toNatClampNeg).toNatClampNeg)) then ((S 2 (S 4 p.toNatClampNeg).toNatClampNeg) - (S 2 (S 5 p.toNatClampNeg).toNatClampNeg)) else 0 - ((S 2 (S 4 p.toNatClampNeg).toNatClampNeg) - (S 2 (S 5 p.toNatClampNeg).toNatClampNeg))) / 2) then ((S 1 (S 5 p.toNatClampNeg).toNatClampNeg) - (S 2 (S 5 p.toNatClampNeg).toNatClampNeg)) else ((if 0 ≤ ((S 2 (S 4 p.toNatClampNeg).toNatClampNeg) - (S 2 (S 5 p.toNatClampNeg).toNatClampNeg)) then ((S 2 (S 4 p.toNatClampNeg).toNatClampNeg) - (S 2 (S 5 p.toNatClampNeg).toNatClampNeg)) else 0 - ((S 2 (S 4 p.toNatClampNeg).toNatClampNeg) - (S 2 (S 5 p.toNatClampNeg).toNatClampNeg))) / 2)) else (5 * (S 7 p.toNatClampNeg))))), (4, .int (((S 1 (S 5 p.toNatClampNeg).toNatClampNeg) - (S 2 (S 5 p.toNatClampNeg).toNatClampNeg)))), (3, .int (S 5 p.toNatClampNeg)), (2, .int (((S 2 (S 4 p.toNatClampNeg).toNatClampNeg) - (S 2 (S 5 p.toNatClampNeg).toNatClampNeg)))), (0, .ref 1), (1, .int p)]) (st' := [.int ((-((if (if ((S 1 (S 5 p.toNatClampNeg).toNatClampNeg) - (S 2 (S 5 p.toNatClampNeg).toNatClampNeg)) < ((if 0 ≤ ((S 2 (S 4 p.toNatClampNeg).toNatClampNeg) - (S 2 (S 5 p.toNatClampNeg).toNatClampNeg)) then ((S 2 (S 4 p.toNatClampNeg).toNatClampNeg) - (S 2 (S 5 p.toNatClampNeg).toNatClampNeg)) else 0 - ((S 2 (S 4 p.toNatClampNeg).toNatClampNeg) - (S 2 (S 5 p.toNatClampNeg).toNatClampNeg))) / 2) then ((S 1 (S 5 p.toNatClampNeg).toNatClampNeg) - (S 2 (S 5 p.toNatClampNeg).toNatClampNeg)) else ((if 0 ≤ ((S 2 (S 4 p.toNatClampNeg).toNatClampNeg) - (S 2 (S 5 p.toNatClampNeg).toNatClampNeg)) then ((S 2 (S 4 p.toNatClampNeg).toNatClampNeg) - (S 2 (S 5 p.toNatClampNeg).toNatClampNeg)) else 0 - ((S 2 (S 4 p.toNatClampNeg).toNatClampNeg) - (S 2 (S 5 p.toNatClampNeg).toNatClampNeg))) / 2)) < (5 * (S 7 p.toNatClampNeg)) then (if ((S 1 (S 5 p.toNatClampNeg).toNatClampNeg) - (S 2 (S 5 p.toNatClampNeg).toNatClampNeg)) < ((if 0 ≤ ((S 2 (S 4 p.toNatClampNeg).toNatClampNeg) - (S 2 (S 5 p.toNatClampNeg).toNatClampNeg)) then ((S 2 (S 4 p.toNatClampNeg).toNatClampNeg) - (S 2 (S 5 p.toNatClampNeg).toNatClampNeg)) else 0 - ((S 2 (S 4 p.toNatClampNeg).toNatClampNeg) - (S 2 (S 5 p.toNatClampNeg).toNatClampNeg))) / 2) then ((S 1 (S 5 p.toNatClampNeg).toNatClampNeg) - (S 2 (S 5 p.toNatClampNeg).toNatClampNeg)) else ((if 0 ≤ ((S 2 (S 4 p.toNatClampNeg).toNatClampNeg) - (S 2 (S 5 p.toNatClampNeg).toNatClampNeg)) then ((S 2 (S 4 p.toNatClampNeg).toNatClampNeg) - (S 2 (S 5 p.toNatClampNeg).toNatClampNeg)) else 0 - ((S 2 (S 4 p.toNatClampNeg).toNatClampNeg) - (S 2 (S 5 p.toNatClampNeg).toNatClampNeg))) / 2)) else (5 * (S 7 p.toNatClampNeg))))))]) (I' := I) rfl ?_
        refine ziret rfl rfl rfl ?_
        first
          | exact absurd h2 h3
          | exact absurd h4 h2
          | (have h2' : (zldf S p.toNatClampNeg).toInt ≤ (0 : Int32).toInt := h2
             have e : zlit S p.toNatClampNeg = -(zlq S p.toNatClampNeg (S 4 p.toNatClampNeg)) := by unfold zlit; rw [if_pos h1, if_pos h2']
             refine ⟨rfl, ?_, rfl⟩
             rw [e]
             rfl)
          | (have h2' : ¬ (zldf S p.toNatClampNeg).toInt ≤ (0 : Int32).toInt := h2
             have e : zlit S p.toNatClampNeg = zlq S p.toNatClampNeg (S 5 p.toNatClampNeg) := by unfold zlit; rw [if_pos h1, if_neg h2']
             refine ⟨rfl, ?_, rfl⟩
             rw [e]
             rfl)
          | (have e : zlit S p.toNatClampNeg = 0 := by unfold zlit; rw [if_neg h1]
             refine ⟨rfl, ?_, rfl⟩
             rw [e])
      · have h4 := zc_le.2.mp h4
        refine zg 2 (pc' := 105) (ls' := [(5, .int ((if (if ((S 1 (S 5 p.toNatClampNeg).toNatClampNeg) - (S 2 (S 5 p.toNatClampNeg).toNatClampNeg)) < ((if 0 ≤ ((S 2 (S 4 p.toNatClampNeg).toNatClampNeg) - (S 2 (S 5 p.toNatClampNeg).toNatClampNeg)) then ((S 2 (S 4 p.toNatClampNeg).toNatClampNeg) - (S 2 (S 5 p.toNatClampNeg).toNatClampNeg)) else 0 - ((S 2 (S 4 p.toNatClampNeg).toNatClampNeg) - (S 2 (S 5 p.toNatClampNeg).toNatClampNeg))) / 2) then ((S 1 (S 5 p.toNatClampNeg).toNatClampNeg) - (S 2 (S 5 p.toNatClampNeg).toNatClampNeg)) else ((if 0 ≤ ((S 2 (S 4 p.toNatClampNeg).toNatClampNeg) - (S 2 (S 5 p.toNatClampNeg).toNatClampNeg)) then ((S 2 (S 4 p.toNatClampNeg).toNatClampNeg) - (S 2 (S 5 p.toNatClampNeg).toNatClampNeg)) else 0 - ((S 2 (S 4 p.toNatClampNeg).toNatClampNeg) - (S 2 (S 5 p.toNatClampNeg).toNatClampNeg))) / 2)) < (5 * (S 7 p.toNatClampNeg)) then (if ((S 1 (S 5 p.toNatClampNeg).toNatClampNeg) - (S 2 (S 5 p.toNatClampNeg).toNatClampNeg)) < ((if 0 ≤ ((S 2 (S 4 p.toNatClampNeg).toNatClampNeg) - (S 2 (S 5 p.toNatClampNeg).toNatClampNeg)) then ((S 2 (S 4 p.toNatClampNeg).toNatClampNeg) - (S 2 (S 5 p.toNatClampNeg).toNatClampNeg)) else 0 - ((S 2 (S 4 p.toNatClampNeg).toNatClampNeg) - (S 2 (S 5 p.toNatClampNeg).toNatClampNeg))) / 2) then ((S 1 (S 5 p.toNatClampNeg).toNatClampNeg) - (S 2 (S 5 p.toNatClampNeg).toNatClampNeg)) else ((if 0 ≤ ((S 2 (S 4 p.toNatClampNeg).toNatClampNeg) - (S 2 (S 5 p.toNatClampNeg).toNatClampNeg)) then ((S 2 (S 4 p.toNatClampNeg).toNatClampNeg) - (S 2 (S 5 p.toNatClampNeg).toNatClampNeg)) else 0 - ((S 2 (S 4 p.toNatClampNeg).toNatClampNeg) - (S 2 (S 5 p.toNatClampNeg).toNatClampNeg))) / 2)) else (5 * (S 7 p.toNatClampNeg))))), (4, .int (((S 1 (S 5 p.toNatClampNeg).toNatClampNeg) - (S 2 (S 5 p.toNatClampNeg).toNatClampNeg)))), (3, .int (S 5 p.toNatClampNeg)), (2, .int (((S 2 (S 4 p.toNatClampNeg).toNatClampNeg) - (S 2 (S 5 p.toNatClampNeg).toNatClampNeg)))), (0, .ref 1), (1, .int p)]) (st' := [.int ((if (if ((S 1 (S 5 p.toNatClampNeg).toNatClampNeg) - (S 2 (S 5 p.toNatClampNeg).toNatClampNeg)) < ((if 0 ≤ ((S 2 (S 4 p.toNatClampNeg).toNatClampNeg) - (S 2 (S 5 p.toNatClampNeg).toNatClampNeg)) then ((S 2 (S 4 p.toNatClampNeg).toNatClampNeg) - (S 2 (S 5 p.toNatClampNeg).toNatClampNeg)) else 0 - ((S 2 (S 4 p.toNatClampNeg).toNatClampNeg) - (S 2 (S 5 p.toNatClampNeg).toNatClampNeg))) / 2) then ((S 1 (S 5 p.toNatClampNeg).toNatClampNeg) - (S 2 (S 5 p.toNatClampNeg).toNatClampNeg)) else ((if 0 ≤ ((S 2 (S 4 p.toNatClampNeg).toNatClampNeg) - (S 2 (S 5 p.toNatClampNeg).toNatClampNeg)) then ((S 2 (S 4 p.toNatClampNeg).toNatClampNeg) - (S 2 (S 5 p.toNatClampNeg).toNatClampNeg)) else 0 - ((S 2 (S 4 p.toNatClampNeg).toNatClampNeg) - (S 2 (S 5 p.toNatClampNeg).toNatClampNeg))) / 2)) < (5 * (S 7 p.toNatClampNeg)) then (if ((S 1 (S 5 p.toNatClampNeg).toNatClampNeg) - (S 2 (S 5 p.toNatClampNeg).toNatClampNeg)) < ((if 0 ≤ ((S 2 (S 4 p.toNatClampNeg).toNatClampNeg) - (S 2 (S 5 p.toNatClampNeg).toNatClampNeg)) then ((S 2 (S 4 p.toNatClampNeg).toNatClampNeg) - (S 2 (S 5 p.toNatClampNeg).toNatClampNeg)) else 0 - ((S 2 (S 4 p.toNatClampNeg).toNatClampNeg) - (S 2 (S 5 p.toNatClampNeg).toNatClampNeg))) / 2) then ((S 1 (S 5 p.toNatClampNeg).toNatClampNeg) - (S 2 (S 5 p.toNatClampNeg).toNatClampNeg)) else ((if 0 ≤ ((S 2 (S 4 p.toNatClampNeg).toNatClampNeg) - (S 2 (S 5 p.toNatClampNeg).toNatClampNeg)) then ((S 2 (S 4 p.toNatClampNeg).toNatClampNeg) - (S 2 (S 5 p.toNatClampNeg).toNatClampNeg)) else 0 - ((S 2 (S 4 p.toNatClampNeg).toNatClampNeg) - (S 2 (S 5 p.toNatClampNeg).toNatClampNeg))) / 2)) else (5 * (S 7 p.toNatClampNeg))))]) (I' := I) rfl ?_
        refine ziret rfl rfl rfl ?_
        first
          | exact absurd h2 h3
          | exact absurd h4 h2
          | (have h2' : (zldf S p.toNatClampNeg).toInt ≤ (0 : Int32).toInt := h2
             have e : zlit S p.toNatClampNeg = -(zlq S p.toNatClampNeg (S 4 p.toNatClampNeg)) := by unfold zlit; rw [if_pos h1, if_pos h2']
             refine ⟨rfl, ?_, rfl⟩
             rw [e]
             rfl)
          | (have h2' : ¬ (zldf S p.toNatClampNeg).toInt ≤ (0 : Int32).toInt := h2
             have e : zlit S p.toNatClampNeg = zlq S p.toNatClampNeg (S 5 p.toNatClampNeg) := by unfold zlit; rw [if_pos h1, if_neg h2']
             refine ⟨rfl, ?_, rfl⟩
             rw [e]
             rfl)
          | (have e : zlit S p.toNatClampNeg = 0 := by unfold zlit; rw [if_neg h1]
             refine ⟨rfl, ?_, rfl⟩
             rw [e])
  · skip
    refine zg 2 (pc' := 9) (ls' := [(0, .ref 1), (1, .int p)]) (st' := [.int 0]) (I' := I) rfl ?_
    refine ziret rfl rfl rfl ?_
    first
      | exact absurd h2 h3
      | exact absurd h4 h2
      | (have h2' : (zldf S p.toNatClampNeg).toInt ≤ (0 : Int32).toInt := h2
         have e : zlit S p.toNatClampNeg = -(zlq S p.toNatClampNeg (S 4 p.toNatClampNeg)) := by unfold zlit; rw [if_pos h1, if_pos h2']
         refine ⟨rfl, ?_, rfl⟩
         rw [e]
         rfl)
      | (have h2' : ¬ (zldf S p.toNatClampNeg).toInt ≤ (0 : Int32).toInt := h2
         have e : zlit S p.toNatClampNeg = zlq S p.toNatClampNeg (S 5 p.toNatClampNeg) := by unfold zlit; rw [if_pos h1, if_neg h2']
         refine ⟨rfl, ?_, rfl⟩
         rw [e]
         rfl)
      | (have e : zlit S p.toNatClampNeg = 0 := by unfold zlit; rw [if_neg h1]
         refine ⟨rfl, ?_, rfl⟩
         rw [e])
theorem zand63 (x : Int32) : 0 ≤ (x &&& 63).toInt ∧ (x &&& 63).toInt ≤ 63 := by
  have h1 : (x &&& 63).toBitVec.toNat ≤ 63 := by
    rw [Int32.toBitVec_and, BitVec.toNat_and]
    exact Nat.and_le_right
  have h2 : (x &&& 63).toInt = ((x &&& 63).toBitVec.toNat : Int) := by
    rw [← Int32.toInt_toBitVec]
    exact BitVec.toInt_eq_toNat_of_lt (by omega)
  omega
def zbc5 (x : Int32) : Int32 := x &&& 63
def zbc4 (x : Int32) : Int32 := zbc5 (x + (x.toUInt32 >>> ((16 : Int32).toUInt32 &&& Int32.toUInt32 31)).toInt32)
def zbc3 (x : Int32) : Int32 := zbc4 (x + (x.toUInt32 >>> ((8 : Int32).toUInt32 &&& Int32.toUInt32 31)).toInt32)
def zbc2 (x : Int32) : Int32 := zbc3 ((x + (x.toUInt32 >>> ((4 : Int32).toUInt32 &&& Int32.toUInt32 31)).toInt32) &&& 252645135)
def zbc1 (x : Int32) : Int32 := zbc2 ((x &&& 858993459) + ((x.toUInt32 >>> ((2 : Int32).toUInt32 &&& Int32.toUInt32 31)).toInt32 &&& 858993459))
def zbc (x : Int32) : Int32 := zbc1 (x - ((x.toUInt32 >>> ((1 : Int32).toUInt32 &&& Int32.toUInt32 31)).toInt32 &&& 1431655765))
theorem zbc_in (x : Int32) : 0 ≤ (zbc x).toInt ∧ (zbc x).toInt ≤ 63 := zand63 _
theorem zt_bc5 {sl D dy : Nat} {I : zM} (x : Int32) : zW sl (D) dy 194 48 [(0, .int x)] [] I (zRg 0 (zQf I (some (.int (zbc5 x))))) := by
  refine zg 3 (pc' := 52) (ls' := [(0, .int x)]) (st' := [.int (x &&& 63)]) (I' := I) rfl ?_
  refine ziret rfl rfl rfl ?_
  exact zf1
theorem zt_bc4 {sl D dy : Nat} {I : zM} (x : Int32) : zW sl (D) dy 194 41 [(0, .int x)] [] I (zRg 0 (zQf I (some (.int (zbc4 x))))) := by
  refine zg 6 (pc' := 48) (ls' := [(0, .int ((x + ((x : Int32).toUInt32 >>> ((16 : Int32).toUInt32 &&& Int32.toUInt32 31)).toInt32)))]) (st' := []) (I' := I) rfl ?_
  exact zt_bc5 _
theorem zt_bc3 {sl D dy : Nat} {I : zM} (x : Int32) : zW sl (D) dy 194 34 [(0, .int x)] [] I (zRg 0 (zQf I (some (.int (zbc3 x))))) := by
  refine zg 6 (pc' := 41) (ls' := [(0, .int ((x + ((x : Int32).toUInt32 >>> ((8 : Int32).toUInt32 &&& Int32.toUInt32 31)).toInt32)))]) (st' := []) (I' := I) rfl ?_
  exact zt_bc4 _
theorem zt_bc2 {sl D dy : Nat} {I : zM} (x : Int32) : zW sl (D) dy 194 24 [(0, .int x)] [] I (zRg 0 (zQf I (some (.int (zbc2 x))))) := by
  refine zg 8 (pc' := 34) (ls' := [(0, .int (((x + ((x : Int32).toUInt32 >>> ((4 : Int32).toUInt32 &&& Int32.toUInt32 31)).toInt32) &&& 252645135)))]) (st' := []) (I' := I) rfl ?_
  exact zt_bc3 _
theorem zt_bc1 {sl D dy : Nat} {I : zM} (x : Int32) : zW sl (D) dy 194 10 [(0, .int x)] [] I (zRg 0 (zQf I (some (.int (zbc1 x))))) := by
  refine zg 10 (pc' := 24) (ls' := [(0, .int (((x &&& 858993459) + (((x : Int32).toUInt32 >>> ((2 : Int32).toUInt32 &&& Int32.toUInt32 31)).toInt32 &&& 858993459))))]) (st' := []) (I' := I) rfl ?_
  exact zt_bc2 _
theorem zt_bc0 {sl D dy : Nat} {I : zM} (x : Int32) : zW sl (D) dy 194 0 [(0, .int x)] [] I (zRg 0 (zQf I (some (.int (zbc x))))) := by
  refine zg 8 (pc' := 10) (ls' := [(0, .int ((x - (((x : Int32).toUInt32 >>> ((1 : Int32).toUInt32 &&& Int32.toUInt32 31)).toInt32 &&& 1431655765))))]) (st' := []) (I' := I) rfl ?_
  exact zt_bc1 _
/-- which tank stands before which -/
def ztb (S : Nat → Nat → Int32) (a b : Int32) : Bool :=
  if S 2 a.toNatClampNeg = S 2 b.toNatClampNeg then
    if zbc (S 3 a.toNatClampNeg) = zbc (S 3 b.toNatClampNeg) then decide (a.toInt < b.toInt) else decide ((zbc (S 3 a.toNatClampNeg)).toInt < (zbc (S 3 b.toNatClampNeg)).toInt)
  else decide ((S 2 b.toNatClampNeg).toInt < (S 2 a.toNatClampNeg).toInt)
def zpb (S : Nat → Nat → Int32) (a b : Int32) : Bool :=
  if S 9 a.toNatClampNeg = S 9 b.toNatClampNeg then
    if S 10 a.toNatClampNeg = S 10 b.toNatClampNeg then decide (a.toInt < b.toInt) else decide ((S 10 b.toNatClampNeg).toInt < (S 10 a.toNatClampNeg).toInt)
  else decide ((S 9 b.toNatClampNeg).toInt < (S 9 a.toNatClampNeg).toInt)
theorem ztb_irr (S : Nat → Nat → Int32) (a : Int32) : ztb S a a = false := by simp [ztb]
theorem zpb_irr (S : Nat → Nat → Int32) (a : Int32) : zpb S a a = false := by simp [zpb]
theorem zt_isTankBefore {sl D dy : Nat} {I : zM} {S : Nat → Nat → Int32} (hB : zSB 1 S I) (hV : zOK S) (a b : Int32) (ha : 0 ≤ a.toInt) (ha1 : a.toInt < (S 0 10).toInt) (hb : 0 ≤ b.toInt) (hb1 : b.toInt < (S 0 10).toInt) : zW sl (D + 1) dy 60 0 [(0, .ref 1), (1, .int a), (2, .int b)] [] I (zRg 0 (zQb I (ztb S a b = true))) := by
  have hT := hV.1
  have hP := hV.2.1
  have z0 := zi0
  have z8 := zi8
  have z20 := zi20
  refine zg 3 (pc' := 5) (ls' := [(0, .ref 1), (1, .int a), (2, .int b)]) (st' := [.int a, .ref 3]) (I' := I) rfl ?_
  refine zia rfl rfl (zin_ok (n := 8) (by omega) (by omega)) (hB 2 _ (zcell_8 (by decide) (by omega) (by omega))) ?_
  refine zg 3 (pc' := 11) (ls' := [(0, .ref 1), (1, .int a), (2, .int b)]) (st' := [.int b, .ref 3, .int (S 2 a.toNatClampNeg)]) (I' := I) rfl ?_
  refine zia rfl rfl (zin_ok (n := 8) (by omega) (by omega)) (hB 2 _ (zcell_8 (by decide) (by omega) (by omega))) ?_
  refine zicmp rfl rfl (fun h1 => ?_) (fun h1 => ?_)
  · have h1 := zc_eq.1.mp h1
    refine zg 3 (pc' := 41) (ls' := [(0, .ref 1), (1, .int a), (2, .int b)]) (st' := [.int a, .ref 4]) (I' := I) rfl ?_
    refine zia rfl rfl (zin_ok (n := 8) (by omega) (by omega)) (hB 3 _ (zcell_8 (by decide) (by omega) (by omega))) ?_
    refine zcf rfl rfl (zt_bc0 (S 3 a.toNatClampNeg)) ?_
    refine zg 4 (pc' := 51) (ls' := [(3, .int ((zbc (S 3 a.toNatClampNeg)))), (0, .ref 1), (1, .int a), (2, .int b)]) (st' := [.int b, .ref 4]) (I' := I) rfl ?_
    refine zia rfl rfl (zin_ok (n := 8) (by omega) (by omega)) (hB 3 _ (zcell_8 (by decide) (by omega) (by omega))) ?_
    refine zcf rfl rfl (zt_bc0 (S 3 b.toNatClampNeg)) ?_
    refine zg 3 (pc' := 60) (ls' := [(4, .int ((zbc (S 3 b.toNatClampNeg)))), (3, .int ((zbc (S 3 a.toNatClampNeg)))), (0, .ref 1), (1, .int a), (2, .int b)]) (st' := [.int ((zbc (S 3 b.toNatClampNeg))), .int ((zbc (S 3 a.toNatClampNeg)))]) (I' := I) rfl ?_
    refine zicmp rfl rfl (fun h2 => ?_) (fun h2 => ?_)
    · have h2 := zc_eq.1.mp h2
      refine zg 2 (pc' := 79) (ls' := [(4, .int ((zbc (S 3 b.toNatClampNeg)))), (3, .int ((zbc (S 3 a.toNatClampNeg)))), (0, .ref 1), (1, .int a), (2, .int b)]) (st' := [.int b, .int a]) (I' := I) rfl ?_
      refine zicmp rfl rfl (fun h3 => ?_) (fun h3 => ?_)
      · have h3 := zc_ge.1.mp h3
        refine zg 1 (pc' := 87) (ls' := [(4, .int ((zbc (S 3 b.toNatClampNeg)))), (3, .int ((zbc (S 3 a.toNatClampNeg)))), (0, .ref 1), (1, .int a), (2, .int b)]) (st' := [.int 0]) (I' := I) rfl ?_
        refine ziret rfl rfl rfl ?_
        exact zb0 (by simp only [ztb, *, if_true, if_false, ite_true, ite_false]; simp; try omega)
      · have h3 := zc_ge.2.mp h3
        refine zg 2 (pc' := 87) (ls' := [(4, .int ((zbc (S 3 b.toNatClampNeg)))), (3, .int ((zbc (S 3 a.toNatClampNeg)))), (0, .ref 1), (1, .int a), (2, .int b)]) (st' := [.int 1]) (I' := I) rfl ?_
        refine ziret rfl rfl rfl ?_
        exact zb1 (by simp only [ztb, *, if_true, if_false, ite_true, ite_false]; simp; try omega)
    · have h2 := zc_eq.2.mp h2
      refine zg 2 (pc' := 66) (ls' := [(4, .int ((zbc (S 3 b.toNatClampNeg)))), (3, .int ((zbc (S 3 a.toNatClampNeg)))), (0, .ref 1), (1, .int a), (2, .int b)]) (st' := [.int ((zbc (S 3 b.toNatClampNeg))), .int ((zbc (S 3 a.toNatClampNeg)))]) (I' := I) rfl ?_
      refine zicmp rfl rfl (fun h4 => ?_) (fun h4 => ?_)
      · have h4 := zc_ge.1.mp h4
        refine zg 2 (pc' := 87) (ls' := [(4, .int ((zbc (S 3 b.toNatClampNeg)))), (3, .int ((zbc (S 3 a.toNatClampNeg)))), (0, .ref 1), (1, .int a), (2, .int b)]) (st' := [.int 0]) (I' := I) rfl ?_
        refine ziret rfl rfl rfl ?_
        exact zb0 (by simp only [ztb, *, if_true, if_false, ite_true, ite_false]; simp; try omega)
      · have h4 := zc_ge.2.mp h4
        refine zg 2 (pc' := 87) (ls' := [(4, .int ((zbc (S 3 b.toNatClampNeg)))), (3, .int ((zbc (S 3 a.toNatClampNeg)))), (0, .ref 1), (1, .int a), (2, .int b)]) (st' := [.int 1]) (I' := I) rfl ?_
        refine ziret rfl rfl rfl ?_
        exact zb1 (by simp only [ztb, *, if_true, if_false, ite_true, ite_false]; simp; try omega)
  · have h1 := zc_eq.2.mp h1
    refine zg 3 (pc' := 20) (ls' := [(0, .ref 1), (1, .int a), (2, .int b)]) (st' := [.int a, .ref 3]) (I' := I) rfl ?_
    refine zia rfl rfl (zin_ok (n := 8) (by omega) (by omega)) (hB 2 _ (zcell_8 (by decide) (by omega) (by omega))) ?_
    refine zg 3 (pc' := 26) (ls' := [(0, .ref 1), (1, .int a), (2, .int b)]) (st' := [.int b, .ref 3, .int (S 2 a.toNatClampNeg)]) (I' := I) rfl ?_
    refine zia rfl rfl (zin_ok (n := 8) (by omega) (by omega)) (hB 2 _ (zcell_8 (by decide) (by omega) (by omega))) ?_
    refine zicmp rfl rfl (fun h5 => ?_) (fun h5 => ?_)
    · have h5 := zc_le.1.mp h5
      refine zg 1 (pc' := 35) (ls' := [(0, .ref 1), (1, .int a), (2, .int b)]) (st' := [.int 0]) (I' := I) rfl ?_
      refine ziret rfl rfl rfl ?_
      exact zb0 (by simp only [ztb, *, if_true, if_false, ite_true, ite_false]; simp; try omega)
    · have h5 := zc_le.2.mp h5
      refine zg 2 (pc' := 35) (ls' := [(0, .ref 1), (1, .int a), (2, .int b)]) (st' := [.int 1]) (I' := I) rfl ?_
      refine ziret rfl rfl rfl ?_
      exact zb1 (by simp only [ztb, *, if_true, if_false, ite_true, ite_false]; simp; try omega)
theorem zt_isPipeBefore {sl D dy : Nat} {I : zM} {S : Nat → Nat → Int32} (hB : zSB 1 S I) (hV : zOK S) (a b : Int32) (ha : 0 ≤ a.toInt) (ha1 : a.toInt < (S 0 11).toInt) (hb : 0 ≤ b.toInt) (hb1 : b.toInt < (S 0 11).toInt) : zW sl (D) dy 61 0 [(0, .ref 1), (1, .int a), (2, .int b)] [] I (zRg 0 (zQb I (zpb S a b = true))) := by
  have hT := hV.1
  have hP := hV.2.1
  have z0 := zi0
  have z8 := zi8
  have z20 := zi20
  refine zg 3 (pc' := 5) (ls' := [(0, .ref 1), (1, .int a), (2, .int b)]) (st' := [.int a, .ref 10]) (I' := I) rfl ?_
  refine zia rfl rfl (zin_ok (n := 12) (by omega) (by omega)) (hB 9 _ (zcell_12 (by decide) (by omega) (by omega))) ?_
  refine zg 3 (pc' := 11) (ls' := [(0, .ref 1), (1, .int a), (2, .int b)]) (st' := [.int b, .ref 10, .int (S 9 a.toNatClampNeg)]) (I' := I) rfl ?_
  refine zia rfl rfl (zin_ok (n := 12) (by omega) (by omega)) (hB 9 _ (zcell_12 (by decide) (by omega) (by omega))) ?_
  refine zicmp rfl rfl (fun h1 => ?_) (fun h1 => ?_)
  · have h1 := zc_eq.1.mp h1
    refine zg 3 (pc' := 41) (ls' := [(0, .ref 1), (1, .int a), (2, .int b)]) (st' := [.int a, .ref 11]) (I' := I) rfl ?_
    refine zia rfl rfl (zin_ok (n := 12) (by omega) (by omega)) (hB 10 _ (zcell_12 (by decide) (by omega) (by omega))) ?_
    refine zg 3 (pc' := 47) (ls' := [(0, .ref 1), (1, .int a), (2, .int b)]) (st' := [.int b, .ref 11, .int (S 10 a.toNatClampNeg)]) (I' := I) rfl ?_
    refine zia rfl rfl (zin_ok (n := 12) (by omega) (by omega)) (hB 10 _ (zcell_12 (by decide) (by omega) (by omega))) ?_
    refine zicmp rfl rfl (fun h2 => ?_) (fun h2 => ?_)
    · have h2 := zc_eq.1.mp h2
      refine zg 2 (pc' := 76) (ls' := [(0, .ref 1), (1, .int a), (2, .int b)]) (st' := [.int b, .int a]) (I' := I) rfl ?_
      refine zicmp rfl rfl (fun h3 => ?_) (fun h3 => ?_)
      · have h3 := zc_ge.1.mp h3
        refine zg 1 (pc' := 84) (ls' := [(0, .ref 1), (1, .int a), (2, .int b)]) (st' := [.int 0]) (I' := I) rfl ?_
        refine ziret rfl rfl rfl ?_
        exact zb0 (by simp only [zpb, *, if_true, if_false, ite_true, ite_false]; simp; try omega)
      · have h3 := zc_ge.2.mp h3
        refine zg 2 (pc' := 84) (ls' := [(0, .ref 1), (1, .int a), (2, .int b)]) (st' := [.int 1]) (I' := I) rfl ?_
        refine ziret rfl rfl rfl ?_
        exact zb1 (by simp only [zpb, *, if_true, if_false, ite_true, ite_false]; simp; try omega)
    · have h2 := zc_eq.2.mp h2
      refine zg 3 (pc' := 56) (ls' := [(0, .ref 1), (1, .int a), (2, .int b)]) (st' := [.int a, .ref 11]) (I' := I) rfl ?_
      refine zia rfl rfl (zin_ok (n := 12) (by omega) (by omega)) (hB 10 _ (zcell_12 (by decide) (by omega) (by omega))) ?_
      refine zg 3 (pc' := 62) (ls' := [(0, .ref 1), (1, .int a), (2, .int b)]) (st' := [.int b, .ref 11, .int (S 10 a.toNatClampNeg)]) (I' := I) rfl ?_
      refine zia rfl rfl (zin_ok (n := 12) (by omega) (by omega)) (hB 10 _ (zcell_12 (by decide) (by omega) (by omega))) ?_
      refine zicmp rfl rfl (fun h4 => ?_) (fun h4 => ?_)
      · have h4 := zc_le.1.mp h4
        refine zg 2 (pc' := 84) (ls' := [(0, .ref 1), (1, .int a), (2, .int b)]) (st' := [.int 0]) (I' := I) rfl ?_
        refine ziret rfl rfl rfl ?_
        exact zb0 (by simp only [zpb, *, if_true, if_false, ite_true, ite_false]; simp; try omega)
      · have h4 := zc_le.2.mp h4
        refine zg 2 (pc' := 84) (ls' := [(0, .ref 1), (1, .int a), (2, .int b)]) (st' := [.int 1]) (I' := I) rfl ?_
        refine ziret rfl rfl rfl ?_
        exact zb1 (by simp only [zpb, *, if_true, if_false, ite_true, ite_false]; simp; try omega)
  · have h1 := zc_eq.2.mp h1
    refine zg 3 (pc' := 20) (ls' := [(0, .ref 1), (1, .int a), (2, .int b)]) (st' := [.int a, .ref 10]) (I' := I) rfl ?_
    refine zia rfl rfl (zin_ok (n := 12) (by omega) (by omega)) (hB 9 _ (zcell_12 (by decide) (by omega) (by omega))) ?_
    refine zg 3 (pc' := 26) (ls' := [(0, .ref 1), (1, .int a), (2, .int b)]) (st' := [.int b, .ref 10, .int (S 9 a.toNatClampNeg)]) (I' := I) rfl ?_
    refine zia rfl rfl (zin_ok (n := 12) (by omega) (by omega)) (hB 9 _ (zcell_12 (by decide) (by omega) (by omega))) ?_
    refine zicmp rfl rfl (fun h5 => ?_) (fun h5 => ?_)
    · have h5 := zc_le.1.mp h5
      refine zg 1 (pc' := 35) (ls' := [(0, .ref 1), (1, .int a), (2, .int b)]) (st' := [.int 0]) (I' := I) rfl ?_
      refine ziret rfl rfl rfl ?_
      exact zb0 (by simp only [zpb, *, if_true, if_false, ite_true, ite_false]; simp; try omega)
    · have h5 := zc_le.2.mp h5
      refine zg 2 (pc' := 35) (ls' := [(0, .ref 1), (1, .int a), (2, .int b)]) (st' := [.int 1]) (I' := I) rfl ?_
      refine ziret rfl rfl rfl ?_
      exact zb1 (by simp only [zpb, *, if_true, if_false, ite_true, ite_false]; simp; try omega)
/-- a sum of contents -/
def zsml (S : Nat → Nat → Int32) : Nat → Int32 → Int32 → Int32
  | 0, _, s => s
  | k + 1, t, s => zsml S k (t + 1) (s + S 2 t.toNatClampNeg)
def zsum (S : Nat → Nat → Int32) : Int32 := zsml S (S 0 10).toInt.toNat 0 0
theorem zt_sml {sl D dy : Nat} {I : zM} {S : Nat → Nat → Int32} (hB : zSB 1 S I) (hV : zOK S) : ∀ (k : Nat) (t s : Int32) (h0 : 0 ≤ t.toInt) (hk : t.toInt + (k : Int) = (S 0 10).toInt), zW sl (D) dy 62 4 [(0, .ref 1), (1, .int s), (2, .int t)] [] I (zRg 0 (zQf I (some (.int (zsml S k t s))))) := by
  intro k
  induction k with
  | zero =>
    intro t s h0 hk
    have hT := hV.1
    have hP := hV.2.1
    have z0 := zi0
    have z8 := zi8
    have z20 := zi20
    refine zg 2 (pc' := 6) (ls' := [(0, .ref 1), (1, .int s), (2, .int t)]) (st' := [.ref 1, .int t]) (I' := I) rfl ?_
    refine zgf rfl rfl rfl (hB 0 10 rfl) ?_
    refine zicmp rfl rfl (fun h1 => ?_) (fun h1 => ?_)
    · have h1 := zc_ge.1.mp h1
      refine zg 1 (pc' := 28) (ls' := [(0, .ref 1), (1, .int s), (2, .int t)]) (st' := [.int s]) (I' := I) rfl ?_
      refine ziret rfl rfl rfl ?_
      exact zf1
    · have h1 := zc_ge.2.mp h1
      exfalso; omega
  | succ k ih =>
    intro t s h0 hk
    have hT := hV.1
    have hP := hV.2.1
    have z0 := zi0
    have z8 := zi8
    have z20 := zi20
    refine zg 2 (pc' := 6) (ls' := [(0, .ref 1), (1, .int s), (2, .int t)]) (st' := [.ref 1, .int t]) (I' := I) rfl ?_
    refine zgf rfl rfl rfl (hB 0 10 rfl) ?_
    refine zicmp rfl rfl (fun h1 => ?_) (fun h1 => ?_)
    · have h1 := zc_ge.1.mp h1
      exfalso; omega
    · have h1 := zc_ge.2.mp h1
      refine zg 4 (pc' := 18) (ls' := [(0, .ref 1), (1, .int s), (2, .int t)]) (st' := [.int t, .ref 3, .int s]) (I' := I) rfl ?_
      refine zia rfl rfl (zin_ok (n := 8) (by omega) (by omega)) (hB 2 _ (zcell_8 (by decide) (by omega) (by omega))) ?_
      refine zg 4 (pc' := 4) (ls' := [(2, .int (t + 1)), (1, .int ((s + (S 2 t.toNatClampNeg)))), (0, .ref 1)]) (st' := []) (I' := I) rfl ?_
      refine zLp (List.Perm.trans (List.Perm.trans (List.Perm.cons _ (List.Perm.swap _ _ _)) (List.Perm.swap _ _ _)) (List.Perm.cons _ (List.Perm.swap _ _ _))) rfl ?_
      exact ih (t + 1) (s + S 2 t.toNatClampNeg) (by rw [zadd1 h0 (by omega)]; omega) (by rw [zadd1 h0 (by omega)]; omega)
theorem zt_sum {sl D dy : Nat} {I : zM} {S : Nat → Nat → Int32} (hB : zSB 1 S I) (hV : zOK S) : zW sl (D) dy 62 0 [(0, .ref 1)] [] I (zRg 0 (zQf I (some (.int (zsum S))))) := by
  refine zg 4 (pc' := 4) (ls' := [(2, .int 0), (1, .int 0), (0, .ref 1)]) (st' := []) (I' := I) rfl ?_
  refine zLp (List.Perm.trans (List.Perm.trans (List.Perm.cons _ (List.Perm.swap _ _ _)) (List.Perm.swap _ _ _)) (List.Perm.cons _ (List.Perm.swap _ _ _))) rfl ?_
  exact zt_sml hB hV (S 0 10).toInt.toNat 0 0 (by decide) (by have := hV.1; have z0 := zi0; omega)
theorem zt_tankNumber {sl D dy : Nat} {I : zM} {S : Nat → Nat → Int32} (hB : zSB 1 S I) (hV : zOK S) (p : Int32) (h0 : 0 ≤ p.toInt) (hp : p.toInt < (S 0 10).toInt) : zW sl (D) dy 63 0 [(0, .ref 1), (1, .int p)] [] I (zRg 0 (zQl I)) := by
  have hT := hV.1
  have hP := hV.2.1
  have z0 := zi0
  have z8 := zi8
  have z20 := zi20
  refine zg 3 (pc' := 5) (ls' := [(0, .ref 1), (1, .int p)]) (st' := [.int p, .ref 3]) (I' := I) rfl ?_
  refine zia rfl rfl (zin_ok (n := 8) (by omega) (by omega)) (hB 2 _ (zcell_8 (by decide) (by omega) (by omega))) ?_
  refine zg 5 (pc' := 15) (ls' := [(0, .ref 1), (1, .int p)]) (st' := [.int p, .ref 2, .long 1000, .long (((S 2 p.toNatClampNeg) : Int32).toInt64)]) (I' := I) rfl ?_
  refine zia rfl rfl (zin_ok (n := 8) (by omega) (by omega)) (hB 1 _ (zcell_8 (by decide) (by omega) (by omega))) ?_
  refine zg 7 (pc' := 27) (ls' := [(0, .ref 1), (1, .int p)]) (st' := [.int p, .ref 4, .long 1000000, .long ((((S 2 p.toNatClampNeg) : Int32).toInt64 + (1000 * ((S 1 p.toNatClampNeg) : Int32).toInt64)))]) (I' := I) rfl ?_
  refine zia rfl rfl (zin_ok (n := 8) (by omega) (by omega)) (hB 3 _ (zcell_8 (by decide) (by omega) (by omega))) ?_
  refine zg 3 (pc' := 31) (ls' := [(0, .ref 1), (1, .int p)]) (st' := [.long (((((S 2 p.toNatClampNeg) : Int32).toInt64 + (1000 * ((S 1 p.toNatClampNeg) : Int32).toInt64)) + (1000000 * ((S 3 p.toNatClampNeg) : Int32).toInt64)))]) (I' := I) rfl ?_
  refine zret rfl rfl ?_
  exact zl1'
theorem zt_pipeNumber {sl D dy : Nat} {I : zM} {S : Nat → Nat → Int32} (hB : zSB 1 S I) (hV : zOK S) (p : Int32) (h0 : 0 ≤ p.toInt) (hp : p.toInt < (S 0 11).toInt) : zW sl (D) dy 64 0 [(0, .ref 1), (1, .int p)] [] I (zRg 0 (zQl I)) := by
  have hT := hV.1
  have hP := hV.2.1
  have z0 := zi0
  have z8 := zi8
  have z20 := zi20
  refine zg 3 (pc' := 5) (ls' := [(0, .ref 1), (1, .int p)]) (st' := [.int p, .ref 8]) (I' := I) rfl ?_
  refine zia rfl rfl (zin_ok (n := 12) (by omega) (by omega)) (hB 7 _ (zcell_12 (by decide) (by omega) (by omega))) ?_
  refine zg 5 (pc' := 15) (ls' := [(0, .ref 1), (1, .int p)]) (st' := [.int p, .ref 10, .long 5, .long (((S 7 p.toNatClampNeg) : Int32).toInt64)]) (I' := I) rfl ?_
  refine zia rfl rfl (zin_ok (n := 12) (by omega) (by omega)) (hB 9 _ (zcell_12 (by decide) (by omega) (by omega))) ?_
  refine zg 7 (pc' := 27) (ls' := [(0, .ref 1), (1, .int p)]) (st' := [.int p, .ref 9, .long 1000, .long ((((S 7 p.toNatClampNeg) : Int32).toInt64 + (5 * ((S 9 p.toNatClampNeg) : Int32).toInt64)))]) (I' := I) rfl ?_
  refine zia rfl rfl (zin_ok (n := 12) (by omega) (by omega)) (hB 8 _ (zcell_12 (by decide) (by omega) (by omega))) ?_
  refine zg 7 (pc' := 39) (ls' := [(0, .ref 1), (1, .int p)]) (st' := [.int p, .ref 7, .long 10000, .long (((((S 7 p.toNatClampNeg) : Int32).toInt64 + (5 * ((S 9 p.toNatClampNeg) : Int32).toInt64)) + (1000 * ((S 8 p.toNatClampNeg) : Int32).toInt64)))]) (I' := I) rfl ?_
  refine zia rfl rfl (zin_ok (n := 12) (by omega) (by omega)) (hB 6 _ (zcell_12 (by decide) (by omega) (by omega))) ?_
  refine zg 3 (pc' := 43) (ls' := [(0, .ref 1), (1, .int p)]) (st' := [.long ((((((S 7 p.toNatClampNeg) : Int32).toInt64 + (5 * ((S 9 p.toNatClampNeg) : Int32).toInt64)) + (1000 * ((S 8 p.toNatClampNeg) : Int32).toInt64)) + (10000 * ((S 6 p.toNatClampNeg) : Int32).toInt64)))]) (I' := I) rfl ?_
  refine zret rfl rfl ?_
  exact zl1'
