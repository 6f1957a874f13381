/-! CONTRACTS: refusals of changes -/
def zrfT (S : Nat → Nat → Int32) (a : Int32) : Int32 := if 10 ≤ a.toInt ∧ a.toInt ≤ 999 then (if (S 0 10).toInt < 8 then 0 else 3) else 2
def zrfP (S : Nat → Nat → Int32) (a b c : Int32) : Int32 := if (0 ≤ a.toInt ∧ a.toInt < (S 0 10).toInt) ∧ (0 ≤ b.toInt ∧ b.toInt < (S 0 10).toInt) then (if a.toInt = b.toInt then 2 else if 0 ≤ c.toInt ∧ c.toInt ≤ 255 then (if (S 0 11).toInt < 12 then 0 else 3) else 2) else 1
def zrfO (S : Nat → Nat → Int32) (a b c : Int32) : Int32 := if 0 ≤ a.toInt ∧ a.toInt < (S 0 10).toInt then (if (1 ≤ b.toInt ∧ b.toInt ≤ 999) ∧ (0 ≤ c.toInt ∧ c.toInt ≤ 255) then (if (S 2 a.toNatClampNeg + b).toInt ≤ (S 1 a.toNatClampNeg).toInt then 0 else 4) else 2) else 1
def zrfD (S : Nat → Nat → Int32) (a b : Int32) : Int32 := if 0 ≤ a.toInt ∧ a.toInt < (S 0 10).toInt then (if 1 ≤ b.toInt ∧ b.toInt ≤ 999 then (if b.toInt ≤ (S 2 a.toNatClampNeg).toInt then 0 else 4) else 2) else 1
def zrfV (S : Nat → Nat → Int32) (m : Int) (a b : Int32) : Int32 := if 0 ≤ a.toInt ∧ a.toInt < (S 0 11).toInt then (if 0 ≤ b.toInt ∧ b.toInt ≤ m then 0 else 2) else 1
def zrfC (S : Nat → Nat → Int32) (a : Int32) : Int32 := if 0 ≤ a.toInt ∧ a.toInt < (S 0 11).toInt then 0 else 1
def zrfW (a : Int32) : Int32 := if 1 ≤ a.toInt ∧ a.toInt ≤ 60 then 0 else 2
theorem zt_rfT {sl D dy : Nat} {I : zM} {S : Nat → Nat → Int32} (hB : zSB 1 S I) (a : Int32) : zW sl (D + 1) dy 44 0 [(0, .ref 1), (1, .int a)] [] I (zRg 0 (zQf I (some (.int (zrfT S a))))) := by
  have z0 : (0 : Int32).toInt = 0 := rfl
  have z1 : (1 : Int32).toInt = 1 := rfl
  have z4 : (4 : Int32).toInt = 4 := rfl
  have z8 : (8 : Int32).toInt = 8 := rfl
  have z9 : (9 : Int32).toInt = 9 := rfl
  have z10 : (10 : Int32).toInt = 10 := rfl
  have z12 : (12 : Int32).toInt = 12 := rfl
  have z60 : (60 : Int32).toInt = 60 := rfl
  have z255 : (255 : Int32).toInt = 255 := rfl
  have z999 : (999 : Int32).toInt = 999 := rfl
  refine zg 3 (pc' := 6) (ls' := [(0, .ref 1), (1, .int a)]) (st' := [.int 999, .int 10, .int a]) (I' := I) rfl ?_
  refine zcb rfl rfl (zt_isWithin a 10 999) (fun h1 => ?_) (fun h1 => ?_)
  · skip
    refine zg 2 (pc' := 15) (ls' := [(0, .ref 1), (1, .int a)]) (st' := [.ref 1]) (I' := I) rfl ?_
    refine zgf rfl rfl rfl (hB 0 10 rfl) ?_
    refine zg 1 (pc' := 20) (ls' := [(0, .ref 1), (1, .int a)]) (st' := [.int 8, .int (S 0 10)]) (I' := I) rfl ?_
    refine zicmp rfl rfl (fun h2 => ?_) (fun h2 => ?_)
    · have h2 := zc_ge.1.mp h2
      refine zg 1 (pc' := 28) (ls' := [(0, .ref 1), (1, .int a)]) (st' := [.int 3]) (I' := I) rfl ?_
      refine ziret rfl rfl rfl ?_
      have e : zrfT S a = 3 := by unfold zrfT; (repeat' split) <;> first | rfl | contradiction | (exfalso; omega)
      exact ⟨rfl, by rw [e], rfl⟩
    · have h2 := zc_ge.2.mp h2
      refine zg 2 (pc' := 28) (ls' := [(0, .ref 1), (1, .int a)]) (st' := [.int 0]) (I' := I) rfl ?_
      refine ziret rfl rfl rfl ?_
      have e : zrfT S a = 0 := by unfold zrfT; (repeat' split) <;> first | rfl | contradiction | (exfalso; omega)
      exact ⟨rfl, by rw [e], rfl⟩
  · skip
    refine zg 2 (pc' := 13) (ls' := [(0, .ref 1), (1, .int a)]) (st' := [.int 2]) (I' := I) rfl ?_
    refine ziret rfl rfl rfl ?_
    have e : zrfT S a = 2 := by unfold zrfT; (repeat' split) <;> first | rfl | contradiction | (exfalso; omega)
    exact ⟨rfl, by rw [e], rfl⟩
theorem zt_rfP {sl D dy : Nat} {I : zM} {S : Nat → Nat → Int32} (hB : zSB 1 S I) (a b c : Int32) : zW sl (D + 1) dy 45 0 [(0, .ref 1), (1, .int a), (2, .int b), (3, .int c)] [] I (zRg 0 (zQf I (some (.int (zrfP S a b c))))) := by
  have z0 : (0 : Int32).toInt = 0 := rfl
  have z1 : (1 : Int32).toInt = 1 := rfl
  have z4 : (4 : Int32).toInt = 4 := rfl
  have z8 : (8 : Int32).toInt = 8 := rfl
  have z9 : (9 : Int32).toInt = 9 := rfl
  have z10 : (10 : Int32).toInt = 10 := rfl
  have z12 : (12 : Int32).toInt = 12 := rfl
  have z60 : (60 : Int32).toInt = 60 := rfl
  have z255 : (255 : Int32).toInt = 255 := rfl
  have z999 : (999 : Int32).toInt = 999 := rfl
  refine zg 2 (pc' := 2) (ls' := [(0, .ref 1), (1, .int a), (2, .int b), (3, .int c)]) (st' := [.int a, .ref 1]) (I' := I) rfl ?_
  refine zcb rfl rfl (zt_hasTank hB a) (fun h1 => ?_) (fun h1 => ?_)
  · skip
    refine zg 3 (pc' := 10) (ls' := [(0, .ref 1), (1, .int a), (2, .int b), (3, .int c)]) (st' := [.int b, .ref 1]) (I' := I) rfl ?_
    refine zcb rfl rfl (zt_hasTank hB b) (fun h2 => ?_) (fun h2 => ?_)
    · skip
      refine zg 3 (pc' := 20) (ls' := [(0, .ref 1), (1, .int a), (2, .int b), (3, .int c)]) (st' := [.int b, .int a]) (I' := I) rfl ?_
      refine zicmp rfl rfl (fun h3 => ?_) (fun h3 => ?_)
      · have h3 := zc_eq.1.mp h3
        have h3 := congrArg Int32.toInt h3
        refine zg 1 (pc' := 35) (ls' := [(0, .ref 1), (1, .int a), (2, .int b), (3, .int c)]) (st' := [.int 2]) (I' := I) rfl ?_
        refine ziret rfl rfl rfl ?_
        have e : zrfP S a b c = 2 := by unfold zrfP; (repeat' split) <;> first | rfl | contradiction | (exfalso; omega)
        exact ⟨rfl, by rw [e], rfl⟩
      · have h3 := zc_eq.2.mp h3
        have h3 := (fun q => h3 (Int32.toInt_inj.mp q) : ¬ a.toInt = b.toInt)
        refine zg 3 (pc' := 28) (ls' := [(0, .ref 1), (1, .int a), (2, .int b), (3, .int c)]) (st' := [.int 255, .int 0, .int c]) (I' := I) rfl ?_
        refine zcb rfl rfl (zt_isWithin c 0 255) (fun h4 => ?_) (fun h4 => ?_)
        · skip
          refine zg 2 (pc' := 37) (ls' := [(0, .ref 1), (1, .int a), (2, .int b), (3, .int c)]) (st' := [.ref 1]) (I' := I) rfl ?_
          refine zgf rfl rfl rfl (hB 0 11 rfl) ?_
          refine zg 1 (pc' := 42) (ls' := [(0, .ref 1), (1, .int a), (2, .int b), (3, .int c)]) (st' := [.int 12, .int (S 0 11)]) (I' := I) rfl ?_
          refine zicmp rfl rfl (fun h5 => ?_) (fun h5 => ?_)
          · have h5 := zc_ge.1.mp h5
            refine zg 1 (pc' := 50) (ls' := [(0, .ref 1), (1, .int a), (2, .int b), (3, .int c)]) (st' := [.int 3]) (I' := I) rfl ?_
            refine ziret rfl rfl rfl ?_
            have e : zrfP S a b c = 3 := by unfold zrfP; (repeat' split) <;> first | rfl | contradiction | (exfalso; omega)
            exact ⟨rfl, by rw [e], rfl⟩
          · have h5 := zc_ge.2.mp h5
            refine zg 2 (pc' := 50) (ls' := [(0, .ref 1), (1, .int a), (2, .int b), (3, .int c)]) (st' := [.int 0]) (I' := I) rfl ?_
            refine ziret rfl rfl rfl ?_
            have e : zrfP S a b c = 0 := by unfold zrfP; (repeat' split) <;> first | rfl | contradiction | (exfalso; omega)
            exact ⟨rfl, by rw [e], rfl⟩
        · skip
          refine zg 2 (pc' := 35) (ls' := [(0, .ref 1), (1, .int a), (2, .int b), (3, .int c)]) (st' := [.int 2]) (I' := I) rfl ?_
          refine ziret rfl rfl rfl ?_
          have e : zrfP S a b c = 2 := by unfold zrfP; (repeat' split) <;> first | rfl | contradiction | (exfalso; omega)
          exact ⟨rfl, by rw [e], rfl⟩
    · skip
      refine zg 2 (pc' := 17) (ls' := [(0, .ref 1), (1, .int a), (2, .int b), (3, .int c)]) (st' := [.int 1]) (I' := I) rfl ?_
      refine ziret rfl rfl rfl ?_
      have e : zrfP S a b c = 1 := by unfold zrfP; (repeat' split) <;> first | rfl | contradiction | (exfalso; omega)
      exact ⟨rfl, by rw [e], rfl⟩
  · skip
    refine zg 2 (pc' := 17) (ls' := [(0, .ref 1), (1, .int a), (2, .int b), (3, .int c)]) (st' := [.int 1]) (I' := I) rfl ?_
    refine ziret rfl rfl rfl ?_
    have e : zrfP S a b c = 1 := by unfold zrfP; (repeat' split) <;> first | rfl | contradiction | (exfalso; omega)
    exact ⟨rfl, by rw [e], rfl⟩
theorem zt_rfO {sl D dy : Nat} {I : zM} {S : Nat → Nat → Int32} (hB : zSB 1 S I) (hV : zOK S) (a b c : Int32) : zW sl (D + 1) dy 46 0 [(0, .ref 1), (1, .int a), (2, .int b), (3, .int c)] [] I (zRg 0 (zQf I (some (.int (zrfO S a b c))))) := by
  have hT := hV.1
  have hP := hV.2.1
  have z0 := zi0
  have z8 := zi8
  have z20 := zi20
  have z0 : (0 : Int32).toInt = 0 := rfl
  have z1 : (1 : Int32).toInt = 1 := rfl
  have z4 : (4 : Int32).toInt = 4 := rfl
  have z8 : (8 : Int32).toInt = 8 := rfl
  have z9 : (9 : Int32).toInt = 9 := rfl
  have z10 : (10 : Int32).toInt = 10 := rfl
  have z12 : (12 : Int32).toInt = 12 := rfl
  have z60 : (60 : Int32).toInt = 60 := rfl
  have z255 : (255 : Int32).toInt = 255 := rfl
  have z999 : (999 : Int32).toInt = 999 := rfl
  refine zg 2 (pc' := 2) (ls' := [(0, .ref 1), (1, .int a), (2, .int b), (3, .int c)]) (st' := [.int a, .ref 1]) (I' := I) rfl ?_
  refine zcb rfl rfl (zt_hasTank hB a) (fun h1 => ?_) (fun h1 => ?_)
  · skip
    refine zg 4 (pc' := 15) (ls' := [(0, .ref 1), (1, .int a), (2, .int b), (3, .int c)]) (st' := [.int 999, .int 1, .int b]) (I' := I) rfl ?_
    refine zcb rfl rfl (zt_isWithin b 1 999) (fun h2 => ?_) (fun h2 => ?_)
    · skip
      refine zg 4 (pc' := 26) (ls' := [(0, .ref 1), (1, .int a), (2, .int b), (3, .int c)]) (st' := [.int 255, .int 0, .int c]) (I' := I) rfl ?_
      refine zcb rfl rfl (zt_isWithin c 0 255) (fun h3 => ?_) (fun h3 => ?_)
      · skip
        refine zg 4 (pc' := 39) (ls' := [(0, .ref 1), (1, .int a), (2, .int b), (3, .int c)]) (st' := [.int a, .ref 3]) (I' := I) rfl ?_
        refine zia rfl rfl (zin_ok (n := 8) (by omega) (by omega)) (hB 2 _ (zcell_8 (by decide) (by omega) (by omega))) ?_
        refine zg 5 (pc' := 47) (ls' := [(0, .ref 1), (1, .int a), (2, .int b), (3, .int c)]) (st' := [.int a, .ref 2, .int (((S 2 a.toNatClampNeg) + b))]) (I' := I) rfl ?_
        refine zia rfl rfl (zin_ok (n := 8) (by omega) (by omega)) (hB 1 _ (zcell_8 (by decide) (by omega) (by omega))) ?_
        refine zicmp rfl rfl (fun h4 => ?_) (fun h4 => ?_)
        · have h4 := zc_gt.1.mp h4
          refine zg 1 (pc' := 56) (ls' := [(0, .ref 1), (1, .int a), (2, .int b), (3, .int c)]) (st' := [.int 4]) (I' := I) rfl ?_
          refine ziret rfl rfl rfl ?_
          have e : zrfO S a b c = 4 := by unfold zrfO; (repeat' split) <;> first | rfl | contradiction | (exfalso; omega)
          exact ⟨rfl, by rw [e], rfl⟩
        · have h4 := zc_gt.2.mp h4
          refine zg 2 (pc' := 56) (ls' := [(0, .ref 1), (1, .int a), (2, .int b), (3, .int c)]) (st' := [.int 0]) (I' := I) rfl ?_
          refine ziret rfl rfl rfl ?_
          have e : zrfO S a b c = 0 := by unfold zrfO; (repeat' split) <;> first | rfl | contradiction | (exfalso; omega)
          exact ⟨rfl, by rw [e], rfl⟩
      · skip
        refine zg 2 (pc' := 33) (ls' := [(0, .ref 1), (1, .int a), (2, .int b), (3, .int c)]) (st' := [.int 2]) (I' := I) rfl ?_
        refine ziret rfl rfl rfl ?_
        have e : zrfO S a b c = 2 := by unfold zrfO; (repeat' split) <;> first | rfl | contradiction | (exfalso; omega)
        exact ⟨rfl, by rw [e], rfl⟩
    · skip
      refine zg 2 (pc' := 33) (ls' := [(0, .ref 1), (1, .int a), (2, .int b), (3, .int c)]) (st' := [.int 2]) (I' := I) rfl ?_
      refine ziret rfl rfl rfl ?_
      have e : zrfO S a b c = 2 := by unfold zrfO; (repeat' split) <;> first | rfl | contradiction | (exfalso; omega)
      exact ⟨rfl, by rw [e], rfl⟩
  · skip
    refine zg 2 (pc' := 9) (ls' := [(0, .ref 1), (1, .int a), (2, .int b), (3, .int c)]) (st' := [.int 1]) (I' := I) rfl ?_
    refine ziret rfl rfl rfl ?_
    have e : zrfO S a b c = 1 := by unfold zrfO; (repeat' split) <;> first | rfl | contradiction | (exfalso; omega)
    exact ⟨rfl, by rw [e], rfl⟩
theorem zt_rfD {sl D dy : Nat} {I : zM} {S : Nat → Nat → Int32} (hB : zSB 1 S I) (hV : zOK S) (a b : Int32) : zW sl (D + 1) dy 47 0 [(0, .ref 1), (1, .int a), (2, .int b)] [] I (zRg 0 (zQf I (some (.int (zrfD S a b))))) := by
  have hT := hV.1
  have hP := hV.2.1
  have z0 := zi0
  have z8 := zi8
  have z20 := zi20
  have z0 : (0 : Int32).toInt = 0 := rfl
  have z1 : (1 : Int32).toInt = 1 := rfl
  have z4 : (4 : Int32).toInt = 4 := rfl
  have z8 : (8 : Int32).toInt = 8 := rfl
  have z9 : (9 : Int32).toInt = 9 := rfl
  have z10 : (10 : Int32).toInt = 10 := rfl
  have z12 : (12 : Int32).toInt = 12 := rfl
  have z60 : (60 : Int32).toInt = 60 := rfl
  have z255 : (255 : Int32).toInt = 255 := rfl
  have z999 : (999 : Int32).toInt = 999 := rfl
  refine zg 2 (pc' := 2) (ls' := [(0, .ref 1), (1, .int a), (2, .int b)]) (st' := [.int a, .ref 1]) (I' := I) rfl ?_
  refine zcb rfl rfl (zt_hasTank hB a) (fun h1 => ?_) (fun h1 => ?_)
  · skip
    refine zg 4 (pc' := 15) (ls' := [(0, .ref 1), (1, .int a), (2, .int b)]) (st' := [.int 999, .int 1, .int b]) (I' := I) rfl ?_
    refine zcb rfl rfl (zt_isWithin b 1 999) (fun h2 => ?_) (fun h2 => ?_)
    · skip
      refine zg 4 (pc' := 28) (ls' := [(0, .ref 1), (1, .int a), (2, .int b)]) (st' := [.int a, .ref 3]) (I' := I) rfl ?_
      refine zia rfl rfl (zin_ok (n := 8) (by omega) (by omega)) (hB 2 _ (zcell_8 (by decide) (by omega) (by omega))) ?_
      refine zg 1 (pc' := 30) (ls' := [(0, .ref 1), (1, .int a), (2, .int b)]) (st' := [.int b, .int (S 2 a.toNatClampNeg)]) (I' := I) rfl ?_
      refine zicmp rfl rfl (fun h3 => ?_) (fun h3 => ?_)
      · have h3 := zc_lt.1.mp h3
        refine zg 1 (pc' := 38) (ls' := [(0, .ref 1), (1, .int a), (2, .int b)]) (st' := [.int 4]) (I' := I) rfl ?_
        refine ziret rfl rfl rfl ?_
        have e : zrfD S a b = 4 := by unfold zrfD; (repeat' split) <;> first | rfl | contradiction | (exfalso; omega)
        exact ⟨rfl, by rw [e], rfl⟩
      · have h3 := zc_lt.2.mp h3
        refine zg 2 (pc' := 38) (ls' := [(0, .ref 1), (1, .int a), (2, .int b)]) (st' := [.int 0]) (I' := I) rfl ?_
        refine ziret rfl rfl rfl ?_
        have e : zrfD S a b = 0 := by unfold zrfD; (repeat' split) <;> first | rfl | contradiction | (exfalso; omega)
        exact ⟨rfl, by rw [e], rfl⟩
    · skip
      refine zg 2 (pc' := 22) (ls' := [(0, .ref 1), (1, .int a), (2, .int b)]) (st' := [.int 2]) (I' := I) rfl ?_
      refine ziret rfl rfl rfl ?_
      have e : zrfD S a b = 2 := by unfold zrfD; (repeat' split) <;> first | rfl | contradiction | (exfalso; omega)
      exact ⟨rfl, by rw [e], rfl⟩
  · skip
    refine zg 2 (pc' := 9) (ls' := [(0, .ref 1), (1, .int a), (2, .int b)]) (st' := [.int 1]) (I' := I) rfl ?_
    refine ziret rfl rfl rfl ?_
    have e : zrfD S a b = 1 := by unfold zrfD; (repeat' split) <;> first | rfl | contradiction | (exfalso; omega)
    exact ⟨rfl, by rw [e], rfl⟩
theorem zt_rfF1 {sl D dy : Nat} {I : zM} {S : Nat → Nat → Int32} (hB : zSB 1 S I) (a : Int32) : zW sl (D + 1) dy 48 0 [(0, .ref 1), (1, .int a), (2, .int 1)] [] I (zRg 0 (zQf I (some (.int (if 0 ≤ a.toInt ∧ a.toInt < (S 0 11).toInt then 0 else 1))))) := by
  refine zg 2 (pc' := 2) (ls' := [(0, .ref 1), (1, .int a), (2, .int 1)]) (st' := [.int a, .ref 1]) (I' := I) rfl ?_
  refine zcb rfl rfl (zt_hasPipe hB a) (fun h1 => ?_) (fun h1 => ?_)
  · skip
    refine zg 5 (pc' := 19) (ls' := [(0, .ref 1), (1, .int a), (2, .int 1)]) (st' := [.int 0]) (I' := I) rfl ?_
    refine ziret rfl rfl rfl ?_
    refine ⟨rfl, ?_, rfl⟩
    first | rw [if_pos (by assumption)] | rw [if_neg (by assumption)]
  · skip
    refine zg 2 (pc' := 9) (ls' := [(0, .ref 1), (1, .int a), (2, .int 1)]) (st' := [.int 1]) (I' := I) rfl ?_
    refine ziret rfl rfl rfl ?_
    refine ⟨rfl, ?_, rfl⟩
    first | rw [if_pos (by assumption)] | rw [if_neg (by assumption)]
theorem zt_rfF0 {sl D dy : Nat} {I : zM} {S : Nat → Nat → Int32} (hB : zSB 1 S I) (a : Int32) : zW sl (D + 1) dy 48 0 [(0, .ref 1), (1, .int a), (2, .int 0)] [] I (zRg 0 (zQf I (some (.int (if 0 ≤ a.toInt ∧ a.toInt < (S 0 11).toInt then 2 else 1))))) := by
  refine zg 2 (pc' := 2) (ls' := [(0, .ref 1), (1, .int a), (2, .int 0)]) (st' := [.int a, .ref 1]) (I' := I) rfl ?_
  refine zcb rfl rfl (zt_hasPipe hB a) (fun h1 => ?_) (fun h1 => ?_)
  · skip
    refine zg 4 (pc' := 19) (ls' := [(0, .ref 1), (1, .int a), (2, .int 0)]) (st' := [.int 2]) (I' := I) rfl ?_
    refine ziret rfl rfl rfl ?_
    refine ⟨rfl, ?_, rfl⟩
    first | rw [if_pos (by assumption)] | rw [if_neg (by assumption)]
  · skip
    refine zg 2 (pc' := 9) (ls' := [(0, .ref 1), (1, .int a), (2, .int 0)]) (st' := [.int 1]) (I' := I) rfl ?_
    refine ziret rfl rfl rfl ?_
    refine ⟨rfl, ?_, rfl⟩
    first | rw [if_pos (by assumption)] | rw [if_neg (by assumption)]
theorem zt_ref0 {sl D dy : Nat} {I : zM} {S : Nat → Nat → Int32} (hB : zSB 1 S I) (a b c : Int32) : zW sl (D + 2) dy 42 0 [(0, .ref 1), (1, .int 0), (2, .int a), (3, .int b), (4, .int c)] [] I (zRg 0 (zQf I (some (.int (zrfT S a))))) := by
  have z0 : (0 : Int32).toInt = 0 := rfl
  have z1 : (1 : Int32).toInt = 1 := rfl
  have z4 : (4 : Int32).toInt = 4 := rfl
  have z8 : (8 : Int32).toInt = 8 := rfl
  have z9 : (9 : Int32).toInt = 9 := rfl
  have z10 : (10 : Int32).toInt = 10 := rfl
  have z12 : (12 : Int32).toInt = 12 := rfl
  have z60 : (60 : Int32).toInt = 60 := rfl
  have z255 : (255 : Int32).toInt = 255 := rfl
  have z999 : (999 : Int32).toInt = 999 := rfl
  refine zg 4 (pc' := 46) (ls' := [(0, .ref 1), (1, .int 0), (2, .int a), (3, .int b), (4, .int c)]) (st' := [.int a, .ref 1]) (I' := I) rfl ?_
  refine zcf rfl rfl (zt_rfT hB a) ?_
  refine ziret rfl rfl rfl ?_
  exact zf1
theorem zt_ref1 {sl D dy : Nat} {I : zM} {S : Nat → Nat → Int32} (hB : zSB 1 S I) (a b c : Int32) : zW sl (D + 2) dy 42 0 [(0, .ref 1), (1, .int 1), (2, .int a), (3, .int b), (4, .int c)] [] I (zRg 0 (zQf I (some (.int (zrfP S a b c))))) := by
  have z0 : (0 : Int32).toInt = 0 := rfl
  have z1 : (1 : Int32).toInt = 1 := rfl
  have z4 : (4 : Int32).toInt = 4 := rfl
  have z8 : (8 : Int32).toInt = 8 := rfl
  have z9 : (9 : Int32).toInt = 9 := rfl
  have z10 : (10 : Int32).toInt = 10 := rfl
  have z12 : (12 : Int32).toInt = 12 := rfl
  have z60 : (60 : Int32).toInt = 60 := rfl
  have z255 : (255 : Int32).toInt = 255 := rfl
  have z999 : (999 : Int32).toInt = 999 := rfl
  refine zg 6 (pc' := 55) (ls' := [(0, .ref 1), (1, .int 1), (2, .int a), (3, .int b), (4, .int c)]) (st' := [.int c, .int b, .int a, .ref 1]) (I' := I) rfl ?_
  refine zcf rfl rfl (zt_rfP hB a b c) ?_
  refine ziret rfl rfl rfl ?_
  exact zf1
theorem zt_ref2 {sl D dy : Nat} {I : zM} {S : Nat → Nat → Int32} (hB : zSB 1 S I) (hV : zOK S) (a b c : Int32) : zW sl (D + 2) dy 42 0 [(0, .ref 1), (1, .int 2), (2, .int a), (3, .int b), (4, .int c)] [] I (zRg 0 (zQf I (some (.int (zrfO S a b c))))) := by
  have z0 : (0 : Int32).toInt = 0 := rfl
  have z1 : (1 : Int32).toInt = 1 := rfl
  have z4 : (4 : Int32).toInt = 4 := rfl
  have z8 : (8 : Int32).toInt = 8 := rfl
  have z9 : (9 : Int32).toInt = 9 := rfl
  have z10 : (10 : Int32).toInt = 10 := rfl
  have z12 : (12 : Int32).toInt = 12 := rfl
  have z60 : (60 : Int32).toInt = 60 := rfl
  have z255 : (255 : Int32).toInt = 255 := rfl
  have z999 : (999 : Int32).toInt = 999 := rfl
  refine zg 6 (pc' := 64) (ls' := [(0, .ref 1), (1, .int 2), (2, .int a), (3, .int b), (4, .int c)]) (st' := [.int c, .int b, .int a, .ref 1]) (I' := I) rfl ?_
  refine zcf rfl rfl (zt_rfO hB hV a b c) ?_
  refine ziret rfl rfl rfl ?_
  exact zf1
theorem zt_ref3 {sl D dy : Nat} {I : zM} {S : Nat → Nat → Int32} (hB : zSB 1 S I) (hV : zOK S) (a b c : Int32) : zW sl (D + 2) dy 42 0 [(0, .ref 1), (1, .int 3), (2, .int a), (3, .int b), (4, .int c)] [] I (zRg 0 (zQf I (some (.int (zrfD S a b))))) := by
  have z0 : (0 : Int32).toInt = 0 := rfl
  have z1 : (1 : Int32).toInt = 1 := rfl
  have z4 : (4 : Int32).toInt = 4 := rfl
  have z8 : (8 : Int32).toInt = 8 := rfl
  have z9 : (9 : Int32).toInt = 9 := rfl
  have z10 : (10 : Int32).toInt = 10 := rfl
  have z12 : (12 : Int32).toInt = 12 := rfl
  have z60 : (60 : Int32).toInt = 60 := rfl
  have z255 : (255 : Int32).toInt = 255 := rfl
  have z999 : (999 : Int32).toInt = 999 := rfl
  refine zg 5 (pc' := 71) (ls' := [(0, .ref 1), (1, .int 3), (2, .int a), (3, .int b), (4, .int c)]) (st' := [.int b, .int a, .ref 1]) (I' := I) rfl ?_
  refine zcf rfl rfl (zt_rfD hB hV a b) ?_
  refine ziret rfl rfl rfl ?_
  exact zf1
theorem zt_ref4 {sl D dy : Nat} {I : zM} {S : Nat → Nat → Int32} (hB : zSB 1 S I) (a b c : Int32) : zW sl (D + 2) dy 42 0 [(0, .ref 1), (1, .int 4), (2, .int a), (3, .int b), (4, .int c)] [] I (zRg 0 (zQf I (some (.int (zrfV S 4 a b))))) := by
  have z0 : (0 : Int32).toInt = 0 := rfl
  have z1 : (1 : Int32).toInt = 1 := rfl
  have z4 : (4 : Int32).toInt = 4 := rfl
  have z8 : (8 : Int32).toInt = 8 := rfl
  have z9 : (9 : Int32).toInt = 9 := rfl
  have z10 : (10 : Int32).toInt = 10 := rfl
  have z12 : (12 : Int32).toInt = 12 := rfl
  have z60 : (60 : Int32).toInt = 60 := rfl
  have z255 : (255 : Int32).toInt = 255 := rfl
  have z999 : (999 : Int32).toInt = 999 := rfl
  refine zg 7 (pc' := 80) (ls' := [(0, .ref 1), (1, .int 4), (2, .int a), (3, .int b), (4, .int c)]) (st' := [.int 4, .int 0, .int b, .int a, .ref 1]) (I' := I) rfl ?_
  refine zcb rfl rfl (zt_isWithin b 0 4) (fun h1 => ?_) (fun h1 => ?_)
  · skip
    refine zcf rfl rfl (zt_rfF1 hB a) ?_
    refine ziret rfl rfl rfl ?_
    refine ⟨rfl, ?_, rfl⟩
    unfold zrfV
    first | rfl | (congr 2; (repeat' split) <;> first | rfl | contradiction | (exfalso; omega))
  · skip
    refine zcf rfl rfl (zt_rfF0 hB a) ?_
    refine ziret rfl rfl rfl ?_
    refine ⟨rfl, ?_, rfl⟩
    unfold zrfV
    first | rfl | (congr 2; (repeat' split) <;> first | rfl | contradiction | (exfalso; omega))
theorem zt_ref5 {sl D dy : Nat} {I : zM} {S : Nat → Nat → Int32} (hB : zSB 1 S I) (a b c : Int32) : zW sl (D + 2) dy 42 0 [(0, .ref 1), (1, .int 5), (2, .int a), (3, .int b), (4, .int c)] [] I (zRg 0 (zQf I (some (.int (zrfV S 9 a b))))) := by
  have z0 : (0 : Int32).toInt = 0 := rfl
  have z1 : (1 : Int32).toInt = 1 := rfl
  have z4 : (4 : Int32).toInt = 4 := rfl
  have z8 : (8 : Int32).toInt = 8 := rfl
  have z9 : (9 : Int32).toInt = 9 := rfl
  have z10 : (10 : Int32).toInt = 10 := rfl
  have z12 : (12 : Int32).toInt = 12 := rfl
  have z60 : (60 : Int32).toInt = 60 := rfl
  have z255 : (255 : Int32).toInt = 255 := rfl
  have z999 : (999 : Int32).toInt = 999 := rfl
  refine zg 7 (pc' := 93) (ls' := [(0, .ref 1), (1, .int 5), (2, .int a), (3, .int b), (4, .int c)]) (st' := [.int 9, .int 0, .int b, .int a, .ref 1]) (I' := I) rfl ?_
  refine zcb rfl rfl (zt_isWithin b 0 9) (fun h1 => ?_) (fun h1 => ?_)
  · skip
    refine zcf rfl rfl (zt_rfF1 hB a) ?_
    refine ziret rfl rfl rfl ?_
    refine ⟨rfl, ?_, rfl⟩
    unfold zrfV
    first | rfl | (congr 2; (repeat' split) <;> first | rfl | contradiction | (exfalso; omega))
  · skip
    refine zcf rfl rfl (zt_rfF0 hB a) ?_
    refine ziret rfl rfl rfl ?_
    refine ⟨rfl, ?_, rfl⟩
    unfold zrfV
    first | rfl | (congr 2; (repeat' split) <;> first | rfl | contradiction | (exfalso; omega))
theorem zt_ref6 {sl D dy : Nat} {I : zM} {S : Nat → Nat → Int32} (hB : zSB 1 S I) (a b c : Int32) : zW sl (D + 2) dy 42 0 [(0, .ref 1), (1, .int 6), (2, .int a), (3, .int b), (4, .int c)] [] I (zRg 0 (zQf I (some (.int (zrfC S a))))) := by
  have z0 : (0 : Int32).toInt = 0 := rfl
  have z1 : (1 : Int32).toInt = 1 := rfl
  have z4 : (4 : Int32).toInt = 4 := rfl
  have z8 : (8 : Int32).toInt = 8 := rfl
  have z9 : (9 : Int32).toInt = 9 := rfl
  have z10 : (10 : Int32).toInt = 10 := rfl
  have z12 : (12 : Int32).toInt = 12 := rfl
  have z60 : (60 : Int32).toInt = 60 := rfl
  have z255 : (255 : Int32).toInt = 255 := rfl
  have z999 : (999 : Int32).toInt = 999 := rfl
  refine zg 5 (pc' := 103) (ls' := [(0, .ref 1), (1, .int 6), (2, .int a), (3, .int b), (4, .int c)]) (st' := [.int 1, .int a, .ref 1]) (I' := I) rfl ?_
  refine zcf rfl rfl (zt_rfF1 hB a) ?_
  refine ziret rfl rfl rfl ?_
  refine ⟨rfl, ?_, rfl⟩
  unfold zrfC
  first | rfl | (congr 2; (repeat' split) <;> first | rfl | contradiction | (exfalso; omega))
theorem zt_ref7 {sl D dy : Nat} {I : zM} {S : Nat → Nat → Int32} (hB : zSB 1 S I) (a b c : Int32) : zW sl (D + 2) dy 42 0 [(0, .ref 1), (1, .int 7), (2, .int a), (3, .int b), (4, .int c)] [] I (zRg 0 (zQf I (some (.int (zrfW a))))) := by
  have z0 : (0 : Int32).toInt = 0 := rfl
  have z1 : (1 : Int32).toInt = 1 := rfl
  have z4 : (4 : Int32).toInt = 4 := rfl
  have z8 : (8 : Int32).toInt = 8 := rfl
  have z9 : (9 : Int32).toInt = 9 := rfl
  have z10 : (10 : Int32).toInt = 10 := rfl
  have z12 : (12 : Int32).toInt = 12 := rfl
  have z60 : (60 : Int32).toInt = 60 := rfl
  have z255 : (255 : Int32).toInt = 255 := rfl
  have z999 : (999 : Int32).toInt = 999 := rfl
  refine zg 5 (pc' := 111) (ls' := [(0, .ref 1), (1, .int 7), (2, .int a), (3, .int b), (4, .int c)]) (st' := [.int 60, .int 1, .int a]) (I' := I) rfl ?_
  refine zcb rfl rfl (zt_isWithin a 1 60) (fun h1 => ?_) (fun h1 => ?_)
  · skip
    refine zg 3 (pc' := 122) (ls' := [(0, .ref 1), (1, .int 7), (2, .int a), (3, .int b), (4, .int c)]) (st' := [.int 0]) (I' := I) rfl ?_
    refine ziret rfl rfl rfl ?_
    have e : zrfW a = 0 := by unfold zrfW; (repeat' split) <;> first | rfl | contradiction | (exfalso; omega)
    exact ⟨rfl, by rw [e], rfl⟩
  · skip
    refine zg 2 (pc' := 122) (ls' := [(0, .ref 1), (1, .int 7), (2, .int a), (3, .int b), (4, .int c)]) (st' := [.int 2]) (I' := I) rfl ?_
    refine ziret rfl rfl rfl ?_
    have e : zrfW a = 2 := by unfold zrfW; (repeat' split) <;> first | rfl | contradiction | (exfalso; omega)
    exact ⟨rfl, by rw [e], rfl⟩
theorem zt_thr0 {sl D dy : Nat} {I : zM}  : zW sl (D) dy 75 0 [(0, .int 0)] [] I (zRg 0 (zQf I none)) := by
  refine zg 2 (pc' := 72) (ls' := [(0, .int 0)]) (st' := []) (I' := I) rfl ?_
  refine zret rfl rfl ?_
  exact zf1
theorem zt_thr1 {sl D dy : Nat} {I : zM}  : zW sl (D) dy 75 0 [(0, .int 1)] [] I (zRg 1 (zQx I 0)) := by
  refine zg 2 (pc' := 32) (ls' := [(0, .int 1)]) (st' := []) (I' := I) rfl ?_
  exact zthrow rfl rfl zx1
theorem zt_thr2 {sl D dy : Nat} {I : zM}  : zW sl (D) dy 75 0 [(0, .int 2)] [] I (zRg 1 (zQx I 1)) := by
  refine zg 2 (pc' := 42) (ls' := [(0, .int 2)]) (st' := []) (I' := I) rfl ?_
  exact zthrow rfl rfl zx1
theorem zt_thr3 {sl D dy : Nat} {I : zM}  : zW sl (D) dy 75 0 [(0, .int 3)] [] I (zRg 1 (zQx I 2)) := by
  refine zg 2 (pc' := 52) (ls' := [(0, .int 3)]) (st' := []) (I' := I) rfl ?_
  exact zthrow rfl rfl zx1
theorem zt_thr4 {sl D dy : Nat} {I : zM}  : zW sl (D) dy 75 0 [(0, .int 4)] [] I (zRg 1 (zQx I 3)) := by
  refine zg 2 (pc' := 62) (ls' := [(0, .int 4)]) (st' := []) (I' := I) rfl ?_
  exact zthrow rfl rfl zx1
theorem zt_chx1 {sl D dy : Nat} {I : zM} (kind a b c r : Int32) (hr : r = 1) (hR : zW sl (D + 2) dy 42 0 [(0, .ref 1), (1, .int kind), (2, .int a), (3, .int b), (4, .int c)] [] I (zRg 0 (zQf I (some (.int r))))) : zW sl (D + 3) dy 74 0 [(0, .ref 0), (1, .int kind), (2, .int a), (3, .int b), (4, .int c)] [] I (zRg 1 (zQx I 0)) := by
  refine zg 6 (pc' := 9) (ls' := [(0, .ref 0), (1, .int kind), (2, .int a), (3, .int b), (4, .int c)]) (st' := [.int c, .int b, .int a, .int kind, .ref 1]) (I' := I) rfl ?_
  subst hr
  refine zcf rfl rfl hR ?_
  exact zcx rfl rfl (zt_thr1) rfl zx1
theorem zt_chx2 {sl D dy : Nat} {I : zM} (kind a b c r : Int32) (hr : r = 2) (hR : zW sl (D + 2) dy 42 0 [(0, .ref 1), (1, .int kind), (2, .int a), (3, .int b), (4, .int c)] [] I (zRg 0 (zQf I (some (.int r))))) : zW sl (D + 3) dy 74 0 [(0, .ref 0), (1, .int kind), (2, .int a), (3, .int b), (4, .int c)] [] I (zRg 1 (zQx I 1)) := by
  refine zg 6 (pc' := 9) (ls' := [(0, .ref 0), (1, .int kind), (2, .int a), (3, .int b), (4, .int c)]) (st' := [.int c, .int b, .int a, .int kind, .ref 1]) (I' := I) rfl ?_
  subst hr
  refine zcf rfl rfl hR ?_
  exact zcx rfl rfl (zt_thr2) rfl zx1
theorem zt_chx3 {sl D dy : Nat} {I : zM} (kind a b c r : Int32) (hr : r = 3) (hR : zW sl (D + 2) dy 42 0 [(0, .ref 1), (1, .int kind), (2, .int a), (3, .int b), (4, .int c)] [] I (zRg 0 (zQf I (some (.int r))))) : zW sl (D + 3) dy 74 0 [(0, .ref 0), (1, .int kind), (2, .int a), (3, .int b), (4, .int c)] [] I (zRg 1 (zQx I 2)) := by
  refine zg 6 (pc' := 9) (ls' := [(0, .ref 0), (1, .int kind), (2, .int a), (3, .int b), (4, .int c)]) (st' := [.int c, .int b, .int a, .int kind, .ref 1]) (I' := I) rfl ?_
  subst hr
  refine zcf rfl rfl hR ?_
  exact zcx rfl rfl (zt_thr3) rfl zx1
theorem zt_chx4 {sl D dy : Nat} {I : zM} (kind a b c r : Int32) (hr : r = 4) (hR : zW sl (D + 2) dy 42 0 [(0, .ref 1), (1, .int kind), (2, .int a), (3, .int b), (4, .int c)] [] I (zRg 0 (zQf I (some (.int r))))) : zW sl (D + 3) dy 74 0 [(0, .ref 0), (1, .int kind), (2, .int a), (3, .int b), (4, .int c)] [] I (zRg 1 (zQx I 3)) := by
  refine zg 6 (pc' := 9) (ls' := [(0, .ref 0), (1, .int kind), (2, .int a), (3, .int b), (4, .int c)]) (st' := [.int c, .int b, .int a, .int kind, .ref 1]) (I' := I) rfl ?_
  subst hr
  refine zcf rfl rfl hR ?_
  exact zcx rfl rfl (zt_thr4) rfl zx1
theorem zt_addTank_1 {sl D dy : Nat} {I : zM} {S : Nat → Nat → Int32} (hB : zSB 1 S I) (a : Int32) (hr : zrfT S a = 2) : zW sl (D + 4) dy 66 0 [(0, .ref 0), (1, .int a)] [] I (zRg 1 (zQx I 1)) := by
  refine zg 5 (pc' := 5) (ls' := [(0, .ref 0), (1, .int a)]) (st' := [.int 0, .int 0, .int a, .int 0, .ref 0]) (I' := I) rfl ?_
  exact zcx rfl rfl (zt_chx2 0 a 0 0 _ hr (zt_ref0 hB a 0 0)) rfl zx1
theorem zl_addTank_1 {sl D dy : Nat} {I : zM} {S : Nat → Nat → Int32} (hB : zSB 1 S I) (a : Int32) (hr : zrfT S a = 2) : zW sl (D + 5) dy 132 0 [(0, .ref 0), (1, .int a)] [] I (zRg 1 (zQf I (some (.int (-1001))))) := by
  refine zg 2 (pc' := 2) (ls' := [(0, .ref 0), (1, .int a)]) (st' := [.int a, .ref 0]) (I' := I) rfl ?_
  refine zcct (b2 := 0) (pc2 := 7) (ls2 := [(0, .ref 0), (1, .int a)]) rfl rfl (zt_addTank_1 hB a hr) rfl ?_
  refine zg 1 (pc' := 10) (ls' := [(0, .ref 0), (1, .int a)]) (st' := [.int (-1001)]) (I' := I) rfl ?_
  refine ziret rfl rfl rfl ?_
  exact zf1
theorem zt_addTank_2 {sl D dy : Nat} {I : zM} {S : Nat → Nat → Int32} (hB : zSB 1 S I) (a : Int32) (hr : zrfT S a = 3) : zW sl (D + 4) dy 66 0 [(0, .ref 0), (1, .int a)] [] I (zRg 1 (zQx I 2)) := by
  refine zg 5 (pc' := 5) (ls' := [(0, .ref 0), (1, .int a)]) (st' := [.int 0, .int 0, .int a, .int 0, .ref 0]) (I' := I) rfl ?_
  exact zcx rfl rfl (zt_chx3 0 a 0 0 _ hr (zt_ref0 hB a 0 0)) rfl zx1
theorem zl_addTank_2 {sl D dy : Nat} {I : zM} {S : Nat → Nat → Int32} (hB : zSB 1 S I) (a : Int32) (hr : zrfT S a = 3) : zW sl (D + 5) dy 132 0 [(0, .ref 0), (1, .int a)] [] I (zRg 1 (zQf I (some (.int (-1002))))) := by
  refine zg 2 (pc' := 2) (ls' := [(0, .ref 0), (1, .int a)]) (st' := [.int a, .ref 0]) (I' := I) rfl ?_
  refine zcct (b2 := 0) (pc2 := 12) (ls2 := [(0, .ref 0), (1, .int a)]) rfl rfl (zt_addTank_2 hB a hr) rfl ?_
  refine zg 1 (pc' := 15) (ls' := [(0, .ref 0), (1, .int a)]) (st' := [.int (-1002)]) (I' := I) rfl ?_
  refine ziret rfl rfl rfl ?_
  exact zf1
theorem zt_addPipe_0 {sl D dy : Nat} {I : zM} {S : Nat → Nat → Int32} (hB : zSB 1 S I) (a b c : Int32) (hr : zrfP S a b c = 1) : zW sl (D + 4) dy 67 0 [(0, .ref 0), (1, .int a), (2, .int b), (3, .int c)] [] I (zRg 1 (zQx I 0)) := by
  refine zg 5 (pc' := 5) (ls' := [(0, .ref 0), (1, .int a), (2, .int b), (3, .int c)]) (st' := [.int c, .int b, .int a, .int 1, .ref 0]) (I' := I) rfl ?_
  exact zcx rfl rfl (zt_chx1 1 a b c _ hr (zt_ref1 hB a b c)) rfl zx1
theorem zl_addPipe_0 {sl D dy : Nat} {I : zM} {S : Nat → Nat → Int32} (hB : zSB 1 S I) (a b c : Int32) (hr : zrfP S a b c = 1) : zW sl (D + 5) dy 133 0 [(0, .ref 0), (1, .int a), (2, .int b), (3, .int c)] [] I (zRg 1 (zQf I (some (.int (-1001))))) := by
  refine zg 4 (pc' := 4) (ls' := [(0, .ref 0), (1, .int a), (2, .int b), (3, .int c)]) (st' := [.int c, .int b, .int a, .ref 0]) (I' := I) rfl ?_
  refine zcct (b2 := 0) (pc2 := 10) (ls2 := [(0, .ref 0), (1, .int a), (2, .int b), (3, .int c)]) rfl rfl (zt_addPipe_0 hB a b c hr) rfl ?_
  refine zg 1 (pc' := 13) (ls' := [(0, .ref 0), (1, .int a), (2, .int b), (3, .int c)]) (st' := [.int (-1001)]) (I' := I) rfl ?_
  refine ziret rfl rfl rfl ?_
  exact zf1
theorem zt_addPipe_1 {sl D dy : Nat} {I : zM} {S : Nat → Nat → Int32} (hB : zSB 1 S I) (a b c : Int32) (hr : zrfP S a b c = 2) : zW sl (D + 4) dy 67 0 [(0, .ref 0), (1, .int a), (2, .int b), (3, .int c)] [] I (zRg 1 (zQx I 1)) := by
  refine zg 5 (pc' := 5) (ls' := [(0, .ref 0), (1, .int a), (2, .int b), (3, .int c)]) (st' := [.int c, .int b, .int a, .int 1, .ref 0]) (I' := I) rfl ?_
  exact zcx rfl rfl (zt_chx2 1 a b c _ hr (zt_ref1 hB a b c)) rfl zx1
theorem zl_addPipe_1 {sl D dy : Nat} {I : zM} {S : Nat → Nat → Int32} (hB : zSB 1 S I) (a b c : Int32) (hr : zrfP S a b c = 2) : zW sl (D + 5) dy 133 0 [(0, .ref 0), (1, .int a), (2, .int b), (3, .int c)] [] I (zRg 1 (zQf I (some (.int (-1002))))) := by
  refine zg 4 (pc' := 4) (ls' := [(0, .ref 0), (1, .int a), (2, .int b), (3, .int c)]) (st' := [.int c, .int b, .int a, .ref 0]) (I' := I) rfl ?_
  refine zcct (b2 := 0) (pc2 := 16) (ls2 := [(0, .ref 0), (1, .int a), (2, .int b), (3, .int c)]) rfl rfl (zt_addPipe_1 hB a b c hr) rfl ?_
  refine zg 1 (pc' := 19) (ls' := [(0, .ref 0), (1, .int a), (2, .int b), (3, .int c)]) (st' := [.int (-1002)]) (I' := I) rfl ?_
  refine ziret rfl rfl rfl ?_
  exact zf1
theorem zt_addPipe_2 {sl D dy : Nat} {I : zM} {S : Nat → Nat → Int32} (hB : zSB 1 S I) (a b c : Int32) (hr : zrfP S a b c = 3) : zW sl (D + 4) dy 67 0 [(0, .ref 0), (1, .int a), (2, .int b), (3, .int c)] [] I (zRg 1 (zQx I 2)) := by
  refine zg 5 (pc' := 5) (ls' := [(0, .ref 0), (1, .int a), (2, .int b), (3, .int c)]) (st' := [.int c, .int b, .int a, .int 1, .ref 0]) (I' := I) rfl ?_
  exact zcx rfl rfl (zt_chx3 1 a b c _ hr (zt_ref1 hB a b c)) rfl zx1
theorem zl_addPipe_2 {sl D dy : Nat} {I : zM} {S : Nat → Nat → Int32} (hB : zSB 1 S I) (a b c : Int32) (hr : zrfP S a b c = 3) : zW sl (D + 5) dy 133 0 [(0, .ref 0), (1, .int a), (2, .int b), (3, .int c)] [] I (zRg 1 (zQf I (some (.int (-1003))))) := by
  refine zg 4 (pc' := 4) (ls' := [(0, .ref 0), (1, .int a), (2, .int b), (3, .int c)]) (st' := [.int c, .int b, .int a, .ref 0]) (I' := I) rfl ?_
  refine zcct (b2 := 0) (pc2 := 22) (ls2 := [(0, .ref 0), (1, .int a), (2, .int b), (3, .int c)]) rfl rfl (zt_addPipe_2 hB a b c hr) rfl ?_
  refine zg 1 (pc' := 25) (ls' := [(0, .ref 0), (1, .int a), (2, .int b), (3, .int c)]) (st' := [.int (-1003)]) (I' := I) rfl ?_
  refine ziret rfl rfl rfl ?_
  exact zf1
theorem zt_pour_0 {sl D dy : Nat} {I : zM} {S : Nat → Nat → Int32} (hB : zSB 1 S I) (hV : zOK S) (a b c : Int32) (hr : zrfO S a b c = 1) : zW sl (D + 4) dy 68 0 [(0, .ref 0), (1, .int a), (2, .int b), (3, .int c)] [] I (zRg 1 (zQx I 0)) := by
  refine zg 5 (pc' := 5) (ls' := [(0, .ref 0), (1, .int a), (2, .int b), (3, .int c)]) (st' := [.int c, .int b, .int a, .int 2, .ref 0]) (I' := I) rfl ?_
  exact zcx rfl rfl (zt_chx1 2 a b c _ hr (zt_ref2 hB hV a b c)) rfl zx1
theorem zl_pour_0 {sl D dy : Nat} {I : zM} {S : Nat → Nat → Int32} (hB : zSB 1 S I) (hV : zOK S) (a b c : Int32) (hr : zrfO S a b c = 1) : zW sl (D + 5) dy 134 0 [(0, .ref 0), (1, .int a), (2, .int b), (3, .int c)] [] I (zRg 1 (zQf I (some (.int (-1001))))) := by
  refine zg 4 (pc' := 4) (ls' := [(0, .ref 0), (1, .int a), (2, .int b), (3, .int c)]) (st' := [.int c, .int b, .int a, .ref 0]) (I' := I) rfl ?_
  refine zcct (b2 := 0) (pc2 := 10) (ls2 := [(0, .ref 0), (1, .int a), (2, .int b), (3, .int c)]) rfl rfl (zt_pour_0 hB hV a b c hr) rfl ?_
  refine zg 1 (pc' := 13) (ls' := [(0, .ref 0), (1, .int a), (2, .int b), (3, .int c)]) (st' := [.int (-1001)]) (I' := I) rfl ?_
  refine ziret rfl rfl rfl ?_
  exact zf1
theorem zt_pour_1 {sl D dy : Nat} {I : zM} {S : Nat → Nat → Int32} (hB : zSB 1 S I) (hV : zOK S) (a b c : Int32) (hr : zrfO S a b c = 2) : zW sl (D + 4) dy 68 0 [(0, .ref 0), (1, .int a), (2, .int b), (3, .int c)] [] I (zRg 1 (zQx I 1)) := by
  refine zg 5 (pc' := 5) (ls' := [(0, .ref 0), (1, .int a), (2, .int b), (3, .int c)]) (st' := [.int c, .int b, .int a, .int 2, .ref 0]) (I' := I) rfl ?_
  exact zcx rfl rfl (zt_chx2 2 a b c _ hr (zt_ref2 hB hV a b c)) rfl zx1
theorem zl_pour_1 {sl D dy : Nat} {I : zM} {S : Nat → Nat → Int32} (hB : zSB 1 S I) (hV : zOK S) (a b c : Int32) (hr : zrfO S a b c = 2) : zW sl (D + 5) dy 134 0 [(0, .ref 0), (1, .int a), (2, .int b), (3, .int c)] [] I (zRg 1 (zQf I (some (.int (-1002))))) := by
  refine zg 4 (pc' := 4) (ls' := [(0, .ref 0), (1, .int a), (2, .int b), (3, .int c)]) (st' := [.int c, .int b, .int a, .ref 0]) (I' := I) rfl ?_
  refine zcct (b2 := 0) (pc2 := 16) (ls2 := [(0, .ref 0), (1, .int a), (2, .int b), (3, .int c)]) rfl rfl (zt_pour_1 hB hV a b c hr) rfl ?_
  refine zg 1 (pc' := 19) (ls' := [(0, .ref 0), (1, .int a), (2, .int b), (3, .int c)]) (st' := [.int (-1002)]) (I' := I) rfl ?_
  refine ziret rfl rfl rfl ?_
  exact zf1
theorem zt_pour_3 {sl D dy : Nat} {I : zM} {S : Nat → Nat → Int32} (hB : zSB 1 S I) (hV : zOK S) (a b c : Int32) (hr : zrfO S a b c = 4) : zW sl (D + 4) dy 68 0 [(0, .ref 0), (1, .int a), (2, .int b), (3, .int c)] [] I (zRg 1 (zQx I 3)) := by
  refine zg 5 (pc' := 5) (ls' := [(0, .ref 0), (1, .int a), (2, .int b), (3, .int c)]) (st' := [.int c, .int b, .int a, .int 2, .ref 0]) (I' := I) rfl ?_
  exact zcx rfl rfl (zt_chx4 2 a b c _ hr (zt_ref2 hB hV a b c)) rfl zx1
theorem zl_pour_3 {sl D dy : Nat} {I : zM} {S : Nat → Nat → Int32} (hB : zSB 1 S I) (hV : zOK S) (a b c : Int32) (hr : zrfO S a b c = 4) : zW sl (D + 5) dy 134 0 [(0, .ref 0), (1, .int a), (2, .int b), (3, .int c)] [] I (zRg 1 (zQf I (some (.int (-1003))))) := by
  refine zg 4 (pc' := 4) (ls' := [(0, .ref 0), (1, .int a), (2, .int b), (3, .int c)]) (st' := [.int c, .int b, .int a, .ref 0]) (I' := I) rfl ?_
  refine zcct (b2 := 0) (pc2 := 22) (ls2 := [(0, .ref 0), (1, .int a), (2, .int b), (3, .int c)]) rfl rfl (zt_pour_3 hB hV a b c hr) rfl ?_
  refine zg 1 (pc' := 25) (ls' := [(0, .ref 0), (1, .int a), (2, .int b), (3, .int c)]) (st' := [.int (-1003)]) (I' := I) rfl ?_
  refine ziret rfl rfl rfl ?_
  exact zf1
theorem zt_draw_0 {sl D dy : Nat} {I : zM} {S : Nat → Nat → Int32} (hB : zSB 1 S I) (hV : zOK S) (a b : Int32) (hr : zrfD S a b = 1) : zW sl (D + 4) dy 69 0 [(0, .ref 0), (1, .int a), (2, .int b)] [] I (zRg 1 (zQx I 0)) := by
  refine zg 5 (pc' := 5) (ls' := [(0, .ref 0), (1, .int a), (2, .int b)]) (st' := [.int 0, .int b, .int a, .int 3, .ref 0]) (I' := I) rfl ?_
  exact zcx rfl rfl (zt_chx1 3 a b 0 _ hr (zt_ref3 hB hV a b 0)) rfl zx1
theorem zl_draw_0 {sl D dy : Nat} {I : zM} {S : Nat → Nat → Int32} (hB : zSB 1 S I) (hV : zOK S) (a b : Int32) (hr : zrfD S a b = 1) : zW sl (D + 5) dy 135 0 [(0, .ref 0), (1, .int a), (2, .int b)] [] I (zRg 1 (zQf I (some (.int (-1001))))) := by
  refine zg 3 (pc' := 3) (ls' := [(0, .ref 0), (1, .int a), (2, .int b)]) (st' := [.int b, .int a, .ref 0]) (I' := I) rfl ?_
  refine zcct (b2 := 0) (pc2 := 8) (ls2 := [(0, .ref 0), (1, .int a), (2, .int b)]) rfl rfl (zt_draw_0 hB hV a b hr) rfl ?_
  refine zg 1 (pc' := 11) (ls' := [(0, .ref 0), (1, .int a), (2, .int b)]) (st' := [.int (-1001)]) (I' := I) rfl ?_
  refine ziret rfl rfl rfl ?_
  exact zf1
theorem zt_draw_1 {sl D dy : Nat} {I : zM} {S : Nat → Nat → Int32} (hB : zSB 1 S I) (hV : zOK S) (a b : Int32) (hr : zrfD S a b = 2) : zW sl (D + 4) dy 69 0 [(0, .ref 0), (1, .int a), (2, .int b)] [] I (zRg 1 (zQx I 1)) := by
  refine zg 5 (pc' := 5) (ls' := [(0, .ref 0), (1, .int a), (2, .int b)]) (st' := [.int 0, .int b, .int a, .int 3, .ref 0]) (I' := I) rfl ?_
  exact zcx rfl rfl (zt_chx2 3 a b 0 _ hr (zt_ref3 hB hV a b 0)) rfl zx1
theorem zl_draw_1 {sl D dy : Nat} {I : zM} {S : Nat → Nat → Int32} (hB : zSB 1 S I) (hV : zOK S) (a b : Int32) (hr : zrfD S a b = 2) : zW sl (D + 5) dy 135 0 [(0, .ref 0), (1, .int a), (2, .int b)] [] I (zRg 1 (zQf I (some (.int (-1002))))) := by
  refine zg 3 (pc' := 3) (ls' := [(0, .ref 0), (1, .int a), (2, .int b)]) (st' := [.int b, .int a, .ref 0]) (I' := I) rfl ?_
  refine zcct (b2 := 0) (pc2 := 13) (ls2 := [(0, .ref 0), (1, .int a), (2, .int b)]) rfl rfl (zt_draw_1 hB hV a b hr) rfl ?_
  refine zg 1 (pc' := 16) (ls' := [(0, .ref 0), (1, .int a), (2, .int b)]) (st' := [.int (-1002)]) (I' := I) rfl ?_
  refine ziret rfl rfl rfl ?_
  exact zf1
theorem zt_draw_3 {sl D dy : Nat} {I : zM} {S : Nat → Nat → Int32} (hB : zSB 1 S I) (hV : zOK S) (a b : Int32) (hr : zrfD S a b = 4) : zW sl (D + 4) dy 69 0 [(0, .ref 0), (1, .int a), (2, .int b)] [] I (zRg 1 (zQx I 3)) := by
  refine zg 5 (pc' := 5) (ls' := [(0, .ref 0), (1, .int a), (2, .int b)]) (st' := [.int 0, .int b, .int a, .int 3, .ref 0]) (I' := I) rfl ?_
  exact zcx rfl rfl (zt_chx4 3 a b 0 _ hr (zt_ref3 hB hV a b 0)) rfl zx1
theorem zl_draw_3 {sl D dy : Nat} {I : zM} {S : Nat → Nat → Int32} (hB : zSB 1 S I) (hV : zOK S) (a b : Int32) (hr : zrfD S a b = 4) : zW sl (D + 5) dy 135 0 [(0, .ref 0), (1, .int a), (2, .int b)] [] I (zRg 1 (zQf I (some (.int (-1003))))) := by
  refine zg 3 (pc' := 3) (ls' := [(0, .ref 0), (1, .int a), (2, .int b)]) (st' := [.int b, .int a, .ref 0]) (I' := I) rfl ?_
  refine zcct (b2 := 0) (pc2 := 18) (ls2 := [(0, .ref 0), (1, .int a), (2, .int b)]) rfl rfl (zt_draw_3 hB hV a b hr) rfl ?_
  refine zg 1 (pc' := 21) (ls' := [(0, .ref 0), (1, .int a), (2, .int b)]) (st' := [.int (-1003)]) (I' := I) rfl ?_
  refine ziret rfl rfl rfl ?_
  exact zf1
theorem zt_setValve_0 {sl D dy : Nat} {I : zM} {S : Nat → Nat → Int32} (hB : zSB 1 S I) (a b : Int32) (hr : zrfV S 4 a b = 1) : zW sl (D + 4) dy 70 0 [(0, .ref 0), (1, .int a), (2, .int b)] [] I (zRg 1 (zQx I 0)) := by
  refine zg 5 (pc' := 5) (ls' := [(0, .ref 0), (1, .int a), (2, .int b)]) (st' := [.int 0, .int b, .int a, .int 4, .ref 0]) (I' := I) rfl ?_
  exact zcx rfl rfl (zt_chx1 4 a b 0 _ hr (zt_ref4 hB a b 0)) rfl zx1
theorem zl_setValve_0 {sl D dy : Nat} {I : zM} {S : Nat → Nat → Int32} (hB : zSB 1 S I) (a b : Int32) (hr : zrfV S 4 a b = 1) : zW sl (D + 5) dy 136 0 [(0, .ref 0), (1, .int a), (2, .int b)] [] I (zRg 1 (zQf I (some (.int (-1001))))) := by
  refine zg 3 (pc' := 3) (ls' := [(0, .ref 0), (1, .int a), (2, .int b)]) (st' := [.int b, .int a, .ref 0]) (I' := I) rfl ?_
  refine zcct (b2 := 0) (pc2 := 8) (ls2 := [(0, .ref 0), (1, .int a), (2, .int b)]) rfl rfl (zt_setValve_0 hB a b hr) rfl ?_
  refine zg 1 (pc' := 11) (ls' := [(0, .ref 0), (1, .int a), (2, .int b)]) (st' := [.int (-1001)]) (I' := I) rfl ?_
  refine ziret rfl rfl rfl ?_
  exact zf1
theorem zt_setValve_1 {sl D dy : Nat} {I : zM} {S : Nat → Nat → Int32} (hB : zSB 1 S I) (a b : Int32) (hr : zrfV S 4 a b = 2) : zW sl (D + 4) dy 70 0 [(0, .ref 0), (1, .int a), (2, .int b)] [] I (zRg 1 (zQx I 1)) := by
  refine zg 5 (pc' := 5) (ls' := [(0, .ref 0), (1, .int a), (2, .int b)]) (st' := [.int 0, .int b, .int a, .int 4, .ref 0]) (I' := I) rfl ?_
  exact zcx rfl rfl (zt_chx2 4 a b 0 _ hr (zt_ref4 hB a b 0)) rfl zx1
theorem zl_setValve_1 {sl D dy : Nat} {I : zM} {S : Nat → Nat → Int32} (hB : zSB 1 S I) (a b : Int32) (hr : zrfV S 4 a b = 2) : zW sl (D + 5) dy 136 0 [(0, .ref 0), (1, .int a), (2, .int b)] [] I (zRg 1 (zQf I (some (.int (-1002))))) := by
  refine zg 3 (pc' := 3) (ls' := [(0, .ref 0), (1, .int a), (2, .int b)]) (st' := [.int b, .int a, .ref 0]) (I' := I) rfl ?_
  refine zcct (b2 := 0) (pc2 := 13) (ls2 := [(0, .ref 0), (1, .int a), (2, .int b)]) rfl rfl (zt_setValve_1 hB a b hr) rfl ?_
  refine zg 1 (pc' := 16) (ls' := [(0, .ref 0), (1, .int a), (2, .int b)]) (st' := [.int (-1002)]) (I' := I) rfl ?_
  refine ziret rfl rfl rfl ?_
  exact zf1
theorem zt_setLeak_0 {sl D dy : Nat} {I : zM} {S : Nat → Nat → Int32} (hB : zSB 1 S I) (a b : Int32) (hr : zrfV S 9 a b = 1) : zW sl (D + 4) dy 71 0 [(0, .ref 0), (1, .int a), (2, .int b)] [] I (zRg 1 (zQx I 0)) := by
  refine zg 5 (pc' := 5) (ls' := [(0, .ref 0), (1, .int a), (2, .int b)]) (st' := [.int 0, .int b, .int a, .int 5, .ref 0]) (I' := I) rfl ?_
  exact zcx rfl rfl (zt_chx1 5 a b 0 _ hr (zt_ref5 hB a b 0)) rfl zx1
theorem zl_setLeak_0 {sl D dy : Nat} {I : zM} {S : Nat → Nat → Int32} (hB : zSB 1 S I) (a b : Int32) (hr : zrfV S 9 a b = 1) : zW sl (D + 5) dy 137 0 [(0, .ref 0), (1, .int a), (2, .int b)] [] I (zRg 1 (zQf I (some (.int (-1001))))) := by
  refine zg 3 (pc' := 3) (ls' := [(0, .ref 0), (1, .int a), (2, .int b)]) (st' := [.int b, .int a, .ref 0]) (I' := I) rfl ?_
  refine zcct (b2 := 0) (pc2 := 8) (ls2 := [(0, .ref 0), (1, .int a), (2, .int b)]) rfl rfl (zt_setLeak_0 hB a b hr) rfl ?_
  refine zg 1 (pc' := 11) (ls' := [(0, .ref 0), (1, .int a), (2, .int b)]) (st' := [.int (-1001)]) (I' := I) rfl ?_
  refine ziret rfl rfl rfl ?_
  exact zf1
theorem zt_setLeak_1 {sl D dy : Nat} {I : zM} {S : Nat → Nat → Int32} (hB : zSB 1 S I) (a b : Int32) (hr : zrfV S 9 a b = 2) : zW sl (D + 4) dy 71 0 [(0, .ref 0), (1, .int a), (2, .int b)] [] I (zRg 1 (zQx I 1)) := by
  refine zg 5 (pc' := 5) (ls' := [(0, .ref 0), (1, .int a), (2, .int b)]) (st' := [.int 0, .int b, .int a, .int 5, .ref 0]) (I' := I) rfl ?_
  exact zcx rfl rfl (zt_chx2 5 a b 0 _ hr (zt_ref5 hB a b 0)) rfl zx1
theorem zl_setLeak_1 {sl D dy : Nat} {I : zM} {S : Nat → Nat → Int32} (hB : zSB 1 S I) (a b : Int32) (hr : zrfV S 9 a b = 2) : zW sl (D + 5) dy 137 0 [(0, .ref 0), (1, .int a), (2, .int b)] [] I (zRg 1 (zQf I (some (.int (-1002))))) := by
  refine zg 3 (pc' := 3) (ls' := [(0, .ref 0), (1, .int a), (2, .int b)]) (st' := [.int b, .int a, .ref 0]) (I' := I) rfl ?_
  refine zcct (b2 := 0) (pc2 := 13) (ls2 := [(0, .ref 0), (1, .int a), (2, .int b)]) rfl rfl (zt_setLeak_1 hB a b hr) rfl ?_
  refine zg 1 (pc' := 16) (ls' := [(0, .ref 0), (1, .int a), (2, .int b)]) (st' := [.int (-1002)]) (I' := I) rfl ?_
  refine ziret rfl rfl rfl ?_
  exact zf1
theorem zt_cleanFilter_0 {sl D dy : Nat} {I : zM} {S : Nat → Nat → Int32} (hB : zSB 1 S I) (a : Int32) (hr : zrfC S a = 1) : zW sl (D + 4) dy 72 0 [(0, .ref 0), (1, .int a)] [] I (zRg 1 (zQx I 0)) := by
  refine zg 5 (pc' := 6) (ls' := [(0, .ref 0), (1, .int a)]) (st' := [.int 0, .int 0, .int a, .int 6, .ref 0]) (I' := I) rfl ?_
  exact zcx rfl rfl (zt_chx1 6 a 0 0 _ hr (zt_ref6 hB a 0 0)) rfl zx1
theorem zl_cleanFilter_0 {sl D dy : Nat} {I : zM} {S : Nat → Nat → Int32} (hB : zSB 1 S I) (a : Int32) (hr : zrfC S a = 1) : zW sl (D + 5) dy 138 0 [(0, .ref 0), (1, .int a)] [] I (zRg 1 (zQf I (some (.int (-1001))))) := by
  refine zg 2 (pc' := 2) (ls' := [(0, .ref 0), (1, .int a)]) (st' := [.int a, .ref 0]) (I' := I) rfl ?_
  refine zcct (b2 := 0) (pc2 := 7) (ls2 := [(0, .ref 0), (1, .int a)]) rfl rfl (zt_cleanFilter_0 hB a hr) rfl ?_
  refine zg 1 (pc' := 10) (ls' := [(0, .ref 0), (1, .int a)]) (st' := [.int (-1001)]) (I' := I) rfl ?_
  refine ziret rfl rfl rfl ?_
  exact zf1
theorem zt_advance_1 {sl D dy : Nat} {I : zM} {S : Nat → Nat → Int32} (hB : zSB 1 S I) (a : Int32) (hr : zrfW a = 2) : zW sl (D + 4) dy 73 0 [(0, .ref 0), (1, .int a)] [] I (zRg 1 (zQx I 1)) := by
  refine zg 5 (pc' := 6) (ls' := [(0, .ref 0), (1, .int a)]) (st' := [.int 0, .int 0, .int a, .int 7, .ref 0]) (I' := I) rfl ?_
  exact zcx rfl rfl (zt_chx2 7 a 0 0 _ hr (zt_ref7 hB a 0 0)) rfl zx1
theorem zl_advance_1 {sl D dy : Nat} {I : zM} {S : Nat → Nat → Int32} (hB : zSB 1 S I) (a : Int32) (hr : zrfW a = 2) : zW sl (D + 5) dy 139 0 [(0, .ref 0), (1, .int a)] [] I (zRg 1 (zQf I (some (.int (-1001))))) := by
  refine zg 2 (pc' := 2) (ls' := [(0, .ref 0), (1, .int a)]) (st' := [.int a, .ref 0]) (I' := I) rfl ?_
  refine zcct (b2 := 0) (pc2 := 7) (ls2 := [(0, .ref 0), (1, .int a)]) rfl rfl (zt_advance_1 hB a hr) rfl ?_
  refine zg 1 (pc' := 10) (ls' := [(0, .ref 0), (1, .int a)]) (st' := [.int (-1001)]) (I' := I) rfl ?_
  refine ziret rfl rfl rfl ?_
  exact zf1
