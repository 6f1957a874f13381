/-! CONTRACTS: what is thrown -/
theorem zrTl_in {S : Nat → Nat → Int32} {a : Int32} : ∀ (k : Nat) (o c : Int32), 0 ≤ o.toInt → 0 ≤ c.toInt → o.toInt + (k : Int) ≤ 1000 → c.toInt + (k : Int) ≤ 1000 → c.toInt ≤ (zrTl S a k o c).toInt ∧ (zrTl S a k o c).toInt ≤ c.toInt + (k : Int) ∧ (o.toInt ≤ a.toInt → a.toInt < o.toInt + (k : Int) → (zrTl S a k o c).toInt < c.toInt + (k : Int))
  | 0, o, c, h0, h1, h2, h3 => by
    show c.toInt ≤ c.toInt ∧ c.toInt ≤ c.toInt + 0 ∧ _
    exact ⟨by omega, by omega, fun h4 h5 => by omega⟩
  | k + 1, o, c, h0, h1, h2, h3 => by
    have ho := zadd1 h0 (by omega)
    have hc := zadd1 h1 (by omega)
    show c.toInt ≤ (zrTl S a k (o + 1) (if ztb S o a = true then c + 1 else c)).toInt ∧ (zrTl S a k (o + 1) (if ztb S o a = true then c + 1 else c)).toInt ≤ _ ∧ (_ → _ → (zrTl S a k (o + 1) (if ztb S o a = true then c + 1 else c)).toInt < _)
    by_cases hb : ztb S o a = true
    · rw [if_pos hb]
      have h := zrTl_in (S := S) (a := a) k (o + 1) (c + 1) (by omega) (by omega) (by omega) (by omega)
      refine ⟨by omega, by omega, fun h4 h5 => ?_⟩
      have hne : o.toInt ≠ a.toInt := fun e => by
        rw [Int32.toInt_inj.mp e, ztb_irr] at hb
        cases hb
      have := h.2.2 (by omega) (by omega)
      omega
    · rw [if_neg hb]
      have h := zrTl_in (S := S) (a := a) k (o + 1) c (by omega) (by omega) (by omega) (by omega)
      refine ⟨by omega, by omega, fun h4 h5 => by omega⟩
theorem zrT_in {S : Nat → Nat → Int32} (hV : zOK S) {a : Int32} (h0 : 0 ≤ a.toInt) (h1 : a.toInt < (S 0 10).toInt) : 0 ≤ (zrT S a).toInt ∧ (zrT S a).toInt < (S 0 10).toInt := by
  have hT := hV.1
  have hP := hV.2.1
  have z0 := zi0
  have h := zrTl_in (S := S) (a := a) (S 0 10).toInt.toNat 0 0 (by decide) (by decide) (by rw [z0]; omega) (by rw [z0]; omega)
  have h2 := h.2.2 (by omega) (by omega)
  unfold zrT
  omega
theorem zrPl_in {S : Nat → Nat → Int32} {a : Int32} : ∀ (k : Nat) (o c : Int32), 0 ≤ o.toInt → 0 ≤ c.toInt → o.toInt + (k : Int) ≤ 1000 → c.toInt + (k : Int) ≤ 1000 → c.toInt ≤ (zrPl S a k o c).toInt ∧ (zrPl S a k o c).toInt ≤ c.toInt + (k : Int) ∧ (o.toInt ≤ a.toInt → a.toInt < o.toInt + (k : Int) → (zrPl S a k o c).toInt < c.toInt + (k : Int))
  | 0, o, c, h0, h1, h2, h3 => by
    show c.toInt ≤ c.toInt ∧ c.toInt ≤ c.toInt + 0 ∧ _
    exact ⟨by omega, by omega, fun h4 h5 => by omega⟩
  | k + 1, o, c, h0, h1, h2, h3 => by
    have ho := zadd1 h0 (by omega)
    have hc := zadd1 h1 (by omega)
    show c.toInt ≤ (zrPl S a k (o + 1) (if zpb S o a = true then c + 1 else c)).toInt ∧ (zrPl S a k (o + 1) (if zpb S o a = true then c + 1 else c)).toInt ≤ _ ∧ (_ → _ → (zrPl S a k (o + 1) (if zpb S o a = true then c + 1 else c)).toInt < _)
    by_cases hb : zpb S o a = true
    · rw [if_pos hb]
      have h := zrPl_in (S := S) (a := a) k (o + 1) (c + 1) (by omega) (by omega) (by omega) (by omega)
      refine ⟨by omega, by omega, fun h4 h5 => ?_⟩
      have hne : o.toInt ≠ a.toInt := fun e => by
        rw [Int32.toInt_inj.mp e, zpb_irr] at hb
        cases hb
      have := h.2.2 (by omega) (by omega)
      omega
    · rw [if_neg hb]
      have h := zrPl_in (S := S) (a := a) k (o + 1) c (by omega) (by omega) (by omega) (by omega)
      refine ⟨by omega, by omega, fun h4 h5 => by omega⟩
theorem zrP_in {S : Nat → Nat → Int32} (hV : zOK S) {a : Int32} (h0 : 0 ≤ a.toInt) (h1 : a.toInt < (S 0 11).toInt) : 0 ≤ (zrP S a).toInt ∧ (zrP S a).toInt < (S 0 11).toInt := by
  have hT := hV.1
  have hP := hV.2.1
  have z0 := zi0
  have h := zrPl_in (S := S) (a := a) (S 0 11).toInt.toNat 0 0 (by decide) (by decide) (by rw [z0]; omega) (by rw [z0]; omega)
  have h2 := h.2.2 (by omega) (by omega)
  unfold zrP
  omega
section ZWR14
variable {sl D dy mi pc : Nat} {ls : zLs} {st : List Value} {I : zM} {b : Nat} {R : Nat → Option Value → zM → Prop}
theorem zcfb {e : Instr × Nat × Nat × Nat × Nat} {m pc' b1 b2 : Nat} {la : zLs} {st' : List Value} {v : Option Value} (h : zl mi pc = some e) (hs : zstep sl dy mi pc e ls st I = some (.inr (.inr (.inr (m, pc', la, st', 0)))))
    (hc : zW sl D dy m 0 la [] I (zRg b1 (zQf I v))) (kr : zW sl (D + 1) dy mi pc' ls (zpush v st') I (zRg b2 R)) (hb : b1 + b2 ≤ b := by omega) : zW sl (D + 1) dy mi pc ls st I (zRg b R) :=
  zcal (b1 := b1) (b2 := b2) h hs hc (fun w J ⟨_, h2, h3⟩ => by rw [h2, h3]; exact kr) (fun c w J ⟨h1, _⟩ => by cases h1) hb
theorem zcA {e : Instr × Nat × Nat × Nat × Nat} {m pc' b1 b2 : Nat} {la : zLs} {st' : List Value} {x : Int64} (h : zl mi pc = some e) (hs : zstep sl dy mi pc e ls st I = some (.inr (.inr (.inr (m, pc', la, st', 0)))))
    (hc : zW sl D dy m 0 la [] I (zRg b1 (zQv I x))) (kr : ∀ J, zfr I J → zOo J → zW sl (D + 1) dy mi pc' ls (.long x :: st') J (zRg b2 R)) (hb : b1 + b2 ≤ b := by omega) : zW sl (D + 1) dy mi pc ls st I (zRg b R) :=
  zcal (b1 := b1) (b2 := b2) h hs hc (fun w J ⟨_, h2, h3, h4⟩ => by rw [h2]; exact kr J h3 h4) (fun c w J ⟨h1, _⟩ => by cases h1) hb
end ZWR14
theorem zcmp_self (x : Int64) : lg_cmp x x = 0 := by simp [lg_cmp]
theorem zscr_f {a : Nat} (h : a ≤ 134 ∨ (144 ≤ a ∧ a ≤ 147)) : zscr a = false := by
  unfold zscr
  have h1 : (Nat.ble 135 a && Nat.ble a 143) = false := by
    cases g1 : Nat.ble 135 a with
    | false => rfl
    | true =>
      cases g2 : Nat.ble a 143 with
      | false => rfl
      | true =>
        have := Nat.le_of_ble_eq_true g1
        have := Nat.le_of_ble_eq_true g2
        omega
  have h2 : (Nat.ble 148 a && Nat.ble a 149) = false := by
    cases g1 : Nat.ble 148 a with
    | false => rfl
    | true =>
      have := Nat.le_of_ble_eq_true g1
      omega
  rw [h1, h2]
  rfl
theorem zIv_zfr {S : Nat → Nat → Int32} {L : List (Nat → Nat → Int32)} {I J : zM} (hI : zIv S L I) (h : zfr I J) : zIv S L J := zIv_1 (fun a k ha => h a k (zscr_f (by omega))) hI
theorem zKp_zfr {I J : zM} (h : zfr I J) : zKp I J := ⟨fun a k h1 h2 => h a k (zscr_f (by omega)), h 0 8 rfl⟩
set_option maxRecDepth 8000 in
theorem zt_tw536 {sl D dy : Nat} {I : zM} {S : Nat → Nat → Int32} {L : List (Nat → Nat → Int32)} (hI : zIv S L I) (hm : 2 ≤ (S 0 10).toInt) (hm2 : 1 ≤ (S 0 11).toInt) (hO : zOo I) {sum : Int64} (hs : sum = zAns sl dy S) : zW sl (D + 13) dy 177 536 [(0, .ref 0), (1, .long sum), (3, .int (S 0 10)), (4, .int (S 0 11)), (5, .int 1)] [] I (zRg 553 (zQP (fun x K => x = 1 ∧ zIv S L K ∧ zKp I K))) := by
  have zz0 : (0 : Int32).toInt = 0 := rfl
  have zz1 : (1 : Int32).toInt = 1 := rfl
  have zz5 : (5 : Int32).toInt = 5 := rfl
  have zz8 : (8 : Int32).toInt = 8 := rfl
  have zz9 : (9 : Int32).toInt = 9 := rfl
  have zz10 : (10 : Int32).toInt = 10 := rfl
  have zz12 : (12 : Int32).toInt = 12 := rfl
  have zz31 : (31 : Int32).toInt = 31 := rfl
  have zz50 : (50 : Int32).toInt = 50 := rfl
  have zz60 : (60 : Int32).toInt = 60 := rfl
  have zz61 : (61 : Int32).toInt = 61 := rfl
  have zz64 : (64 : Int32).toInt = 64 := rfl
  have zz105 : (105 : Int32).toInt = 105 := rfl
  have zz122 : (122 : Int32).toInt = 122 := rfl
  have zz127 : (127 : Int32).toInt = 127 := rfl
  have zz255 : (255 : Int32).toInt = 255 := rfl
  have zz256 : (256 : Int32).toInt = 256 := rfl
  have zz998 : (998 : Int32).toInt = 998 := rfl
  have zz999 : (999 : Int32).toInt = 999 := rfl
  have zz1000 : (1000 : Int32).toInt = 1000 := rfl
  have zzm : (-1 : Int32).toInt = -1 := rfl
  have hT := hI.2.1.1
  have hP := hI.2.1.2.1
  obtain ⟨n, hn, hn6⟩ := hO
  refine zg 4 (pc' := 543) (ls' := [(0, .ref 0), (1, .long sum), (3, .int (S 0 10)), (4, .int (S 0 11)), (5, .int 1)]) (st' := [.int (S 0 10), .ref 0]) (I' := I) rfl ?_
  refine zcfb (b2 := 552) rfl rfl (zl_capacity_x hI.1 (S 0 10) (by omega)) ?_
  refine zg 4 (pc' := 554) (ls' := [(0, .ref 0), (1, .long sum), (3, .int (S 0 10)), (4, .int (S 0 11)), (5, .int 1)]) (st' := [.int (-1), .ref 0]) (I' := I) rfl ?_
  refine zcfb (b2 := 551) rfl rfl (zl_content_x hI.1 (-1) (by omega)) ?_
  refine zg 4 (pc' := 565) (ls' := [(0, .ref 0), (1, .long sum), (3, .int (S 0 10)), (4, .int (S 0 11)), (5, .int 1)]) (st' := [.int (S 0 10), .ref 0]) (I' := I) rfl ?_
  refine zcfb (b2 := 550) rfl rfl (zl_impurities_x hI.1 (S 0 10) (by omega)) ?_
  refine zg 5 (pc' := 578) (ls' := [(0, .ref 0), (1, .long sum), (3, .int (S 0 10)), (4, .int (S 0 11)), (5, .int 1)]) (st' := [.int 122, .int (S 0 10), .ref 0]) (I' := I) rfl ?_
  refine zcfb (b2 := 549) rfl rfl (zl_hasx0 hI.1 (S 0 10) 122 (by omega)) ?_
  refine zg 4 (pc' := 589) (ls' := [(0, .ref 0), (1, .long sum), (3, .int (S 0 10)), (4, .int (S 0 11)), (5, .int 1)]) (st' := [.int (S 0 10), .ref 0]) (I' := I) rfl ?_
  refine zcfb (b2 := 548) rfl rfl (zl_byTx hI.1 hI.2.1 (S 0 10) (fun t g0 g1 e => by have g2 := zrT_in hI.2.1 g0 g1; rw [e] at g2; omega)) ?_
  refine zg 4 (pc' := 600) (ls' := [(0, .ref 0), (1, .long sum), (3, .int (S 0 10)), (4, .int (S 0 11)), (5, .int 1)]) (st' := [.int (-1), .ref 0]) (I' := I) rfl ?_
  refine zcfb (b2 := 547) rfl rfl (zl_byTx hI.1 hI.2.1 (-1) (fun t g0 g1 e => by have g2 := zrT_in hI.2.1 g0 g1; rw [e] at g2; omega)) ?_
  refine zg 4 (pc' := 611) (ls' := [(0, .ref 0), (1, .long sum), (3, .int (S 0 10)), (4, .int (S 0 11)), (5, .int 1)]) (st' := [.int (S 0 10), .ref 0]) (I' := I) rfl ?_
  refine zcfb (b2 := 546) rfl rfl (zl_fillShare_x hI.1 (S 0 10) (by omega)) ?_
  refine zg 2 (pc' := 617) (ls' := [(0, .ref 0), (1, .long sum), (3, .int (S 0 10)), (4, .int (S 0 11)), (5, .int 1)]) (st' := [.int ((Op.cmpValue (FP.fcmp (UInt32.ofNat 3296346112) 3296346112) .l))]) (I' := I) rfl ?_
  refine zif rfl rfl (fun h1 => ?_) (fun h1 => ?_)
  · have h1 := zc_ne.1.mp h1
    exact absurd (by decide +kernel) h1
  · have h1 := zc_ne.2.mp h1
    refine zg 2 (pc' := 622) (ls' := [(0, .ref 0), (1, .long sum), (3, .int (S 0 10)), (4, .int (S 0 11)), (5, .int 1)]) (st' := [.int (S 0 10), .ref 0]) (I' := I) rfl ?_
    refine zcfb (b2 := 545) rfl rfl (zl_fillBits_x hI.1 (S 0 10) (by omega)) ?_
    refine zg 4 (pc' := 634) (ls' := [(0, .ref 0), (1, .long sum), (3, .int (S 0 10)), (4, .int (S 0 11)), (5, .int 1)]) (st' := [.int (S 0 11), .ref 0]) (I' := I) rfl ?_
    refine zcfb (b2 := 544) rfl rfl (zl_firstOf_x hI.1 (S 0 11) (by omega)) ?_
    refine zg 4 (pc' := 645) (ls' := [(0, .ref 0), (1, .long sum), (3, .int (S 0 10)), (4, .int (S 0 11)), (5, .int 1)]) (st' := [.int (-1), .ref 0]) (I' := I) rfl ?_
    refine zcfb (b2 := 543) rfl rfl (zl_secondOf_x hI.1 (-1) (by omega)) ?_
    refine zg 4 (pc' := 657) (ls' := [(0, .ref 0), (1, .long sum), (3, .int (S 0 10)), (4, .int (S 0 11)), (5, .int 1)]) (st' := [.int (S 0 11), .ref 0]) (I' := I) rfl ?_
    refine zcfb (b2 := 542) rfl rfl (zl_valve_x hI.1 (S 0 11) (by omega)) ?_
    refine zg 4 (pc' := 669) (ls' := [(0, .ref 0), (1, .long sum), (3, .int (S 0 10)), (4, .int (S 0 11)), (5, .int 1)]) (st' := [.int (S 0 11), .ref 0]) (I' := I) rfl ?_
    refine zcfb (b2 := 541) rfl rfl (zl_leak_x hI.1 (S 0 11) (by omega)) ?_
    refine zg 4 (pc' := 681) (ls' := [(0, .ref 0), (1, .long sum), (3, .int (S 0 10)), (4, .int (S 0 11)), (5, .int 1)]) (st' := [.int (S 0 11), .ref 0]) (I' := I) rfl ?_
    refine zcfb (b2 := 540) rfl rfl (zl_mesh_x hI.1 (S 0 11) (by omega)) ?_
    refine zg 4 (pc' := 692) (ls' := [(0, .ref 0), (1, .long sum), (3, .int (S 0 10)), (4, .int (S 0 11)), (5, .int 1)]) (st' := [.int (-1), .ref 0]) (I' := I) rfl ?_
    refine zcfb (b2 := 539) rfl rfl (zl_dirt_x hI.1 (-1) (by omega)) ?_
    refine zg 4 (pc' := 704) (ls' := [(0, .ref 0), (1, .long sum), (3, .int (S 0 10)), (4, .int (S 0 11)), (5, .int 1)]) (st' := [.int (S 0 11), .ref 0]) (I' := I) rfl ?_
    refine zcfb (b2 := 538) rfl rfl (zl_isOpen_x hI.1 (S 0 11) (by omega)) ?_
    refine zg 4 (pc' := 716) (ls' := [(0, .ref 0), (1, .long sum), (3, .int (S 0 10)), (4, .int (S 0 11)), (5, .int 1)]) (st' := [.int (S 0 11), .ref 0]) (I' := I) rfl ?_
    refine zcfb (b2 := 537) rfl rfl (zl_flow_x hI.1 (S 0 11) (by omega)) ?_
    refine zg 4 (pc' := 728) (ls' := [(0, .ref 0), (1, .long sum), (3, .int (S 0 10)), (4, .int (S 0 11)), (5, .int 1)]) (st' := [.int (S 0 11), .ref 0]) (I' := I) rfl ?_
    refine zcfb (b2 := 536) rfl rfl (zl_litres_x hI.1 (S 0 11) (by omega)) ?_
    refine zg 4 (pc' := 740) (ls' := [(0, .ref 0), (1, .long sum), (3, .int (S 0 10)), (4, .int (S 0 11)), (5, .int 1)]) (st' := [.int (S 0 11), .ref 0]) (I' := I) rfl ?_
    refine zcfb (b2 := 535) rfl rfl (zl_byPx hI.1 hI.2.1 (S 0 11) (fun t g0 g1 e => by have g2 := zrP_in hI.2.1 g0 g1; rw [e] at g2; omega)) ?_
    refine zg 4 (pc' := 751) (ls' := [(0, .ref 0), (1, .long sum), (3, .int (S 0 10)), (4, .int (S 0 11)), (5, .int 1)]) (st' := [.int (-1), .ref 0]) (I' := I) rfl ?_
    refine zcfb (b2 := 534) rfl rfl (zl_byPx hI.1 hI.2.1 (-1) (fun t g0 g1 e => by have g2 := zrP_in hI.2.1 g0 g1; rw [e] at g2; omega)) ?_
    refine zg 5 (pc' := 763) (ls' := [(0, .ref 0), (1, .long sum), (3, .int (S 0 10)), (4, .int (S 0 11)), (5, .int 1)]) (st' := [.int 0, .int (S 0 10), .ref 0]) (I' := I) rfl ?_
    refine zcfb (b2 := 533) rfl rfl (zl_areC_f hI.1 (S 0 10) 0 (by omega)) ?_
    refine zg 5 (pc' := 775) (ls' := [(0, .ref 0), (1, .long sum), (3, .int (S 0 10)), (4, .int (S 0 11)), (5, .int 1)]) (st' := [.int (S 0 10), .int 0, .ref 0]) (I' := I) rfl ?_
    refine zcfb (b2 := 532) rfl rfl (zl_areC_t hI.1 0 (S 0 10) (by omega) (by omega)) ?_
    refine zg 4 (pc' := 787) (ls' := [(0, .ref 0), (1, .long sum), (3, .int (S 0 10)), (4, .int (S 0 11)), (5, .int 1)]) (st' := [.int (S 0 11), .ref 0]) (I' := I) rfl ?_
    refine zcfb (b2 := 531) rfl rfl (zl_isBridge_x hI.1 (S 0 11) (by omega)) ?_
    refine zg 5 (pc' := 799) (ls' := [(0, .ref 0), (1, .long sum), (3, .int (S 0 10)), (4, .int (S 0 11)), (5, .int 1)]) (st' := [.int (S 0 10), .int (S 0 10), .ref 0]) (I' := I) rfl ?_
    refine zcfb (b2 := 530) rfl rfl (zl_width_f hI.1 (S 0 10) (S 0 10) (by omega)) ?_
    refine zg 5 (pc' := 811) (ls' := [(0, .ref 0), (1, .long sum), (3, .int (S 0 10)), (4, .int (S 0 11)), (5, .int 1)]) (st' := [.int (-1), .int 0, .ref 0]) (I' := I) rfl ?_
    refine zcfb (b2 := 529) rfl rfl (zl_bySet_t hI.1 0 (-1) (by omega) (by omega)) ?_
    refine zg 5 (pc' := 823) (ls' := [(0, .ref 0), (1, .long sum), (3, .int (S 0 10)), (4, .int (S 0 11)), (5, .int 1)]) (st' := [.int 0, .int (S 0 10), .ref 0]) (I' := I) rfl ?_
    refine zcfb (b2 := 528) rfl rfl (zl_cleanx_f hI.1 (S 0 10) 0 (by omega)) ?_
    refine zg 5 (pc' := 835) (ls' := [(0, .ref 0), (1, .long sum), (3, .int (S 0 10)), (4, .int (S 0 11)), (5, .int 1)]) (st' := [.int (S 0 10), .int 0, .ref 0]) (I' := I) rfl ?_
    refine zcfb (b2 := 527) rfl rfl (zl_passx_t hI.1 0 (S 0 10) (by omega) (by omega)) ?_
    refine zg 4 (pc' := 846) (ls' := [(0, .ref 0), (1, .long sum), (3, .int (S 0 10)), (4, .int (S 0 11)), (5, .int 1)]) (st' := [.int (S 0 10), .ref 0]) (I' := I) rfl ?_
    refine zcfb (b2 := 526) rfl rfl (zl_renderTank_x hI.1 (S 0 10) (by omega)) ?_
    refine zg 4 (pc' := 858) (ls' := [(0, .ref 0), (1, .long sum), (3, .int (S 0 10)), (4, .int (S 0 11)), (5, .int 1)]) (st' := [.int (S 0 11), .ref 0]) (I' := I) rfl ?_
    refine zcfb (b2 := 525) rfl rfl (zl_renderPipe_x hI.1 (S 0 11) (by omega)) ?_
    refine zg 4 (pc' := 869) (ls' := [(0, .ref 0), (1, .long sum), (3, .int (S 0 10)), (4, .int (S 0 11)), (5, .int 1)]) (st' := [.int (-1), .ref 0]) (I' := I) rfl ?_
    refine zcfb (b2 := 524) rfl rfl (zl_outputAt_x n (-1) hn (by omega)) ?_
    refine zg 4 (pc' := 881) (ls' := [(0, .ref 0), (1, .long sum), (3, .int (S 0 10)), (4, .int (S 0 11)), (5, .int 1)]) (st' := [.int 60, .ref 0]) (I' := I) rfl ?_
    refine zcfb (b2 := 523) rfl rfl (zl_outputAt_x n 60 hn (by omega)) ?_
    refine zg 4 (pc' := 893) (ls' := [(0, .ref 0), (1, .long sum), (3, .int (S 0 10)), (4, .int (S 0 11)), (5, .int 1)]) (st' := [.int 31, .ref 0]) (I' := I) rfl ?_
    refine zcfb (b2 := 522) rfl rfl (zl_typex 31 (by omega)) ?_
    refine zg 4 (pc' := 905) (ls' := [(0, .ref 0), (1, .long sum), (3, .int (S 0 10)), (4, .int (S 0 11)), (5, .int 1)]) (st' := [.int 127, .ref 0]) (I' := I) rfl ?_
    refine zcfb (b2 := 521) rfl rfl (zl_typex 127 (by omega)) ?_
    refine zg 9 (pc' := 930) (ls' := [(5, .int 1), (0, .ref 0), (1, .long sum), (3, .int (S 0 10)), (4, .int (S 0 11))]) (st' := [.ref 2037, .ref 0]) (I' := I) rfl ?_
    refine zcP (b2 := 520) rfl rfl (zl_runs_q hI) (fun x J1 hP => ?_)
    obtain ⟨rfl, hI1, hK1, hn1, hc1⟩ := hP
    refine zg 3 (pc' := 940) (ls' := [(5, .int 1), (0, .ref 0), (1, .long sum), (3, .int (S 0 10)), (4, .int (S 0 11))]) (st' := [.ref 0]) (I' := J1) rfl ?_
    refine zcf rfl rfl (zl_errorPosition 0 hn1 (by decide)) ?_
    refine zg 3 (pc' := 950) (ls' := [(5, .int 1), (0, .ref 0), (1, .long sum), (3, .int (S 0 10)), (4, .int (S 0 11))]) (st' := [.ref 2038, .ref 0]) (I' := J1) rfl ?_
    refine zcP (b2 := 518) rfl rfl (zl_runs_w hI1) (fun x J2 hP => ?_)
    obtain ⟨rfl, hI2, hK2, hn2, hc2⟩ := hP
    refine zg 3 (pc' := 960) (ls' := [(5, .int 1), (0, .ref 0), (1, .long sum), (3, .int (S 0 10)), (4, .int (S 0 11))]) (st' := [.ref 0]) (I' := J2) rfl ?_
    refine zcf rfl rfl (zl_failedCommand 1 hc2 (by decide)) ?_
    refine zg 4 (pc' := 971) (ls' := [(5, .int 1), (0, .ref 0), (1, .long sum), (3, .int (S 0 10)), (4, .int (S 0 11))]) (st' := [.ref 2039, .ref 0]) (I' := J2) rfl ?_
    refine zcP (b2 := 516) rfl rfl (zl_runs_d hI2) (fun x J3 hP => ?_)
    obtain ⟨rfl, hI3, hK3, hn3, hc3⟩ := hP
    refine zg 3 (pc' := 981) (ls' := [(5, .int 1), (0, .ref 0), (1, .long sum), (3, .int (S 0 10)), (4, .int (S 0 11))]) (st' := [.ref 0]) (I' := J3) rfl ?_
    refine zcf rfl rfl (zl_failedCommand 0 hc3 (by decide)) ?_
    refine zg 2 (pc' := 988) (ls' := [(5, .int 1), (0, .ref 0), (1, .long sum), (3, .int (S 0 10)), (4, .int (S 0 11))]) (st' := [.ref 0]) (I' := J3) rfl ?_
    refine zcf rfl rfl (zl_errorPosition 0 ((hn3.trans hn2).trans hn1) (by decide)) ?_
    refine zg 2 (pc' := 995) (ls' := [(5, .int 1), (0, .ref 0), (1, .long sum), (3, .int (S 0 10)), (4, .int (S 0 11))]) (st' := [.ref 0]) (I' := J3) rfl ?_
    refine zcA (b1 := 508) (b2 := 0) rfl rfl (zl_asksF hI3.1 hI3.2.1 (by omega)) (fun J4 hf4 hO4 => ?_)
    refine zg 2 (pc' := 1000) (ls' := [(5, .int 1), (0, .ref 0), (1, .long sum), (3, .int (S 0 10)), (4, .int (S 0 11))]) (st' := [.int ((lg_cmp (zAns sl dy S) sum))]) (I' := J4) rfl ?_
    refine zif rfl rfl (fun h2 => ?_) (fun h2 => ?_)
    · have h2 := zc_ne.1.mp h2
      exact absurd (by rw [hs]; exact zcmp_self _) h2
    · have h2 := zc_ne.2.mp h2
      refine zg 2 (pc' := 1008) (ls' := [(5, .int 1), (0, .ref 0), (1, .long sum), (3, .int (S 0 10)), (4, .int (S 0 11))]) (st' := [.int 1]) (I' := J4) rfl ?_
      exact ziret rfl rfl rfl (zP1 ⟨rfl, zIv_zfr hI3 hf4, zKp_trans (zKp_trans (zKp_trans hK1 hK2) hK3) (zKp_zfr hf4)⟩)
set_option maxRecDepth 8000 in
theorem zt_twl {sl D dy : Nat} {I : zM} {S : Nat → Nat → Int32} {L : List (Nat → Nat → Int32)} {b0 : Nat} {sum : Int64} {R : Nat → Option Value → zM → Prop} (hI : zIv S L I) (hm : 2 ≤ (S 0 10).toInt) (kk : zW sl (D + 13) dy 177 536 [(0, .ref 0), (1, .long sum), (3, .int (S 0 10)), (4, .int (S 0 11)), (5, .int 1)] [] I (zRg b0 R)) : ∀ (k : Nat) (i : Int32) (h0 : 0 ≤ i.toInt) (hk : i.toInt + (k : Int) = (S 0 10).toInt), zW sl (D + 13) dy 177 375 [(0, .ref 0), (1, .long sum), (3, .int (S 0 10)), (4, .int (S 0 11)), (5, .int 1), (6, .int i)] [] I (zRg (k * 6 + b0) (R)) := by
  intro k
  induction k with
  | zero =>
    intro i h0 hk
    have zz0 : (0 : Int32).toInt = 0 := rfl
    have zz1 : (1 : Int32).toInt = 1 := rfl
    have zz5 : (5 : Int32).toInt = 5 := rfl
    have zz8 : (8 : Int32).toInt = 8 := rfl
    have zz9 : (9 : Int32).toInt = 9 := rfl
    have zz10 : (10 : Int32).toInt = 10 := rfl
    have zz12 : (12 : Int32).toInt = 12 := rfl
    have zz31 : (31 : Int32).toInt = 31 := rfl
    have zz50 : (50 : Int32).toInt = 50 := rfl
    have zz60 : (60 : Int32).toInt = 60 := rfl
    have zz61 : (61 : Int32).toInt = 61 := rfl
    have zz64 : (64 : Int32).toInt = 64 := rfl
    have zz105 : (105 : Int32).toInt = 105 := rfl
    have zz122 : (122 : Int32).toInt = 122 := rfl
    have zz127 : (127 : Int32).toInt = 127 := rfl
    have zz255 : (255 : Int32).toInt = 255 := rfl
    have zz256 : (256 : Int32).toInt = 256 := rfl
    have zz998 : (998 : Int32).toInt = 998 := rfl
    have zz999 : (999 : Int32).toInt = 999 := rfl
    have zz1000 : (1000 : Int32).toInt = 1000 := rfl
    have zzm : (-1 : Int32).toInt = -1 := rfl
    have hT := hI.2.1.1
    have hP := hI.2.1.2.1
    refine zg 2 (pc' := 378) (ls' := [(0, .ref 0), (1, .long sum), (3, .int (S 0 10)), (4, .int (S 0 11)), (5, .int 1), (6, .int i)]) (st' := [.int (S 0 10), .int i]) (I' := I) rfl ?_
    refine zicmp rfl rfl (fun h1 => ?_) (fun h1 => ?_)
    · have h1 := zc_ge.1.mp h1
      refine zfew (l1 := [(0, .ref 0), (1, .long sum), (3, .int (S 0 10)), (4, .int (S 0 11)), (5, .int 1)]) [(6, .int i)] (List.Perm.refl _) rfl ?_
      exact zwp kk (fun c v J q => q) (by omega)
    · have h1 := zc_ge.2.mp h1
      exfalso; omega
  | succ k ih =>
    intro i h0 hk
    have zz0 : (0 : Int32).toInt = 0 := rfl
    have zz1 : (1 : Int32).toInt = 1 := rfl
    have zz5 : (5 : Int32).toInt = 5 := rfl
    have zz8 : (8 : Int32).toInt = 8 := rfl
    have zz9 : (9 : Int32).toInt = 9 := rfl
    have zz10 : (10 : Int32).toInt = 10 := rfl
    have zz12 : (12 : Int32).toInt = 12 := rfl
    have zz31 : (31 : Int32).toInt = 31 := rfl
    have zz50 : (50 : Int32).toInt = 50 := rfl
    have zz60 : (60 : Int32).toInt = 60 := rfl
    have zz61 : (61 : Int32).toInt = 61 := rfl
    have zz64 : (64 : Int32).toInt = 64 := rfl
    have zz105 : (105 : Int32).toInt = 105 := rfl
    have zz122 : (122 : Int32).toInt = 122 := rfl
    have zz127 : (127 : Int32).toInt = 127 := rfl
    have zz255 : (255 : Int32).toInt = 255 := rfl
    have zz256 : (256 : Int32).toInt = 256 := rfl
    have zz998 : (998 : Int32).toInt = 998 := rfl
    have zz999 : (999 : Int32).toInt = 999 := rfl
    have zz1000 : (1000 : Int32).toInt = 1000 := rfl
    have zzm : (-1 : Int32).toInt = -1 := rfl
    have hT := hI.2.1.1
    have hP := hI.2.1.2.1
    refine zg 2 (pc' := 378) (ls' := [(0, .ref 0), (1, .long sum), (3, .int (S 0 10)), (4, .int (S 0 11)), (5, .int 1), (6, .int i)]) (st' := [.int (S 0 10), .int i]) (I' := I) rfl ?_
    refine zicmp rfl rfl (fun h1 => ?_) (fun h1 => ?_)
    · have h1 := zc_ge.1.mp h1
      exfalso; omega
    · have h1 := zc_ge.2.mp h1
      have hTk := zOK_tank hI.2.1 (t := i) h0 (by omega)
      have hs1 := zti_sub (x := S 1 i.toNatClampNeg) (y := S 2 i.toNatClampNeg) (by omega) (by omega)
      refine zg 2 (pc' := 384) (ls' := [(0, .ref 0), (1, .long sum), (3, .int (S 0 10)), (4, .int (S 0 11)), (5, .int 1), (6, .int i)]) (st' := [.int i, .ref 0]) (I' := I) rfl ?_
      refine zcf rfl rfl (zl_capacity hI.1 hI.2.1 i ⟨h0, by omega⟩) ?_
      refine zg 2 (pc' := 390) (ls' := [(0, .ref 0), (1, .long sum), (3, .int (S 0 10)), (4, .int (S 0 11)), (5, .int 1), (6, .int i)]) (st' := [.int i, .ref 0, .int (S 1 i.toNatClampNeg)]) (I' := I) rfl ?_
      refine zcf rfl rfl (zl_content hI.1 hI.2.1 i ⟨h0, by omega⟩) ?_
      refine zg 6 (pc' := 406) (ls' := [(7, .int (((S 1 i.toNatClampNeg) - (S 2 i.toNatClampNeg)))), (0, .ref 0), (1, .long sum), (3, .int (S 0 10)), (4, .int (S 0 11)), (5, .int 1), (6, .int i)]) (st' := [.int 998, .int (((S 1 i.toNatClampNeg) - (S 2 i.toNatClampNeg)))]) (I' := I) rfl ?_
      refine zicmp rfl rfl (fun h2 => ?_) (fun h2 => ?_)
      · have h2 := zc_gt.1.mp h2
        refine zg 2 (pc' := 429) (ls' := [(7, .int (((S 1 i.toNatClampNeg) - (S 2 i.toNatClampNeg)))), (0, .ref 0), (1, .long sum), (3, .int (S 0 10)), (4, .int (S 0 11)), (5, .int 1), (6, .int i)]) (st' := [.int i, .ref 0]) (I' := I) rfl ?_
        refine zcf rfl rfl (zl_content hI.1 hI.2.1 i ⟨h0, by omega⟩) ?_
        refine zg 1 (pc' := 435) (ls' := [(7, .int (((S 1 i.toNatClampNeg) - (S 2 i.toNatClampNeg)))), (0, .ref 0), (1, .long sum), (3, .int (S 0 10)), (4, .int (S 0 11)), (5, .int 1), (6, .int i)]) (st' := [.int 998, .int (S 2 i.toNatClampNeg)]) (I' := I) rfl ?_
        refine zicmp rfl rfl (fun h3 => ?_) (fun h3 => ?_)
        · have h3 := zc_gt.1.mp h3
          refine zg 3 (pc' := 463) (ls' := [(7, .int (((S 1 i.toNatClampNeg) - (S 2 i.toNatClampNeg)))), (0, .ref 0), (1, .long sum), (3, .int (S 0 10)), (4, .int (S 0 11)), (5, .int 1), (6, .int i)]) (st' := [.int 64, .int i, .ref 0]) (I' := I) rfl ?_
          refine zcfb (b2 := (k * 6 + b0 + 3)) rfl rfl (zl_hasx hI.1 i 64 ⟨h0, by omega⟩ (by omega)) ?_
          refine zg 5 (pc' := 477) (ls' := [(7, .int (((S 1 i.toNatClampNeg) - (S 2 i.toNatClampNeg)))), (0, .ref 0), (1, .long sum), (3, .int (S 0 10)), (4, .int (S 0 11)), (5, .int 1), (6, .int i)]) (st' := [.int 105, .int i, .ref 0]) (I' := I) rfl ?_
          refine zcfb (b2 := (k * 6 + b0 + 2)) rfl rfl (zl_hasx hI.1 i 105 ⟨h0, by omega⟩ (by omega)) ?_
          refine zg 5 (pc' := 490) (ls' := [(7, .int (((S 1 i.toNatClampNeg) - (S 2 i.toNatClampNeg)))), (0, .ref 0), (1, .long sum), (3, .int (S 0 10)), (4, .int (S 0 11)), (5, .int 1), (6, .int i)]) (st' := [.int i, .int 0, .ref 0]) (I' := I) rfl ?_
          refine zcb rfl rfl (zl_connected hI.1 hI.2.1 0 i (by omega) ⟨h0, by omega⟩) (fun hcon => ?_) (fun hcon => ?_)
          · skip
            refine zg 7 (pc' := 375) (ls' := [(6, .int (i + 1)), (5, .int 1), (7, .int (((S 1 i.toNatClampNeg) - (S 2 i.toNatClampNeg)))), (0, .ref 0), (1, .long sum), (3, .int (S 0 10)), (4, .int (S 0 11))]) (st' := []) (I' := I) rfl ?_
            refine zfew (l1 := [(0, .ref 0), (1, .long sum), (3, .int (S 0 10)), (4, .int (S 0 11)), (5, .int 1), (6, .int (i + 1))]) [(7, .int (((S 1 i.toNatClampNeg) - (S 2 i.toNatClampNeg))))] (List.Perm.trans (List.Perm.trans (List.Perm.trans (List.Perm.trans (List.Perm.trans (List.Perm.trans (List.Perm.trans (List.Perm.trans (List.Perm.trans (List.Perm.trans (List.Perm.trans (List.Perm.trans (List.Perm.cons _ (List.Perm.cons _ (List.Perm.cons _ (List.Perm.cons _ (List.Perm.swap _ _ _))))) (List.Perm.cons _ (List.Perm.cons _ (List.Perm.cons _ (List.Perm.swap _ _ _))))) (List.Perm.cons _ (List.Perm.cons _ (List.Perm.swap _ _ _)))) (List.Perm.cons _ (List.Perm.swap _ _ _))) (List.Perm.swap _ _ _)) (List.Perm.cons _ (List.Perm.cons _ (List.Perm.cons _ (List.Perm.cons _ (List.Perm.swap _ _ _)))))) (List.Perm.cons _ (List.Perm.cons _ (List.Perm.cons _ (List.Perm.swap _ _ _))))) (List.Perm.cons _ (List.Perm.cons _ (List.Perm.swap _ _ _)))) (List.Perm.cons _ (List.Perm.swap _ _ _))) (List.Perm.cons _ (List.Perm.cons _ (List.Perm.cons _ (List.Perm.cons _ (List.Perm.cons _ (List.Perm.swap _ _ _))))))) (List.Perm.cons _ (List.Perm.cons _ (List.Perm.cons _ (List.Perm.cons _ (List.Perm.swap _ _ _)))))) (List.Perm.cons _ (List.Perm.cons _ (List.Perm.cons _ (List.Perm.swap _ _ _))))) (List.Perm.cons _ (List.Perm.cons _ (List.Perm.swap _ _ _)))) rfl ?_
            have ha := zadd1 h0 (by omega)
            exact zwp (ih (i + 1) (by omega) (by omega)) (fun c v J q => q) (by omega)
          · skip
            refine zg 5 (pc' := 501) (ls' := [(7, .int (((S 1 i.toNatClampNeg) - (S 2 i.toNatClampNeg)))), (0, .ref 0), (1, .long sum), (3, .int (S 0 10)), (4, .int (S 0 11)), (5, .int 1), (6, .int i)]) (st' := [.int i, .int 0, .ref 0]) (I' := I) rfl ?_
            refine zcfb (b2 := (k * 6 + b0 + 1)) rfl rfl (zl_cleanest0 hI.1 hI.2.1 0 i (by omega) ⟨h0, by omega⟩ hcon) ?_
            refine zg 5 (pc' := 514) (ls' := [(7, .int (((S 1 i.toNatClampNeg) - (S 2 i.toNatClampNeg)))), (0, .ref 0), (1, .long sum), (3, .int (S 0 10)), (4, .int (S 0 11)), (5, .int 1), (6, .int i)]) (st' := [.int 0, .int i, .ref 0]) (I' := I) rfl ?_
            refine zcfb (b2 := (k * 6 + b0 + 0)) rfl rfl (zl_passx hI.1 hI.2.1 i 0 ⟨h0, by omega⟩ (by omega) (fun g => hcon (zrch_sym hI.2.1 (show zIn i from ⟨h0, by omega⟩) (show zIn 0 from ⟨by decide, by decide⟩) g))) ?_
            refine zg 7 (pc' := 375) (ls' := [(6, .int (i + 1)), (5, .int 1), (7, .int (((S 1 i.toNatClampNeg) - (S 2 i.toNatClampNeg)))), (0, .ref 0), (1, .long sum), (3, .int (S 0 10)), (4, .int (S 0 11))]) (st' := []) (I' := I) rfl ?_
            refine zfew (l1 := [(0, .ref 0), (1, .long sum), (3, .int (S 0 10)), (4, .int (S 0 11)), (5, .int 1), (6, .int (i + 1))]) [(7, .int (((S 1 i.toNatClampNeg) - (S 2 i.toNatClampNeg))))] (List.Perm.trans (List.Perm.trans (List.Perm.trans (List.Perm.trans (List.Perm.trans (List.Perm.trans (List.Perm.trans (List.Perm.trans (List.Perm.trans (List.Perm.trans (List.Perm.trans (List.Perm.trans (List.Perm.cons _ (List.Perm.cons _ (List.Perm.cons _ (List.Perm.cons _ (List.Perm.swap _ _ _))))) (List.Perm.cons _ (List.Perm.cons _ (List.Perm.cons _ (List.Perm.swap _ _ _))))) (List.Perm.cons _ (List.Perm.cons _ (List.Perm.swap _ _ _)))) (List.Perm.cons _ (List.Perm.swap _ _ _))) (List.Perm.swap _ _ _)) (List.Perm.cons _ (List.Perm.cons _ (List.Perm.cons _ (List.Perm.cons _ (List.Perm.swap _ _ _)))))) (List.Perm.cons _ (List.Perm.cons _ (List.Perm.cons _ (List.Perm.swap _ _ _))))) (List.Perm.cons _ (List.Perm.cons _ (List.Perm.swap _ _ _)))) (List.Perm.cons _ (List.Perm.swap _ _ _))) (List.Perm.cons _ (List.Perm.cons _ (List.Perm.cons _ (List.Perm.cons _ (List.Perm.cons _ (List.Perm.swap _ _ _))))))) (List.Perm.cons _ (List.Perm.cons _ (List.Perm.cons _ (List.Perm.cons _ (List.Perm.swap _ _ _)))))) (List.Perm.cons _ (List.Perm.cons _ (List.Perm.cons _ (List.Perm.swap _ _ _))))) (List.Perm.cons _ (List.Perm.cons _ (List.Perm.swap _ _ _)))) rfl ?_
            have ha := zadd1 h0 (by omega)
            exact zwp (ih (i + 1) (by omega) (by omega)) (fun c v J q => q) (by omega)
        · have h3 := zc_gt.2.mp h3
          refine zg 4 (pc' := 444) (ls' := [(7, .int (((S 1 i.toNatClampNeg) - (S 2 i.toNatClampNeg)))), (0, .ref 0), (1, .long sum), (3, .int (S 0 10)), (4, .int (S 0 11)), (5, .int 1), (6, .int i)]) (st' := [.int i, .ref 0, .int i, .ref 0]) (I' := I) rfl ?_
          refine zcf rfl rfl (zl_content hI.1 hI.2.1 i ⟨h0, by omega⟩) ?_
          have hs4 := zti_add (x := S 2 i.toNatClampNeg) (y := 1) (by omega) (by omega)
          refine zg 2 (pc' := 449) (ls' := [(7, .int (((S 1 i.toNatClampNeg) - (S 2 i.toNatClampNeg)))), (0, .ref 0), (1, .long sum), (3, .int (S 0 10)), (4, .int (S 0 11)), (5, .int 1), (6, .int i)]) (st' := [.int (((S 2 i.toNatClampNeg) + 1)), .int i, .ref 0]) (I' := I) rfl ?_
          refine zcfb (b2 := (k * 6 + b0 + 4)) rfl rfl (zl_draw_3 hI.1 hI.2.1 i (((S 2 i.toNatClampNeg) + 1)) (by unfold zrfD; (repeat' split) <;> first | rfl | contradiction | (exfalso; omega))) ?_
          refine zg 5 (pc' := 463) (ls' := [(7, .int (((S 1 i.toNatClampNeg) - (S 2 i.toNatClampNeg)))), (0, .ref 0), (1, .long sum), (3, .int (S 0 10)), (4, .int (S 0 11)), (5, .int 1), (6, .int i)]) (st' := [.int 64, .int i, .ref 0]) (I' := I) rfl ?_
          refine zcfb (b2 := (k * 6 + b0 + 3)) rfl rfl (zl_hasx hI.1 i 64 ⟨h0, by omega⟩ (by omega)) ?_
          refine zg 5 (pc' := 477) (ls' := [(7, .int (((S 1 i.toNatClampNeg) - (S 2 i.toNatClampNeg)))), (0, .ref 0), (1, .long sum), (3, .int (S 0 10)), (4, .int (S 0 11)), (5, .int 1), (6, .int i)]) (st' := [.int 105, .int i, .ref 0]) (I' := I) rfl ?_
          refine zcfb (b2 := (k * 6 + b0 + 2)) rfl rfl (zl_hasx hI.1 i 105 ⟨h0, by omega⟩ (by omega)) ?_
          refine zg 5 (pc' := 490) (ls' := [(7, .int (((S 1 i.toNatClampNeg) - (S 2 i.toNatClampNeg)))), (0, .ref 0), (1, .long sum), (3, .int (S 0 10)), (4, .int (S 0 11)), (5, .int 1), (6, .int i)]) (st' := [.int i, .int 0, .ref 0]) (I' := I) rfl ?_
          refine zcb rfl rfl (zl_connected hI.1 hI.2.1 0 i (by omega) ⟨h0, by omega⟩) (fun hcon => ?_) (fun hcon => ?_)
          · skip
            refine zg 7 (pc' := 375) (ls' := [(6, .int (i + 1)), (5, .int 1), (7, .int (((S 1 i.toNatClampNeg) - (S 2 i.toNatClampNeg)))), (0, .ref 0), (1, .long sum), (3, .int (S 0 10)), (4, .int (S 0 11))]) (st' := []) (I' := I) rfl ?_
            refine zfew (l1 := [(0, .ref 0), (1, .long sum), (3, .int (S 0 10)), (4, .int (S 0 11)), (5, .int 1), (6, .int (i + 1))]) [(7, .int (((S 1 i.toNatClampNeg) - (S 2 i.toNatClampNeg))))] (List.Perm.trans (List.Perm.trans (List.Perm.trans (List.Perm.trans (List.Perm.trans (List.Perm.trans (List.Perm.trans (List.Perm.trans (List.Perm.trans (List.Perm.trans (List.Perm.trans (List.Perm.trans (List.Perm.cons _ (List.Perm.cons _ (List.Perm.cons _ (List.Perm.cons _ (List.Perm.swap _ _ _))))) (List.Perm.cons _ (List.Perm.cons _ (List.Perm.cons _ (List.Perm.swap _ _ _))))) (List.Perm.cons _ (List.Perm.cons _ (List.Perm.swap _ _ _)))) (List.Perm.cons _ (List.Perm.swap _ _ _))) (List.Perm.swap _ _ _)) (List.Perm.cons _ (List.Perm.cons _ (List.Perm.cons _ (List.Perm.cons _ (List.Perm.swap _ _ _)))))) (List.Perm.cons _ (List.Perm.cons _ (List.Perm.cons _ (List.Perm.swap _ _ _))))) (List.Perm.cons _ (List.Perm.cons _ (List.Perm.swap _ _ _)))) (List.Perm.cons _ (List.Perm.swap _ _ _))) (List.Perm.cons _ (List.Perm.cons _ (List.Perm.cons _ (List.Perm.cons _ (List.Perm.cons _ (List.Perm.swap _ _ _))))))) (List.Perm.cons _ (List.Perm.cons _ (List.Perm.cons _ (List.Perm.cons _ (List.Perm.swap _ _ _)))))) (List.Perm.cons _ (List.Perm.cons _ (List.Perm.cons _ (List.Perm.swap _ _ _))))) (List.Perm.cons _ (List.Perm.cons _ (List.Perm.swap _ _ _)))) rfl ?_
            have ha := zadd1 h0 (by omega)
            exact zwp (ih (i + 1) (by omega) (by omega)) (fun c v J q => q) (by omega)
          · skip
            refine zg 5 (pc' := 501) (ls' := [(7, .int (((S 1 i.toNatClampNeg) - (S 2 i.toNatClampNeg)))), (0, .ref 0), (1, .long sum), (3, .int (S 0 10)), (4, .int (S 0 11)), (5, .int 1), (6, .int i)]) (st' := [.int i, .int 0, .ref 0]) (I' := I) rfl ?_
            refine zcfb (b2 := (k * 6 + b0 + 1)) rfl rfl (zl_cleanest0 hI.1 hI.2.1 0 i (by omega) ⟨h0, by omega⟩ hcon) ?_
            refine zg 5 (pc' := 514) (ls' := [(7, .int (((S 1 i.toNatClampNeg) - (S 2 i.toNatClampNeg)))), (0, .ref 0), (1, .long sum), (3, .int (S 0 10)), (4, .int (S 0 11)), (5, .int 1), (6, .int i)]) (st' := [.int 0, .int i, .ref 0]) (I' := I) rfl ?_
            refine zcfb (b2 := (k * 6 + b0 + 0)) rfl rfl (zl_passx hI.1 hI.2.1 i 0 ⟨h0, by omega⟩ (by omega) (fun g => hcon (zrch_sym hI.2.1 (show zIn i from ⟨h0, by omega⟩) (show zIn 0 from ⟨by decide, by decide⟩) g))) ?_
            refine zg 7 (pc' := 375) (ls' := [(6, .int (i + 1)), (5, .int 1), (7, .int (((S 1 i.toNatClampNeg) - (S 2 i.toNatClampNeg)))), (0, .ref 0), (1, .long sum), (3, .int (S 0 10)), (4, .int (S 0 11))]) (st' := []) (I' := I) rfl ?_
            refine zfew (l1 := [(0, .ref 0), (1, .long sum), (3, .int (S 0 10)), (4, .int (S 0 11)), (5, .int 1), (6, .int (i + 1))]) [(7, .int (((S 1 i.toNatClampNeg) - (S 2 i.toNatClampNeg))))] (List.Perm.trans (List.Perm.trans (List.Perm.trans (List.Perm.trans (List.Perm.trans (List.Perm.trans (List.Perm.trans (List.Perm.trans (List.Perm.trans (List.Perm.trans (List.Perm.trans (List.Perm.trans (List.Perm.cons _ (List.Perm.cons _ (List.Perm.cons _ (List.Perm.cons _ (List.Perm.swap _ _ _))))) (List.Perm.cons _ (List.Perm.cons _ (List.Perm.cons _ (List.Perm.swap _ _ _))))) (List.Perm.cons _ (List.Perm.cons _ (List.Perm.swap _ _ _)))) (List.Perm.cons _ (List.Perm.swap _ _ _))) (List.Perm.swap _ _ _)) (List.Perm.cons _ (List.Perm.cons _ (List.Perm.cons _ (List.Perm.cons _ (List.Perm.swap _ _ _)))))) (List.Perm.cons _ (List.Perm.cons _ (List.Perm.cons _ (List.Perm.swap _ _ _))))) (List.Perm.cons _ (List.Perm.cons _ (List.Perm.swap _ _ _)))) (List.Perm.cons _ (List.Perm.swap _ _ _))) (List.Perm.cons _ (List.Perm.cons _ (List.Perm.cons _ (List.Perm.cons _ (List.Perm.cons _ (List.Perm.swap _ _ _))))))) (List.Perm.cons _ (List.Perm.cons _ (List.Perm.cons _ (List.Perm.cons _ (List.Perm.swap _ _ _)))))) (List.Perm.cons _ (List.Perm.cons _ (List.Perm.cons _ (List.Perm.swap _ _ _))))) (List.Perm.cons _ (List.Perm.cons _ (List.Perm.swap _ _ _)))) rfl ?_
            have ha := zadd1 h0 (by omega)
            exact zwp (ih (i + 1) (by omega) (by omega)) (fun c v J q => q) (by omega)
      · have h2 := zc_gt.2.mp h2
        refine zg 3 (pc' := 414) (ls' := [(7, .int (((S 1 i.toNatClampNeg) - (S 2 i.toNatClampNeg)))), (0, .ref 0), (1, .long sum), (3, .int (S 0 10)), (4, .int (S 0 11)), (5, .int 1), (6, .int i)]) (st' := [.int (((S 1 i.toNatClampNeg) - (S 2 i.toNatClampNeg))), .int i, .ref 0]) (I' := I) rfl ?_
        have hs2 := zti_add (x := S 1 i.toNatClampNeg - S 2 i.toNatClampNeg) (y := 1) (by omega) (by omega)
        have hs3 := zti_add (x := S 2 i.toNatClampNeg) (y := S 1 i.toNatClampNeg - S 2 i.toNatClampNeg + 1) (by omega) (by omega)
        refine zg 3 (pc' := 417) (ls' := [(7, .int (((S 1 i.toNatClampNeg) - (S 2 i.toNatClampNeg)))), (0, .ref 0), (1, .long sum), (3, .int (S 0 10)), (4, .int (S 0 11)), (5, .int 1), (6, .int i)]) (st' := [.int 0, .int ((((S 1 i.toNatClampNeg) - (S 2 i.toNatClampNeg)) + 1)), .int i, .ref 0]) (I' := I) rfl ?_
        refine zcfb (b2 := (k * 6 + b0 + 5)) rfl rfl (zl_pour_3 hI.1 hI.2.1 i ((((S 1 i.toNatClampNeg) - (S 2 i.toNatClampNeg)) + 1)) 0 (by unfold zrfO; (repeat' split) <;> first | rfl | contradiction | (exfalso; omega))) ?_
        refine zg 4 (pc' := 429) (ls' := [(7, .int (((S 1 i.toNatClampNeg) - (S 2 i.toNatClampNeg)))), (0, .ref 0), (1, .long sum), (3, .int (S 0 10)), (4, .int (S 0 11)), (5, .int 1), (6, .int i)]) (st' := [.int i, .ref 0]) (I' := I) rfl ?_
        refine zcf rfl rfl (zl_content hI.1 hI.2.1 i ⟨h0, by omega⟩) ?_
        refine zg 1 (pc' := 435) (ls' := [(7, .int (((S 1 i.toNatClampNeg) - (S 2 i.toNatClampNeg)))), (0, .ref 0), (1, .long sum), (3, .int (S 0 10)), (4, .int (S 0 11)), (5, .int 1), (6, .int i)]) (st' := [.int 998, .int (S 2 i.toNatClampNeg)]) (I' := I) rfl ?_
        refine zicmp rfl rfl (fun h4 => ?_) (fun h4 => ?_)
        · have h4 := zc_gt.1.mp h4
          refine zg 3 (pc' := 463) (ls' := [(7, .int (((S 1 i.toNatClampNeg) - (S 2 i.toNatClampNeg)))), (0, .ref 0), (1, .long sum), (3, .int (S 0 10)), (4, .int (S 0 11)), (5, .int 1), (6, .int i)]) (st' := [.int 64, .int i, .ref 0]) (I' := I) rfl ?_
          refine zcfb (b2 := (k * 6 + b0 + 3)) rfl rfl (zl_hasx hI.1 i 64 ⟨h0, by omega⟩ (by omega)) ?_
          refine zg 5 (pc' := 477) (ls' := [(7, .int (((S 1 i.toNatClampNeg) - (S 2 i.toNatClampNeg)))), (0, .ref 0), (1, .long sum), (3, .int (S 0 10)), (4, .int (S 0 11)), (5, .int 1), (6, .int i)]) (st' := [.int 105, .int i, .ref 0]) (I' := I) rfl ?_
          refine zcfb (b2 := (k * 6 + b0 + 2)) rfl rfl (zl_hasx hI.1 i 105 ⟨h0, by omega⟩ (by omega)) ?_
          refine zg 5 (pc' := 490) (ls' := [(7, .int (((S 1 i.toNatClampNeg) - (S 2 i.toNatClampNeg)))), (0, .ref 0), (1, .long sum), (3, .int (S 0 10)), (4, .int (S 0 11)), (5, .int 1), (6, .int i)]) (st' := [.int i, .int 0, .ref 0]) (I' := I) rfl ?_
          refine zcb rfl rfl (zl_connected hI.1 hI.2.1 0 i (by omega) ⟨h0, by omega⟩) (fun hcon => ?_) (fun hcon => ?_)
          · skip
            refine zg 7 (pc' := 375) (ls' := [(6, .int (i + 1)), (5, .int 1), (7, .int (((S 1 i.toNatClampNeg) - (S 2 i.toNatClampNeg)))), (0, .ref 0), (1, .long sum), (3, .int (S 0 10)), (4, .int (S 0 11))]) (st' := []) (I' := I) rfl ?_
            refine zfew (l1 := [(0, .ref 0), (1, .long sum), (3, .int (S 0 10)), (4, .int (S 0 11)), (5, .int 1), (6, .int (i + 1))]) [(7, .int (((S 1 i.toNatClampNeg) - (S 2 i.toNatClampNeg))))] (List.Perm.trans (List.Perm.trans (List.Perm.trans (List.Perm.trans (List.Perm.trans (List.Perm.trans (List.Perm.trans (List.Perm.trans (List.Perm.trans (List.Perm.trans (List.Perm.trans (List.Perm.trans (List.Perm.cons _ (List.Perm.cons _ (List.Perm.cons _ (List.Perm.cons _ (List.Perm.swap _ _ _))))) (List.Perm.cons _ (List.Perm.cons _ (List.Perm.cons _ (List.Perm.swap _ _ _))))) (List.Perm.cons _ (List.Perm.cons _ (List.Perm.swap _ _ _)))) (List.Perm.cons _ (List.Perm.swap _ _ _))) (List.Perm.swap _ _ _)) (List.Perm.cons _ (List.Perm.cons _ (List.Perm.cons _ (List.Perm.cons _ (List.Perm.swap _ _ _)))))) (List.Perm.cons _ (List.Perm.cons _ (List.Perm.cons _ (List.Perm.swap _ _ _))))) (List.Perm.cons _ (List.Perm.cons _ (List.Perm.swap _ _ _)))) (List.Perm.cons _ (List.Perm.swap _ _ _))) (List.Perm.cons _ (List.Perm.cons _ (List.Perm.cons _ (List.Perm.cons _ (List.Perm.cons _ (List.Perm.swap _ _ _))))))) (List.Perm.cons _ (List.Perm.cons _ (List.Perm.cons _ (List.Perm.cons _ (List.Perm.swap _ _ _)))))) (List.Perm.cons _ (List.Perm.cons _ (List.Perm.cons _ (List.Perm.swap _ _ _))))) (List.Perm.cons _ (List.Perm.cons _ (List.Perm.swap _ _ _)))) rfl ?_
            have ha := zadd1 h0 (by omega)
            exact zwp (ih (i + 1) (by omega) (by omega)) (fun c v J q => q) (by omega)
          · skip
            refine zg 5 (pc' := 501) (ls' := [(7, .int (((S 1 i.toNatClampNeg) - (S 2 i.toNatClampNeg)))), (0, .ref 0), (1, .long sum), (3, .int (S 0 10)), (4, .int (S 0 11)), (5, .int 1), (6, .int i)]) (st' := [.int i, .int 0, .ref 0]) (I' := I) rfl ?_
            refine zcfb (b2 := (k * 6 + b0 + 1)) rfl rfl (zl_cleanest0 hI.1 hI.2.1 0 i (by omega) ⟨h0, by omega⟩ hcon) ?_
            refine zg 5 (pc' := 514) (ls' := [(7, .int (((S 1 i.toNatClampNeg) - (S 2 i.toNatClampNeg)))), (0, .ref 0), (1, .long sum), (3, .int (S 0 10)), (4, .int (S 0 11)), (5, .int 1), (6, .int i)]) (st' := [.int 0, .int i, .ref 0]) (I' := I) rfl ?_
            refine zcfb (b2 := (k * 6 + b0 + 0)) rfl rfl (zl_passx hI.1 hI.2.1 i 0 ⟨h0, by omega⟩ (by omega) (fun g => hcon (zrch_sym hI.2.1 (show zIn i from ⟨h0, by omega⟩) (show zIn 0 from ⟨by decide, by decide⟩) g))) ?_
            refine zg 7 (pc' := 375) (ls' := [(6, .int (i + 1)), (5, .int 1), (7, .int (((S 1 i.toNatClampNeg) - (S 2 i.toNatClampNeg)))), (0, .ref 0), (1, .long sum), (3, .int (S 0 10)), (4, .int (S 0 11))]) (st' := []) (I' := I) rfl ?_
            refine zfew (l1 := [(0, .ref 0), (1, .long sum), (3, .int (S 0 10)), (4, .int (S 0 11)), (5, .int 1), (6, .int (i + 1))]) [(7, .int (((S 1 i.toNatClampNeg) - (S 2 i.toNatClampNeg))))] (List.Perm.trans (List.Perm.trans (List.Perm.trans (List.Perm.trans (List.Perm.trans (List.Perm.trans (List.Perm.trans (List.Perm.trans (List.Perm.trans (List.Perm.trans (List.Perm.trans (List.Perm.trans (List.Perm.cons _ (List.Perm.cons _ (List.Perm.cons _ (List.Perm.cons _ (List.Perm.swap _ _ _))))) (List.Perm.cons _ (List.Perm.cons _ (List.Perm.cons _ (List.Perm.swap _ _ _))))) (List.Perm.cons _ (List.Perm.cons _ (List.Perm.swap _ _ _)))) (List.Perm.cons _ (List.Perm.swap _ _ _))) (List.Perm.swap _ _ _)) (List.Perm.cons _ (List.Perm.cons _ (List.Perm.cons _ (List.Perm.cons _ (List.Perm.swap _ _ _)))))) (List.Perm.cons _ (List.Perm.cons _ (List.Perm.cons _ (List.Perm.swap _ _ _))))) (List.Perm.cons _ (List.Perm.cons _ (List.Perm.swap _ _ _)))) (List.Perm.cons _ (List.Perm.swap _ _ _))) (List.Perm.cons _ (List.Perm.cons _ (List.Perm.cons _ (List.Perm.cons _ (List.Perm.cons _ (List.Perm.swap _ _ _))))))) (List.Perm.cons _ (List.Perm.cons _ (List.Perm.cons _ (List.Perm.cons _ (List.Perm.swap _ _ _)))))) (List.Perm.cons _ (List.Perm.cons _ (List.Perm.cons _ (List.Perm.swap _ _ _))))) (List.Perm.cons _ (List.Perm.cons _ (List.Perm.swap _ _ _)))) rfl ?_
            have ha := zadd1 h0 (by omega)
            exact zwp (ih (i + 1) (by omega) (by omega)) (fun c v J q => q) (by omega)
        · have h4 := zc_gt.2.mp h4
          refine zg 4 (pc' := 444) (ls' := [(7, .int (((S 1 i.toNatClampNeg) - (S 2 i.toNatClampNeg)))), (0, .ref 0), (1, .long sum), (3, .int (S 0 10)), (4, .int (S 0 11)), (5, .int 1), (6, .int i)]) (st' := [.int i, .ref 0, .int i, .ref 0]) (I' := I) rfl ?_
          refine zcf rfl rfl (zl_content hI.1 hI.2.1 i ⟨h0, by omega⟩) ?_
          have hs4 := zti_add (x := S 2 i.toNatClampNeg) (y := 1) (by omega) (by omega)
          refine zg 2 (pc' := 449) (ls' := [(7, .int (((S 1 i.toNatClampNeg) - (S 2 i.toNatClampNeg)))), (0, .ref 0), (1, .long sum), (3, .int (S 0 10)), (4, .int (S 0 11)), (5, .int 1), (6, .int i)]) (st' := [.int (((S 2 i.toNatClampNeg) + 1)), .int i, .ref 0]) (I' := I) rfl ?_
          refine zcfb (b2 := (k * 6 + b0 + 4)) rfl rfl (zl_draw_3 hI.1 hI.2.1 i (((S 2 i.toNatClampNeg) + 1)) (by unfold zrfD; (repeat' split) <;> first | rfl | contradiction | (exfalso; omega))) ?_
          refine zg 5 (pc' := 463) (ls' := [(7, .int (((S 1 i.toNatClampNeg) - (S 2 i.toNatClampNeg)))), (0, .ref 0), (1, .long sum), (3, .int (S 0 10)), (4, .int (S 0 11)), (5, .int 1), (6, .int i)]) (st' := [.int 64, .int i, .ref 0]) (I' := I) rfl ?_
          refine zcfb (b2 := (k * 6 + b0 + 3)) rfl rfl (zl_hasx hI.1 i 64 ⟨h0, by omega⟩ (by omega)) ?_
          refine zg 5 (pc' := 477) (ls' := [(7, .int (((S 1 i.toNatClampNeg) - (S 2 i.toNatClampNeg)))), (0, .ref 0), (1, .long sum), (3, .int (S 0 10)), (4, .int (S 0 11)), (5, .int 1), (6, .int i)]) (st' := [.int 105, .int i, .ref 0]) (I' := I) rfl ?_
          refine zcfb (b2 := (k * 6 + b0 + 2)) rfl rfl (zl_hasx hI.1 i 105 ⟨h0, by omega⟩ (by omega)) ?_
          refine zg 5 (pc' := 490) (ls' := [(7, .int (((S 1 i.toNatClampNeg) - (S 2 i.toNatClampNeg)))), (0, .ref 0), (1, .long sum), (3, .int (S 0 10)), (4, .int (S 0 11)), (5, .int 1), (6, .int i)]) (st' := [.int i, .int 0, .ref 0]) (I' := I) rfl ?_
          refine zcb rfl rfl (zl_connected hI.1 hI.2.1 0 i (by omega) ⟨h0, by omega⟩) (fun hcon => ?_) (fun hcon => ?_)
          · skip
            refine zg 7 (pc' := 375) (ls' := [(6, .int (i + 1)), (5, .int 1), (7, .int (((S 1 i.toNatClampNeg) - (S 2 i.toNatClampNeg)))), (0, .ref 0), (1, .long sum), (3, .int (S 0 10)), (4, .int (S 0 11))]) (st' := []) (I' := I) rfl ?_
            refine zfew (l1 := [(0, .ref 0), (1, .long sum), (3, .int (S 0 10)), (4, .int (S 0 11)), (5, .int 1), (6, .int (i + 1))]) [(7, .int (((S 1 i.toNatClampNeg) - (S 2 i.toNatClampNeg))))] (List.Perm.trans (List.Perm.trans (List.Perm.trans (List.Perm.trans (List.Perm.trans (List.Perm.trans (List.Perm.trans (List.Perm.trans (List.Perm.trans (List.Perm.trans (List.Perm.trans (List.Perm.trans (List.Perm.cons _ (List.Perm.cons _ (List.Perm.cons _ (List.Perm.cons _ (List.Perm.swap _ _ _))))) (List.Perm.cons _ (List.Perm.cons _ (List.Perm.cons _ (List.Perm.swap _ _ _))))) (List.Perm.cons _ (List.Perm.cons _ (List.Perm.swap _ _ _)))) (List.Perm.cons _ (List.Perm.swap _ _ _))) (List.Perm.swap _ _ _)) (List.Perm.cons _ (List.Perm.cons _ (List.Perm.cons _ (List.Perm.cons _ (List.Perm.swap _ _ _)))))) (List.Perm.cons _ (List.Perm.cons _ (List.Perm.cons _ (List.Perm.swap _ _ _))))) (List.Perm.cons _ (List.Perm.cons _ (List.Perm.swap _ _ _)))) (List.Perm.cons _ (List.Perm.swap _ _ _))) (List.Perm.cons _ (List.Perm.cons _ (List.Perm.cons _ (List.Perm.cons _ (List.Perm.cons _ (List.Perm.swap _ _ _))))))) (List.Perm.cons _ (List.Perm.cons _ (List.Perm.cons _ (List.Perm.cons _ (List.Perm.swap _ _ _)))))) (List.Perm.cons _ (List.Perm.cons _ (List.Perm.cons _ (List.Perm.swap _ _ _))))) (List.Perm.cons _ (List.Perm.cons _ (List.Perm.swap _ _ _)))) rfl ?_
            have ha := zadd1 h0 (by omega)
            exact zwp (ih (i + 1) (by omega) (by omega)) (fun c v J q => q) (by omega)
          · skip
            refine zg 5 (pc' := 501) (ls' := [(7, .int (((S 1 i.toNatClampNeg) - (S 2 i.toNatClampNeg)))), (0, .ref 0), (1, .long sum), (3, .int (S 0 10)), (4, .int (S 0 11)), (5, .int 1), (6, .int i)]) (st' := [.int i, .int 0, .ref 0]) (I' := I) rfl ?_
            refine zcfb (b2 := (k * 6 + b0 + 1)) rfl rfl (zl_cleanest0 hI.1 hI.2.1 0 i (by omega) ⟨h0, by omega⟩ hcon) ?_
            refine zg 5 (pc' := 514) (ls' := [(7, .int (((S 1 i.toNatClampNeg) - (S 2 i.toNatClampNeg)))), (0, .ref 0), (1, .long sum), (3, .int (S 0 10)), (4, .int (S 0 11)), (5, .int 1), (6, .int i)]) (st' := [.int 0, .int i, .ref 0]) (I' := I) rfl ?_
            refine zcfb (b2 := (k * 6 + b0 + 0)) rfl rfl (zl_passx hI.1 hI.2.1 i 0 ⟨h0, by omega⟩ (by omega) (fun g => hcon (zrch_sym hI.2.1 (show zIn i from ⟨h0, by omega⟩) (show zIn 0 from ⟨by decide, by decide⟩) g))) ?_
            refine zg 7 (pc' := 375) (ls' := [(6, .int (i + 1)), (5, .int 1), (7, .int (((S 1 i.toNatClampNeg) - (S 2 i.toNatClampNeg)))), (0, .ref 0), (1, .long sum), (3, .int (S 0 10)), (4, .int (S 0 11))]) (st' := []) (I' := I) rfl ?_
            refine zfew (l1 := [(0, .ref 0), (1, .long sum), (3, .int (S 0 10)), (4, .int (S 0 11)), (5, .int 1), (6, .int (i + 1))]) [(7, .int (((S 1 i.toNatClampNeg) - (S 2 i.toNatClampNeg))))] (List.Perm.trans (List.Perm.trans (List.Perm.trans (List.Perm.trans (List.Perm.trans (List.Perm.trans (List.Perm.trans (List.Perm.trans (List.Perm.trans (List.Perm.trans (List.Perm.trans (List.Perm.trans (List.Perm.cons _ (List.Perm.cons _ (List.Perm.cons _ (List.Perm.cons _ (List.Perm.swap _ _ _))))) (List.Perm.cons _ (List.Perm.cons _ (List.Perm.cons _ (List.Perm.swap _ _ _))))) (List.Perm.cons _ (List.Perm.cons _ (List.Perm.swap _ _ _)))) (List.Perm.cons _ (List.Perm.swap _ _ _))) (List.Perm.swap _ _ _)) (List.Perm.cons _ (List.Perm.cons _ (List.Perm.cons _ (List.Perm.cons _ (List.Perm.swap _ _ _)))))) (List.Perm.cons _ (List.Perm.cons _ (List.Perm.cons _ (List.Perm.swap _ _ _))))) (List.Perm.cons _ (List.Perm.cons _ (List.Perm.swap _ _ _)))) (List.Perm.cons _ (List.Perm.swap _ _ _))) (List.Perm.cons _ (List.Perm.cons _ (List.Perm.cons _ (List.Perm.cons _ (List.Perm.cons _ (List.Perm.swap _ _ _))))))) (List.Perm.cons _ (List.Perm.cons _ (List.Perm.cons _ (List.Perm.cons _ (List.Perm.swap _ _ _)))))) (List.Perm.cons _ (List.Perm.cons _ (List.Perm.cons _ (List.Perm.swap _ _ _))))) (List.Perm.cons _ (List.Perm.cons _ (List.Perm.swap _ _ _)))) rfl ?_
            have ha := zadd1 h0 (by omega)
            exact zwp (ih (i + 1) (by omega) (by omega)) (fun c v J q => q) (by omega)
set_option maxRecDepth 8000 in
theorem zt_tw148 {sl D dy : Nat} {I : zM} {S : Nat → Nat → Int32} {L : List (Nat → Nat → Int32)} (hI : zIv S L I) (hm : 2 ≤ (S 0 10).toInt) (hm2 : 1 ≤ (S 0 11).toInt) (hO : zOo I) {sum : Int64} (hs : sum = zAns sl dy S) : zW sl (D + 13) dy 177 148 [(0, .ref 0), (1, .long sum), (3, .int (S 0 10)), (4, .int (S 0 11))] [] I (zRg 618 (zQP (fun x K => x = 1 ∧ zIv S L K ∧ zKp I K))) := by
  have zz0 : (0 : Int32).toInt = 0 := rfl
  have zz1 : (1 : Int32).toInt = 1 := rfl
  have zz5 : (5 : Int32).toInt = 5 := rfl
  have zz8 : (8 : Int32).toInt = 8 := rfl
  have zz9 : (9 : Int32).toInt = 9 := rfl
  have zz10 : (10 : Int32).toInt = 10 := rfl
  have zz12 : (12 : Int32).toInt = 12 := rfl
  have zz31 : (31 : Int32).toInt = 31 := rfl
  have zz50 : (50 : Int32).toInt = 50 := rfl
  have zz60 : (60 : Int32).toInt = 60 := rfl
  have zz61 : (61 : Int32).toInt = 61 := rfl
  have zz64 : (64 : Int32).toInt = 64 := rfl
  have zz105 : (105 : Int32).toInt = 105 := rfl
  have zz122 : (122 : Int32).toInt = 122 := rfl
  have zz127 : (127 : Int32).toInt = 127 := rfl
  have zz255 : (255 : Int32).toInt = 255 := rfl
  have zz256 : (256 : Int32).toInt = 256 := rfl
  have zz998 : (998 : Int32).toInt = 998 := rfl
  have zz999 : (999 : Int32).toInt = 999 := rfl
  have zz1000 : (1000 : Int32).toInt = 1000 := rfl
  have zzm : (-1 : Int32).toInt = -1 := rfl
  have hT := hI.2.1.1
  have hP := hI.2.1.2.1
  refine zg 4 (pc' := 152) (ls' := [(0, .ref 0), (1, .long sum), (3, .int (S 0 10)), (4, .int (S 0 11))]) (st' := [.int 0, .int 0, .int (S 0 10), .ref 0]) (I' := I) rfl ?_
  refine zcfb (b2 := 617) rfl rfl (zl_pour_0 hI.1 hI.2.1 (S 0 10) 0 0 (by unfold zrfO; (repeat' split) <;> first | rfl | contradiction | (exfalso; omega))) ?_
  refine zg 6 (pc' := 165) (ls' := [(0, .ref 0), (1, .long sum), (3, .int (S 0 10)), (4, .int (S 0 11))]) (st' := [.int 0, .int 0, .int 0, .ref 0]) (I' := I) rfl ?_
  refine zcfb (b2 := 616) rfl rfl (zl_pour_1 hI.1 hI.2.1 0 0 0 (by unfold zrfO; (repeat' split) <;> first | rfl | contradiction | (exfalso; omega))) ?_
  refine zg 6 (pc' := 180) (ls' := [(0, .ref 0), (1, .long sum), (3, .int (S 0 10)), (4, .int (S 0 11))]) (st' := [.int 0, .int 1000, .int 0, .ref 0]) (I' := I) rfl ?_
  refine zcfb (b2 := 615) rfl rfl (zl_pour_1 hI.1 hI.2.1 0 1000 0 (by unfold zrfO; (repeat' split) <;> first | rfl | contradiction | (exfalso; omega))) ?_
  refine zg 6 (pc' := 195) (ls' := [(0, .ref 0), (1, .long sum), (3, .int (S 0 10)), (4, .int (S 0 11))]) (st' := [.int 256, .int 1, .int 0, .ref 0]) (I' := I) rfl ?_
  refine zcfb (b2 := 614) rfl rfl (zl_pour_1 hI.1 hI.2.1 0 1 256 (by unfold zrfO; (repeat' split) <;> first | rfl | contradiction | (exfalso; omega))) ?_
  refine zg 6 (pc' := 208) (ls' := [(0, .ref 0), (1, .long sum), (3, .int (S 0 10)), (4, .int (S 0 11))]) (st' := [.int (-1), .int 1, .int 0, .ref 0]) (I' := I) rfl ?_
  refine zcfb (b2 := 613) rfl rfl (zl_pour_1 hI.1 hI.2.1 0 1 (-1) (by unfold zrfO; (repeat' split) <;> first | rfl | contradiction | (exfalso; omega))) ?_
  refine zg 5 (pc' := 220) (ls' := [(0, .ref 0), (1, .long sum), (3, .int (S 0 10)), (4, .int (S 0 11))]) (st' := [.int 0, .int (S 0 10), .ref 0]) (I' := I) rfl ?_
  refine zcfb (b2 := 612) rfl rfl (zl_draw_0 hI.1 hI.2.1 (S 0 10) 0 (by unfold zrfD; (repeat' split) <;> first | rfl | contradiction | (exfalso; omega))) ?_
  refine zg 5 (pc' := 232) (ls' := [(0, .ref 0), (1, .long sum), (3, .int (S 0 10)), (4, .int (S 0 11))]) (st' := [.int 0, .int 0, .ref 0]) (I' := I) rfl ?_
  refine zcfb (b2 := 611) rfl rfl (zl_draw_1 hI.1 hI.2.1 0 0 (by unfold zrfD; (repeat' split) <;> first | rfl | contradiction | (exfalso; omega))) ?_
  refine zg 5 (pc' := 246) (ls' := [(0, .ref 0), (1, .long sum), (3, .int (S 0 10)), (4, .int (S 0 11))]) (st' := [.int 1000, .int 0, .ref 0]) (I' := I) rfl ?_
  refine zcfb (b2 := 610) rfl rfl (zl_draw_1 hI.1 hI.2.1 0 1000 (by unfold zrfD; (repeat' split) <;> first | rfl | contradiction | (exfalso; omega))) ?_
  refine zg 5 (pc' := 260) (ls' := [(0, .ref 0), (1, .long sum), (3, .int (S 0 10)), (4, .int (S 0 11))]) (st' := [.int 9, .int (S 0 11), .ref 0]) (I' := I) rfl ?_
  refine zcfb (b2 := 609) rfl rfl (zl_setValve_0 hI.1 (S 0 11) 9 (by unfold zrfV; (repeat' split) <;> first | rfl | contradiction | (exfalso; omega))) ?_
  refine zg 5 (pc' := 272) (ls' := [(0, .ref 0), (1, .long sum), (3, .int (S 0 10)), (4, .int (S 0 11))]) (st' := [.int (-1), .int 0, .ref 0]) (I' := I) rfl ?_
  refine zcfb (b2 := 608) rfl rfl (zl_setValve_1 hI.1 0 (-1) (by unfold zrfV; (repeat' split) <;> first | rfl | contradiction | (exfalso; omega))) ?_
  refine zg 5 (pc' := 284) (ls' := [(0, .ref 0), (1, .long sum), (3, .int (S 0 10)), (4, .int (S 0 11))]) (st' := [.int 5, .int 0, .ref 0]) (I' := I) rfl ?_
  refine zcfb (b2 := 607) rfl rfl (zl_setValve_1 hI.1 0 5 (by unfold zrfV; (repeat' split) <;> first | rfl | contradiction | (exfalso; omega))) ?_
  refine zg 5 (pc' := 296) (ls' := [(0, .ref 0), (1, .long sum), (3, .int (S 0 10)), (4, .int (S 0 11))]) (st' := [.int 0, .int (-1), .ref 0]) (I' := I) rfl ?_
  refine zcfb (b2 := 606) rfl rfl (zl_setLeak_0 hI.1 (-1) 0 (by unfold zrfV; (repeat' split) <;> first | rfl | contradiction | (exfalso; omega))) ?_
  refine zg 5 (pc' := 309) (ls' := [(0, .ref 0), (1, .long sum), (3, .int (S 0 10)), (4, .int (S 0 11))]) (st' := [.int 10, .int 0, .ref 0]) (I' := I) rfl ?_
  refine zcfb (b2 := 605) rfl rfl (zl_setLeak_1 hI.1 0 10 (by unfold zrfV; (repeat' split) <;> first | rfl | contradiction | (exfalso; omega))) ?_
  refine zg 5 (pc' := 321) (ls' := [(0, .ref 0), (1, .long sum), (3, .int (S 0 10)), (4, .int (S 0 11))]) (st' := [.int (-1), .int 0, .ref 0]) (I' := I) rfl ?_
  refine zcfb (b2 := 604) rfl rfl (zl_setLeak_1 hI.1 0 (-1) (by unfold zrfV; (repeat' split) <;> first | rfl | contradiction | (exfalso; omega))) ?_
  refine zg 4 (pc' := 333) (ls' := [(0, .ref 0), (1, .long sum), (3, .int (S 0 10)), (4, .int (S 0 11))]) (st' := [.int (S 0 11), .ref 0]) (I' := I) rfl ?_
  refine zcfb (b2 := 603) rfl rfl (zl_cleanFilter_0 hI.1 (S 0 11) (by unfold zrfC; (repeat' split) <;> first | rfl | contradiction | (exfalso; omega))) ?_
  refine zg 4 (pc' := 344) (ls' := [(0, .ref 0), (1, .long sum), (3, .int (S 0 10)), (4, .int (S 0 11))]) (st' := [.int 0, .ref 0]) (I' := I) rfl ?_
  refine zcfb (b2 := 602) rfl rfl (zl_advance_1 hI.1 0 (by unfold zrfW; (repeat' split) <;> first | rfl | contradiction | (exfalso; omega))) ?_
  refine zg 4 (pc' := 356) (ls' := [(0, .ref 0), (1, .long sum), (3, .int (S 0 10)), (4, .int (S 0 11))]) (st' := [.int 61, .ref 0]) (I' := I) rfl ?_
  refine zcfb (b2 := 601) rfl rfl (zl_advance_1 hI.1 61 (by unfold zrfW; (repeat' split) <;> first | rfl | contradiction | (exfalso; omega))) ?_
  refine zg 7 (pc' := 375) (ls' := [(6, .int 0), (5, .int 1), (0, .ref 0), (1, .long sum), (3, .int (S 0 10)), (4, .int (S 0 11))]) (st' := []) (I' := I) rfl ?_
  refine zLp (List.Perm.trans (List.Perm.trans (List.Perm.trans (List.Perm.trans (List.Perm.trans (List.Perm.trans (List.Perm.trans (List.Perm.trans (List.Perm.cons _ (List.Perm.cons _ (List.Perm.cons _ (List.Perm.cons _ (List.Perm.swap _ _ _))))) (List.Perm.cons _ (List.Perm.cons _ (List.Perm.cons _ (List.Perm.swap _ _ _))))) (List.Perm.cons _ (List.Perm.cons _ (List.Perm.swap _ _ _)))) (List.Perm.cons _ (List.Perm.swap _ _ _))) (List.Perm.swap _ _ _)) (List.Perm.cons _ (List.Perm.cons _ (List.Perm.cons _ (List.Perm.cons _ (List.Perm.swap _ _ _)))))) (List.Perm.cons _ (List.Perm.cons _ (List.Perm.cons _ (List.Perm.swap _ _ _))))) (List.Perm.cons _ (List.Perm.cons _ (List.Perm.swap _ _ _)))) (List.Perm.cons _ (List.Perm.swap _ _ _))) rfl ?_
  exact zwp (zt_twl (D := D) hI hm (zt_tw536 hI hm hm2 hO hs) (S 0 10).toInt.toNat 0 (by decide) (by omega)) (fun c v J q => q) (by omega)
set_option maxRecDepth 8000 in
theorem zt_tw59 {sl D dy : Nat} {I : zM} {S : Nat → Nat → Int32} {L : List (Nat → Nat → Int32)} (hI : zIv S L I) (hm : 2 ≤ (S 0 10).toInt) (hm2 : 1 ≤ (S 0 11).toInt) (hO : zOo I) {sum : Int64} (hs : sum = zAns sl dy S) : zW sl (D + 13) dy 177 59 [(0, .ref 0), (1, .long sum), (3, .int (S 0 10)), (4, .int (S 0 11))] [] I (zRg 624 (zQP (fun x K => x = 1 ∧ zIv S L K ∧ zKp I K))) := by
  have zz0 : (0 : Int32).toInt = 0 := rfl
  have zz1 : (1 : Int32).toInt = 1 := rfl
  have zz5 : (5 : Int32).toInt = 5 := rfl
  have zz8 : (8 : Int32).toInt = 8 := rfl
  have zz9 : (9 : Int32).toInt = 9 := rfl
  have zz10 : (10 : Int32).toInt = 10 := rfl
  have zz12 : (12 : Int32).toInt = 12 := rfl
  have zz31 : (31 : Int32).toInt = 31 := rfl
  have zz50 : (50 : Int32).toInt = 50 := rfl
  have zz60 : (60 : Int32).toInt = 60 := rfl
  have zz61 : (61 : Int32).toInt = 61 := rfl
  have zz64 : (64 : Int32).toInt = 64 := rfl
  have zz105 : (105 : Int32).toInt = 105 := rfl
  have zz122 : (122 : Int32).toInt = 122 := rfl
  have zz127 : (127 : Int32).toInt = 127 := rfl
  have zz255 : (255 : Int32).toInt = 255 := rfl
  have zz256 : (256 : Int32).toInt = 256 := rfl
  have zz998 : (998 : Int32).toInt = 998 := rfl
  have zz999 : (999 : Int32).toInt = 999 := rfl
  have zz1000 : (1000 : Int32).toInt = 1000 := rfl
  have zzm : (-1 : Int32).toInt = -1 := rfl
  have hT := hI.2.1.1
  have hP := hI.2.1.2.1
  refine zg 4 (pc' := 65) (ls' := [(0, .ref 0), (1, .long sum), (3, .int (S 0 10)), (4, .int (S 0 11))]) (st' := [.int 999, .int (S 0 10), .int (S 0 10), .ref 0]) (I' := I) rfl ?_
  refine zcfb (b2 := 623) rfl rfl (zl_addPipe_0 hI.1 (S 0 10) (S 0 10) 999 (by unfold zrfP; (repeat' split) <;> first | rfl | contradiction | (exfalso; omega))) ?_
  refine zg 6 (pc' := 78) (ls' := [(0, .ref 0), (1, .long sum), (3, .int (S 0 10)), (4, .int (S 0 11))]) (st' := [.int 0, .int (-1), .int 0, .ref 0]) (I' := I) rfl ?_
  refine zcfb (b2 := 622) rfl rfl (zl_addPipe_0 hI.1 0 (-1) 0 (by unfold zrfP; (repeat' split) <;> first | rfl | contradiction | (exfalso; omega))) ?_
  refine zg 6 (pc' := 91) (ls' := [(0, .ref 0), (1, .long sum), (3, .int (S 0 10)), (4, .int (S 0 11))]) (st' := [.int 0, .int 0, .int 0, .ref 0]) (I' := I) rfl ?_
  refine zcfb (b2 := 621) rfl rfl (zl_addPipe_1 hI.1 0 0 0 (by unfold zrfP; (repeat' split) <;> first | rfl | contradiction | (exfalso; omega))) ?_
  refine zg 6 (pc' := 104) (ls' := [(0, .ref 0), (1, .long sum), (3, .int (S 0 10)), (4, .int (S 0 11))]) (st' := [.int (-1), .int 1, .int 0, .ref 0]) (I' := I) rfl ?_
  refine zcfb (b2 := 620) rfl rfl (zl_addPipe_1 hI.1 0 1 (-1) (by unfold zrfP; (repeat' split) <;> first | rfl | contradiction | (exfalso; omega))) ?_
  refine zg 6 (pc' := 119) (ls' := [(0, .ref 0), (1, .long sum), (3, .int (S 0 10)), (4, .int (S 0 11))]) (st' := [.int 256, .int 1, .int 0, .ref 0]) (I' := I) rfl ?_
  refine zcfb (b2 := 619) rfl rfl (zl_addPipe_1 hI.1 0 1 256 (by unfold zrfP; (repeat' split) <;> first | rfl | contradiction | (exfalso; omega))) ?_
  refine zg 4 (pc' := 132) (ls' := [(0, .ref 0), (1, .long sum), (3, .int (S 0 10)), (4, .int (S 0 11))]) (st' := [.int 12, .int (S 0 11)]) (I' := I) rfl ?_
  refine zicmp rfl rfl (fun h1 => ?_) (fun h1 => ?_)
  · have h1 := zc_lt.1.mp h1
    exact zwp (zt_tw148 hI hm hm2 hO hs) (fun c v J q => q) (by omega)
  · have h1 := zc_lt.2.mp h1
    refine zg 4 (pc' := 139) (ls' := [(0, .ref 0), (1, .long sum), (3, .int (S 0 10)), (4, .int (S 0 11))]) (st' := [.int 0, .int 1, .int 0, .ref 0]) (I' := I) rfl ?_
    refine zcfb (b2 := 618) rfl rfl (zl_addPipe_2 hI.1 0 1 0 (by unfold zrfP; (repeat' split) <;> first | rfl | contradiction | (exfalso; omega))) ?_
    refine zg 2 (pc' := 148) (ls' := [(0, .ref 0), (1, .long sum), (3, .int (S 0 10)), (4, .int (S 0 11))]) (st' := []) (I' := I) rfl ?_
    exact zwp (zt_tw148 hI hm hm2 hO hs) (fun c v J q => q) (by omega)
set_option maxRecDepth 8000 in
theorem zt_tw4 {sl D dy : Nat} {I : zM} {S : Nat → Nat → Int32} {L : List (Nat → Nat → Int32)} (hI : zIv S L I) (hm : 2 ≤ (S 0 10).toInt) (hm2 : 1 ≤ (S 0 11).toInt) (hO : zOo I) {sum : Int64} (hs : sum = zAns sl dy S) : zW sl (D + 13) dy 177 4 [(0, .ref 0)] [.long sum] I (zRg 629 (zQP (fun x K => x = 1 ∧ zIv S L K ∧ zKp I K))) := by
  have zz0 : (0 : Int32).toInt = 0 := rfl
  have zz1 : (1 : Int32).toInt = 1 := rfl
  have zz5 : (5 : Int32).toInt = 5 := rfl
  have zz8 : (8 : Int32).toInt = 8 := rfl
  have zz9 : (9 : Int32).toInt = 9 := rfl
  have zz10 : (10 : Int32).toInt = 10 := rfl
  have zz12 : (12 : Int32).toInt = 12 := rfl
  have zz31 : (31 : Int32).toInt = 31 := rfl
  have zz50 : (50 : Int32).toInt = 50 := rfl
  have zz60 : (60 : Int32).toInt = 60 := rfl
  have zz61 : (61 : Int32).toInt = 61 := rfl
  have zz64 : (64 : Int32).toInt = 64 := rfl
  have zz105 : (105 : Int32).toInt = 105 := rfl
  have zz122 : (122 : Int32).toInt = 122 := rfl
  have zz127 : (127 : Int32).toInt = 127 := rfl
  have zz255 : (255 : Int32).toInt = 255 := rfl
  have zz256 : (256 : Int32).toInt = 256 := rfl
  have zz998 : (998 : Int32).toInt = 998 := rfl
  have zz999 : (999 : Int32).toInt = 999 := rfl
  have zz1000 : (1000 : Int32).toInt = 1000 := rfl
  have zzm : (-1 : Int32).toInt = -1 := rfl
  have hT := hI.2.1.1
  have hP := hI.2.1.2.1
  refine zg 2 (pc' := 6) (ls' := [(1, .long sum), (0, .ref 0)]) (st' := [.ref 0]) (I' := I) rfl ?_
  refine zcf rfl rfl (zt_tankCount hI.1) ?_
  refine zg 2 (pc' := 11) (ls' := [(3, .int (S 0 10)), (1, .long sum), (0, .ref 0)]) (st' := [.ref 0]) (I' := I) rfl ?_
  refine zcf rfl rfl (zt_pipeCount hI.1) ?_
  refine zg 3 (pc' := 19) (ls' := [(4, .int (S 0 11)), (3, .int (S 0 10)), (1, .long sum), (0, .ref 0)]) (st' := [.int 9, .ref 0]) (I' := I) rfl ?_
  refine zcfb (b2 := 626) rfl rfl (zl_addTank_1 hI.1 9 (by unfold zrfT; (repeat' split) <;> first | rfl | contradiction | (exfalso; omega))) ?_
  refine zg 4 (pc' := 32) (ls' := [(4, .int (S 0 11)), (3, .int (S 0 10)), (1, .long sum), (0, .ref 0)]) (st' := [.int 1000, .ref 0]) (I' := I) rfl ?_
  refine zcfb (b2 := 625) rfl rfl (zl_addTank_1 hI.1 1000 (by unfold zrfT; (repeat' split) <;> first | rfl | contradiction | (exfalso; omega))) ?_
  refine zg 4 (pc' := 44) (ls' := [(4, .int (S 0 11)), (3, .int (S 0 10)), (1, .long sum), (0, .ref 0)]) (st' := [.int 8, .int (S 0 10)]) (I' := I) rfl ?_
  refine zicmp rfl rfl (fun h1 => ?_) (fun h1 => ?_)
  · have h1 := zc_lt.1.mp h1
    refine zLp (List.Perm.trans (List.Perm.trans (List.Perm.trans (List.Perm.trans (List.Perm.trans (List.Perm.cons _ (List.Perm.cons _ (List.Perm.swap _ _ _))) (List.Perm.cons _ (List.Perm.swap _ _ _))) (List.Perm.swap _ _ _)) (List.Perm.cons _ (List.Perm.cons _ (List.Perm.swap _ _ _)))) (List.Perm.cons _ (List.Perm.swap _ _ _))) (List.Perm.cons _ (List.Perm.cons _ (List.Perm.swap _ _ _)))) rfl ?_
    exact zwp (zt_tw59 hI hm hm2 hO hs) (fun c v J q => q) (by omega)
  · have h1 := zc_lt.2.mp h1
    refine zg 2 (pc' := 50) (ls' := [(4, .int (S 0 11)), (3, .int (S 0 10)), (1, .long sum), (0, .ref 0)]) (st' := [.int 50, .ref 0]) (I' := I) rfl ?_
    refine zcfb (b2 := 624) rfl rfl (zl_addTank_2 hI.1 50 (by unfold zrfT; (repeat' split) <;> first | rfl | contradiction | (exfalso; omega))) ?_
    refine zg 2 (pc' := 59) (ls' := [(4, .int (S 0 11)), (3, .int (S 0 10)), (1, .long sum), (0, .ref 0)]) (st' := []) (I' := I) rfl ?_
    refine zLp (List.Perm.trans (List.Perm.trans (List.Perm.trans (List.Perm.trans (List.Perm.trans (List.Perm.cons _ (List.Perm.cons _ (List.Perm.swap _ _ _))) (List.Perm.cons _ (List.Perm.swap _ _ _))) (List.Perm.swap _ _ _)) (List.Perm.cons _ (List.Perm.cons _ (List.Perm.swap _ _ _)))) (List.Perm.cons _ (List.Perm.swap _ _ _))) (List.Perm.cons _ (List.Perm.cons _ (List.Perm.swap _ _ _)))) rfl ?_
    exact zwp (zt_tw59 hI hm hm2 hO hs) (fun c v J q => q) (by omega)
set_option maxRecDepth 8000 in
theorem zl_thrown {sl D dy : Nat} {I : zM} {S : Nat → Nat → Int32} {L : List (Nat → Nat → Int32)} (hI : zIv S L I) (hm : 2 ≤ (S 0 10).toInt) (hm2 : 1 ≤ (S 0 11).toInt)  : zW sl (D + 13) dy 177 0 [(0, .ref 0)] [] I (zRg 1137 (zQP (fun x K => x = 1 ∧ zIv S L K ∧ zKp I K))) := by
  refine zg 1 (pc' := 1) (ls' := [(0, .ref 0)]) (st' := [.ref 0]) (I' := I) rfl ?_
  refine zcA (b1 := 508) (b2 := 629) rfl rfl (zl_asksF hI.1 hI.2.1 (by omega)) (fun J hf hO => ?_)
  exact zwp (zt_tw4 (zIv_zfr hI hf) hm hm2 hO rfl) (fun c v K ⟨q1, x, q2, q3, q4, q5⟩ => ⟨q1, x, q2, q3, q4, zKp_trans (zKp_zfr hf) q5⟩) (Nat.le_refl _)
