/-! CONTRACTS: undo, the snapshot, the notes of scripts -/
theorem zt_undo {sl D dy : Nat} {I : zM} {S0 S : Nat → Nat → Int32} {L : List (Nat → Nat → Int32)} (hI : zIv S0 (S :: L) I) (hV : zOK S) : zW sl (D + 2) dy 124 0 [(0, .ref 0)] [] I (zRg 0 (zQP (fun x J => x.toInt = (L.length : Int) ∧ zIv S L J ∧ zKp I J))) := by
  obtain ⟨kp, hk, hk2, hk3⟩ := zHl_len hI.2.2.1
  rw [List.length_cons] at hk2 hk3
  have z0 := zi0
  refine zg 2 (pc' := 4) (ls' := [(0, .ref 0)]) (st' := [.ref 45]) (I' := I) rfl ?_
  refine zgf rfl rfl rfl hk ?_
  refine zif rfl rfl (fun h1 => ?_) (fun h1 => ?_)
  · have h1 := zc_ne.1.mp h1
    refine zg 4 (pc' := 29) (ls' := [(0, .ref 0)]) (st' := [.ref 1, .ref 45]) (I' := I) rfl ?_
    refine zcj (b2 := 0) rfl rfl (zt_back0 hI.2.2.1) (fun J hJ => ?_)
    obtain ⟨hB2, hH2, hF2⟩ := hJ
    obtain ⟨kq, hq, hq2, -⟩ := zHl_len hH2
    refine zg 2 (pc' := 36) (ls' := [(0, .ref 0)]) (st' := [.ref 45]) (I' := J) rfl ?_
    refine zgf rfl rfl rfl hq ?_
    refine ziret rfl rfl rfl ?_
    exact zP1 ⟨hq2, ⟨hB2, hV, hH2, by rw [hF2 _ _ (by decide)]; exact hI.2.2.2.1, fun k h => by rw [hF2 _ _ (by decide)]; exact hI.2.2.2.2 k h⟩, fun a k h1 h2 => hF2 a k (by omega), hF2 _ _ (by decide)⟩
  · have h1 := zc_ne.2.mp h1
    exfalso; rw [h1] at hk2; omega
theorem zl_undo {sl D dy : Nat} {I : zM} {S0 S : Nat → Nat → Int32} {L : List (Nat → Nat → Int32)} (hI : zIv S0 (S :: L) I) (hV : zOK S) : zW sl (D + 3) dy 171 0 [(0, .ref 0)] [] I (zRg 0 (zQP (fun x J => x.toInt = (L.length : Int) ∧ zIv S L J ∧ zKp I J))) := by
  refine zg 1 (pc' := 1) (ls' := [(0, .ref 0)]) (st' := [.ref 0]) (I' := I) rfl ?_
  refine zcP (b2 := 0) rfl rfl (zt_undo hI hV) (fun x J hP => ?_)
  refine ziret rfl rfl rfl ?_
  exact zP1 hP
theorem zt_undo_x {sl D dy : Nat} {I : zM} {L : List (Nat → Nat → Int32)} (hH : zHl [] I) : zW sl (D) dy 124 0 [(0, .ref 0)] [] I (zRg 1 (zQx I 4)) := by
  obtain ⟨kp, hk, hk2, hk3⟩ := zHl_len hH
  refine zg 2 (pc' := 4) (ls' := [(0, .ref 0)]) (st' := [.ref 45]) (I' := I) rfl ?_
  refine zgf rfl rfl rfl hk ?_
  refine zif rfl rfl (fun h1 => ?_) (fun h1 => ?_)
  · have h1 := zc_ne.1.mp h1
    exact absurd (Int32.toInt_inj.mp (by rw [hk2]; rfl)) h1
  · have h1 := zc_ne.2.mp h1
    exact zthrow rfl rfl zx1
theorem zl_undo_x {sl D dy : Nat} {I : zM} {L : List (Nat → Nat → Int32)} (hH : zHl [] I) : zW sl (D + 1) dy 171 0 [(0, .ref 0)] [] I (zRg 1 (zQf I (some (.int (-1001))))) := by
  refine zg 1 (pc' := 1) (ls' := [(0, .ref 0)]) (st' := [.ref 0]) (I' := I) rfl ?_
  refine zcct (b2 := 0) (pc2 := 6) (ls2 := [(0, .ref 0)]) rfl rfl (zt_undo_x (L := L) hH) rfl ?_
  refine zg 1 (pc' := 9) (ls' := [(0, .ref 0)]) (st' := [.int (-1001)]) (I' := I) rfl ?_
  refine ziret rfl rfl rfl ?_
  exact zf1
theorem zIv_1 {S : Nat → Nat → Int32} {L : List (Nat → Nat → Int32)} {I J : zM} (hf : ∀ a k, ((1 ≤ a ∧ a ≤ 11) ∨ (45 ≤ a ∧ a ≤ 134) ∨ (144 ≤ a ∧ a ≤ 147)) → J a k = I a k) (h : zIv S L I) : zIv S L J :=
  ⟨zSB_eq h.1 (fun a k h1 h2 => hf a k (Or.inl ⟨h1, h2⟩)), h.2.1, zHl_eq h.2.2.1 (fun a k h1 h2 => hf a k (Or.inr (Or.inl ⟨h1, h2⟩))), by rw [hf _ _ (by decide)]; exact h.2.2.2.1, fun k hk => by rw [hf _ _ (by decide)]; exact h.2.2.2.2 k hk⟩
theorem zt_save {sl D dy : Nat} {I : zM} {S : Nat → Nat → Int32} {L : List (Nat → Nat → Int32)} (hI : zIv S L I) : zW sl (D + 1) dy 125 0 [(0, .ref 0)] [] I (zRg 0 (zQP (fun x J => x = S 0 10 ∧ zIv S L J ∧ zSB 12 S J ∧ J 0 8 = some 1))) := by
  refine zg 4 (pc' := 8) (ls' := [(0, .ref 0)]) (st' := [.ref 1, .ref 12]) (I' := I) rfl ?_
  refine zcj (b2 := 0) rfl rfl (zt_copy (s := 1) (d := 12) rfl rfl (by decide) hI.1) (fun J hJ => ?_)
  obtain ⟨hB2, hF2⟩ := hJ
  refine zg 2 (pc' := 13) (ls' := [(0, .ref 0)]) (st' := [.int 1, .ref 0]) (I' := J) rfl ?_
  refine zpf rfl rfl rfl rfl rfl ?_
  refine zg 2 (pc' := 20) (ls' := [(0, .ref 0)]) (st' := [.ref 1]) (I' := (zup J 0 8 1)) rfl ?_
  refine zgf rfl rfl rfl (by rw [zup_at, if_neg (by decide), hF2 _ _ (by decide)]; exact hI.1 0 10 rfl) ?_
  refine ziret rfl rfl rfl ?_
  refine zP1 ⟨rfl, zIv_1 (fun a k h => ?_) hI, fun o k hc => ?_, rfl⟩
  · rw [zup_at, if_neg (by omega)]
    exact hF2 a k (by omega)
  · rw [zup_at, if_neg (by omega)]
    exact hB2 o k hc
theorem zt_restore {sl D dy : Nat} {I : zM} {S V : Nat → Nat → Int32} {L : List (Nat → Nat → Int32)} (hI : zIv S L I) (hW : zSB 12 V I) (hV : zOK V) (h8 : I 0 8 = some 1) : zW sl (D + 1) dy 126 0 [(0, .ref 0)] [] I (zRg 0 (zQP (fun x J => x = V 0 10 ∧ zIv V [] J ∧ zSB 12 V J ∧ J 0 8 = some 1))) := by
  refine zg 1 (pc' := 1) (ls' := [(0, .ref 0)]) (st' := [.ref 0]) (I' := I) rfl ?_
  refine zgf rfl rfl rfl h8 ?_
  refine zg 5 (pc' := 26) (ls' := [(0, .ref 0)]) (st' := [.ref 12, .ref 1]) (I' := I) rfl ?_
  refine zcj (b2 := 0) rfl rfl (zt_copy (s := 12) (d := 1) rfl rfl (by decide) hW) (fun J hJ => ?_)
  obtain ⟨hB2, hF2⟩ := hJ
  refine zg 3 (pc' := 34) (ls' := [(0, .ref 0)]) (st' := [.int 0, .ref 45]) (I' := J) rfl ?_
  refine zpf rfl rfl rfl rfl rfl ?_
  refine zg 2 (pc' := 41) (ls' := [(0, .ref 0)]) (st' := [.ref 1]) (I' := (zup J 45 2 0)) rfl ?_
  refine zgf rfl rfl rfl (by rw [zup_at, if_neg (by decide)]; exact hB2 0 10 rfl) ?_
  refine ziret rfl rfl rfl ?_
  refine zP1 ⟨rfl, ⟨fun o k hc => ?_, hV, zHl_0 (zHl_eq hI.2.2.1 (fun a k h1 h2 => hF2 a k (by omega))), ?_, fun k hk => ?_⟩, fun o k hc => ?_, ?_⟩
  · have := (zcell_lt hc).1
    rw [zup_at, if_neg (by omega)]
    exact hB2 o k hc
  · rw [zup_at, if_neg (by decide), hF2 _ _ (by decide)]
    exact hI.2.2.2.1
  · rw [zup_at, if_neg (by omega), hF2 _ _ (by decide)]
    exact hI.2.2.2.2 k hk
  · have := (zcell_lt hc).1
    rw [zup_at, if_neg (by omega), hF2 _ _ (by omega)]
    exact hW o k hc
  · rw [zup_at, if_neg (by decide), hF2 _ _ (by decide)]
    exact h8
theorem zl_restore {sl D dy : Nat} {I : zM} {S V : Nat → Nat → Int32} {L : List (Nat → Nat → Int32)} (hI : zIv S L I) (hW : zSB 12 V I) (hV : zOK V) (h8 : I 0 8 = some 1) : zW sl (D + 2) dy 172 0 [(0, .ref 0)] [] I (zRg 0 (zQP (fun x J => x = V 0 10 ∧ zIv V [] J ∧ zSB 12 V J ∧ J 0 8 = some 1))) := by
  refine zg 1 (pc' := 1) (ls' := [(0, .ref 0)]) (st' := [.ref 0]) (I' := I) rfl ?_
  refine zcP (b2 := 0) rfl rfl (zt_restore hI hW hV h8) (fun x J hP => ?_)
  refine ziret rfl rfl rfl ?_
  exact zP1 hP
theorem zt_errorPosition {sl D dy : Nat} {I : zM} (c : Int32) (hc : I 0 9 = some c) (hn : c ≠ -1) : zW sl (D) dy 122 0 [(0, .ref 0)] [] I (zRg 0 (zQf I (some (.int c)))) := by
  refine zg 1 (pc' := 1) (ls' := [(0, .ref 0)]) (st' := [.ref 0]) (I' := I) rfl ?_
  refine zgf rfl rfl rfl hc ?_
  refine zg 1 (pc' := 5) (ls' := [(0, .ref 0)]) (st' := [.int (-1), .int c]) (I' := I) rfl ?_
  refine zicmp rfl rfl (fun h1 => ?_) (fun h1 => ?_)
  · have h1 := zc_ne.1.mp h1
    refine zg 1 (pc' := 20) (ls' := [(0, .ref 0)]) (st' := [.ref 0]) (I' := I) rfl ?_
    refine zgf rfl rfl rfl hc ?_
    refine ziret rfl rfl rfl ?_
    exact zf1
  · have h1 := zc_ne.2.mp h1
    exact absurd h1 hn
theorem zl_errorPosition {sl D dy : Nat} {I : zM} (c : Int32) (hc : I 0 9 = some c) (hn : c ≠ -1) : zW sl (D + 1) dy 169 0 [(0, .ref 0)] [] I (zRg 0 (zQf I (some (.int c)))) := by
  refine zg 1 (pc' := 1) (ls' := [(0, .ref 0)]) (st' := [.ref 0]) (I' := I) rfl ?_
  refine zcf rfl rfl (zt_errorPosition c hc hn) ?_
  refine ziret rfl rfl rfl ?_
  exact zf1
theorem zt_failedCommand {sl D dy : Nat} {I : zM} (c : Int32) (hc : I 0 10 = some c) (hn : c ≠ -1) : zW sl (D) dy 123 0 [(0, .ref 0)] [] I (zRg 0 (zQf I (some (.int c)))) := by
  refine zg 1 (pc' := 1) (ls' := [(0, .ref 0)]) (st' := [.ref 0]) (I' := I) rfl ?_
  refine zgf rfl rfl rfl hc ?_
  refine zg 1 (pc' := 5) (ls' := [(0, .ref 0)]) (st' := [.int (-1), .int c]) (I' := I) rfl ?_
  refine zicmp rfl rfl (fun h1 => ?_) (fun h1 => ?_)
  · have h1 := zc_ne.1.mp h1
    refine zg 1 (pc' := 20) (ls' := [(0, .ref 0)]) (st' := [.ref 0]) (I' := I) rfl ?_
    refine zgf rfl rfl rfl hc ?_
    refine ziret rfl rfl rfl ?_
    exact zf1
  · have h1 := zc_ne.2.mp h1
    exact absurd h1 hn
theorem zl_failedCommand {sl D dy : Nat} {I : zM} (c : Int32) (hc : I 0 10 = some c) (hn : c ≠ -1) : zW sl (D + 1) dy 170 0 [(0, .ref 0)] [] I (zRg 0 (zQf I (some (.int c)))) := by
  refine zg 1 (pc' := 1) (ls' := [(0, .ref 0)]) (st' := [.ref 0]) (I' := I) rfl ?_
  refine zcf rfl rfl (zt_failedCommand c hc hn) ?_
  refine ziret rfl rfl rfl ?_
  exact zf1
