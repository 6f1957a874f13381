/-! CONTRACTS: changes -/
/-- an int is answered, the memory afterwards is as P says -/
def zQP (P : Int32 → zM → Prop) : Nat → Option Value → zM → Prop := fun c v J => c = 0 ∧ ∃ x, v = some (.int x) ∧ P x J
section ZWR12
variable {sl D dy mi pc : Nat} {ls : zLs} {st : List Value} {I : zM} {b : Nat} {R : Nat → Option Value → zM → Prop}
theorem zcP {e : Instr × Nat × Nat × Nat × Nat} {m pc' b1 b2 : Nat} {la : zLs} {st' : List Value} {P : Int32 → zM → Prop} (h : zl mi pc = some e) (hs : zstep sl dy mi pc e ls st I = some (.inr (.inr (.inr (m, pc', la, st', 0)))))
    (hc : zW sl D dy m 0 la [] I (zRg b1 (zQP P))) (kr : ∀ x J, P x J → zW sl (D + 1) dy mi pc' ls (.int x :: st') J (zRg b2 R)) (hb : b1 + b2 ≤ b := by omega) : zW sl (D + 1) dy mi pc ls st I (zRg b R) :=
  zcal (b1 := b1) (b2 := b2) h hs hc (fun w J ⟨_, x, h2, h3⟩ => by rw [h2]; exact kr x J h3) (fun c w J ⟨h1, _⟩ => by cases h1) hb
theorem zP1 {P : Int32 → zM → Prop} {x : Int32} {J : zM} (h : P x J) : zQP P 0 (some (.int x)) J := ⟨rfl, x, rfl, h⟩
theorem zPz {S : Nat → Nat → Int32} {x : Int32} (k : zW sl D dy mi pc ls st I (zRg b (zQz I S (some (.int x))))) : zW sl D dy mi pc ls st I (zRg b (zQP (fun y J => y = x ∧ zSB 1 S J ∧ zfb I J))) :=
  zwp k (fun c v J ⟨h1, h2, h3, h4⟩ => ⟨h1, x, h2, rfl, h3, h4⟩) (Nat.le_refl _)
theorem zPP {P Q : Int32 → zM → Prop} (k : zW sl D dy mi pc ls st I (zRg b (zQP P))) (h : ∀ x J, P x J → Q x J) : zW sl D dy mi pc ls st I (zRg b (zQP Q)) :=
  zwp k (fun c v J ⟨h1, x, h2, h3⟩ => ⟨h1, x, h2, h x J h3⟩) (Nat.le_refl _)
end ZWR12
theorem zrfT_0 {S : Nat → Nat → Int32} {a : Int32} (hr : zrfT S a = 0) : (10 ≤ a.toInt ∧ a.toInt ≤ 999) ∧ (S 0 10).toInt < 8 := by
  unfold zrfT at hr
  obtain ⟨ha, hr⟩ := zrf_ite hr (by decide)
  exact ⟨ha, (zrf_ite hr (by decide)).1⟩
theorem zrfP_0 {S : Nat → Nat → Int32} {a b c : Int32} (hr : zrfP S a b c = 0) : (S 0 11).toInt < 12 := by
  unfold zrfP at hr
  obtain ⟨ha, hr⟩ := zrf_ite hr (by decide)
  obtain ⟨hab, hr⟩ := zrf_itn hr (by decide)
  obtain ⟨hs, hr⟩ := zrf_ite hr (by decide)
  exact (zrf_ite hr (by decide)).1
theorem zrfO_0 {S : Nat → Nat → Int32} {a b c : Int32} (hr : zrfO S a b c = 0) : (0 ≤ a.toInt ∧ a.toInt < (S 0 10).toInt) ∧ (1 ≤ b.toInt ∧ b.toInt ≤ 999) := by
  unfold zrfO at hr
  obtain ⟨ha, hr⟩ := zrf_ite hr (by decide)
  exact ⟨ha, (zrf_ite hr (by decide)).1.1⟩
theorem zrfD_0 {S : Nat → Nat → Int32} {a b : Int32} (hr : zrfD S a b = 0) : 0 ≤ a.toInt ∧ a.toInt < (S 0 10).toInt := by
  unfold zrfD at hr
  exact (zrf_ite hr (by decide)).1
theorem zrfV_0 {S : Nat → Nat → Int32} {m : Int} {a b : Int32} (hr : zrfV S m a b = 0) : 0 ≤ a.toInt ∧ a.toInt < (S 0 11).toInt := by
  unfold zrfV at hr
  exact (zrf_ite hr (by decide)).1
theorem zrfC_0 {S : Nat → Nat → Int32} {a : Int32} (hr : zrfC S a = 0) : 0 ≤ a.toInt ∧ a.toInt < (S 0 11).toInt := by
  unfold zrfC at hr
  exact (zrf_ite hr (by decide)).1
theorem zrfW_0 {a : Int32} (hr : zrfW a = 0) : 1 ≤ a.toInt ∧ a.toInt ≤ 60 := by
  unfold zrfW at hr
  exact (zrf_ite hr (by decide)).1
/-- what a change that is accepted does: the state is as the class keeps it, the answer is not negative; and what Q says -/
def zAcc (Q : (Nat → Nat → Int32) → Int32 → Prop) (T : Nat → Nat → Int32) (x : Int32) : Prop := zOK T ∧ 0 ≤ x.toInt ∧ Q T x
def zQg (I : zM) (Q : (Nat → Nat → Int32) → Int32 → Prop) : Nat → Option Value → zM → Prop := zQP (fun x J => ∃ T, zSB 1 T J ∧ zfb I J ∧ zAcc Q T x)
theorem zpour_nn {S : Nat → Nat → Int32} (hV : zOK S) {a b c : Int32} (hr : zrfO S a b c = 0) : 0 ≤ (S 2 a.toNatClampNeg + b).toInt := by
  have h := zrfO_0 hr
  have hT := zOK_tank hV h.1.1 h.1.2
  have e := zti_add (x := S 2 a.toNatClampNeg) (y := b) (by omega) (by omega)
  omega
theorem zt_perf0 {sl D dy : Nat} {I : zM} {S : Nat → Nat → Int32} (hB : zSB 1 S I) (hV : zOK S) (a b c : Int32) (hr : zrfT S a = 0) : zW sl (D + 4) dy 49 0 [(0, .ref 1), (1, .int 0), (2, .int a), (3, .int b), (4, .int c)] [] I (zRg 0 (zQg I (fun T x => T = zpT S a ∧ x = S 0 10))) := by
  refine zg 4 (pc' := 46) (ls' := [(0, .ref 1), (1, .int 0), (2, .int a), (3, .int b), (4, .int c)]) (st' := [.int a, .ref 1]) (I' := I) rfl ?_
  refine zcP (b2 := 0) rfl rfl (zPz (zt_newTank hB hV a (zrfT_0 hr).2)) (fun x J hP => ?_)
  obtain ⟨rfl, hB2, hF2⟩ := hP
  refine ziret rfl rfl rfl ?_
  exact zP1 ⟨_, hB2, hF2, ⟨zOK_T hV hr, hV.1.1, rfl, rfl⟩⟩
theorem zt_perf1 {sl D dy : Nat} {I : zM} {S : Nat → Nat → Int32} (hB : zSB 1 S I) (hV : zOK S) (a b c : Int32) (hr : zrfP S a b c = 0) : zW sl (D + 4) dy 49 0 [(0, .ref 1), (1, .int 1), (2, .int a), (3, .int b), (4, .int c)] [] I (zRg 0 (zQg I (fun T x => T = zpP S a b c ∧ x = S 0 11))) := by
  refine zg 6 (pc' := 55) (ls' := [(0, .ref 1), (1, .int 1), (2, .int a), (3, .int b), (4, .int c)]) (st' := [.int c, .int b, .int a, .ref 1]) (I' := I) rfl ?_
  refine zcP (b2 := 0) rfl rfl (zPz (zt_newPipe hB hV a b c (zrfP_0 hr))) (fun x J hP => ?_)
  obtain ⟨rfl, hB2, hF2⟩ := hP
  refine ziret rfl rfl rfl ?_
  exact zP1 ⟨_, hB2, hF2, ⟨zOK_P hV hr, hV.2.1.1, rfl, rfl⟩⟩
theorem zt_perf2 {sl D dy : Nat} {I : zM} {S : Nat → Nat → Int32} (hB : zSB 1 S I) (hV : zOK S) (a b c : Int32) (hr : zrfO S a b c = 0) : zW sl (D + 4) dy 49 0 [(0, .ref 1), (1, .int 2), (2, .int a), (3, .int b), (4, .int c)] [] I (zRg 0 (zQg I (fun T x => T = zpO S a b c ∧ x = S 2 a.toNatClampNeg + b))) := by
  refine zg 6 (pc' := 64) (ls' := [(0, .ref 1), (1, .int 2), (2, .int a), (3, .int b), (4, .int c)]) (st' := [.int c, .int b, .int a, .ref 1]) (I' := I) rfl ?_
  refine zcP (b2 := 0) rfl rfl (zPz (zt_pourInto hB hV a b c (zrfO_0 hr).1)) (fun x J hP => ?_)
  obtain ⟨rfl, hB2, hF2⟩ := hP
  refine ziret rfl rfl rfl ?_
  exact zP1 ⟨_, hB2, hF2, ⟨zOK_O hV hr, zpour_nn hV hr, rfl, rfl⟩⟩
theorem zt_perf3 {sl D dy : Nat} {I : zM} {S : Nat → Nat → Int32} (hB : zSB 1 S I) (hV : zOK S) (a b c : Int32) (hr : zrfD S a b = 0) : zW sl (D + 4) dy 49 0 [(0, .ref 1), (1, .int 3), (2, .int a), (3, .int b), (4, .int c)] [] I (zRg 0 (zQg I (fun T x => T = zpD S a b ∧ x = S 2 a.toNatClampNeg - b))) := by
  refine zg 5 (pc' := 71) (ls' := [(0, .ref 1), (1, .int 3), (2, .int a), (3, .int b), (4, .int c)]) (st' := [.int b, .int a, .ref 1]) (I' := I) rfl ?_
  refine zcP (b2 := 0) rfl rfl (zPz (zt_drawFrom hB hV a b (zrfD_0 hr))) (fun x J hP => ?_)
  obtain ⟨rfl, hB2, hF2⟩ := hP
  refine ziret rfl rfl rfl ?_
  exact zP1 ⟨_, hB2, hF2, ⟨(zOK_D hV hr).1, (zOK_D hV hr).2, rfl, rfl⟩⟩
theorem zt_perf4 {sl D dy : Nat} {I : zM} {S : Nat → Nat → Int32} (hB : zSB 1 S I) (hV : zOK S) (a b c : Int32) (hr : zrfV S 4 a b = 0) : zW sl (D + 4) dy 49 0 [(0, .ref 1), (1, .int 4), (2, .int a), (3, .int b), (4, .int c)] [] I (zRg 0 (zQg I (fun T x => T = zsu S 7 a.toNatClampNeg b ∧ x = S 7 a.toNatClampNeg))) := by
  refine zg 6 (pc' := 81) (ls' := [(0, .ref 1), (1, .int 4), (2, .int a), (3, .int b), (4, .int c)]) (st' := [.int b, .int a, .ref 8]) (I' := I) rfl ?_
  refine zcP (b2 := 0) rfl rfl (zPz (zt_putV hB hV a b (zrfV_0 hr))) (fun x J hP => ?_)
  obtain ⟨rfl, hB2, hF2⟩ := hP
  refine ziret rfl rfl rfl ?_
  exact zP1 ⟨_, hB2, hF2, ⟨zOK_V hV hr, (zOK_pipe hV (zrfV_0 hr).1 (zrfV_0 hr).2).2.2.2.1.1, rfl, rfl⟩⟩
theorem zt_perf5 {sl D dy : Nat} {I : zM} {S : Nat → Nat → Int32} (hB : zSB 1 S I) (hV : zOK S) (a b c : Int32) (hr : zrfV S 9 a b = 0) : zW sl (D + 4) dy 49 0 [(0, .ref 1), (1, .int 5), (2, .int a), (3, .int b), (4, .int c)] [] I (zRg 0 (zQg I (fun T x => T = zsu S 8 a.toNatClampNeg b ∧ x = S 8 a.toNatClampNeg))) := by
  refine zg 6 (pc' := 91) (ls' := [(0, .ref 1), (1, .int 5), (2, .int a), (3, .int b), (4, .int c)]) (st' := [.int b, .int a, .ref 9]) (I' := I) rfl ?_
  refine zcP (b2 := 0) rfl rfl (zPz (zt_putL hB hV a b (zrfV_0 hr))) (fun x J hP => ?_)
  obtain ⟨rfl, hB2, hF2⟩ := hP
  refine ziret rfl rfl rfl ?_
  exact zP1 ⟨_, hB2, hF2, ⟨zOK_L hV hr, (zOK_pipe hV (zrfV_0 hr).1 (zrfV_0 hr).2).2.2.2.2.1.1, rfl, rfl⟩⟩
theorem zt_perf6 {sl D dy : Nat} {I : zM} {S : Nat → Nat → Int32} (hB : zSB 1 S I) (hV : zOK S) (a b c : Int32) (hr : zrfC S a = 0) : zW sl (D + 4) dy 49 0 [(0, .ref 1), (1, .int 6), (2, .int a), (3, .int b), (4, .int c)] [] I (zRg 0 (zQg I (fun T x => T = zsu S 9 a.toNatClampNeg 0 ∧ x = S 9 a.toNatClampNeg))) := by
  refine zg 6 (pc' := 101) (ls' := [(0, .ref 1), (1, .int 6), (2, .int a), (3, .int b), (4, .int c)]) (st' := [.int 0, .int a, .ref 10]) (I' := I) rfl ?_
  refine zcP (b2 := 0) rfl rfl (zPz (zt_putC hB hV a 0 (zrfC_0 hr))) (fun x J hP => ?_)
  obtain ⟨rfl, hB2, hF2⟩ := hP
  refine ziret rfl rfl rfl ?_
  exact zP1 ⟨_, hB2, hF2, ⟨zOK_C hV hr, (zOK_pipe hV (zrfC_0 hr).1 (zrfC_0 hr).2).2.2.2.2.2.1, rfl, rfl⟩⟩
theorem zt_perf7 {sl D dy : Nat} {I : zM} {S : Nat → Nat → Int32} (hB : zSB 1 S I) (hV : zOK S) (a b c : Int32) (hr : zrfW a = 0) : zW sl (D + 4) dy 49 0 [(0, .ref 1), (1, .int 7), (2, .int a), (3, .int b), (4, .int c)] [] I (zRg 0 (zQg I (fun T _ => T 0 10 = S 0 10 ∧ T 0 11 = S 0 11))) := by
  refine zg 4 (pc' := 107) (ls' := [(0, .ref 1), (1, .int 7), (2, .int a), (3, .int b), (4, .int c)]) (st' := [.int a, .ref 1]) (I' := I) rfl ?_
  refine zcP (P := fun x J => ∃ T, zSB 1 T J ∧ zfb I J ∧ zAcc (fun T _ => T 0 10 = S 0 10 ∧ T 0 11 = S 0 11) T x) (b2 := 0) rfl rfl (zwp (zt_minutes hB hV a (zrfW_0 hr)) (fun c v J ⟨q1, T, ⟨q2, q3, q4, q5, q6, q7⟩, e, q8, q9, q10⟩ => ⟨q1, e, q8, T, q2, q4, q3, q9, q5, q6⟩) (Nat.le_refl _)) (fun x J hP => ?_)
  refine ziret rfl rfl rfl ?_
  exact zP1 hP
/-- what a change leaves alone -/
def zfc (I J : zM) : Prop := ∀ a k, (a = 0 ∨ (12 ≤ a ∧ a < 45) ∨ 134 < a) → J a k = I a k
def zQc (I : zM) (S : Nat → Nat → Int32) (L : List (Nat → Nat → Int32)) (Q : (Nat → Nat → Int32) → Int32 → Prop) : Nat → Option Value → zM → Prop := zQP (fun x J => ∃ T, zSB 1 T J ∧ zHl ((S :: L).take 8) J ∧ zfc I J ∧ zAcc Q T x)
theorem zSB_eq {S : Nat → Nat → Int32} {I J : zM} (hB : zSB 1 S I) (h : ∀ a k, 1 ≤ a → a ≤ 11 → J a k = I a k) : zSB 1 S J := fun o k hc => by
  have := (zcell_lt hc).1
  rw [h _ _ (by omega) (by omega)]
  exact hB o k hc
theorem zt_chg {sl D dy : Nat} {I : zM} {S : Nat → Nat → Int32} {L : List (Nat → Nat → Int32)} {Q : (Nat → Nat → Int32) → Int32 → Prop} (hB : zSB 1 S I) (hH : zHl L I) (kind a b c : Int32) (hR : zW sl (D + 4) dy 42 0 [(0, .ref 1), (1, .int kind), (2, .int a), (3, .int b), (4, .int c)] [] I (zRg 0 (zQf I (some (.int 0))))) (hG : ∀ J, zSB 1 S J → zW sl (D + 4) dy 49 0 [(0, .ref 1), (1, .int kind), (2, .int a), (3, .int b), (4, .int c)] [] J (zRg 0 (zQg J Q))) : zW sl (D + 5) dy 74 0 [(0, .ref 0), (1, .int kind), (2, .int a), (3, .int b), (4, .int c)] [] I (zRg 0 (zQc I S L Q)) := by
  refine zg 6 (pc' := 9) (ls' := [(0, .ref 0), (1, .int kind), (2, .int a), (3, .int b), (4, .int c)]) (st' := [.int c, .int b, .int a, .int kind, .ref 1]) (I' := I) rfl ?_
  refine zcf rfl rfl (hR) ?_
  refine zcv rfl rfl (zt_thr0) ?_
  refine zg 4 (pc' := 23) (ls' := [(0, .ref 0), (1, .int kind), (2, .int a), (3, .int b), (4, .int c)]) (st' := [.ref 1, .ref 45]) (I' := I) rfl ?_
  refine zcj (b2 := 0) rfl rfl (zt_keep0 (D := D + 3) (s := 1) rfl (by decide) hB hH) (fun J1 hJ => ?_)
  obtain ⟨hH1, hF1⟩ := hJ
  have hB1 : zSB 1 S J1 := zSB_eq hB (fun a k h1 h2 => hF1 a k (by omega))
  refine zg 6 (pc' := 35) (ls' := [(0, .ref 0), (1, .int kind), (2, .int a), (3, .int b), (4, .int c)]) (st' := [.int c, .int b, .int a, .int kind, .ref 1]) (I' := J1) rfl ?_
  refine zcP (b2 := 0) rfl rfl (hG J1 hB1) (fun x J hP => ?_)
  obtain ⟨T, hB2, hF2, hA⟩ := hP
  refine ziret rfl rfl rfl ?_
  exact zP1 ⟨T, hB2, zHl_eq hH1 (fun a k h1 h2 => hF2 a k (by omega)), fun a k ha => (hF2 a k (by omega)).trans (hF1 a k (by omega)), hA⟩
theorem zt_addTank_ok {sl D dy : Nat} {I : zM} {S : Nat → Nat → Int32} (hB : zSB 1 S I) (hV : zOK S) {L : List (Nat → Nat → Int32)} (hH : zHl L I) (a : Int32) (hr : zrfT S a = 0) : zW sl (D + 6) dy 66 0 [(0, .ref 0), (1, .int a)] [] I (zRg 0 (zQc I S L (fun T x => T = zpT S a ∧ x = S 0 10))) := by
  refine zg 5 (pc' := 5) (ls' := [(0, .ref 0), (1, .int a)]) (st' := [.int 0, .int 0, .int a, .int 0, .ref 0]) (I' := I) rfl ?_
  have e0 := zt_ref0 (sl := sl) (D := D + 2) (dy := dy) hB a 0 0
  rw [hr] at e0
  refine zcP (b2 := 0) rfl rfl (zt_chg hB hH 0 a 0 0 e0 (fun J hJ => zt_perf0 hJ hV a 0 0 hr)) (fun x J hP => ?_)
  refine ziret rfl rfl rfl ?_
  exact zP1 hP
theorem zl_addTank_ok {sl D dy : Nat} {I : zM} {S : Nat → Nat → Int32} (hB : zSB 1 S I) (hV : zOK S) {L : List (Nat → Nat → Int32)} (hH : zHl L I) (a : Int32) (hr : zrfT S a = 0) : zW sl (D + 7) dy 132 0 [(0, .ref 0), (1, .int a)] [] I (zRg 0 (zQc I S L (fun T x => T = zpT S a ∧ x = S 0 10))) := by
  refine zg 2 (pc' := 2) (ls' := [(0, .ref 0), (1, .int a)]) (st' := [.int a, .ref 0]) (I' := I) rfl ?_
  refine zcP (b2 := 0) rfl rfl (zt_addTank_ok hB hV hH a hr) (fun x J hP => ?_)
  refine ziret rfl rfl rfl ?_
  exact zP1 hP
theorem zt_addPipe_ok {sl D dy : Nat} {I : zM} {S : Nat → Nat → Int32} (hB : zSB 1 S I) (hV : zOK S) {L : List (Nat → Nat → Int32)} (hH : zHl L I) (a b c : Int32) (hr : zrfP S a b c = 0) : zW sl (D + 6) dy 67 0 [(0, .ref 0), (1, .int a), (2, .int b), (3, .int c)] [] I (zRg 0 (zQc I S L (fun T x => T = zpP S a b c ∧ x = S 0 11))) := by
  refine zg 5 (pc' := 5) (ls' := [(0, .ref 0), (1, .int a), (2, .int b), (3, .int c)]) (st' := [.int c, .int b, .int a, .int 1, .ref 0]) (I' := I) rfl ?_
  have e0 := zt_ref1 (sl := sl) (D := D + 2) (dy := dy) hB a b c
  rw [hr] at e0
  refine zcP (b2 := 0) rfl rfl (zt_chg hB hH 1 a b c e0 (fun J hJ => zt_perf1 hJ hV a b c hr)) (fun x J hP => ?_)
  refine ziret rfl rfl rfl ?_
  exact zP1 hP
theorem zl_addPipe_ok {sl D dy : Nat} {I : zM} {S : Nat → Nat → Int32} (hB : zSB 1 S I) (hV : zOK S) {L : List (Nat → Nat → Int32)} (hH : zHl L I) (a b c : Int32) (hr : zrfP S a b c = 0) : zW sl (D + 7) dy 133 0 [(0, .ref 0), (1, .int a), (2, .int b), (3, .int c)] [] I (zRg 0 (zQc I S L (fun T x => T = zpP S a b c ∧ x = S 0 11))) := by
  refine zg 4 (pc' := 4) (ls' := [(0, .ref 0), (1, .int a), (2, .int b), (3, .int c)]) (st' := [.int c, .int b, .int a, .ref 0]) (I' := I) rfl ?_
  refine zcP (b2 := 0) rfl rfl (zt_addPipe_ok hB hV hH a b c hr) (fun x J hP => ?_)
  refine ziret rfl rfl rfl ?_
  exact zP1 hP
theorem zt_pour_ok {sl D dy : Nat} {I : zM} {S : Nat → Nat → Int32} (hB : zSB 1 S I) (hV : zOK S) {L : List (Nat → Nat → Int32)} (hH : zHl L I) (a b c : Int32) (hr : zrfO S a b c = 0) : zW sl (D + 6) dy 68 0 [(0, .ref 0), (1, .int a), (2, .int b), (3, .int c)] [] I (zRg 0 (zQc I S L (fun T x => T = zpO S a b c ∧ x = S 2 a.toNatClampNeg + b))) := by
  refine zg 5 (pc' := 5) (ls' := [(0, .ref 0), (1, .int a), (2, .int b), (3, .int c)]) (st' := [.int c, .int b, .int a, .int 2, .ref 0]) (I' := I) rfl ?_
  have e0 := zt_ref2 (sl := sl) (D := D + 2) (dy := dy) hB hV a b c
  rw [hr] at e0
  refine zcP (b2 := 0) rfl rfl (zt_chg hB hH 2 a b c e0 (fun J hJ => zt_perf2 hJ hV a b c hr)) (fun x J hP => ?_)
  refine ziret rfl rfl rfl ?_
  exact zP1 hP
theorem zl_pour_ok {sl D dy : Nat} {I : zM} {S : Nat → Nat → Int32} (hB : zSB 1 S I) (hV : zOK S) {L : List (Nat → Nat → Int32)} (hH : zHl L I) (a b c : Int32) (hr : zrfO S a b c = 0) : zW sl (D + 7) dy 134 0 [(0, .ref 0), (1, .int a), (2, .int b), (3, .int c)] [] I (zRg 0 (zQc I S L (fun T x => T = zpO S a b c ∧ x = S 2 a.toNatClampNeg + b))) := by
  refine zg 4 (pc' := 4) (ls' := [(0, .ref 0), (1, .int a), (2, .int b), (3, .int c)]) (st' := [.int c, .int b, .int a, .ref 0]) (I' := I) rfl ?_
  refine zcP (b2 := 0) rfl rfl (zt_pour_ok hB hV hH a b c hr) (fun x J hP => ?_)
  refine ziret rfl rfl rfl ?_
  exact zP1 hP
theorem zt_draw_ok {sl D dy : Nat} {I : zM} {S : Nat → Nat → Int32} (hB : zSB 1 S I) (hV : zOK S) {L : List (Nat → Nat → Int32)} (hH : zHl L I) (a b : Int32) (hr : zrfD S a b = 0) : zW sl (D + 6) dy 69 0 [(0, .ref 0), (1, .int a), (2, .int b)] [] I (zRg 0 (zQc I S L (fun T x => T = zpD S a b ∧ x = S 2 a.toNatClampNeg - b))) := by
  refine zg 5 (pc' := 5) (ls' := [(0, .ref 0), (1, .int a), (2, .int b)]) (st' := [.int 0, .int b, .int a, .int 3, .ref 0]) (I' := I) rfl ?_
  have e0 := zt_ref3 (sl := sl) (D := D + 2) (dy := dy) hB hV a b 0
  rw [hr] at e0
  refine zcP (b2 := 0) rfl rfl (zt_chg hB hH 3 a b 0 e0 (fun J hJ => zt_perf3 hJ hV a b 0 hr)) (fun x J hP => ?_)
  refine ziret rfl rfl rfl ?_
  exact zP1 hP
theorem zl_draw_ok {sl D dy : Nat} {I : zM} {S : Nat → Nat → Int32} (hB : zSB 1 S I) (hV : zOK S) {L : List (Nat → Nat → Int32)} (hH : zHl L I) (a b : Int32) (hr : zrfD S a b = 0) : zW sl (D + 7) dy 135 0 [(0, .ref 0), (1, .int a), (2, .int b)] [] I (zRg 0 (zQc I S L (fun T x => T = zpD S a b ∧ x = S 2 a.toNatClampNeg - b))) := by
  refine zg 3 (pc' := 3) (ls' := [(0, .ref 0), (1, .int a), (2, .int b)]) (st' := [.int b, .int a, .ref 0]) (I' := I) rfl ?_
  refine zcP (b2 := 0) rfl rfl (zt_draw_ok hB hV hH a b hr) (fun x J hP => ?_)
  refine ziret rfl rfl rfl ?_
  exact zP1 hP
theorem zt_setValve_ok {sl D dy : Nat} {I : zM} {S : Nat → Nat → Int32} (hB : zSB 1 S I) (hV : zOK S) {L : List (Nat → Nat → Int32)} (hH : zHl L I) (a b : Int32) (hr : zrfV S 4 a b = 0) : zW sl (D + 6) dy 70 0 [(0, .ref 0), (1, .int a), (2, .int b)] [] I (zRg 0 (zQc I S L (fun T x => T = zsu S 7 a.toNatClampNeg b ∧ x = S 7 a.toNatClampNeg))) := by
  refine zg 5 (pc' := 5) (ls' := [(0, .ref 0), (1, .int a), (2, .int b)]) (st' := [.int 0, .int b, .int a, .int 4, .ref 0]) (I' := I) rfl ?_
  have e0 := zt_ref4 (sl := sl) (D := D + 2) (dy := dy) hB a b 0
  rw [hr] at e0
  refine zcP (b2 := 0) rfl rfl (zt_chg hB hH 4 a b 0 e0 (fun J hJ => zt_perf4 hJ hV a b 0 hr)) (fun x J hP => ?_)
  refine ziret rfl rfl rfl ?_
  exact zP1 hP
theorem zl_setValve_ok {sl D dy : Nat} {I : zM} {S : Nat → Nat → Int32} (hB : zSB 1 S I) (hV : zOK S) {L : List (Nat → Nat → Int32)} (hH : zHl L I) (a b : Int32) (hr : zrfV S 4 a b = 0) : zW sl (D + 7) dy 136 0 [(0, .ref 0), (1, .int a), (2, .int b)] [] I (zRg 0 (zQc I S L (fun T x => T = zsu S 7 a.toNatClampNeg b ∧ x = S 7 a.toNatClampNeg))) := by
  refine zg 3 (pc' := 3) (ls' := [(0, .ref 0), (1, .int a), (2, .int b)]) (st' := [.int b, .int a, .ref 0]) (I' := I) rfl ?_
  refine zcP (b2 := 0) rfl rfl (zt_setValve_ok hB hV hH a b hr) (fun x J hP => ?_)
  refine ziret rfl rfl rfl ?_
  exact zP1 hP
theorem zt_setLeak_ok {sl D dy : Nat} {I : zM} {S : Nat → Nat → Int32} (hB : zSB 1 S I) (hV : zOK S) {L : List (Nat → Nat → Int32)} (hH : zHl L I) (a b : Int32) (hr : zrfV S 9 a b = 0) : zW sl (D + 6) dy 71 0 [(0, .ref 0), (1, .int a), (2, .int b)] [] I (zRg 0 (zQc I S L (fun T x => T = zsu S 8 a.toNatClampNeg b ∧ x = S 8 a.toNatClampNeg))) := by
  refine zg 5 (pc' := 5) (ls' := [(0, .ref 0), (1, .int a), (2, .int b)]) (st' := [.int 0, .int b, .int a, .int 5, .ref 0]) (I' := I) rfl ?_
  have e0 := zt_ref5 (sl := sl) (D := D + 2) (dy := dy) hB a b 0
  rw [hr] at e0
  refine zcP (b2 := 0) rfl rfl (zt_chg hB hH 5 a b 0 e0 (fun J hJ => zt_perf5 hJ hV a b 0 hr)) (fun x J hP => ?_)
  refine ziret rfl rfl rfl ?_
  exact zP1 hP
theorem zl_setLeak_ok {sl D dy : Nat} {I : zM} {S : Nat → Nat → Int32} (hB : zSB 1 S I) (hV : zOK S) {L : List (Nat → Nat → Int32)} (hH : zHl L I) (a b : Int32) (hr : zrfV S 9 a b = 0) : zW sl (D + 7) dy 137 0 [(0, .ref 0), (1, .int a), (2, .int b)] [] I (zRg 0 (zQc I S L (fun T x => T = zsu S 8 a.toNatClampNeg b ∧ x = S 8 a.toNatClampNeg))) := by
  refine zg 3 (pc' := 3) (ls' := [(0, .ref 0), (1, .int a), (2, .int b)]) (st' := [.int b, .int a, .ref 0]) (I' := I) rfl ?_
  refine zcP (b2 := 0) rfl rfl (zt_setLeak_ok hB hV hH a b hr) (fun x J hP => ?_)
  refine ziret rfl rfl rfl ?_
  exact zP1 hP
theorem zt_cleanFilter_ok {sl D dy : Nat} {I : zM} {S : Nat → Nat → Int32} (hB : zSB 1 S I) (hV : zOK S) {L : List (Nat → Nat → Int32)} (hH : zHl L I) (a : Int32) (hr : zrfC S a = 0) : zW sl (D + 6) dy 72 0 [(0, .ref 0), (1, .int a)] [] I (zRg 0 (zQc I S L (fun T x => T = zsu S 9 a.toNatClampNeg 0 ∧ x = S 9 a.toNatClampNeg))) := by
  refine zg 5 (pc' := 6) (ls' := [(0, .ref 0), (1, .int a)]) (st' := [.int 0, .int 0, .int a, .int 6, .ref 0]) (I' := I) rfl ?_
  have e0 := zt_ref6 (sl := sl) (D := D + 2) (dy := dy) hB a 0 0
  rw [hr] at e0
  refine zcP (b2 := 0) rfl rfl (zt_chg hB hH 6 a 0 0 e0 (fun J hJ => zt_perf6 hJ hV a 0 0 hr)) (fun x J hP => ?_)
  refine ziret rfl rfl rfl ?_
  exact zP1 hP
theorem zl_cleanFilter_ok {sl D dy : Nat} {I : zM} {S : Nat → Nat → Int32} (hB : zSB 1 S I) (hV : zOK S) {L : List (Nat → Nat → Int32)} (hH : zHl L I) (a : Int32) (hr : zrfC S a = 0) : zW sl (D + 7) dy 138 0 [(0, .ref 0), (1, .int a)] [] I (zRg 0 (zQc I S L (fun T x => T = zsu S 9 a.toNatClampNeg 0 ∧ x = S 9 a.toNatClampNeg))) := by
  refine zg 2 (pc' := 2) (ls' := [(0, .ref 0), (1, .int a)]) (st' := [.int a, .ref 0]) (I' := I) rfl ?_
  refine zcP (b2 := 0) rfl rfl (zt_cleanFilter_ok hB hV hH a hr) (fun x J hP => ?_)
  refine ziret rfl rfl rfl ?_
  exact zP1 hP
theorem zt_advance_ok {sl D dy : Nat} {I : zM} {S : Nat → Nat → Int32} (hB : zSB 1 S I) (hV : zOK S) {L : List (Nat → Nat → Int32)} (hH : zHl L I) (a : Int32) (hr : zrfW a = 0) : zW sl (D + 6) dy 73 0 [(0, .ref 0), (1, .int a)] [] I (zRg 0 (zQc I S L (fun T _ => T 0 10 = S 0 10 ∧ T 0 11 = S 0 11))) := by
  refine zg 5 (pc' := 6) (ls' := [(0, .ref 0), (1, .int a)]) (st' := [.int 0, .int 0, .int a, .int 7, .ref 0]) (I' := I) rfl ?_
  have e0 := zt_ref7 (sl := sl) (D := D + 2) (dy := dy) hB a 0 0
  rw [hr] at e0
  refine zcP (b2 := 0) rfl rfl (zt_chg hB hH 7 a 0 0 e0 (fun J hJ => zt_perf7 hJ hV a 0 0 hr)) (fun x J hP => ?_)
  refine ziret rfl rfl rfl ?_
  exact zP1 hP
theorem zl_advance_ok {sl D dy : Nat} {I : zM} {S : Nat → Nat → Int32} (hB : zSB 1 S I) (hV : zOK S) {L : List (Nat → Nat → Int32)} (hH : zHl L I) (a : Int32) (hr : zrfW a = 0) : zW sl (D + 7) dy 139 0 [(0, .ref 0), (1, .int a)] [] I (zRg 0 (zQc I S L (fun T _ => T 0 10 = S 0 10 ∧ T 0 11 = S 0 11))) := by
  refine zg 2 (pc' := 2) (ls' := [(0, .ref 0), (1, .int a)]) (st' := [.int a, .ref 0]) (I' := I) rfl ?_
  refine zcP (b2 := 0) rfl rfl (zt_advance_ok hB hV hH a hr) (fun x J hP => ?_)
  refine ziret rfl rfl rfl ?_
  exact zP1 hP
