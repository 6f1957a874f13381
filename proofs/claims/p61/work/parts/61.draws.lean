/-! CONTRACTS: the changes that the law draws -/
theorem zrem_in {v n : Int32} (hn : 0 < n.toInt) : -n.toInt < (v - v / n * n).toInt ∧ (v - v / n * n).toInt < n.toInt := by
  have b1 := Int32.toInt_lt v
  have b2 := Int32.le_toInt v
  have b3 := Int32.toInt_lt n
  have m1 := Int.tmod_lt_of_pos v.toInt hn
  have m2 := Int.lt_tmod_of_pos v.toInt hn
  have m3 := Int.tmod_add_tdiv_mul v.toInt n.toInt
  have m4 := Int.natAbs_tdiv_le_natAbs v.toInt n.toInt
  have s1 : (0 ≤ v.toInt ∧ 0 ≤ v.toInt.tmod n.toInt) ∨ (v.toInt < 0 ∧ v.toInt.tdiv n.toInt ≤ 0 ∧ v.toInt.tmod n.toInt ≤ 0) := by
    by_cases h : 0 ≤ v.toInt
    · exact Or.inl ⟨h, Int.tmod_nonneg _ h⟩
    · have g1 := Int.tdiv_nonneg (a := -v.toInt) (b := n.toInt) (by omega) (by omega)
      have g2 := Int.tmod_nonneg (a := -v.toInt) n.toInt (by omega)
      rw [Int.neg_tdiv] at g1
      rw [Int.neg_tmod] at g2
      exact Or.inr ⟨by omega, by omega, by omega⟩
  have d1 : (v / n).toInt = v.toInt.tdiv n.toInt := by
    rw [Int32.toInt_div]
    exact zbm (by omega) (by omega)
  have d2 : (v / n * n).toInt = v.toInt.tdiv n.toInt * n.toInt := by
    rw [zti_mul (by rw [d1]; omega) (by rw [d1]; omega), d1]
  have d3 := zti_sub (x := v) (y := v / n * n) (by rw [d2]; omega) (by rw [d2]; omega)
  rw [d2] at d3
  omega
section ZWR13
variable {sl D dy mi pc : Nat} {ls : zLs} {st : List Value} {I : zM} {b : Nat} {R : Nat → Option Value → zM → Prop}
theorem zals {len r1 r2 r3 : Nat} (h : zl mi pc = some (.arraylength, len, r1, r2, r3)) (hsl : sl ≤ 2147483647) (kk : zW sl D dy mi (pc + len) ls (.int (Int32.ofNat sl) :: st) I (zRg b R)) : zW sl D dy mi pc ls (.ref 1000 :: st) I (zRg b R) := by
  have e : zkd sl 1000 = some (110, sl) := rfl
  exact zW_n h (by simp only [zstep, e, Nat.ble_eq_true_of_le hsl]; rfl) kk
theorem zias {len r1 r2 r3 : Nat} {i x : Int32} (h : zl mi pc = some (.iaload, len, r1, r2, r3)) (hi : zin i sl = true) (hx : I 1000 i.toNatClampNeg = some x) (kk : zW sl D dy mi (pc + len) ls (.int x :: st) I (zRg b R)) : zW sl D dy mi pc ls (.int i :: .ref 1000 :: st) I (zRg b R) := by
  have e : zkd sl 1000 = some (110, sl) := rfl
  exact zW_n h (by simp only [zstep, e, hi, hx]; rfl) kk
theorem zcPi {e : Instr × Nat × Nat × Nat × Nat} {m pc' b1 b2 : Nat} {la : zLs} {st' : List Value} {P : Int32 → Prop} (h : zl mi pc = some e) (hs : zstep sl dy mi pc e ls st I = some (.inr (.inr (.inr (m, pc', la, st', 0)))))
    (hc : zW sl D dy m 0 la [] I (zRg b1 (zQP (fun x J => J = I ∧ P x)))) (kr : ∀ x, P x → zW sl (D + 1) dy mi pc' ls (.int x :: st') I (zRg b2 R)) (hb : b1 + b2 ≤ b := by omega) : zW sl (D + 1) dy mi pc ls st I (zRg b R) :=
  zcal (b1 := b1) (b2 := b2) h hs hc (fun w J ⟨_, x, h2, h3, h4⟩ => by rw [h2, h3]; exact kr x h4) (fun c w J ⟨h1, _⟩ => by cases h1) hb
/-- the two texts that are built and run -/
theorem zctv {p : Int32} {b1 b2 : Nat} {P : Int32 → zM → Prop} (hl : zlk ls 3 = some (.int p)) (h0 : 0 ≤ p.toInt) (h1 : p.toInt < 13) (hc : zW sl D (5000 + p.toNatClampNeg) 173 0 [(0, .ref 0), (1, .ref (5000 + p.toNatClampNeg))] [] I (zRg b1 (zQP P))) (kr : ∀ x J, P x J → zW sl (D + 1) dy 176 355 ls [.int x] J (zRg b2 R)) (hb : b1 + b2 + 1 ≤ b := by omega) : zW sl (D + 1) dy 176 297 ls [.ref 0] I (zRg b R) := by
  have hd : decide (0 ≤ p ∧ p < 13) = true := decide_eq_true ⟨Int32.le_iff_toInt_le.mpr h0, Int32.lt_iff_toInt_lt.mpr h1⟩
  refine zW_cu (e := (.new 267, 3, 1, 0, 1367)) (Q := zRg b1 (zQP P)) (u0 := 1) (m := 173) (pc' := 355) (la := [(0, .ref 0), (1, .ref (5000 + p.toNatClampNeg))]) (st' := []) rfl ?_ hc (fun v J u hq => ?_) (fun c v J u ⟨⟨h2, _⟩, _⟩ => by cases h2)
  · show ((match zlk ls 3 with | some (.int p) => (match decide (0 ≤ p ∧ p < 13) with | true => some (.inr (.inr (.inr (173, 355, [(0, .ref 0), (1, .ref (5000 + p.toNatClampNeg))], [], 1)))) | false => none) | _ => none) : Option zRes) = _
    rw [hl]
    show ((match decide (0 ≤ p ∧ p < 13) with | true => _ | false => none) : Option zRes) = _
    rw [hd]
  · obtain ⟨⟨-, x, h2, h3⟩, hu⟩ := hq
    have h2 : v = some (.int x) := h2
    subst h2
    refine ⟨rfl, zW_post (kr x J h3) fun o ho => ⟨ho.1, ?_⟩⟩
    have h4 := ho.2
    have h5 : u ≤ b1 := hu
    show o.2.2.2 + (u + 1) ≤ b
    omega
theorem zctp {p : Int32} {b1 b2 : Nat} {P : Int32 → zM → Prop} (hl : zlk ls 2 = some (.int p)) (h0 : 0 ≤ p.toInt) (h1 : p.toInt < 9) (hc : zW sl D (5100 + p.toNatClampNeg) 173 0 [(0, .ref 0), (1, .ref (5100 + p.toNatClampNeg))] [] I (zRg b1 (zQP P))) (kr : ∀ x J, P x J → zW sl (D + 1) dy 176 355 ls [.int x] J (zRg b2 R)) (hb : b1 + b2 + 1 ≤ b := by omega) : zW sl (D + 1) dy 176 326 ls [.ref 0] I (zRg b R) := by
  have hd : decide (0 ≤ p ∧ p < 9) = true := decide_eq_true ⟨Int32.le_iff_toInt_le.mpr h0, Int32.lt_iff_toInt_lt.mpr h1⟩
  refine zW_cu (e := (.new 267, 3, 1, 0, 1367)) (Q := zRg b1 (zQP P)) (u0 := 1) (m := 173) (pc' := 355) (la := [(0, .ref 0), (1, .ref (5100 + p.toNatClampNeg))]) (st' := []) rfl ?_ hc (fun v J u hq => ?_) (fun c v J u ⟨⟨h2, _⟩, _⟩ => by cases h2)
  · show ((match zlk ls 2 with | some (.int p) => (match decide (0 ≤ p ∧ p < 9) with | true => some (.inr (.inr (.inr (173, 355, [(0, .ref 0), (1, .ref (5100 + p.toNatClampNeg))], [], 1)))) | false => none) | _ => none) : Option zRes) = _
    rw [hl]
    show ((match decide (0 ≤ p ∧ p < 9) with | true => _ | false => none) : Option zRes) = _
    rw [hd]
  · obtain ⟨⟨-, x, h2, h3⟩, hu⟩ := hq
    have h2 : v = some (.int x) := h2
    subst h2
    refine ⟨rfl, zW_post (kr x J h3) fun o ho => ⟨ho.1, ?_⟩⟩
    have h4 := ho.2
    have h5 : u ≤ b1 := hu
    show o.2.2.2 + (u + 1) ≤ b
    omega
end ZWR13
theorem zt_some {sl D dy : Nat} {I : zM} (v n : Int32) (hn : 0 < n.toInt) : zW sl (D) dy 131 0 [(0, .int v), (1, .int n)] [] I (zRg 0 (zQP (fun x J => J = I ∧ 0 ≤ x.toInt ∧ x.toInt < n.toInt))) := by
  have hr := zrem_in (v := v) hn
  have hlt := Int32.toInt_lt n
  have z0 := zi0
  refine zg 2 (pc' := 2) (ls' := [(0, .int v), (1, .int n)]) (st' := [.int n, .int v]) (I' := I) rfl ?_
  refine zremr rfl (by intro e; rw [e] at hn; exact absurd hn (by decide)) ?_
  refine zg 2 (pc' := 5) (ls' := [(2, .int (v - v / n * n)), (0, .int v), (1, .int n)]) (st' := [.int (v - v / n * n)]) (I' := I) rfl ?_
  refine zif rfl rfl (fun h1 => ?_) (fun h1 => ?_)
  · have h1 := zc_ge.1.mp h1
    refine zg 1 (pc' := 15) (ls' := [(2, .int (v - v / n * n)), (0, .int v), (1, .int n)]) (st' := [.int (v - v / n * n)]) (I' := I) rfl ?_
    first
      | exact ziret rfl rfl rfl (zP1 ⟨rfl, by omega, by omega⟩)
      | (have ha := zti_add (x := v - v / n * n) (y := n) (by omega) (by omega)
         exact ziret rfl rfl rfl (zP1 ⟨rfl, by omega, by omega⟩))
  · have h1 := zc_ge.2.mp h1
    refine zg 4 (pc' := 15) (ls' := [(2, .int (v - v / n * n)), (0, .int v), (1, .int n)]) (st' := [.int (((v - v / n * n) + n))]) (I' := I) rfl ?_
    first
      | exact ziret rfl rfl rfl (zP1 ⟨rfl, by omega, by omega⟩)
      | (have ha := zti_add (x := v - v / n * n) (y := n) (by omega) (by omega)
         exact ziret rfl rfl rfl (zP1 ⟨rfl, by omega, by omega⟩))
theorem zt_at {sl D dy : Nat} {I : zM} (k : Int32) (hk : 0 ≤ k.toInt) (hsl : sl ≤ 2147483647) (hs : ∀ k, k < sl → ∃ x, I 1000 k = some x) : zW sl (D) dy 130 0 [(0, .ref 1000), (1, .int k)] [] I (zRg 0 (zQP (fun _ J => J = I ∧ True))) := by
  have hof : (Int32.ofNat sl).toInt = (sl : Int) := Int32.toInt_ofNat_of_lt (by omega)
  refine zg 2 (pc' := 2) (ls' := [(0, .ref 1000), (1, .int k)]) (st' := [.ref 1000, .int k]) (I' := I) rfl ?_
  refine zals rfl hsl ?_
  refine zicmp rfl rfl (fun h1 => ?_) (fun h1 => ?_)
  · have h1 := zc_ge.1.mp h1
    refine zg 1 (pc' := 13) (ls' := [(0, .ref 1000), (1, .int k)]) (st' := [.int 0]) (I' := I) rfl ?_
    refine ziret rfl rfl rfl ?_
    exact zP1 ⟨rfl, trivial⟩
  · have h1 := zc_ge.2.mp h1
    refine zg 2 (pc' := 8) (ls' := [(0, .ref 1000), (1, .int k)]) (st' := [.int k, .ref 1000]) (I' := I) rfl ?_
    have hkl : k.toInt < (sl : Int) := by rw [hof] at h1; omega
    obtain ⟨x, hx⟩ := hs k.toNatClampNeg (by have : k.toNatClampNeg = k.toInt.toNat := rfl; omega)
    refine zias rfl (zin_ok hk hkl) hx ?_
    refine zg 1 (pc' := 13) (ls' := [(0, .ref 1000), (1, .int k)]) (st' := [.int x]) (I' := I) rfl ?_
    refine ziret rfl rfl rfl ?_
    exact zP1 ⟨rfl, trivial⟩
/-- a call of a change: done, or refused with a negative answer -/
def zTry (S : Nat → Nat → Int32) (L : List (Nat → Nat → Int32)) (I : zM) (x : Int32) (J : zM) : Prop := (0 ≤ x.toInt ∧ ∃ T, (S 0 10).toInt ≤ (T 0 10).toInt ∧ zIv T ((S :: L).take 8) J ∧ zKp I J) ∨ (x.toInt < 0 ∧ J = I)
theorem zTry_ok {sl D dy m : Nat} {la : zLs} {I : zM} {S : Nat → Nat → Int32} {L : List (Nat → Nat → Int32)} {Q : (Nat → Nat → Int32) → Int32 → Prop} (hI : zIv S L I) (hQ : ∀ T x, Q T x → (S 0 10).toInt ≤ (T 0 10).toInt) (k : zW sl D dy m 0 la [] I (zRg 0 (zQc I S L Q))) : zW sl D dy m 0 la [] I (zRg 1 (zQP (zTry S L I))) :=
  zwp (zPP k (fun x J ⟨T, h1, h2, h3, h4⟩ => Or.inl ⟨h4.2.1, T, hQ T x h4.2.2, ⟨h1, h4.1, h2, by rw [h3 _ _ (by decide)]; exact hI.2.2.2.1, fun k hk => by rw [h3 _ _ (by decide)]; exact hI.2.2.2.2 k hk⟩, fun a k h5 h6 => h3 a k (by omega), h3 _ _ (by decide)⟩)) (fun _ _ _ h => h) (by decide)
theorem zTry_no {sl D dy m : Nat} {la : zLs} {I : zM} {S : Nat → Nat → Int32} {L : List (Nat → Nat → Int32)} {x : Int32} (hx : x.toInt < 0) (k : zW sl D dy m 0 la [] I (zRg 1 (zQf I (some (.int x))))) : zW sl D dy m 0 la [] I (zRg 1 (zQP (zTry S L I))) :=
  zwp k (fun c v J ⟨h1, h2, h3⟩ => ⟨h1, x, h2, Or.inr ⟨hx, h3⟩⟩) (Nat.le_refl _)
theorem zrf_in {p : Prop} {d : Decidable p} {x y : Int32} {Q : Int32 → Prop} (h1 : Q x) (h2 : Q y) : Q (@ite _ p d x y) := by
  by_cases h : p
  · rw [if_pos h]; exact h1
  · rw [if_neg h]; exact h2
theorem zl_addTank_t {sl D dy : Nat} {I : zM} {S : Nat → Nat → Int32} {L : List (Nat → Nat → Int32)} (hI : zIv S L I) (a : Int32) : zW sl (D + 7) dy 132 0 [(0, .ref 0), (1, .int a)] [] I (zRg 1 (zQP (zTry S L I))) := by
  have h : zrfT S a = 0 ∨ zrfT S a = 2 ∨ zrfT S a = 3 := by
    unfold zrfT
    refine zrf_in (Q := fun r => r = 0 ∨ r = 2 ∨ r = 3) ?_ ?_ <;> first | decide | (refine zrf_in (Q := fun r => r = 0 ∨ r = 2 ∨ r = 3) ?_ ?_ <;> first | decide | (refine zrf_in (Q := fun r => r = 0 ∨ r = 2 ∨ r = 3) ?_ ?_ <;> first | decide | (refine zrf_in (Q := fun r => r = 0 ∨ r = 2 ∨ r = 3) ?_ ?_ <;> decide)))
  rcases h with h | h | h
  · exact zTry_ok hI (fun T x q => by rw [q.1]; show (S 0 10).toInt ≤ (S 0 10 + 1).toInt; have := hI.2.1.1; rw [zadd1 this.1 (by omega)]; omega) (zl_addTank_ok (D := D) hI.1 hI.2.1 hI.2.2.1 a h)
  · exact zTry_no (by decide) (zl_addTank_1 (D := D + 2) hI.1 a h)
  · exact zTry_no (by decide) (zl_addTank_2 (D := D + 2) hI.1 a h)
theorem zl_addPipe_t {sl D dy : Nat} {I : zM} {S : Nat → Nat → Int32} {L : List (Nat → Nat → Int32)} (hI : zIv S L I) (a b c : Int32) : zW sl (D + 7) dy 133 0 [(0, .ref 0), (1, .int a), (2, .int b), (3, .int c)] [] I (zRg 1 (zQP (zTry S L I))) := by
  have h : zrfP S a b c = 0 ∨ zrfP S a b c = 1 ∨ zrfP S a b c = 2 ∨ zrfP S a b c = 3 := by
    unfold zrfP
    refine zrf_in (Q := fun r => r = 0 ∨ r = 1 ∨ r = 2 ∨ r = 3) ?_ ?_ <;> first | decide | (refine zrf_in (Q := fun r => r = 0 ∨ r = 1 ∨ r = 2 ∨ r = 3) ?_ ?_ <;> first | decide | (refine zrf_in (Q := fun r => r = 0 ∨ r = 1 ∨ r = 2 ∨ r = 3) ?_ ?_ <;> first | decide | (refine zrf_in (Q := fun r => r = 0 ∨ r = 1 ∨ r = 2 ∨ r = 3) ?_ ?_ <;> decide)))
  rcases h with h | h | h | h
  · exact zTry_ok hI (fun T x q => by rw [q.1]; exact Int.le_refl _) (zl_addPipe_ok (D := D) hI.1 hI.2.1 hI.2.2.1 a b c h)
  · exact zTry_no (by decide) (zl_addPipe_0 (D := D + 2) hI.1 a b c h)
  · exact zTry_no (by decide) (zl_addPipe_1 (D := D + 2) hI.1 a b c h)
  · exact zTry_no (by decide) (zl_addPipe_2 (D := D + 2) hI.1 a b c h)
theorem zl_pour_t {sl D dy : Nat} {I : zM} {S : Nat → Nat → Int32} {L : List (Nat → Nat → Int32)} (hI : zIv S L I) (a b c : Int32) : zW sl (D + 7) dy 134 0 [(0, .ref 0), (1, .int a), (2, .int b), (3, .int c)] [] I (zRg 1 (zQP (zTry S L I))) := by
  have h : zrfO S a b c = 0 ∨ zrfO S a b c = 1 ∨ zrfO S a b c = 2 ∨ zrfO S a b c = 4 := by
    unfold zrfO
    refine zrf_in (Q := fun r => r = 0 ∨ r = 1 ∨ r = 2 ∨ r = 4) ?_ ?_ <;> first | decide | (refine zrf_in (Q := fun r => r = 0 ∨ r = 1 ∨ r = 2 ∨ r = 4) ?_ ?_ <;> first | decide | (refine zrf_in (Q := fun r => r = 0 ∨ r = 1 ∨ r = 2 ∨ r = 4) ?_ ?_ <;> first | decide | (refine zrf_in (Q := fun r => r = 0 ∨ r = 1 ∨ r = 2 ∨ r = 4) ?_ ?_ <;> decide)))
  rcases h with h | h | h | h
  · exact zTry_ok hI (fun T x q => by rw [q.1]; exact Int.le_refl _) (zl_pour_ok (D := D) hI.1 hI.2.1 hI.2.2.1 a b c h)
  · exact zTry_no (by decide) (zl_pour_0 (D := D + 2) hI.1 hI.2.1 a b c h)
  · exact zTry_no (by decide) (zl_pour_1 (D := D + 2) hI.1 hI.2.1 a b c h)
  · exact zTry_no (by decide) (zl_pour_3 (D := D + 2) hI.1 hI.2.1 a b c h)
theorem zl_draw_t {sl D dy : Nat} {I : zM} {S : Nat → Nat → Int32} {L : List (Nat → Nat → Int32)} (hI : zIv S L I) (a b : Int32) : zW sl (D + 7) dy 135 0 [(0, .ref 0), (1, .int a), (2, .int b)] [] I (zRg 1 (zQP (zTry S L I))) := by
  have h : zrfD S a b = 0 ∨ zrfD S a b = 1 ∨ zrfD S a b = 2 ∨ zrfD S a b = 4 := by
    unfold zrfD
    refine zrf_in (Q := fun r => r = 0 ∨ r = 1 ∨ r = 2 ∨ r = 4) ?_ ?_ <;> first | decide | (refine zrf_in (Q := fun r => r = 0 ∨ r = 1 ∨ r = 2 ∨ r = 4) ?_ ?_ <;> first | decide | (refine zrf_in (Q := fun r => r = 0 ∨ r = 1 ∨ r = 2 ∨ r = 4) ?_ ?_ <;> first | decide | (refine zrf_in (Q := fun r => r = 0 ∨ r = 1 ∨ r = 2 ∨ r = 4) ?_ ?_ <;> decide)))
  rcases h with h | h | h | h
  · exact zTry_ok hI (fun T x q => by rw [q.1, zpD_10]; exact Int.le_refl _) (zl_draw_ok (D := D) hI.1 hI.2.1 hI.2.2.1 a b h)
  · exact zTry_no (by decide) (zl_draw_0 (D := D + 2) hI.1 hI.2.1 a b h)
  · exact zTry_no (by decide) (zl_draw_1 (D := D + 2) hI.1 hI.2.1 a b h)
  · exact zTry_no (by decide) (zl_draw_3 (D := D + 2) hI.1 hI.2.1 a b h)
theorem zl_setValve_t {sl D dy : Nat} {I : zM} {S : Nat → Nat → Int32} {L : List (Nat → Nat → Int32)} (hI : zIv S L I) (a b : Int32) : zW sl (D + 7) dy 136 0 [(0, .ref 0), (1, .int a), (2, .int b)] [] I (zRg 1 (zQP (zTry S L I))) := by
  have h : zrfV S 4 a b = 0 ∨ zrfV S 4 a b = 1 ∨ zrfV S 4 a b = 2 := by
    unfold zrfV
    refine zrf_in (Q := fun r => r = 0 ∨ r = 1 ∨ r = 2) ?_ ?_ <;> first | decide | (refine zrf_in (Q := fun r => r = 0 ∨ r = 1 ∨ r = 2) ?_ ?_ <;> first | decide | (refine zrf_in (Q := fun r => r = 0 ∨ r = 1 ∨ r = 2) ?_ ?_ <;> first | decide | (refine zrf_in (Q := fun r => r = 0 ∨ r = 1 ∨ r = 2) ?_ ?_ <;> decide)))
  rcases h with h | h | h
  · exact zTry_ok hI (fun T x q => by rw [q.1]; exact Int.le_refl _) (zl_setValve_ok (D := D) hI.1 hI.2.1 hI.2.2.1 a b h)
  · exact zTry_no (by decide) (zl_setValve_0 (D := D + 2) hI.1 a b h)
  · exact zTry_no (by decide) (zl_setValve_1 (D := D + 2) hI.1 a b h)
theorem zl_setLeak_t {sl D dy : Nat} {I : zM} {S : Nat → Nat → Int32} {L : List (Nat → Nat → Int32)} (hI : zIv S L I) (a b : Int32) : zW sl (D + 7) dy 137 0 [(0, .ref 0), (1, .int a), (2, .int b)] [] I (zRg 1 (zQP (zTry S L I))) := by
  have h : zrfV S 9 a b = 0 ∨ zrfV S 9 a b = 1 ∨ zrfV S 9 a b = 2 := by
    unfold zrfV
    refine zrf_in (Q := fun r => r = 0 ∨ r = 1 ∨ r = 2) ?_ ?_ <;> first | decide | (refine zrf_in (Q := fun r => r = 0 ∨ r = 1 ∨ r = 2) ?_ ?_ <;> first | decide | (refine zrf_in (Q := fun r => r = 0 ∨ r = 1 ∨ r = 2) ?_ ?_ <;> first | decide | (refine zrf_in (Q := fun r => r = 0 ∨ r = 1 ∨ r = 2) ?_ ?_ <;> decide)))
  rcases h with h | h | h
  · exact zTry_ok hI (fun T x q => by rw [q.1]; exact Int.le_refl _) (zl_setLeak_ok (D := D) hI.1 hI.2.1 hI.2.2.1 a b h)
  · exact zTry_no (by decide) (zl_setLeak_0 (D := D + 2) hI.1 a b h)
  · exact zTry_no (by decide) (zl_setLeak_1 (D := D + 2) hI.1 a b h)
theorem zl_cleanFilter_t {sl D dy : Nat} {I : zM} {S : Nat → Nat → Int32} {L : List (Nat → Nat → Int32)} (hI : zIv S L I) (a : Int32) : zW sl (D + 7) dy 138 0 [(0, .ref 0), (1, .int a)] [] I (zRg 1 (zQP (zTry S L I))) := by
  have h : zrfC S a = 0 ∨ zrfC S a = 1 := by
    unfold zrfC
    refine zrf_in (Q := fun r => r = 0 ∨ r = 1) ?_ ?_ <;> first | decide | (refine zrf_in (Q := fun r => r = 0 ∨ r = 1) ?_ ?_ <;> first | decide | (refine zrf_in (Q := fun r => r = 0 ∨ r = 1) ?_ ?_ <;> first | decide | (refine zrf_in (Q := fun r => r = 0 ∨ r = 1) ?_ ?_ <;> decide)))
  rcases h with h | h
  · exact zTry_ok hI (fun T x q => by rw [q.1]; exact Int.le_refl _) (zl_cleanFilter_ok (D := D) hI.1 hI.2.1 hI.2.2.1 a h)
  · exact zTry_no (by decide) (zl_cleanFilter_0 (D := D + 2) hI.1 a h)
theorem zl_advance_t {sl D dy : Nat} {I : zM} {S : Nat → Nat → Int32} {L : List (Nat → Nat → Int32)} (hI : zIv S L I) (a : Int32) : zW sl (D + 7) dy 139 0 [(0, .ref 0), (1, .int a)] [] I (zRg 1 (zQP (zTry S L I))) := by
  have h : zrfW a = 0 ∨ zrfW a = 2 := by
    unfold zrfW
    refine zrf_in (Q := fun r => r = 0 ∨ r = 2) ?_ ?_ <;> first | decide | (refine zrf_in (Q := fun r => r = 0 ∨ r = 2) ?_ ?_ <;> first | decide | (refine zrf_in (Q := fun r => r = 0 ∨ r = 2) ?_ ?_ <;> first | decide | (refine zrf_in (Q := fun r => r = 0 ∨ r = 2) ?_ ?_ <;> decide)))
  rcases h with h | h
  · exact zTry_ok hI (fun T x q => by rw [q.1]; exact Int.le_refl _) (zl_advance_ok (D := D) hI.1 hI.2.1 hI.2.2.1 a h)
  · exact zTry_no (by decide) (zl_advance_1 (D := D + 2) hI.1 a h)
/-- a change that the law draws: done or not -/
def zDid (S : Nat → Nat → Int32) (L : List (Nat → Nat → Int32)) (I : zM) (x : Int32) (J : zM) : Prop := (x = 1 ∧ ∃ T, (S 0 10).toInt ≤ (T 0 10).toInt ∧ zIv T ((S :: L).take 8) J ∧ zKp I J) ∨ (x = 0 ∧ zIv S L J ∧ zKp I J)
theorem zDid_1 {S : Nat → Nat → Int32} {L : List (Nat → Nat → Int32)} {I J : zM} {x : Int32} (hx : 0 ≤ x.toInt) (h : zTry S L I x J) : zDid S L I 1 J := by
  rcases h with ⟨-, h⟩ | ⟨h, -⟩
  · exact Or.inl ⟨rfl, h⟩
  · omega
theorem zDid_0 {S : Nat → Nat → Int32} {L : List (Nat → Nat → Int32)} {I J : zM} {x : Int32} (hI : zIv S L I) (hx : x.toInt < 0) (h : zTry S L I x J) : zDid S L I 0 J := by
  rcases h with ⟨h, -⟩ | ⟨-, h⟩
  · omega
  · rw [h]; exact Or.inr ⟨rfl, hI, zKp_refl I⟩
theorem zDid_2 {S : Nat → Nat → Int32} {L : List (Nat → Nat → Int32)} {I J : zM} {x : Int32} (hx : 0 ≤ x.toInt) (h : zTwo S L I x J) : zDid S L I 1 J := by
  rcases h with ⟨-, h⟩ | ⟨rfl, -⟩
  · exact Or.inl ⟨rfl, h⟩
  · exact absurd hx (by decide)
theorem zDid_3 {S : Nat → Nat → Int32} {L : List (Nat → Nat → Int32)} {I J : zM} {x : Int32} (hx : x.toInt < 0) (h : zTwo S L I x J) : zDid S L I 0 J := by
  rcases h with ⟨rfl, -⟩ | ⟨-, h⟩
  · exact absurd hx (by decide)
  · exact Or.inr ⟨rfl, h⟩
theorem zlit24 {v : Int32} (h0 : 0 ≤ v.toInt) (h1 : v.toInt < 24) : v = 0 ∨ v = 1 ∨ v = 2 ∨ v = 3 ∨ v = 4 ∨ v = 5 ∨ v = 6 ∨ v = 7 ∨ v = 8 ∨ v = 9 ∨ v = 10 ∨ v = 11 ∨ v = 12 ∨ v = 13 ∨ v = 14 ∨ v = 15 ∨ v = 16 ∨ v = 17 ∨ v = 18 ∨ v = 19 ∨ v = 20 ∨ v = 21 ∨ v = 22 ∨ v = 23 := by
  have h2 : v = Int32.ofNat v.toInt.toNat := by
    apply Int32.toInt_inj.mp
    rw [Int32.toInt_ofNat_of_lt (by omega)]
    omega
  have h3 : v.toInt.toNat < 24 := by omega
  generalize v.toInt.toNat = q at h2 h3
  subst h2
  rcases (show q = 0 ∨ q = 1 ∨ q = 2 ∨ q = 3 ∨ q = 4 ∨ q = 5 ∨ q = 6 ∨ q = 7 ∨ q = 8 ∨ q = 9 ∨ q = 10 ∨ q = 11 ∨ q = 12 ∨ q = 13 ∨ q = 14 ∨ q = 15 ∨ q = 16 ∨ q = 17 ∨ q = 18 ∨ q = 19 ∨ q = 20 ∨ q = 21 ∨ q = 22 ∨ q = 23 by omega) with rfl | rfl | rfl | rfl | rfl | rfl | rfl | rfl | rfl | rfl | rfl | rfl | rfl | rfl | rfl | rfl | rfl | rfl | rfl | rfl | rfl | rfl | rfl | rfl <;> decide
theorem zl_changes {sl D dy : Nat} {I : zM} {S : Nat → Nat → Int32} {L : List (Nat → Nat → Int32)} (hI : zIv S L I) (v : Int32) : zW sl (D + 12) dy 176 0 [(0, .ref 0), (1, .int v)] [] I (zRg 3 (zQP (zDid S L I))) := by
  have z0 := zi0
  refine zg 4 (pc' := 5) (ls' := [(0, .ref 0), (1, .int v)]) (st' := [.int 9, .int ((v >>> (4 &&& 31)))]) (I' := I) rfl ?_
  refine zcPi (b2 := 3) rfl rfl (zt_some _ 9 (by decide)) (fun v1 v1h => ?_)
  refine zg 5 (pc' := 14) (ls' := [(2, .int v1), (0, .ref 0), (1, .int v)]) (st' := [.int 13, .int ((v >>> (4 &&& 31)))]) (I' := I) rfl ?_
  refine zcPi (b2 := 3) rfl rfl (zt_some _ 13 (by decide)) (fun v2 v2h => ?_)
  refine zg 3 (pc' := 21) (ls' := [(3, .int v2), (2, .int v1), (0, .ref 0), (1, .int v)]) (st' := [.int 24, .int v]) (I' := I) rfl ?_
  refine zcPi (b2 := 3) rfl rfl (zt_some _ 24 (by decide)) (fun v9 hP => ?_)
  rcases zlit24 hP.1 hP.2 with rfl | rfl | rfl | rfl | rfl | rfl | rfl | rfl | rfl | rfl | rfl | rfl | rfl | rfl | rfl | rfl | rfl | rfl | rfl | rfl | rfl | rfl | rfl | rfl
  · skip
    refine zg 6 (pc' := 123) (ls' := [(3, .int v2), (2, .int v1), (0, .ref 0), (1, .int v)]) (st' := [.int 1010, .int ((v >>> (4 &&& 31))), .ref 0]) (I' := I) rfl ?_
    refine zcPi (b2 := 3) rfl rfl (zt_some _ 1010 (by decide)) (fun v4 v4h => ?_)
    refine zcP (b2 := 0) rfl rfl (zl_addTank_t (D := D + 4) hI v4) (fun x J hP => ?_)
    refine zif rfl rfl (fun h5 => ?_) (fun h5 => ?_)
    · have h5 := zc_lt.1.mp h5
      refine zg 1 (pc' := 137) (ls' := [(3, .int v2), (2, .int v1), (0, .ref 0), (1, .int v)]) (st' := [.int 0]) (I' := J) rfl ?_
      exact ziret rfl rfl rfl (zP1 (zDid_0 hI (by omega) hP))
    · have h5 := zc_lt.2.mp h5
      refine zg 2 (pc' := 137) (ls' := [(3, .int v2), (2, .int v1), (0, .ref 0), (1, .int v)]) (st' := [.int 1]) (I' := J) rfl ?_
      exact ziret rfl rfl rfl (zP1 (zDid_1 (by omega) hP))
  · skip
    refine zg 6 (pc' := 123) (ls' := [(3, .int v2), (2, .int v1), (0, .ref 0), (1, .int v)]) (st' := [.int 1010, .int ((v >>> (4 &&& 31))), .ref 0]) (I' := I) rfl ?_
    refine zcPi (b2 := 3) rfl rfl (zt_some _ 1010 (by decide)) (fun v6 v6h => ?_)
    refine zcP (b2 := 0) rfl rfl (zl_addTank_t (D := D + 4) hI v6) (fun x J hP => ?_)
    refine zif rfl rfl (fun h7 => ?_) (fun h7 => ?_)
    · have h7 := zc_lt.1.mp h7
      refine zg 1 (pc' := 137) (ls' := [(3, .int v2), (2, .int v1), (0, .ref 0), (1, .int v)]) (st' := [.int 0]) (I' := J) rfl ?_
      exact ziret rfl rfl rfl (zP1 (zDid_0 hI (by omega) hP))
    · have h7 := zc_lt.2.mp h7
      refine zg 2 (pc' := 137) (ls' := [(3, .int v2), (2, .int v1), (0, .ref 0), (1, .int v)]) (st' := [.int 1]) (I' := J) rfl ?_
      exact ziret rfl rfl rfl (zP1 (zDid_1 (by omega) hP))
  · skip
    refine zg 7 (pc' := 146) (ls' := [(3, .int v2), (2, .int v1), (0, .ref 0), (1, .int v)]) (st' := [.int 9, .int ((v >>> (8 &&& 31))), .int v1, .ref 0]) (I' := I) rfl ?_
    refine zcPi (b2 := 3) rfl rfl (zt_some _ 9 (by decide)) (fun v8 v8h => ?_)
    refine zg 4 (pc' := 156) (ls' := [(3, .int v2), (2, .int v1), (0, .ref 0), (1, .int v)]) (st' := [.int 258, .int ((v >>> (10 &&& 31))), .int v8, .int v1, .ref 0]) (I' := I) rfl ?_
    refine zcPi (b2 := 3) rfl rfl (zt_some _ 258 (by decide)) (fun v9 v9h => ?_)
    refine zcP (b2 := 0) rfl rfl (zl_addPipe_t (D := D + 4) hI v1 v8 v9) (fun x J hP => ?_)
    refine zif rfl rfl (fun h10 => ?_) (fun h10 => ?_)
    · have h10 := zc_lt.1.mp h10
      refine zg 1 (pc' := 170) (ls' := [(3, .int v2), (2, .int v1), (0, .ref 0), (1, .int v)]) (st' := [.int 0]) (I' := J) rfl ?_
      exact ziret rfl rfl rfl (zP1 (zDid_0 hI (by omega) hP))
    · have h10 := zc_lt.2.mp h10
      refine zg 2 (pc' := 170) (ls' := [(3, .int v2), (2, .int v1), (0, .ref 0), (1, .int v)]) (st' := [.int 1]) (I' := J) rfl ?_
      exact ziret rfl rfl rfl (zP1 (zDid_1 (by omega) hP))
  · skip
    refine zg 7 (pc' := 146) (ls' := [(3, .int v2), (2, .int v1), (0, .ref 0), (1, .int v)]) (st' := [.int 9, .int ((v >>> (8 &&& 31))), .int v1, .ref 0]) (I' := I) rfl ?_
    refine zcPi (b2 := 3) rfl rfl (zt_some _ 9 (by decide)) (fun v11 v11h => ?_)
    refine zg 4 (pc' := 156) (ls' := [(3, .int v2), (2, .int v1), (0, .ref 0), (1, .int v)]) (st' := [.int 258, .int ((v >>> (10 &&& 31))), .int v11, .int v1, .ref 0]) (I' := I) rfl ?_
    refine zcPi (b2 := 3) rfl rfl (zt_some _ 258 (by decide)) (fun v12 v12h => ?_)
    refine zcP (b2 := 0) rfl rfl (zl_addPipe_t (D := D + 4) hI v1 v11 v12) (fun x J hP => ?_)
    refine zif rfl rfl (fun h13 => ?_) (fun h13 => ?_)
    · have h13 := zc_lt.1.mp h13
      refine zg 1 (pc' := 170) (ls' := [(3, .int v2), (2, .int v1), (0, .ref 0), (1, .int v)]) (st' := [.int 0]) (I' := J) rfl ?_
      exact ziret rfl rfl rfl (zP1 (zDid_0 hI (by omega) hP))
    · have h13 := zc_lt.2.mp h13
      refine zg 2 (pc' := 170) (ls' := [(3, .int v2), (2, .int v1), (0, .ref 0), (1, .int v)]) (st' := [.int 1]) (I' := J) rfl ?_
      exact ziret rfl rfl rfl (zP1 (zDid_1 (by omega) hP))
  · skip
    refine zg 7 (pc' := 146) (ls' := [(3, .int v2), (2, .int v1), (0, .ref 0), (1, .int v)]) (st' := [.int 9, .int ((v >>> (8 &&& 31))), .int v1, .ref 0]) (I' := I) rfl ?_
    refine zcPi (b2 := 3) rfl rfl (zt_some _ 9 (by decide)) (fun v14 v14h => ?_)
    refine zg 4 (pc' := 156) (ls' := [(3, .int v2), (2, .int v1), (0, .ref 0), (1, .int v)]) (st' := [.int 258, .int ((v >>> (10 &&& 31))), .int v14, .int v1, .ref 0]) (I' := I) rfl ?_
    refine zcPi (b2 := 3) rfl rfl (zt_some _ 258 (by decide)) (fun v15 v15h => ?_)
    refine zcP (b2 := 0) rfl rfl (zl_addPipe_t (D := D + 4) hI v1 v14 v15) (fun x J hP => ?_)
    refine zif rfl rfl (fun h16 => ?_) (fun h16 => ?_)
    · have h16 := zc_lt.1.mp h16
      refine zg 1 (pc' := 170) (ls' := [(3, .int v2), (2, .int v1), (0, .ref 0), (1, .int v)]) (st' := [.int 0]) (I' := J) rfl ?_
      exact ziret rfl rfl rfl (zP1 (zDid_0 hI (by omega) hP))
    · have h16 := zc_lt.2.mp h16
      refine zg 2 (pc' := 170) (ls' := [(3, .int v2), (2, .int v1), (0, .ref 0), (1, .int v)]) (st' := [.int 1]) (I' := J) rfl ?_
      exact ziret rfl rfl rfl (zP1 (zDid_1 (by omega) hP))
  · skip
    refine zg 7 (pc' := 179) (ls' := [(3, .int v2), (2, .int v1), (0, .ref 0), (1, .int v)]) (st' := [.int 120, .int ((v >>> (8 &&& 31))), .int v1, .ref 0]) (I' := I) rfl ?_
    refine zcPi (b2 := 3) rfl rfl (zt_some _ 120 (by decide)) (fun v17 v17h => ?_)
    refine zg 4 (pc' := 189) (ls' := [(3, .int v2), (2, .int v1), (0, .ref 0), (1, .int v)]) (st' := [.int 257, .int ((v >>> (11 &&& 31))), .int v17, .int v1, .ref 0]) (I' := I) rfl ?_
    refine zcPi (b2 := 3) rfl rfl (zt_some _ 257 (by decide)) (fun v18 v18h => ?_)
    refine zcP (b2 := 0) rfl rfl (zl_pour_t (D := D + 4) hI v1 v17 v18) (fun x J hP => ?_)
    refine zif rfl rfl (fun h19 => ?_) (fun h19 => ?_)
    · have h19 := zc_lt.1.mp h19
      refine zg 1 (pc' := 203) (ls' := [(3, .int v2), (2, .int v1), (0, .ref 0), (1, .int v)]) (st' := [.int 0]) (I' := J) rfl ?_
      exact ziret rfl rfl rfl (zP1 (zDid_0 hI (by omega) hP))
    · have h19 := zc_lt.2.mp h19
      refine zg 2 (pc' := 203) (ls' := [(3, .int v2), (2, .int v1), (0, .ref 0), (1, .int v)]) (st' := [.int 1]) (I' := J) rfl ?_
      exact ziret rfl rfl rfl (zP1 (zDid_1 (by omega) hP))
  · skip
    refine zg 7 (pc' := 179) (ls' := [(3, .int v2), (2, .int v1), (0, .ref 0), (1, .int v)]) (st' := [.int 120, .int ((v >>> (8 &&& 31))), .int v1, .ref 0]) (I' := I) rfl ?_
    refine zcPi (b2 := 3) rfl rfl (zt_some _ 120 (by decide)) (fun v20 v20h => ?_)
    refine zg 4 (pc' := 189) (ls' := [(3, .int v2), (2, .int v1), (0, .ref 0), (1, .int v)]) (st' := [.int 257, .int ((v >>> (11 &&& 31))), .int v20, .int v1, .ref 0]) (I' := I) rfl ?_
    refine zcPi (b2 := 3) rfl rfl (zt_some _ 257 (by decide)) (fun v21 v21h => ?_)
    refine zcP (b2 := 0) rfl rfl (zl_pour_t (D := D + 4) hI v1 v20 v21) (fun x J hP => ?_)
    refine zif rfl rfl (fun h22 => ?_) (fun h22 => ?_)
    · have h22 := zc_lt.1.mp h22
      refine zg 1 (pc' := 203) (ls' := [(3, .int v2), (2, .int v1), (0, .ref 0), (1, .int v)]) (st' := [.int 0]) (I' := J) rfl ?_
      exact ziret rfl rfl rfl (zP1 (zDid_0 hI (by omega) hP))
    · have h22 := zc_lt.2.mp h22
      refine zg 2 (pc' := 203) (ls' := [(3, .int v2), (2, .int v1), (0, .ref 0), (1, .int v)]) (st' := [.int 1]) (I' := J) rfl ?_
      exact ziret rfl rfl rfl (zP1 (zDid_1 (by omega) hP))
  · skip
    refine zg 7 (pc' := 179) (ls' := [(3, .int v2), (2, .int v1), (0, .ref 0), (1, .int v)]) (st' := [.int 120, .int ((v >>> (8 &&& 31))), .int v1, .ref 0]) (I' := I) rfl ?_
    refine zcPi (b2 := 3) rfl rfl (zt_some _ 120 (by decide)) (fun v23 v23h => ?_)
    refine zg 4 (pc' := 189) (ls' := [(3, .int v2), (2, .int v1), (0, .ref 0), (1, .int v)]) (st' := [.int 257, .int ((v >>> (11 &&& 31))), .int v23, .int v1, .ref 0]) (I' := I) rfl ?_
    refine zcPi (b2 := 3) rfl rfl (zt_some _ 257 (by decide)) (fun v24 v24h => ?_)
    refine zcP (b2 := 0) rfl rfl (zl_pour_t (D := D + 4) hI v1 v23 v24) (fun x J hP => ?_)
    refine zif rfl rfl (fun h25 => ?_) (fun h25 => ?_)
    · have h25 := zc_lt.1.mp h25
      refine zg 1 (pc' := 203) (ls' := [(3, .int v2), (2, .int v1), (0, .ref 0), (1, .int v)]) (st' := [.int 0]) (I' := J) rfl ?_
      exact ziret rfl rfl rfl (zP1 (zDid_0 hI (by omega) hP))
    · have h25 := zc_lt.2.mp h25
      refine zg 2 (pc' := 203) (ls' := [(3, .int v2), (2, .int v1), (0, .ref 0), (1, .int v)]) (st' := [.int 1]) (I' := J) rfl ?_
      exact ziret rfl rfl rfl (zP1 (zDid_1 (by omega) hP))
  · skip
    refine zg 7 (pc' := 179) (ls' := [(3, .int v2), (2, .int v1), (0, .ref 0), (1, .int v)]) (st' := [.int 120, .int ((v >>> (8 &&& 31))), .int v1, .ref 0]) (I' := I) rfl ?_
    refine zcPi (b2 := 3) rfl rfl (zt_some _ 120 (by decide)) (fun v26 v26h => ?_)
    refine zg 4 (pc' := 189) (ls' := [(3, .int v2), (2, .int v1), (0, .ref 0), (1, .int v)]) (st' := [.int 257, .int ((v >>> (11 &&& 31))), .int v26, .int v1, .ref 0]) (I' := I) rfl ?_
    refine zcPi (b2 := 3) rfl rfl (zt_some _ 257 (by decide)) (fun v27 v27h => ?_)
    refine zcP (b2 := 0) rfl rfl (zl_pour_t (D := D + 4) hI v1 v26 v27) (fun x J hP => ?_)
    refine zif rfl rfl (fun h28 => ?_) (fun h28 => ?_)
    · have h28 := zc_lt.1.mp h28
      refine zg 1 (pc' := 203) (ls' := [(3, .int v2), (2, .int v1), (0, .ref 0), (1, .int v)]) (st' := [.int 0]) (I' := J) rfl ?_
      exact ziret rfl rfl rfl (zP1 (zDid_0 hI (by omega) hP))
    · have h28 := zc_lt.2.mp h28
      refine zg 2 (pc' := 203) (ls' := [(3, .int v2), (2, .int v1), (0, .ref 0), (1, .int v)]) (st' := [.int 1]) (I' := J) rfl ?_
      exact ziret rfl rfl rfl (zP1 (zDid_1 (by omega) hP))
  · skip
    refine zg 7 (pc' := 212) (ls' := [(3, .int v2), (2, .int v1), (0, .ref 0), (1, .int v)]) (st' := [.int 60, .int ((v >>> (8 &&& 31))), .int v1, .ref 0]) (I' := I) rfl ?_
    refine zcPi (b2 := 3) rfl rfl (zt_some _ 60 (by decide)) (fun v29 v29h => ?_)
    refine zcP (b2 := 0) rfl rfl (zl_draw_t (D := D + 4) hI v1 v29) (fun x J hP => ?_)
    refine zif rfl rfl (fun h30 => ?_) (fun h30 => ?_)
    · have h30 := zc_lt.1.mp h30
      refine zg 1 (pc' := 226) (ls' := [(3, .int v2), (2, .int v1), (0, .ref 0), (1, .int v)]) (st' := [.int 0]) (I' := J) rfl ?_
      exact ziret rfl rfl rfl (zP1 (zDid_0 hI (by omega) hP))
    · have h30 := zc_lt.2.mp h30
      refine zg 2 (pc' := 226) (ls' := [(3, .int v2), (2, .int v1), (0, .ref 0), (1, .int v)]) (st' := [.int 1]) (I' := J) rfl ?_
      exact ziret rfl rfl rfl (zP1 (zDid_1 (by omega) hP))
  · skip
    refine zg 7 (pc' := 212) (ls' := [(3, .int v2), (2, .int v1), (0, .ref 0), (1, .int v)]) (st' := [.int 60, .int ((v >>> (8 &&& 31))), .int v1, .ref 0]) (I' := I) rfl ?_
    refine zcPi (b2 := 3) rfl rfl (zt_some _ 60 (by decide)) (fun v31 v31h => ?_)
    refine zcP (b2 := 0) rfl rfl (zl_draw_t (D := D + 4) hI v1 v31) (fun x J hP => ?_)
    refine zif rfl rfl (fun h32 => ?_) (fun h32 => ?_)
    · have h32 := zc_lt.1.mp h32
      refine zg 1 (pc' := 226) (ls' := [(3, .int v2), (2, .int v1), (0, .ref 0), (1, .int v)]) (st' := [.int 0]) (I' := J) rfl ?_
      exact ziret rfl rfl rfl (zP1 (zDid_0 hI (by omega) hP))
    · have h32 := zc_lt.2.mp h32
      refine zg 2 (pc' := 226) (ls' := [(3, .int v2), (2, .int v1), (0, .ref 0), (1, .int v)]) (st' := [.int 1]) (I' := J) rfl ?_
      exact ziret rfl rfl rfl (zP1 (zDid_1 (by omega) hP))
  · skip
    refine zg 7 (pc' := 212) (ls' := [(3, .int v2), (2, .int v1), (0, .ref 0), (1, .int v)]) (st' := [.int 60, .int ((v >>> (8 &&& 31))), .int v1, .ref 0]) (I' := I) rfl ?_
    refine zcPi (b2 := 3) rfl rfl (zt_some _ 60 (by decide)) (fun v33 v33h => ?_)
    refine zcP (b2 := 0) rfl rfl (zl_draw_t (D := D + 4) hI v1 v33) (fun x J hP => ?_)
    refine zif rfl rfl (fun h34 => ?_) (fun h34 => ?_)
    · have h34 := zc_lt.1.mp h34
      refine zg 1 (pc' := 226) (ls' := [(3, .int v2), (2, .int v1), (0, .ref 0), (1, .int v)]) (st' := [.int 0]) (I' := J) rfl ?_
      exact ziret rfl rfl rfl (zP1 (zDid_0 hI (by omega) hP))
    · have h34 := zc_lt.2.mp h34
      refine zg 2 (pc' := 226) (ls' := [(3, .int v2), (2, .int v1), (0, .ref 0), (1, .int v)]) (st' := [.int 1]) (I' := J) rfl ?_
      exact ziret rfl rfl rfl (zP1 (zDid_1 (by omega) hP))
  · skip
    refine zg 7 (pc' := 235) (ls' := [(3, .int v2), (2, .int v1), (0, .ref 0), (1, .int v)]) (st' := [.int 6, .int ((v >>> (9 &&& 31))), .int v2, .ref 0]) (I' := I) rfl ?_
    refine zcPi (b2 := 3) rfl rfl (zt_some _ 6 (by decide)) (fun v35 v35h => ?_)
    refine zcP (b2 := 0) rfl rfl (zl_setValve_t (D := D + 4) hI v2 v35) (fun x J hP => ?_)
    refine zif rfl rfl (fun h36 => ?_) (fun h36 => ?_)
    · have h36 := zc_lt.1.mp h36
      refine zg 1 (pc' := 249) (ls' := [(3, .int v2), (2, .int v1), (0, .ref 0), (1, .int v)]) (st' := [.int 0]) (I' := J) rfl ?_
      exact ziret rfl rfl rfl (zP1 (zDid_0 hI (by omega) hP))
    · have h36 := zc_lt.2.mp h36
      refine zg 2 (pc' := 249) (ls' := [(3, .int v2), (2, .int v1), (0, .ref 0), (1, .int v)]) (st' := [.int 1]) (I' := J) rfl ?_
      exact ziret rfl rfl rfl (zP1 (zDid_1 (by omega) hP))
  · skip
    refine zg 7 (pc' := 235) (ls' := [(3, .int v2), (2, .int v1), (0, .ref 0), (1, .int v)]) (st' := [.int 6, .int ((v >>> (9 &&& 31))), .int v2, .ref 0]) (I' := I) rfl ?_
    refine zcPi (b2 := 3) rfl rfl (zt_some _ 6 (by decide)) (fun v37 v37h => ?_)
    refine zcP (b2 := 0) rfl rfl (zl_setValve_t (D := D + 4) hI v2 v37) (fun x J hP => ?_)
    refine zif rfl rfl (fun h38 => ?_) (fun h38 => ?_)
    · have h38 := zc_lt.1.mp h38
      refine zg 1 (pc' := 249) (ls' := [(3, .int v2), (2, .int v1), (0, .ref 0), (1, .int v)]) (st' := [.int 0]) (I' := J) rfl ?_
      exact ziret rfl rfl rfl (zP1 (zDid_0 hI (by omega) hP))
    · have h38 := zc_lt.2.mp h38
      refine zg 2 (pc' := 249) (ls' := [(3, .int v2), (2, .int v1), (0, .ref 0), (1, .int v)]) (st' := [.int 1]) (I' := J) rfl ?_
      exact ziret rfl rfl rfl (zP1 (zDid_1 (by omega) hP))
  · skip
    refine zg 7 (pc' := 235) (ls' := [(3, .int v2), (2, .int v1), (0, .ref 0), (1, .int v)]) (st' := [.int 6, .int ((v >>> (9 &&& 31))), .int v2, .ref 0]) (I' := I) rfl ?_
    refine zcPi (b2 := 3) rfl rfl (zt_some _ 6 (by decide)) (fun v39 v39h => ?_)
    refine zcP (b2 := 0) rfl rfl (zl_setValve_t (D := D + 4) hI v2 v39) (fun x J hP => ?_)
    refine zif rfl rfl (fun h40 => ?_) (fun h40 => ?_)
    · have h40 := zc_lt.1.mp h40
      refine zg 1 (pc' := 249) (ls' := [(3, .int v2), (2, .int v1), (0, .ref 0), (1, .int v)]) (st' := [.int 0]) (I' := J) rfl ?_
      exact ziret rfl rfl rfl (zP1 (zDid_0 hI (by omega) hP))
    · have h40 := zc_lt.2.mp h40
      refine zg 2 (pc' := 249) (ls' := [(3, .int v2), (2, .int v1), (0, .ref 0), (1, .int v)]) (st' := [.int 1]) (I' := J) rfl ?_
      exact ziret rfl rfl rfl (zP1 (zDid_1 (by omega) hP))
  · skip
    refine zg 7 (pc' := 258) (ls' := [(3, .int v2), (2, .int v1), (0, .ref 0), (1, .int v)]) (st' := [.int 11, .int ((v >>> (9 &&& 31))), .int v2, .ref 0]) (I' := I) rfl ?_
    refine zcPi (b2 := 3) rfl rfl (zt_some _ 11 (by decide)) (fun v41 v41h => ?_)
    refine zcP (b2 := 0) rfl rfl (zl_setLeak_t (D := D + 4) hI v2 v41) (fun x J hP => ?_)
    refine zif rfl rfl (fun h42 => ?_) (fun h42 => ?_)
    · have h42 := zc_lt.1.mp h42
      refine zg 1 (pc' := 272) (ls' := [(3, .int v2), (2, .int v1), (0, .ref 0), (1, .int v)]) (st' := [.int 0]) (I' := J) rfl ?_
      exact ziret rfl rfl rfl (zP1 (zDid_0 hI (by omega) hP))
    · have h42 := zc_lt.2.mp h42
      refine zg 2 (pc' := 272) (ls' := [(3, .int v2), (2, .int v1), (0, .ref 0), (1, .int v)]) (st' := [.int 1]) (I' := J) rfl ?_
      exact ziret rfl rfl rfl (zP1 (zDid_1 (by omega) hP))
  · skip
    refine zg 3 (pc' := 275) (ls' := [(3, .int v2), (2, .int v1), (0, .ref 0), (1, .int v)]) (st' := [.int v2, .ref 0]) (I' := I) rfl ?_
    refine zcP (b2 := 0) rfl rfl (zl_cleanFilter_t (D := D + 4) hI v2) (fun x J hP => ?_)
    refine zif rfl rfl (fun h43 => ?_) (fun h43 => ?_)
    · have h43 := zc_lt.1.mp h43
      refine zg 1 (pc' := 286) (ls' := [(3, .int v2), (2, .int v1), (0, .ref 0), (1, .int v)]) (st' := [.int 0]) (I' := J) rfl ?_
      exact ziret rfl rfl rfl (zP1 (zDid_0 hI (by omega) hP))
    · have h43 := zc_lt.2.mp h43
      refine zg 2 (pc' := 286) (ls' := [(3, .int v2), (2, .int v1), (0, .ref 0), (1, .int v)]) (st' := [.int 1]) (I' := J) rfl ?_
      exact ziret rfl rfl rfl (zP1 (zDid_1 (by omega) hP))
  · skip
    refine zg 7 (pc' := 294) (ls' := [(3, .int v2), (2, .int v1), (0, .ref 0), (1, .int v)]) (st' := [.int (((v >>> (6 &&& 31)) &&& 1)), .ref 0]) (I' := I) rfl ?_
    refine zif rfl rfl (fun h44 => ?_) (fun h44 => ?_)
    · have h44 := zc_ne.1.mp h44
      refine zctp (b1 := 1) (b2 := 0) (p := v1) rfl v1h.1 v1h.2 (zl_runs_p (D := D) (by have : v1.toNatClampNeg = v1.toInt.toNat := rfl; have := v1h.2; have z9 : (9 : Int32).toInt = 9 := rfl; have z13 : (13 : Int32).toInt = 13 := rfl; omega) hI) (fun x J hP => ?_)
      refine zif rfl rfl (fun h45 => ?_) (fun h45 => ?_)
      · have h45 := zc_lt.1.mp h45
        refine zg 1 (pc' := 363) (ls' := [(3, .int v2), (2, .int v1), (0, .ref 0), (1, .int v)]) (st' := [.int 0]) (I' := J) rfl ?_
        exact ziret rfl rfl rfl (zP1 (zDid_3 (by omega) hP))
      · have h45 := zc_lt.2.mp h45
        refine zg 2 (pc' := 363) (ls' := [(3, .int v2), (2, .int v1), (0, .ref 0), (1, .int v)]) (st' := [.int 1]) (I' := J) rfl ?_
        exact ziret rfl rfl rfl (zP1 (zDid_2 (by omega) hP))
    · have h44 := zc_ne.2.mp h44
      refine zctv (b1 := 1) (b2 := 0) (p := v2) rfl v2h.1 v2h.2 (zl_runs_v (D := D) (by have : v2.toNatClampNeg = v2.toInt.toNat := rfl; have := v2h.2; have z9 : (9 : Int32).toInt = 9 := rfl; have z13 : (13 : Int32).toInt = 13 := rfl; omega) hI) (fun x J hP => ?_)
      refine zif rfl rfl (fun h46 => ?_) (fun h46 => ?_)
      · have h46 := zc_lt.1.mp h46
        refine zg 1 (pc' := 363) (ls' := [(3, .int v2), (2, .int v1), (0, .ref 0), (1, .int v)]) (st' := [.int 0]) (I' := J) rfl ?_
        exact ziret rfl rfl rfl (zP1 (zDid_3 (by omega) hP))
      · have h46 := zc_lt.2.mp h46
        refine zg 2 (pc' := 363) (ls' := [(3, .int v2), (2, .int v1), (0, .ref 0), (1, .int v)]) (st' := [.int 1]) (I' := J) rfl ?_
        exact ziret rfl rfl rfl (zP1 (zDid_2 (by omega) hP))
  · skip
    refine zg 7 (pc' := 294) (ls' := [(3, .int v2), (2, .int v1), (0, .ref 0), (1, .int v)]) (st' := [.int (((v >>> (6 &&& 31)) &&& 1)), .ref 0]) (I' := I) rfl ?_
    refine zif rfl rfl (fun h47 => ?_) (fun h47 => ?_)
    · have h47 := zc_ne.1.mp h47
      refine zctp (b1 := 1) (b2 := 0) (p := v1) rfl v1h.1 v1h.2 (zl_runs_p (D := D) (by have : v1.toNatClampNeg = v1.toInt.toNat := rfl; have := v1h.2; have z9 : (9 : Int32).toInt = 9 := rfl; have z13 : (13 : Int32).toInt = 13 := rfl; omega) hI) (fun x J hP => ?_)
      refine zif rfl rfl (fun h48 => ?_) (fun h48 => ?_)
      · have h48 := zc_lt.1.mp h48
        refine zg 1 (pc' := 363) (ls' := [(3, .int v2), (2, .int v1), (0, .ref 0), (1, .int v)]) (st' := [.int 0]) (I' := J) rfl ?_
        exact ziret rfl rfl rfl (zP1 (zDid_3 (by omega) hP))
      · have h48 := zc_lt.2.mp h48
        refine zg 2 (pc' := 363) (ls' := [(3, .int v2), (2, .int v1), (0, .ref 0), (1, .int v)]) (st' := [.int 1]) (I' := J) rfl ?_
        exact ziret rfl rfl rfl (zP1 (zDid_2 (by omega) hP))
    · have h47 := zc_ne.2.mp h47
      refine zctv (b1 := 1) (b2 := 0) (p := v2) rfl v2h.1 v2h.2 (zl_runs_v (D := D) (by have : v2.toNatClampNeg = v2.toInt.toNat := rfl; have := v2h.2; have z9 : (9 : Int32).toInt = 9 := rfl; have z13 : (13 : Int32).toInt = 13 := rfl; omega) hI) (fun x J hP => ?_)
      refine zif rfl rfl (fun h49 => ?_) (fun h49 => ?_)
      · have h49 := zc_lt.1.mp h49
        refine zg 1 (pc' := 363) (ls' := [(3, .int v2), (2, .int v1), (0, .ref 0), (1, .int v)]) (st' := [.int 0]) (I' := J) rfl ?_
        exact ziret rfl rfl rfl (zP1 (zDid_3 (by omega) hP))
      · have h49 := zc_lt.2.mp h49
        refine zg 2 (pc' := 363) (ls' := [(3, .int v2), (2, .int v1), (0, .ref 0), (1, .int v)]) (st' := [.int 1]) (I' := J) rfl ?_
        exact ziret rfl rfl rfl (zP1 (zDid_2 (by omega) hP))
  · skip
    refine zg 6 (pc' := 370) (ls' := [(3, .int v2), (2, .int v1), (0, .ref 0), (1, .int v)]) (st' := [.int 62, .int ((v >>> (4 &&& 31))), .ref 0]) (I' := I) rfl ?_
    refine zcPi (b2 := 3) rfl rfl (zt_some _ 62 (by decide)) (fun v50 v50h => ?_)
    refine zcP (b2 := 0) rfl rfl (zl_advance_t (D := D + 4) hI v50) (fun x J hP => ?_)
    refine zif rfl rfl (fun h51 => ?_) (fun h51 => ?_)
    · have h51 := zc_lt.1.mp h51
      refine zg 1 (pc' := 384) (ls' := [(3, .int v2), (2, .int v1), (0, .ref 0), (1, .int v)]) (st' := [.int 0]) (I' := J) rfl ?_
      exact ziret rfl rfl rfl (zP1 (zDid_0 hI (by omega) hP))
    · have h51 := zc_lt.2.mp h51
      refine zg 2 (pc' := 384) (ls' := [(3, .int v2), (2, .int v1), (0, .ref 0), (1, .int v)]) (st' := [.int 1]) (I' := J) rfl ?_
      exact ziret rfl rfl rfl (zP1 (zDid_1 (by omega) hP))
  · skip
    refine zg 6 (pc' := 370) (ls' := [(3, .int v2), (2, .int v1), (0, .ref 0), (1, .int v)]) (st' := [.int 62, .int ((v >>> (4 &&& 31))), .ref 0]) (I' := I) rfl ?_
    refine zcPi (b2 := 3) rfl rfl (zt_some _ 62 (by decide)) (fun v52 v52h => ?_)
    refine zcP (b2 := 0) rfl rfl (zl_advance_t (D := D + 4) hI v52) (fun x J hP => ?_)
    refine zif rfl rfl (fun h53 => ?_) (fun h53 => ?_)
    · have h53 := zc_lt.1.mp h53
      refine zg 1 (pc' := 384) (ls' := [(3, .int v2), (2, .int v1), (0, .ref 0), (1, .int v)]) (st' := [.int 0]) (I' := J) rfl ?_
      exact ziret rfl rfl rfl (zP1 (zDid_0 hI (by omega) hP))
    · have h53 := zc_lt.2.mp h53
      refine zg 2 (pc' := 384) (ls' := [(3, .int v2), (2, .int v1), (0, .ref 0), (1, .int v)]) (st' := [.int 1]) (I' := J) rfl ?_
      exact ziret rfl rfl rfl (zP1 (zDid_1 (by omega) hP))
  · skip
    refine zg 6 (pc' := 370) (ls' := [(3, .int v2), (2, .int v1), (0, .ref 0), (1, .int v)]) (st' := [.int 62, .int ((v >>> (4 &&& 31))), .ref 0]) (I' := I) rfl ?_
    refine zcPi (b2 := 3) rfl rfl (zt_some _ 62 (by decide)) (fun v54 v54h => ?_)
    refine zcP (b2 := 0) rfl rfl (zl_advance_t (D := D + 4) hI v54) (fun x J hP => ?_)
    refine zif rfl rfl (fun h55 => ?_) (fun h55 => ?_)
    · have h55 := zc_lt.1.mp h55
      refine zg 1 (pc' := 384) (ls' := [(3, .int v2), (2, .int v1), (0, .ref 0), (1, .int v)]) (st' := [.int 0]) (I' := J) rfl ?_
      exact ziret rfl rfl rfl (zP1 (zDid_0 hI (by omega) hP))
    · have h55 := zc_lt.2.mp h55
      refine zg 2 (pc' := 384) (ls' := [(3, .int v2), (2, .int v1), (0, .ref 0), (1, .int v)]) (st' := [.int 1]) (I' := J) rfl ?_
      exact ziret rfl rfl rfl (zP1 (zDid_1 (by omega) hP))
  · skip
    refine zg 6 (pc' := 370) (ls' := [(3, .int v2), (2, .int v1), (0, .ref 0), (1, .int v)]) (st' := [.int 62, .int ((v >>> (4 &&& 31))), .ref 0]) (I' := I) rfl ?_
    refine zcPi (b2 := 3) rfl rfl (zt_some _ 62 (by decide)) (fun v56 v56h => ?_)
    refine zcP (b2 := 0) rfl rfl (zl_advance_t (D := D + 4) hI v56) (fun x J hP => ?_)
    refine zif rfl rfl (fun h57 => ?_) (fun h57 => ?_)
    · have h57 := zc_lt.1.mp h57
      refine zg 1 (pc' := 384) (ls' := [(3, .int v2), (2, .int v1), (0, .ref 0), (1, .int v)]) (st' := [.int 0]) (I' := J) rfl ?_
      exact ziret rfl rfl rfl (zP1 (zDid_0 hI (by omega) hP))
    · have h57 := zc_lt.2.mp h57
      refine zg 2 (pc' := 384) (ls' := [(3, .int v2), (2, .int v1), (0, .ref 0), (1, .int v)]) (st' := [.int 1]) (I' := J) rfl ?_
      exact ziret rfl rfl rfl (zP1 (zDid_1 (by omega) hP))
  · skip
    refine zg 6 (pc' := 370) (ls' := [(3, .int v2), (2, .int v1), (0, .ref 0), (1, .int v)]) (st' := [.int 62, .int ((v >>> (4 &&& 31))), .ref 0]) (I' := I) rfl ?_
    refine zcPi (b2 := 3) rfl rfl (zt_some _ 62 (by decide)) (fun v58 v58h => ?_)
    refine zcP (b2 := 0) rfl rfl (zl_advance_t (D := D + 4) hI v58) (fun x J hP => ?_)
    refine zif rfl rfl (fun h59 => ?_) (fun h59 => ?_)
    · have h59 := zc_lt.1.mp h59
      refine zg 1 (pc' := 384) (ls' := [(3, .int v2), (2, .int v1), (0, .ref 0), (1, .int v)]) (st' := [.int 0]) (I' := J) rfl ?_
      exact ziret rfl rfl rfl (zP1 (zDid_0 hI (by omega) hP))
    · have h59 := zc_lt.2.mp h59
      refine zg 2 (pc' := 384) (ls' := [(3, .int v2), (2, .int v1), (0, .ref 0), (1, .int v)]) (st' := [.int 1]) (I' := J) rfl ?_
      exact ziret rfl rfl rfl (zP1 (zDid_1 (by omega) hP))
