/-! THE PURE MEMORY AND THE REAL ONE -/
theorem zlen_at {mi pc len r1 r2 r3 : Nat} {i : Instr} (h : zl mi pc = some (i, len, r1, r2, r3)) : zln i = 0 ∨ zln i = len := by
  have hm := zfind_mem h
  rw [List.getD_eq_getElem?_getD] at hm
  cases hg : ztab[mi]? with
  | none => rw [hg] at hm; cases hm
  | some t =>
    rw [hg] at hm
    have h1 := List.all_eq_true.mp (List.all_eq_true.mp zln_all t (List.mem_of_getElem? hg)) _ hm
    simp only [Bool.or_eq_true] at h1
    rcases h1 with h1 | h1
    · exact Or.inl (Nat.eq_of_beq_eq_true h1)
    · exact Or.inr (Nat.eq_of_beq_eq_true h1)
theorem zlen_eq {mi pc len r1 r2 r3 k : Nat} {i : Instr} (h : zl mi pc = some (i, len, r1, r2, r3)) (hk : zln i = k + 1) : len = k + 1 := by
  rcases zlen_at h with h1 | h1
  · rw [hk] at h1; cases h1
  · rw [← h1, hk]
def zmv (ρ : Nat → Nat) : Value → Value
  | .ref a => .ref (ρ a)
  | v => v
abbrev zmS (ρ : Nat → Nat) (st : List Value) : List Value := st.map (zmv ρ)
abbrev zmL (ρ : Nat → Nat) (ls : zLs) : zLs := ls.map (fun q => (q.1, zmv ρ q.2))
theorem zmv_cat (ρ : Nat → Nat) (v : Value) : (zmv ρ v).category = v.category := by cases v <;> rfl
theorem zmS_cat (ρ : Nat → Nat) (st : List Value) : ((zmS ρ st).map fun v => v.category).sum = zcat st := by
  unfold zcat
  induction st with
  | nil => rfl
  | cons v r ih => simp only [List.map_cons, List.sum_cons, zmv_cat] at ih ⊢; rw [ih]
theorem zlk_map (ρ : Nat → Nat) (i : Nat) : ∀ ls : zLs, zlk (zmL ρ ls) i = (zlk ls i).map (zmv ρ)
  | [] => rfl
  | q :: t => by
    show zlk ((q.1, zmv ρ q.2) :: zmL ρ t) i = _
    unfold zlk
    cases hb : Nat.beq q.1 i with
    | true => rfl
    | false => exact zlk_map ρ i t
theorem zfilter_map (ρ : Nat → Nat) (f : Nat × Value → Bool) (hf : ∀ q : Nat × Value, f (q.1, zmv ρ q.2) = f q) (ls : zLs) : (zmL ρ ls).filter f = zmL ρ (ls.filter f) := by
  induction ls with
  | nil => rfl
  | cons q t ih =>
    show ((q.1, zmv ρ q.2) :: zmL ρ t).filter f = _
    simp only [List.filter_cons, hf]
    split
    · rw [ih]; rfl
    · exact ih
theorem zs1_map (ρ : Nat → Nat) (ls : zLs) (i : Nat) (v : Value) : zs1 (zmL ρ ls) i (zmv ρ v) = zmL ρ (zs1 ls i v) := by
  unfold zs1
  rw [zfilter_map ρ _ (fun q => by simp only [zmv_cat])]
  rfl
theorem zs2_map (ρ : Nat → Nat) (ls : zLs) (i : Nat) (v : Value) : zs2 (zmL ρ ls) i (zmv ρ v) = zmL ρ (zs2 ls i v) := by
  unfold zs2
  rw [zfilter_map ρ _ (fun q => by simp only [zmv_cat])]
  rfl
theorem zargs_map (ρ : Nat → Nat) : ∀ (i : Nat) (vs : List Value), lv_args i (zmS ρ vs) = zmL ρ (lv_args i vs)
  | _, [] => rfl
  | i, v :: vs => by
    show lv_args i (zmv ρ v :: zmS ρ vs) = _
    unfold lv_args
    rw [zmv_cat, zargs_map ρ _ vs]
    rfl
/-- a String that is there: its text; F: the cells that stay as they were in K0, P0, I0 -/
def zStr (F : Nat → Prop) (K0 : zKT) (P0 : zPT) (I0 : zIT) (a : Nat) (t : List Int32) : Prop :=
  ∃ (b k1 m k2 : Nat), F a ∧ F b ∧ K0 a = some (k1, m) ∧ (k1 = 120 ∨ k1 = 0) ∧ P0 a 0 = some b ∧ K0 b = some (k2, t.length) ∧ (k2 = 113 ∨ k2 = 103) ∧ I0 a 1 = 0 ∧ ∀ (j : Nat) (x : Int32), t[j]? = some x → I0 b j = x ∧ 0 ≤ x ∧ x < 128
/-- a StringBuilder that is there: its text -/
def zBd (n : Nat) (K : zKT) (P : zPT) (I : zIT) (b va : Nat) (t : List Int32) : Prop :=
  ∃ cap : Nat, K b = some (1, 4) ∧ P b 0 = some va ∧ K va = some (103, cap) ∧ b < va ∧ va < n ∧ t.length ≤ cap ∧ cap ≤ 200 ∧ I b 1 = 0 ∧ I b 3 = Int32.ofNat t.length ∧ (∀ (j : Nat) (x : Int32), t[j]? = some x → I va j = x ∧ 0 ≤ x ∧ x < 128) ∧ ∀ j : Nat, fits .byte (.int (I va j)) = true
/-- nothing else has changed but the builder b, whose bytes lay at va and now lie at va' -/
def zKeep (n : Nat) (K : zKT) (P : zPT) (I : zIT) (L : zLT) (b va va' : Nat) (n' : Nat) (K' : zKT) (P' : zPT) (I' : zIT) (L' : zLT) : Prop :=
  n ≤ n' ∧ (va' = va ∨ n ≤ va') ∧ ∀ q, q < n → q ≠ b → q ≠ va → K' q = K q ∧ P' q = P q ∧ I' q = I q ∧ L' q = L q
/-- what is given: the base, the places' addresses, the cells that stay -/
abbrev zEnv : Type := Nat × (Nat → Nat) × (Nat → Prop) × zKT × zPT × zIT × zLT
def zEB (E : zEnv) : Nat := E.1
def zEr (E : zEnv) : Nat → Nat := E.2.1
def zEF (E : zEnv) : Nat → Prop := E.2.2.1
def zEK (E : zEnv) : zKT := E.2.2.2.1
def zEP (E : zEnv) : zPT := E.2.2.2.2.1
def zEI (E : zEnv) : zIT := E.2.2.2.2.2.1
def zEL (E : zEnv) : zLT := E.2.2.2.2.2.2
def zEok (X : zX) (sl dy : Nat) (E : zEnv) : Prop :=
  (∀ i, i < 150 → zEr E i = zEB E + i) ∧ (zEF E (zEr E 1000) ∧ zEK E (zEr E 1000) = some (110, sl)) ∧ (∀ (i : Nat) (t : List Int32), ztx dy i = some t → zStr (zEF E) (zEK E) (zEP E) (zEI E) (zEr E i) t) ∧
  (∀ k, k < 1000 → zEr E (2000 + k) = X.2.2.2 k) ∧ (∀ a, zEF E a → ¬ (zEB E ≤ a ∧ a < zEB E + 150))
/-- the real memory is as the pure one says -/
def zRel (E : zEnv) (n : Nat) (K : zKT) (P : zPT) (I : zIT) (L : zLT) (M : zM) : Prop :=
  zEB E + 150 ≤ n ∧ (∀ (i : Nat) (sl : Nat) (e : Nat × Nat), i < 150 → zkd sl i = some e → K (zEB E + i) = some e) ∧ (∀ i k q : Nat, zpd i k = some q → P (zEB E + i) k = some (zEB E + q)) ∧
  (∀ (i k : Nat) (x : Int32), i < 148 → M i k = some x → I (zEB E + i) k = x) ∧ (∀ (k : Nat) (x : Int32), M 1000 k = some x → zEI E (zEr E 1000) k = x) ∧
  ∃ (va : Nat) (t : List Int32), zBd n K P I (zEB E + 148) va t ∧ t.length ≤ 63 ∧ zEB E + 149 ≤ va ∧ (∀ x, M 148 0 = some x → Int32.ofNat t.length = x) ∧ (∀ (j : Nat) (x : Int32), j < t.length → M 149 j = some x → t[j]? = some x) ∧
    ∀ a, zEF E a → a < n ∧ a ≠ va ∧ K a = zEK E a ∧ P a = zEP E a ∧ I a = zEI E a ∧ L a = zEL E a
theorem zof_lt {a k : Nat} (h : zof a = k) (hk : k ≠ 99) : a < 135 ∧ 1 ≤ a := by
  unfold zof at h
  split at h
  · rename_i h1
    simp only [Bool.and_eq_true] at h1
    have := Nat.le_of_ble_eq_true h1.1
    have := Nat.le_of_ble_eq_true h1.2
    omega
  · split at h
    · rename_i h1
      simp only [Bool.and_eq_true] at h1
      have := Nat.le_of_ble_eq_true h1.1
      have := Nat.le_of_ble_eq_true h1.2
      omega
    · exact absurd h.symm hk
theorem zkd_lt {sl a : Nat} {e : Nat × Nat} (h : zkd sl a = some e) : a < 148 ∨ (a = 1000 ∧ e = (110, sl)) := by
  by_cases h9 : zof a = 99
  · unfold zkd at h
    rw [h9] at h
    simp only at h
    split at h <;> first | (left; omega) | (right; exact ⟨rfl, (Option.some.inj h).symm⟩) | cases h
  · exact Or.inl (Nat.lt_of_lt_of_le (zof_lt rfl h9).1 (by decide))
theorem zpd_lt {a k q : Nat} (h : zpd a k = some q) : a < 148 ∧ q < 150 := by
  by_cases h9 : zof a = 99
  · unfold zpd at h
    rw [h9] at h
    simp only at h
    split at h
    · split at h <;> first | (cases h; omega) | cases h
    · split at h <;> first | (cases h; omega) | cases h
    · split at h
      · rename_i hb
        have := Nat.le_of_ble_eq_true hb
        cases h; omega
      · cases h
    · split at h
      · cases h; omega
      · split at h
        · rename_i hb
          have := Nat.le_of_ble_eq_true hb
          cases h; omega
        · cases h
    · split at h
      · rename_i hb
        have := Nat.le_of_ble_eq_true hb
        cases h; omega
      · cases h
    · cases h
  · have hz := zof_lt rfl h9
    refine ⟨by omega, ?_⟩
    unfold zpd at h
    split at h
    · split at h
      · rename_i hb
        have := Nat.le_of_ble_eq_true hb
        cases h; omega
      · cases h
    · rename_i h1
      exact absurd h1 h9
    · cases h
section ZR
variable {X : zX} {sl dy : Nat} {E : zEnv} {n : Nat} {K : zKT} {P : zPT} {I : zIT} {L : zLT} {M : zM}
theorem zRel_K {a : Nat} {e : Nat × Nat} (hE : zEok X sl dy E) (hR : zRel E n K P I L M) (h : zkd sl a = some e) : K (zEr E a) = some e := by
  rcases zkd_lt h with h1 | ⟨rfl, rfl⟩
  · rw [hE.1 a (by omega)]
    exact hR.2.1 a sl e (by omega) h
  · obtain ⟨va, t, -, -, -, -, -, hF⟩ := hR.2.2.2.2.2
    rw [(hF _ hE.2.1.1).2.2.1]
    exact hE.2.1.2
theorem zRel_P {a k q : Nat} (hE : zEok X sl dy E) (hR : zRel E n K P I L M) (h : zpd a k = some q) : P (zEr E a) k = some (zEr E q) := by
  have h1 := zpd_lt h
  rw [hE.1 a (by omega), hE.1 q (by omega)]
  exact hR.2.2.1 a k q h
theorem zRel_I {a k : Nat} {x : Int32} {e : Nat × Nat} (hE : zEok X sl dy E) (hR : zRel E n K P I L M) (h : zkd sl a = some e) (hM : M a k = some x) : I (zEr E a) k = x := by
  rcases zkd_lt h with h1 | ⟨rfl, rfl⟩
  · rw [hE.1 a (by omega)]
    exact hR.2.2.2.1 a k x h1 hM
  · obtain ⟨va, t, -, -, -, -, -, hF⟩ := hR.2.2.2.2.2
    rw [(hF _ hE.2.1.1).2.2.2.2.1]
    exact hR.2.2.2.2.1 k x hM
theorem zup_at (M : zM) (a k : Nat) (x : Int32) (b j : Nat) : zup M a k x b j = if b = a ∧ j = k then some x else M b j := by
  unfold zup
  by_cases h1 : b = a
  · subst h1
    rw [show Nat.beq b b = true from Nat.beq_refl b]
    by_cases h2 : j = k
    · subst h2
      rw [show Nat.beq j j = true from Nat.beq_refl j]
      simp
    · have : Nat.beq j k = false := by
        cases hb : Nat.beq j k with
        | true => exact absurd (Nat.eq_of_beq_eq_true hb) h2
        | false => rfl
      rw [this]
      simp [h2]
  · have : Nat.beq b a = false := by
      cases hb : Nat.beq b a with
      | true => exact absurd (Nat.eq_of_beq_eq_true hb) h1
      | false => rfl
    rw [this]
    simp [h1]
theorem zcpm_at (M : zM) (s d k : Nat) (b j : Nat) : zcpm M s d k b j = if b = d ∧ j < k then M s j else M b j := by
  unfold zcpm
  by_cases h1 : b = d
  · subst h1
    rw [show Nat.beq b b = true from Nat.beq_refl b]
    by_cases h2 : j < k
    · rw [Nat.ble_eq_true_of_le h2]
      simp [h2]
    · have : Nat.ble (j + 1) k = false := by
        cases hb : Nat.ble (j + 1) k with
        | true => exact absurd (Nat.le_of_ble_eq_true hb) h2
        | false => rfl
      rw [this]
      simp [h2]
  · have : Nat.beq b d = false := by
      cases hb : Nat.beq b d with
      | true => exact absurd (Nat.eq_of_beq_eq_true hb) h1
      | false => rfl
    rw [this]
    simp [h1]
/-- a cell of an own place is written -/
theorem zRel_up {a k : Nat} {x : Int32} (ha : a < 148) (hEF : ∀ q, zEF E q → ¬ (zEB E ≤ q ∧ q < zEB E + 150)) (hR : zRel E n K P I L M) : zRel E n K P (zuI I (zEB E + a) k x) L (zup M a k x) := by
  obtain ⟨h1, h2, h3, h4, h5, va, t, ⟨cap, b1, b2, b3, b4, b5, b6, b7, b8, b9, b10, b11⟩, h7, h8, h9, h10, h11⟩ := hR
  have ne : ∀ q, q ≠ zEB E + a → zuI I (zEB E + a) k x q = I q := fun q hq => if_neg hq
  refine ⟨h1, h2, h3, fun i j y hi hy => ?_, fun j y hy => ?_, va, t, ⟨cap, b1, b2, b3, b4, b5, b6, b7, ?_, ?_, fun j y hj => ?_, fun j => ?_⟩, h7, h8, fun y hy => ?_, fun j y hj hy => ?_, fun q hq => ?_⟩
  · rw [zup_at] at hy
    by_cases hia : i = a
    · subst hia
      show (if zEB E + i = zEB E + i then upd (I (zEB E + i)) k x else I (zEB E + i)) j = y
      rw [if_pos rfl]
      unfold upd
      by_cases hjk : j = k
      · subst hjk
        simp at hy ⊢
        exact hy
      · simp [hjk] at hy ⊢
        exact h4 i j y hi hy
    · rw [ne _ (by omega)]
      rw [if_neg (by simp [hia])] at hy
      exact h4 i j y hi hy
  · rw [zup_at, if_neg (by simp; omega)] at hy
    exact h5 j y hy
  · rw [ne _ (by omega)]; exact b8
  · rw [ne _ (by omega)]; exact b9
  · rw [ne _ (by omega)]; exact b10 j y hj
  · rw [ne _ (by omega)]; exact b11 j
  · rw [zup_at, if_neg (by simp; omega)] at hy
    exact h9 y hy
  · rw [zup_at, if_neg (by simp; omega)] at hy
    exact h10 j y hj hy
  · obtain ⟨g1, g2, g3, g4, g5, g6⟩ := h11 q hq
    refine ⟨g1, g2, g3, g4, ?_, g6⟩
    rw [ne q (fun e => hEF q hq (by omega))]
    exact g5
/-- an own row of ints is copied to another own one -/
theorem zRel_cp {a b k : Nat} (ha : a < 148) (hb : b < 148) (hab : a ≠ b) (hEF : ∀ q, zEF E q → ¬ (zEB E ≤ q ∧ q < zEB E + 150)) (hR : zRel E n K P I L M) : zRel E n K P (zuC I (zEB E + a) (zEB E + b) k) L (zcpm M a b k) := by
  obtain ⟨h1, h2, h3, h4, h5, va, t, ⟨cap, b1, b2, b3, b4, b5, b6, b7, b8, b9, b10, b11⟩, h7, h8, h9, h10, h11⟩ := hR
  have ne : ∀ q, q ≠ zEB E + b → zuC I (zEB E + a) (zEB E + b) k q = I q := fun q hq => if_neg hq
  refine ⟨h1, h2, h3, fun i j y hi hy => ?_, fun j y hy => ?_, va, t, ⟨cap, b1, b2, b3, b4, b5, b6, b7, ?_, ?_, fun j y hj => ?_, fun j => ?_⟩, h7, h8, fun y hy => ?_, fun j y hj hy => ?_, fun q hq => ?_⟩
  · rw [zcpm_at] at hy
    by_cases hib : i = b
    · subst hib
      show (if zEB E + i = zEB E + i then va_cpy (I (zEB E + a)) (I (zEB E + i)) 0 0 k else I (zEB E + i)) j = y
      rw [if_pos rfl]
      unfold va_cpy
      by_cases hjk : j < k
      · rw [if_pos ⟨rfl, hjk⟩] at hy
        rw [if_pos ⟨Nat.zero_le _, by omega⟩]
        rw [show 0 + (j - 0) = j by omega]
        exact h4 a j y ha hy
      · rw [if_neg (by simp [hjk])] at hy
        rw [if_neg (by omega)]
        exact h4 i j y hi hy
    · rw [ne _ (by omega)]
      rw [if_neg (by simp [hib])] at hy
      exact h4 i j y hi hy
  · rw [zcpm_at, if_neg (by omega)] at hy
    exact h5 j y hy
  · rw [ne _ (by omega)]; exact b8
  · rw [ne _ (by omega)]; exact b9
  · rw [ne _ (by omega)]; exact b10 j y hj
  · rw [ne _ (by omega)]; exact b11 j
  · rw [zcpm_at, if_neg (by omega)] at hy
    exact h9 y hy
  · rw [zcpm_at, if_neg (by omega)] at hy
    exact h10 j y hj hy
  · obtain ⟨g1, g2, g3, g4, g5, g6⟩ := h11 q hq
    refine ⟨g1, g2, g3, g4, ?_, g6⟩
    rw [ne q (fun e => hEF q hq (by omega))]
    exact g5
theorem zRel_n {n' : Nat} (h : n ≤ n') (hR : zRel E n K P I L M) : zRel E n' K P I L M := by
  obtain ⟨h1, h2, h3, h4, h5, va, t, ⟨cap, b1, b2, b3, b4, b5, b6⟩, h7, h8, h9, h10, h11⟩ := hR
  exact ⟨by omega, h2, h3, h4, h5, va, t, ⟨cap, b1, b2, b3, b4, by omega, b6⟩, h7, h8, h9, h10, fun a ha => ⟨by have := (h11 a ha).1; omega, (h11 a ha).2⟩⟩
end ZR
theorem zV_bud {l : Launch} {X : zX} {d bc bs bc' bs' mi pc : Nat} {ls : List (Nat × Value)} {st : List Value} {n : Nat} {K : zKT} {P : zPT} {I : zIT} {L : zLT} {Post : zPost} (h1 : bc ≤ bc') (h2 : bs ≤ bs') (k : zV l X d bc bs mi pc ls st n K P I L Post) : zV l X d bc' bs' mi pc ls st n K P I L Post :=
  fun p e R s m args below meth c H locs cells slots mc ms lsr S D hl => k p e R s m args below meth c H locs cells slots mc ms lsr S ⟨by have := D.1; omega, by have := D.2.1; omega, D.2.2⟩ hl
