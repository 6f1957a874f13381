/-! CONTRACTS: copying states, the ring of the latest changes -/
theorem zof_all : ((List.range 135).all fun a => (List.range 11).all fun o => !(Nat.beq (zof a) 0) || Nat.beq (zof (o + a)) o) = true := by decide +kernel
theorem zof_add {a o : Nat} (h : zof a = 0) (ho : o ≤ 10) : zof (o + a) = o := by
  have h1 := (zof_lt h (by decide)).1
  have h2 := List.all_eq_true.mp (List.all_eq_true.mp zof_all a (List.mem_range.mpr h1)) o (List.mem_range.mpr (by omega))
  rw [h] at h2
  exact Nat.eq_of_beq_eq_true h2
theorem zof_row {k : Nat} (h : k < 8) : zof (47 + 11 * k) = 0 := by
  rcases (show k = 0 ∨ k = 1 ∨ k = 2 ∨ k = 3 ∨ k = 4 ∨ k = 5 ∨ k = 6 ∨ k = 7 by omega) with rfl | rfl | rfl | rfl | rfl | rfl | rfl | rfl <;> rfl
theorem zkd_st0 {sl a : Nat} (h : zof a = 0) : zkd sl a = some (7, 16) := by
  unfold zkd
  rw [h]
  rfl
theorem zkd_st8 {sl a k : Nat} (h : zof a = 0) (hk : k < 3) : zkd sl (k + 1 + a) = some (100, 8) := by
  unfold zkd
  rw [zof_add h (by omega)]
  rcases (show k = 0 ∨ k = 1 ∨ k = 2 by omega) with rfl | rfl | rfl <;> rfl
theorem zkd_st12 {sl a k : Nat} (h : zof a = 0) (hk : 3 ≤ k ∧ k < 10) : zkd sl (k + 1 + a) = some (100, 12) := by
  unfold zkd
  rw [zof_add h (by omega)]
  rcases (show k = 3 ∨ k = 4 ∨ k = 5 ∨ k = 6 ∨ k = 7 ∨ k = 8 ∨ k = 9 by omega) with rfl | rfl | rfl | rfl | rfl | rfl | rfl <;> rfl
theorem zpd_st {a k : Nat} (h : zof a = 0) (hk : k < 10) : zpd a k = some (k + 1 + a) := by
  unfold zpd
  rw [h]
  have : Nat.ble (k + 1) 10 = true := Nat.ble_eq_true_of_le hk
  simp only [this]
  congr 1
  omega
theorem zgk_st {sl a k : Nat} (h : zof a = 0) (hk : Nat.ble (k + 1) (zN 7) = true) : zgk sl a 7 k = true := by
  unfold zgk
  rw [zkd_st0 h]
  simp only [hk]
  rfl
section ZWR11
variable {sl D dy mi pc : Nat} {ls : zLs} {st : List Value} {I : zM} {b : Nat} {R : Nat → Option Value → zM → Prop}
theorem zac {idx len r1 r3 s d ns nd n : Nat} {x : Int32} (h : zl mi pc = some (.invokestatic idx, len, r1, 9, r3)) (hs : zkd sl s = some (100, ns)) (hd : zkd sl d = some (100, nd)) (hx : decide (0 ≤ x) = true) (hn : x.toNatClampNeg = n) (h1 : n ≤ ns) (h2 : n ≤ nd) (hne : s ≠ d) (hm : zsm st = true) (hk : ∀ j, j < n → ∃ y, I s j = some y)
    (k : zW sl D dy mi (pc + len) ls st (zcpm I s d n) (zRg b R)) : zW sl D dy mi pc ls (.int x :: .int 0 :: .ref d :: .int 0 :: .ref s :: st) I (zRg b R) := by
  refine zW_n h ?_ k
  have hb : Nat.beq s d = false := by
    cases hb : Nat.beq s d with
    | true => exact absurd (Nat.eq_of_beq_eq_true hb) hne
    | false => rfl
  have ha : (List.range n).all (fun j => (I s j).isSome) = true := List.all_eq_true.mpr fun j hj => by
    obtain ⟨y, hy⟩ := hk j (List.mem_range.mp hj)
    rw [hy]
    rfl
  show (match zkd sl s, zkd sl d with
    | some (100, ns), some (100, nd) => match decide (0 ≤ x) && Nat.ble x.toNatClampNeg ns && Nat.ble x.toNatClampNeg nd && !(Nat.beq s d) && zsm st && (List.range x.toNatClampNeg).all (fun j => (I s j).isSome) with
      | true => znx (pc + len) ls st (zcpm I s d x.toNatClampNeg)
      | false => none
    | _, _ => none) = _
  rw [hs, hd, hn]
  simp only [hx, Nat.ble_eq_true_of_le h1, Nat.ble_eq_true_of_le h2, hb, hm, ha]
  rfl
end ZWR11
/-- nothing but a block of a state has changed -/
def zfo (d : Nat) (I J : zM) : Prop := ∀ a k, (a < d ∨ d + 10 < a) → J a k = I a k
/-- so many rows and numbers are copied -/
def zCp (d : Nat) (S : Nat → Nat → Int32) (I J : zM) (i j : Nat) : Prop := (∀ o k, 1 ≤ o → o ≤ i → zcell o k = true → J (o + d) k = some (S o k)) ∧ (∀ k, 10 ≤ k → k < 10 + j → J d k = some (S 0 k)) ∧ zfo d I J
theorem zcell_lt {o k : Nat} (h : zcell o k = true) : o ≤ 10 ∧ (o = 0 → 10 ≤ k ∧ k ≤ 15) ∧ (1 ≤ o → o ≤ 3 → k < 8) ∧ (4 ≤ o → k < 12) := by
  rcases (show o = 0 ∨ o = 1 ∨ o = 2 ∨ o = 3 ∨ 4 ≤ o by omega) with rfl | rfl | rfl | rfl | ho
  · have h : (Nat.ble 10 k && Nat.ble k 15) = true := h
    simp only [Bool.and_eq_true] at h
    have := Nat.le_of_ble_eq_true h.1
    have := Nat.le_of_ble_eq_true h.2
    omega
  · have := Nat.le_of_ble_eq_true (show Nat.ble k 7 = true from h); omega
  · have := Nat.le_of_ble_eq_true (show Nat.ble k 7 = true from h); omega
  · have := Nat.le_of_ble_eq_true (show Nat.ble k 7 = true from h); omega
  · obtain ⟨q, rfl⟩ : ∃ q, o = q + 4 := ⟨o - 4, by omega⟩
    have h : (Nat.ble (q + 4) 10 && Nat.ble k 11) = true := h
    simp only [Bool.and_eq_true] at h
    have := Nat.le_of_ble_eq_true h.1
    have := Nat.le_of_ble_eq_true h.2
    omega
theorem zcell_k8 {o k : Nat} (ho : 1 ≤ o ∧ o ≤ 3) (hk : k < 8) : zcell o k = true := by
  have : Nat.ble k 7 = true := Nat.ble_eq_true_of_le (by omega)
  rcases (show o = 1 ∨ o = 2 ∨ o = 3 by omega) with rfl | rfl | rfl <;> exact this
theorem zcell_k12 {o k : Nat} (ho : 4 ≤ o ∧ o ≤ 10) (hk : k < 12) : zcell o k = true := by
  have h3 : Nat.ble k 11 = true := Nat.ble_eq_true_of_le (by omega)
  have h4 : Nat.ble o 10 = true := Nat.ble_eq_true_of_le ho.2
  unfold zcell
  split <;> first | omega | simp [h3, h4]
section ZCP
variable {s d : Nat} {S : Nat → Nat → Int32} {I J : zM}
theorem zCp_src (hne : s + 10 < d ∨ d + 10 < s) (hB : zSB s S I) {i j : Nat} (hC : zCp d S I J i j) {o k : Nat} (hc : zcell o k = true) : J (o + s) k = some (S o k) := by
  have := (zcell_lt hc).1
  rw [hC.2.2 (o + s) k (by omega)]
  exact hB o k hc
theorem zCp_arr (hne : s + 10 < d ∨ d + 10 < s) (hB : zSB s S I) {i n : Nat} (hC : zCp d S I J i 0) (hi : i < 10) (hn : ∀ k, zcell (i + 1) k = true → k < n) : zCp d S I (zcpm J (i + 1 + s) (i + 1 + d) n) (i + 1) 0 := by
  refine ⟨fun o k h1 h2 hc => ?_, fun k h1 h2 => (by omega), fun a k ha => ?_⟩
  · rw [zcpm_at]
    by_cases e : o = i + 1
    · subst e
      rw [if_pos ⟨rfl, hn k hc⟩]
      exact zCp_src hne hB hC hc
    · rw [if_neg (by omega)]
      exact hC.1 o k h1 (by omega) hc
  · rw [zcpm_at, if_neg (by omega)]
    exact hC.2.2 a k ha
theorem zCp_sc {j : Nat} (hC : zCp d S I J 10 j) : zCp d S I (zup J d (10 + j) (S 0 (10 + j))) 10 (j + 1) := by
  refine ⟨fun o k h1 h2 hc => ?_, fun k h1 h2 => ?_, fun a k ha => ?_⟩
  · rw [zup_at, if_neg (by omega)]
    exact hC.1 o k h1 h2 hc
  · rw [zup_at]
    by_cases e : k = 10 + j
    · subst e; rw [if_pos ⟨rfl, rfl⟩]
    · rw [if_neg (by omega)]
      exact hC.2.1 k h1 (by omega)
  · rw [zup_at, if_neg (by omega)]
    exact hC.2.2 a k ha
theorem zCp_end (hC : zCp d S I J 10 6) : zSB d S J ∧ zfo d I J := by
  refine ⟨fun o k hc => ?_, hC.2.2⟩
  have h := zcell_lt hc
  by_cases e : o = 0
  · subst e
    rw [Nat.zero_add]
    exact hC.2.1 k (h.2.1 rfl).1 (by have := (h.2.1 rfl).2; omega)
  · exact hC.1 o k (by omega) h.1 hc
end ZCP
theorem zt_copy {sl D dy s d : Nat} {S : Nat → Nat → Int32} {I : zM} (hs : zof s = 0) (hd : zof d = 0) (hne : s + 10 < d ∨ d + 10 < s) (hB : zSB s S I) : zW sl D dy 39 0 [(0, .ref d), (1, .ref s)] [] I (zRg 0 (zQj (fun J => zSB d S J ∧ zfo d I J))) := by
  have hC : zCp d S I I 0 0 := ⟨fun o k h1 h2 => (by omega), fun k h1 h2 => (by omega), fun _ _ _ => rfl⟩
  refine zg 1 (pc' := 1) (ls' := [(0, .ref d), (1, .ref s)]) (st' := [.ref s]) (I' := I) rfl ?_
  refine zgr rfl (zgk_st hs rfl) rfl (zpd_st hs (k := 0) (by decide)) ?_
  refine zg 2 (pc' := 6) (ls' := [(0, .ref d), (1, .ref s)]) (st' := [.ref d, .int 0, .ref (0 + 1 + s)]) (I' := I) rfl ?_
  refine zgr rfl (zgk_st hd rfl) rfl (zpd_st hd (k := 0) (by decide)) ?_
  refine zg 2 (pc' := 12) (ls' := [(0, .ref d), (1, .ref s)]) (st' := [.int 8, .int 0, .ref (0 + 1 + d), .int 0, .ref (0 + 1 + s)]) (I' := I) rfl ?_
  refine zac rfl (zkd_st8 hs (k := 0) (by decide)) (zkd_st8 hd (k := 0) (by decide)) rfl (n := 8) rfl (Nat.le_refl _) (Nat.le_refl _) (by omega) rfl (fun j hj => ⟨_, zCp_src hne hB hC (o := 0 + 1) (zcell_k8 (by decide) hj)⟩) ?_
  have hC1 : zCp d S I (zcpm I (0 + 1 + s) (0 + 1 + d) 8) (0 + 1) 0 := zCp_arr hne hB hC (by decide) (fun q hq => (zcell_lt hq).2.2.1 (by decide) (by decide))
  generalize zcpm I (0 + 1 + s) (0 + 1 + d) 8 = J1 at hC1 ⊢
  refine zg 1 (pc' := 16) (ls' := [(0, .ref d), (1, .ref s)]) (st' := [.ref s]) (I' := J1) rfl ?_
  refine zgr rfl (zgk_st hs rfl) rfl (zpd_st hs (k := 1) (by decide)) ?_
  refine zg 2 (pc' := 21) (ls' := [(0, .ref d), (1, .ref s)]) (st' := [.ref d, .int 0, .ref (1 + 1 + s)]) (I' := J1) rfl ?_
  refine zgr rfl (zgk_st hd rfl) rfl (zpd_st hd (k := 1) (by decide)) ?_
  refine zg 2 (pc' := 27) (ls' := [(0, .ref d), (1, .ref s)]) (st' := [.int 8, .int 0, .ref (1 + 1 + d), .int 0, .ref (1 + 1 + s)]) (I' := J1) rfl ?_
  refine zac rfl (zkd_st8 hs (k := 1) (by decide)) (zkd_st8 hd (k := 1) (by decide)) rfl (n := 8) rfl (Nat.le_refl _) (Nat.le_refl _) (by omega) rfl (fun j hj => ⟨_, zCp_src hne hB hC1 (o := 1 + 1) (zcell_k8 (by decide) hj)⟩) ?_
  have hC2 : zCp d S I (zcpm J1 (1 + 1 + s) (1 + 1 + d) 8) (1 + 1) 0 := zCp_arr hne hB hC1 (by decide) (fun q hq => (zcell_lt hq).2.2.1 (by decide) (by decide))
  generalize zcpm J1 (1 + 1 + s) (1 + 1 + d) 8 = J2 at hC2 ⊢
  refine zg 1 (pc' := 31) (ls' := [(0, .ref d), (1, .ref s)]) (st' := [.ref s]) (I' := J2) rfl ?_
  refine zgr rfl (zgk_st hs rfl) rfl (zpd_st hs (k := 2) (by decide)) ?_
  refine zg 2 (pc' := 36) (ls' := [(0, .ref d), (1, .ref s)]) (st' := [.ref d, .int 0, .ref (2 + 1 + s)]) (I' := J2) rfl ?_
  refine zgr rfl (zgk_st hd rfl) rfl (zpd_st hd (k := 2) (by decide)) ?_
  refine zg 2 (pc' := 42) (ls' := [(0, .ref d), (1, .ref s)]) (st' := [.int 8, .int 0, .ref (2 + 1 + d), .int 0, .ref (2 + 1 + s)]) (I' := J2) rfl ?_
  refine zac rfl (zkd_st8 hs (k := 2) (by decide)) (zkd_st8 hd (k := 2) (by decide)) rfl (n := 8) rfl (Nat.le_refl _) (Nat.le_refl _) (by omega) rfl (fun j hj => ⟨_, zCp_src hne hB hC2 (o := 2 + 1) (zcell_k8 (by decide) hj)⟩) ?_
  have hC3 : zCp d S I (zcpm J2 (2 + 1 + s) (2 + 1 + d) 8) (2 + 1) 0 := zCp_arr hne hB hC2 (by decide) (fun q hq => (zcell_lt hq).2.2.1 (by decide) (by decide))
  generalize zcpm J2 (2 + 1 + s) (2 + 1 + d) 8 = J3 at hC3 ⊢
  refine zg 1 (pc' := 46) (ls' := [(0, .ref d), (1, .ref s)]) (st' := [.ref s]) (I' := J3) rfl ?_
  refine zgr rfl (zgk_st hs rfl) rfl (zpd_st hs (k := 3) (by decide)) ?_
  refine zg 2 (pc' := 51) (ls' := [(0, .ref d), (1, .ref s)]) (st' := [.ref d, .int 0, .ref (3 + 1 + s)]) (I' := J3) rfl ?_
  refine zgr rfl (zgk_st hd rfl) rfl (zpd_st hd (k := 3) (by decide)) ?_
  refine zg 2 (pc' := 57) (ls' := [(0, .ref d), (1, .ref s)]) (st' := [.int 12, .int 0, .ref (3 + 1 + d), .int 0, .ref (3 + 1 + s)]) (I' := J3) rfl ?_
  refine zac rfl (zkd_st12 hs (k := 3) (by decide)) (zkd_st12 hd (k := 3) (by decide)) rfl (n := 12) rfl (Nat.le_refl _) (Nat.le_refl _) (by omega) rfl (fun j hj => ⟨_, zCp_src hne hB hC3 (o := 3 + 1) (zcell_k12 (by decide) hj)⟩) ?_
  have hC4 : zCp d S I (zcpm J3 (3 + 1 + s) (3 + 1 + d) 12) (3 + 1) 0 := zCp_arr hne hB hC3 (by decide) (fun q hq => (zcell_lt hq).2.2.2 (by decide))
  generalize zcpm J3 (3 + 1 + s) (3 + 1 + d) 12 = J4 at hC4 ⊢
  refine zg 1 (pc' := 61) (ls' := [(0, .ref d), (1, .ref s)]) (st' := [.ref s]) (I' := J4) rfl ?_
  refine zgr rfl (zgk_st hs rfl) rfl (zpd_st hs (k := 4) (by decide)) ?_
  refine zg 2 (pc' := 66) (ls' := [(0, .ref d), (1, .ref s)]) (st' := [.ref d, .int 0, .ref (4 + 1 + s)]) (I' := J4) rfl ?_
  refine zgr rfl (zgk_st hd rfl) rfl (zpd_st hd (k := 4) (by decide)) ?_
  refine zg 2 (pc' := 72) (ls' := [(0, .ref d), (1, .ref s)]) (st' := [.int 12, .int 0, .ref (4 + 1 + d), .int 0, .ref (4 + 1 + s)]) (I' := J4) rfl ?_
  refine zac rfl (zkd_st12 hs (k := 4) (by decide)) (zkd_st12 hd (k := 4) (by decide)) rfl (n := 12) rfl (Nat.le_refl _) (Nat.le_refl _) (by omega) rfl (fun j hj => ⟨_, zCp_src hne hB hC4 (o := 4 + 1) (zcell_k12 (by decide) hj)⟩) ?_
  have hC5 : zCp d S I (zcpm J4 (4 + 1 + s) (4 + 1 + d) 12) (4 + 1) 0 := zCp_arr hne hB hC4 (by decide) (fun q hq => (zcell_lt hq).2.2.2 (by decide))
  generalize zcpm J4 (4 + 1 + s) (4 + 1 + d) 12 = J5 at hC5 ⊢
  refine zg 1 (pc' := 76) (ls' := [(0, .ref d), (1, .ref s)]) (st' := [.ref s]) (I' := J5) rfl ?_
  refine zgr rfl (zgk_st hs rfl) rfl (zpd_st hs (k := 5) (by decide)) ?_
  refine zg 2 (pc' := 81) (ls' := [(0, .ref d), (1, .ref s)]) (st' := [.ref d, .int 0, .ref (5 + 1 + s)]) (I' := J5) rfl ?_
  refine zgr rfl (zgk_st hd rfl) rfl (zpd_st hd (k := 5) (by decide)) ?_
  refine zg 2 (pc' := 87) (ls' := [(0, .ref d), (1, .ref s)]) (st' := [.int 12, .int 0, .ref (5 + 1 + d), .int 0, .ref (5 + 1 + s)]) (I' := J5) rfl ?_
  refine zac rfl (zkd_st12 hs (k := 5) (by decide)) (zkd_st12 hd (k := 5) (by decide)) rfl (n := 12) rfl (Nat.le_refl _) (Nat.le_refl _) (by omega) rfl (fun j hj => ⟨_, zCp_src hne hB hC5 (o := 5 + 1) (zcell_k12 (by decide) hj)⟩) ?_
  have hC6 : zCp d S I (zcpm J5 (5 + 1 + s) (5 + 1 + d) 12) (5 + 1) 0 := zCp_arr hne hB hC5 (by decide) (fun q hq => (zcell_lt hq).2.2.2 (by decide))
  generalize zcpm J5 (5 + 1 + s) (5 + 1 + d) 12 = J6 at hC6 ⊢
  refine zg 1 (pc' := 91) (ls' := [(0, .ref d), (1, .ref s)]) (st' := [.ref s]) (I' := J6) rfl ?_
  refine zgr rfl (zgk_st hs rfl) rfl (zpd_st hs (k := 6) (by decide)) ?_
  refine zg 2 (pc' := 96) (ls' := [(0, .ref d), (1, .ref s)]) (st' := [.ref d, .int 0, .ref (6 + 1 + s)]) (I' := J6) rfl ?_
  refine zgr rfl (zgk_st hd rfl) rfl (zpd_st hd (k := 6) (by decide)) ?_
  refine zg 2 (pc' := 102) (ls' := [(0, .ref d), (1, .ref s)]) (st' := [.int 12, .int 0, .ref (6 + 1 + d), .int 0, .ref (6 + 1 + s)]) (I' := J6) rfl ?_
  refine zac rfl (zkd_st12 hs (k := 6) (by decide)) (zkd_st12 hd (k := 6) (by decide)) rfl (n := 12) rfl (Nat.le_refl _) (Nat.le_refl _) (by omega) rfl (fun j hj => ⟨_, zCp_src hne hB hC6 (o := 6 + 1) (zcell_k12 (by decide) hj)⟩) ?_
  have hC7 : zCp d S I (zcpm J6 (6 + 1 + s) (6 + 1 + d) 12) (6 + 1) 0 := zCp_arr hne hB hC6 (by decide) (fun q hq => (zcell_lt hq).2.2.2 (by decide))
  generalize zcpm J6 (6 + 1 + s) (6 + 1 + d) 12 = J7 at hC7 ⊢
  refine zg 1 (pc' := 106) (ls' := [(0, .ref d), (1, .ref s)]) (st' := [.ref s]) (I' := J7) rfl ?_
  refine zgr rfl (zgk_st hs rfl) rfl (zpd_st hs (k := 7) (by decide)) ?_
  refine zg 2 (pc' := 111) (ls' := [(0, .ref d), (1, .ref s)]) (st' := [.ref d, .int 0, .ref (7 + 1 + s)]) (I' := J7) rfl ?_
  refine zgr rfl (zgk_st hd rfl) rfl (zpd_st hd (k := 7) (by decide)) ?_
  refine zg 2 (pc' := 117) (ls' := [(0, .ref d), (1, .ref s)]) (st' := [.int 12, .int 0, .ref (7 + 1 + d), .int 0, .ref (7 + 1 + s)]) (I' := J7) rfl ?_
  refine zac rfl (zkd_st12 hs (k := 7) (by decide)) (zkd_st12 hd (k := 7) (by decide)) rfl (n := 12) rfl (Nat.le_refl _) (Nat.le_refl _) (by omega) rfl (fun j hj => ⟨_, zCp_src hne hB hC7 (o := 7 + 1) (zcell_k12 (by decide) hj)⟩) ?_
  have hC8 : zCp d S I (zcpm J7 (7 + 1 + s) (7 + 1 + d) 12) (7 + 1) 0 := zCp_arr hne hB hC7 (by decide) (fun q hq => (zcell_lt hq).2.2.2 (by decide))
  generalize zcpm J7 (7 + 1 + s) (7 + 1 + d) 12 = J8 at hC8 ⊢
  refine zg 1 (pc' := 121) (ls' := [(0, .ref d), (1, .ref s)]) (st' := [.ref s]) (I' := J8) rfl ?_
  refine zgr rfl (zgk_st hs rfl) rfl (zpd_st hs (k := 8) (by decide)) ?_
  refine zg 2 (pc' := 126) (ls' := [(0, .ref d), (1, .ref s)]) (st' := [.ref d, .int 0, .ref (8 + 1 + s)]) (I' := J8) rfl ?_
  refine zgr rfl (zgk_st hd rfl) rfl (zpd_st hd (k := 8) (by decide)) ?_
  refine zg 2 (pc' := 132) (ls' := [(0, .ref d), (1, .ref s)]) (st' := [.int 12, .int 0, .ref (8 + 1 + d), .int 0, .ref (8 + 1 + s)]) (I' := J8) rfl ?_
  refine zac rfl (zkd_st12 hs (k := 8) (by decide)) (zkd_st12 hd (k := 8) (by decide)) rfl (n := 12) rfl (Nat.le_refl _) (Nat.le_refl _) (by omega) rfl (fun j hj => ⟨_, zCp_src hne hB hC8 (o := 8 + 1) (zcell_k12 (by decide) hj)⟩) ?_
  have hC9 : zCp d S I (zcpm J8 (8 + 1 + s) (8 + 1 + d) 12) (8 + 1) 0 := zCp_arr hne hB hC8 (by decide) (fun q hq => (zcell_lt hq).2.2.2 (by decide))
  generalize zcpm J8 (8 + 1 + s) (8 + 1 + d) 12 = J9 at hC9 ⊢
  refine zg 1 (pc' := 136) (ls' := [(0, .ref d), (1, .ref s)]) (st' := [.ref s]) (I' := J9) rfl ?_
  refine zgr rfl (zgk_st hs rfl) rfl (zpd_st hs (k := 9) (by decide)) ?_
  refine zg 2 (pc' := 141) (ls' := [(0, .ref d), (1, .ref s)]) (st' := [.ref d, .int 0, .ref (9 + 1 + s)]) (I' := J9) rfl ?_
  refine zgr rfl (zgk_st hd rfl) rfl (zpd_st hd (k := 9) (by decide)) ?_
  refine zg 2 (pc' := 147) (ls' := [(0, .ref d), (1, .ref s)]) (st' := [.int 12, .int 0, .ref (9 + 1 + d), .int 0, .ref (9 + 1 + s)]) (I' := J9) rfl ?_
  refine zac rfl (zkd_st12 hs (k := 9) (by decide)) (zkd_st12 hd (k := 9) (by decide)) rfl (n := 12) rfl (Nat.le_refl _) (Nat.le_refl _) (by omega) rfl (fun j hj => ⟨_, zCp_src hne hB hC9 (o := 9 + 1) (zcell_k12 (by decide) hj)⟩) ?_
  have hC10 : zCp d S I (zcpm J9 (9 + 1 + s) (9 + 1 + d) 12) (9 + 1) 0 := zCp_arr hne hB hC9 (by decide) (fun q hq => (zcell_lt hq).2.2.2 (by decide))
  generalize zcpm J9 (9 + 1 + s) (9 + 1 + d) 12 = J10 at hC10 ⊢
  refine zg 2 (pc' := 152) (ls' := [(0, .ref d), (1, .ref s)]) (st' := [.ref s, .ref d]) (I' := J10) rfl ?_
  refine zgf rfl (zgk_st hs rfl) rfl (show J10 s 10 = some (S 0 10) from by have := zCp_src hne hB hC10 (o := 0) (k := 10) rfl; rwa [Nat.zero_add] at this) ?_
  refine zpf rfl (zgk_st hd rfl) rfl rfl rfl ?_
  have hD0 : zCp d S I (zup J10 d 10 (S 0 10)) 10 (0 + 1) := zCp_sc hC10
  generalize zup J10 d 10 (S 0 10) = M0 at hD0 ⊢
  refine zg 2 (pc' := 160) (ls' := [(0, .ref d), (1, .ref s)]) (st' := [.ref s, .ref d]) (I' := M0) rfl ?_
  refine zgf rfl (zgk_st hs rfl) rfl (show M0 s 11 = some (S 0 11) from by have := zCp_src hne hB hD0 (o := 0) (k := 11) rfl; rwa [Nat.zero_add] at this) ?_
  refine zpf rfl (zgk_st hd rfl) rfl rfl rfl ?_
  have hD1 : zCp d S I (zup M0 d 11 (S 0 11)) 10 (1 + 1) := zCp_sc hD0
  generalize zup M0 d 11 (S 0 11) = M1 at hD1 ⊢
  refine zg 2 (pc' := 168) (ls' := [(0, .ref d), (1, .ref s)]) (st' := [.ref s, .ref d]) (I' := M1) rfl ?_
  refine zgf rfl (zgk_st hs rfl) rfl (show M1 s 12 = some (S 0 12) from by have := zCp_src hne hB hD1 (o := 0) (k := 12) rfl; rwa [Nat.zero_add] at this) ?_
  refine zpf rfl (zgk_st hd rfl) rfl rfl rfl ?_
  have hD2 : zCp d S I (zup M1 d 12 (S 0 12)) 10 (2 + 1) := zCp_sc hD1
  generalize zup M1 d 12 (S 0 12) = M2 at hD2 ⊢
  refine zg 2 (pc' := 176) (ls' := [(0, .ref d), (1, .ref s)]) (st' := [.ref s, .ref d]) (I' := M2) rfl ?_
  refine zgf rfl (zgk_st hs rfl) rfl (show M2 s 13 = some (S 0 13) from by have := zCp_src hne hB hD2 (o := 0) (k := 13) rfl; rwa [Nat.zero_add] at this) ?_
  refine zpf rfl (zgk_st hd rfl) rfl rfl rfl ?_
  have hD3 : zCp d S I (zup M2 d 13 (S 0 13)) 10 (3 + 1) := zCp_sc hD2
  generalize zup M2 d 13 (S 0 13) = M3 at hD3 ⊢
  refine zg 2 (pc' := 184) (ls' := [(0, .ref d), (1, .ref s)]) (st' := [.ref s, .ref d]) (I' := M3) rfl ?_
  refine zgf rfl (zgk_st hs rfl) rfl (show M3 s 14 = some (S 0 14) from by have := zCp_src hne hB hD3 (o := 0) (k := 14) rfl; rwa [Nat.zero_add] at this) ?_
  refine zpf rfl (zgk_st hd rfl) rfl rfl rfl ?_
  have hD4 : zCp d S I (zup M3 d 14 (S 0 14)) 10 (4 + 1) := zCp_sc hD3
  generalize zup M3 d 14 (S 0 14) = M4 at hD4 ⊢
  refine zg 2 (pc' := 192) (ls' := [(0, .ref d), (1, .ref s)]) (st' := [.ref s, .ref d]) (I' := M4) rfl ?_
  refine zgf rfl (zgk_st hs rfl) rfl (show M4 s 15 = some (S 0 15) from by have := zCp_src hne hB hD4 (o := 0) (k := 15) rfl; rwa [Nat.zero_add] at this) ?_
  refine zpf rfl (zgk_st hd rfl) rfl rfl rfl ?_
  have hD5 : zCp d S I (zup M4 d 15 (S 0 15)) 10 (5 + 1) := zCp_sc hD4
  generalize zup M4 d 15 (S 0 15) = M5 at hD5 ⊢
  exact zret rfl rfl ⟨rfl, rfl, zCp_end hD5⟩
/-- the ring: where the next one goes, how many are kept, the rows -/
def zHi (nx kp : Int32) (R : Nat → Nat → Nat → Int32) (I : zM) : Prop := I 45 1 = some nx ∧ I 45 2 = some kp ∧ (0 ≤ nx.toInt ∧ nx.toInt < 8) ∧ ∀ r, r < 8 → zSB (47 + 11 * r) (R r) I
/-- the latest changes' states, the latest one first -/
def zHl (L : List (Nat → Nat → Int32)) (I : zM) : Prop := ∃ (nx kp : Int32) (R : Nat → Nat → Nat → Int32), zHi nx kp R I ∧ kp.toInt = (L.length : Int) ∧ L.length ≤ 8 ∧ ∀ j (h : j < L.length), R ((nx.toInt.toNat + 7 - j) % 8) = L[j]
/-- nothing but the ring has changed -/
def zfh (I J : zM) : Prop := ∀ a k, (a < 45 ∨ 134 < a) → J a k = I a k
theorem zHl_eq {L : List (Nat → Nat → Int32)} {I J : zM} (h : zHl L I) (he : ∀ a k, 45 ≤ a → a ≤ 134 → J a k = I a k) : zHl L J := by
  obtain ⟨nx, kp, R, ⟨h1, h2, h3, h4⟩, h5⟩ := h
  refine ⟨nx, kp, R, ⟨by rw [he _ _ (by decide) (by decide)]; exact h1, by rw [he _ _ (by decide) (by decide)]; exact h2, h3, fun r hr o k hc => ?_⟩, h5⟩
  have := (zcell_lt hc).1
  rw [he _ _ (by omega) (by omega)]
  exact h4 r hr o k hc
theorem zHl_0 {L : List (Nat → Nat → Int32)} {I : zM} (h : zHl L I) : zHl [] (zup I 45 2 0) := by
  obtain ⟨nx, kp, R, ⟨h1, h2, h3, h4⟩, h5⟩ := h
  refine ⟨nx, 0, R, ⟨h1, rfl, h3, fun r hr o k hc => ?_⟩, rfl, by decide, fun j h => nomatch h⟩
  rw [zup_at, if_neg (by omega)]
  exact h4 r hr o k hc
theorem zHl_len {L : List (Nat → Nat → Int32)} {I : zM} (h : zHl L I) : ∃ kp : Int32, I 45 2 = some kp ∧ kp.toInt = (L.length : Int) ∧ L.length ≤ 8 := by
  obtain ⟨nx, kp, R, ⟨h1, h2, h3, h4⟩, h5, h6, h7⟩ := h
  exact ⟨kp, h2, h5, h6⟩
theorem zcpv {sl dy idx r3 s d : Nat} {ls : zLs} {I : zM} (hd : zof d = 0) : zstep sl dy 20 10 (.invokevirtual idx, 3, 39, 3, r3) ls [.ref s, .ref d] I = some (.inr (.inr (.inr (39, 13, [(0, .ref d), (1, .ref s)], [], 0)))) := by
  have hr : zrecv sl 39 [.ref s, .ref d] = true := by
    show (match zkd sl d with | some (k, _) => Nat.ble (k + 1) 100 && decide (zcn k = zO 39) | none => false) = true
    rw [zkd_st0 hd]
    rfl
  show (match zrecv sl 39 [.ref s, .ref d] with | true => zcall 39 13 2 [.ref s, .ref d] | false => none) = _
  rw [hr]
  rfl
theorem zaal {sl D dy mi pc : Nat} {ls : zLs} {st : List Value} {I : zM} {b : Nat} {R : Nat → Option Value → zM → Prop} {len r1 r2 r3 : Nat} {i : Int32} (h : zl mi pc = some (.aaload, len, r1, r2, r3)) (h0 : 0 ≤ i.toInt) (h1 : i.toInt < 8)
    (k : zW sl D dy mi (pc + len) ls (.ref (47 + 11 * i.toInt.toNat) :: st) I (zRg b R)) : zW sl D dy mi pc ls (.int i :: .ref 46 :: st) I (zRg b R) := by
  refine zW_n h ?_ k
  have e1 : zin i 8 = true := zin_ok h0 h1
  have e2 : zpd 46 i.toNatClampNeg = some (47 + 11 * i.toInt.toNat) := by
    show (match Nat.ble (i.toInt.toNat + 1) 8 with | true => some (47 + 11 * i.toInt.toNat) | false => none) = _
    rw [Nat.ble_eq_true_of_le (by omega)]
  have e3 : zkd sl 46 = some (104, 8) := rfl
  simp only [zstep, e3, e1, e2]
  rfl
theorem zHl_keep {I J : zM} {S : Nat → Nat → Int32} {L : List (Nat → Nat → Int32)} {nx kp nx2 : Int32} {R : Nat → Nat → Nat → Int32} (h3 : 0 ≤ nx.toInt) (h3b : nx.toInt < 8) (h4 : ∀ r, r < 8 → zSB (47 + 11 * r) (R r) I) (h5 : kp.toInt = (L.length : Int)) (h6 : L.length ≤ 8) (h7 : ∀ j (h : j < L.length), R ((nx.toInt.toNat + 7 - j) % 8) = L[j])
    (hB2 : zSB (47 + 11 * nx.toInt.toNat) S J) (hF2 : zfo (47 + 11 * nx.toInt.toNat) I J) (hn : (nx.toInt < 7 ∧ nx2.toInt = nx.toInt + 1) ∨ (nx.toInt = 7 ∧ nx2 = 0)) : zHl ((S :: L).take 8) (zup (zup J 45 1 nx2) 45 2 (if (8 : Int32) < kp + 1 then 8 else kp + 1)) := by
  have z0 := zi0
  have z8 := zi8
  have z1 : (1 : Int32).toInt = 1 := rfl
  have hk := zti_add (x := kp) (y := 1) (by omega) (by omega)
  have hn2 : (nx.toInt < 7 ∧ nx2.toInt = nx.toInt + 1) ∨ (nx.toInt = 7 ∧ nx2.toInt = 0) := by
    rcases hn with h | ⟨h, rfl⟩
    · exact Or.inl h
    · exact Or.inr ⟨h, rfl⟩
  refine ⟨nx2, _, fun r => if r = nx.toInt.toNat then S else R r, ⟨?_, rfl, by omega, fun r hr o k hc => ?_⟩, ?_, by rw [List.length_take]; omega, fun j hj => ?_⟩
  · rw [zup_at, if_neg (by decide), zup_at, if_pos ⟨rfl, rfl⟩]
  · have ho := (zcell_lt hc).1
    rw [zup_at, if_neg (by omega), zup_at, if_neg (by omega)]
    by_cases e : r = nx.toInt.toNat
    · subst e
      simp only [if_true]
      exact hB2 o k hc
    · simp only [e, if_false]
      rw [hF2 _ _ (by omega)]
      exact h4 r hr o k hc
  · rw [List.length_take, List.length_cons]
    rcases zmin_c (kp + 1) 8 with ⟨q, q2⟩ | ⟨q, q2⟩ <;> rw [q] <;> omega
  · rw [List.length_take, List.length_cons] at hj
    rw [List.getElem_take]
    cases j with
    | zero =>
      show (if _ then S else _) = S
      rw [if_pos (by omega)]
    | succ j =>
      rw [List.getElem_cons_succ, ← h7 j (by omega)]
      have e : (nx2.toInt.toNat + 7 - (j + 1)) % 8 = (nx.toInt.toNat + 7 - j) % 8 := by omega
      show (if _ then S else _) = _
      rw [e, if_neg (by omega)]
theorem zt_keep0 {sl D dy : Nat} {I : zM} {s : Nat} {S : Nat → Nat → Int32} {L : List (Nat → Nat → Int32)} (hs : zof s = 0) (hs2 : s < 35) (hB : zSB s S I) (hH : zHl L I) : zW sl (D + 1) dy 20 0 [(0, .ref 45), (1, .ref s)] [] I (zRg 0 (zQj (fun J => zHl ((S :: L).take 8) J ∧ zfh I J))) := by
  obtain ⟨nx, kp, R, ⟨h1, h2, ⟨h3, h3b⟩, h4⟩, h5, h6, h7⟩ := hH
  have z0 := zi0
  have z7 : (7 : Int32).toInt = 7 := rfl
  have z1 : (1 : Int32).toInt = 1 := rfl
  have z8 := zi8
  have hrow := zof_row (k := nx.toInt.toNat) (by omega)
  refine zg 3 (pc' := 5) (ls' := [(0, .ref 45), (1, .ref s)]) (st' := [.ref 45, .ref 46]) (I' := I) rfl ?_
  refine zgf rfl rfl rfl h1 ?_
  refine zaal rfl (by omega) (by omega) ?_
  refine zg 1 (pc' := 10) (ls' := [(0, .ref 45), (1, .ref s)]) (st' := [.ref s, .ref (47 + 11 * nx.toInt.toNat)]) (I' := I) rfl ?_
  refine zcal (b1 := 0) (b2 := 0) rfl (zcpv hrow) (zt_copy (s := s) (d := 47 + 11 * nx.toInt.toNat) hs hrow (by omega) hB) (fun v J q => ?_) (fun c v J q => nomatch q.1)
  obtain ⟨-, rfl, hB2, hF2⟩ := q
  have g1 : J 45 1 = some nx := by rw [hF2 _ _ (by omega)]; exact h1
  have g2 : J 45 2 = some kp := by rw [hF2 _ _ (by omega)]; exact h2
  refine zg 2 (pc' := 15) (ls' := [(0, .ref 45), (1, .ref s)]) (st' := [.ref 45, .ref 45]) (I' := J) rfl ?_
  refine zgf rfl rfl rfl g1 ?_
  refine zg 1 (pc' := 20) (ls' := [(0, .ref 45), (1, .ref s)]) (st' := [.int 7, .int nx, .ref 45]) (I' := J) rfl ?_
  refine zicmp rfl rfl (fun h1 => ?_) (fun h1 => ?_)
  · have h1 := zc_ge.1.mp h1
    refine zg 1 (pc' := 33) (ls' := [(0, .ref 45), (1, .ref s)]) (st' := [.int 0, .ref 45]) (I' := J) rfl ?_
    refine zpf rfl rfl rfl rfl rfl ?_
    refine zg 2 (pc' := 38) (ls' := [(0, .ref 45), (1, .ref s)]) (st' := [.ref 45, .ref 45]) (I' := (zup J 45 1 0)) rfl ?_
    refine zgf rfl rfl rfl (by rw [zup_at, if_neg (by decide)]; exact g2) ?_
    refine zg 4 (pc' := 48) (ls' := [(0, .ref 45), (1, .ref s)]) (st' := [.int ((if 8 < (kp + 1) then 8 else (kp + 1))), .ref 45]) (I' := (zup J 45 1 0)) rfl ?_
    refine zpf rfl rfl rfl rfl rfl ?_
    refine zret rfl rfl ⟨rfl, rfl, zHl_keep (nx2 := 0) h3 h3b h4 h5 h6 h7 hB2 hF2 ?_, fun a k ha => ?_⟩
    · first | exact Or.inl ⟨by omega, by rw [zti_add (by omega) (by omega), z1]⟩ | exact Or.inr ⟨by omega, rfl⟩
    · rw [zup_at, if_neg (by omega), zup_at, if_neg (by omega)]
      exact hF2 a k (by omega)
  · have h1 := zc_ge.2.mp h1
    refine zg 1 (pc' := 24) (ls' := [(0, .ref 45), (1, .ref s)]) (st' := [.ref 45, .ref 45]) (I' := J) rfl ?_
    refine zgf rfl rfl rfl g1 ?_
    refine zg 3 (pc' := 33) (ls' := [(0, .ref 45), (1, .ref s)]) (st' := [.int (nx + 1), .ref 45]) (I' := J) rfl ?_
    refine zpf rfl rfl rfl rfl rfl ?_
    refine zg 2 (pc' := 38) (ls' := [(0, .ref 45), (1, .ref s)]) (st' := [.ref 45, .ref 45]) (I' := (zup J 45 1 (nx + 1))) rfl ?_
    refine zgf rfl rfl rfl (by rw [zup_at, if_neg (by decide)]; exact g2) ?_
    refine zg 4 (pc' := 48) (ls' := [(0, .ref 45), (1, .ref s)]) (st' := [.int ((if 8 < (kp + 1) then 8 else (kp + 1))), .ref 45]) (I' := (zup J 45 1 (nx + 1))) rfl ?_
    refine zpf rfl rfl rfl rfl rfl ?_
    refine zret rfl rfl ⟨rfl, rfl, zHl_keep (nx2 := (nx + 1)) h3 h3b h4 h5 h6 h7 hB2 hF2 ?_, fun a k ha => ?_⟩
    · first | exact Or.inl ⟨by omega, by rw [zti_add (by omega) (by omega), z1]⟩ | exact Or.inr ⟨by omega, rfl⟩
    · rw [zup_at, if_neg (by omega), zup_at, if_neg (by omega)]
      exact hF2 a k (by omega)
theorem zt_back0 {sl D dy : Nat} {I : zM} {S : Nat → Nat → Int32} {L : List (Nat → Nat → Int32)} (hH : zHl (S :: L) I) : zW sl (D + 1) dy 21 0 [(0, .ref 45), (1, .ref 1)] [] I (zRg 0 (zQj (fun J => zSB 1 S J ∧ zHl L J ∧ ∀ a k, (a = 0 ∨ (12 ≤ a ∧ a < 45) ∨ 134 < a) → J a k = I a k))) := by
  obtain ⟨nx, kp, R, ⟨k1, k2, ⟨h3, h3b⟩, h4⟩, h5, h6, h7⟩ := hH
  have z0 := zi0
  have z7 : (7 : Int32).toInt = 7 := rfl
  have z1 : (1 : Int32).toInt = 1 := rfl
  have z8 := zi8
  refine zg 2 (pc' := 2) (ls' := [(0, .ref 45), (1, .ref 1)]) (st' := [.ref 45, .ref 45]) (I' := I) rfl ?_
  refine zgf rfl rfl rfl k1 ?_
  refine zif rfl rfl (fun h1 => ?_) (fun h1 => ?_)
  · have h1 := zc_le.1.mp h1
    refine zg 1 (pc' := 19) (ls' := [(0, .ref 45), (1, .ref 1)]) (st' := [.int 7, .ref 45]) (I' := I) rfl ?_
    refine zpf rfl rfl rfl rfl rfl ?_
    obtain ⟨n2, hn2, hn⟩ : ∃ n2 : Int32, n2 = 7 ∧ ((0 < nx.toInt ∧ n2.toInt = nx.toInt - 1) ∨ (nx.toInt = 0 ∧ n2.toInt = 7)) := ⟨_, rfl, by first | exact Or.inl ⟨by omega, by rw [zti_sub (by omega) (by omega)]; omega⟩ | exact Or.inr ⟨by omega, rfl⟩⟩
    rw [← hn2]
    refine zg 2 (pc' := 24) (ls' := [(0, .ref 45), (1, .ref 1)]) (st' := [.ref 45, .ref 45]) (I' := (zup I 45 1 n2)) rfl ?_
    refine zgf rfl rfl rfl (by rw [zup_at, if_neg (by decide)]; exact k2) ?_
    refine zg 2 (pc' := 29) (ls' := [(0, .ref 45), (1, .ref 1)]) (st' := [.int (kp - 1), .ref 45]) (I' := (zup I 45 1 n2)) rfl ?_
    refine zpf rfl rfl rfl rfl rfl ?_
    refine zg 4 (pc' := 38) (ls' := [(0, .ref 45), (1, .ref 1)]) (st' := [.ref 45, .ref 46, .ref 1]) (I' := (zup (zup I 45 1 n2) 45 2 (kp - 1))) rfl ?_
    refine zgf rfl rfl rfl rfl ?_
    refine zaal rfl (by omega) (by omega) ?_
    have hrow := zof_row (k := n2.toInt.toNat) (by omega)
    have hB1 : zSB (47 + 11 * n2.toInt.toNat) (R n2.toInt.toNat) (zup (zup I 45 1 n2) 45 2 (kp - 1)) := fun o k hc => by
      have ho := (zcell_lt hc).1
      rw [zup_at, if_neg (by omega), zup_at, if_neg (by omega)]
      exact h4 _ (by omega) o k hc
    refine zcj (b1 := 0) (b2 := 0) rfl rfl (zt_copy (s := 47 + 11 * n2.toInt.toNat) (d := 1) hrow rfl (by omega) hB1) (fun J hJ => ?_)
    obtain ⟨hB2, hF2⟩ := hJ
    have e0 : R n2.toInt.toNat = S := by
      have := h7 0 (Nat.zero_lt_succ _)
      rw [show (nx.toInt.toNat + 7 - 0) % 8 = n2.toInt.toNat by omega] at this
      exact this
    rw [e0] at hB2
    rw [List.length_cons] at h5 h6
    have hk := zti_sub (x := kp) (y := 1) (by omega) (by omega)
    refine zret rfl rfl ⟨rfl, rfl, hB2, ⟨n2, kp - 1, R, ⟨?_, ?_, by omega, fun r hr o k hc => ?_⟩, by omega, by omega, fun j hj => ?_⟩, fun a k ha => ?_⟩
    · rw [hF2 _ _ (by omega)]; rfl
    · rw [hF2 _ _ (by omega)]; rfl
    · have ho := (zcell_lt hc).1
      rw [hF2 _ _ (by omega), zup_at, if_neg (by omega), zup_at, if_neg (by omega)]
      exact h4 r hr o k hc
    · have := h7 (j + 1) (by rw [List.length_cons]; omega)
      rw [List.getElem_cons_succ] at this
      rw [← this]
      congr 1
      omega
    · rw [hF2 _ _ (by omega), zup_at, if_neg (by omega), zup_at, if_neg (by omega)]
  · have h1 := zc_le.2.mp h1
    refine zg 1 (pc' := 9) (ls' := [(0, .ref 45), (1, .ref 1)]) (st' := [.ref 45, .ref 45]) (I' := I) rfl ?_
    refine zgf rfl rfl rfl k1 ?_
    refine zg 3 (pc' := 19) (ls' := [(0, .ref 45), (1, .ref 1)]) (st' := [.int (nx - 1), .ref 45]) (I' := I) rfl ?_
    refine zpf rfl rfl rfl rfl rfl ?_
    obtain ⟨n2, hn2, hn⟩ : ∃ n2 : Int32, n2 = (nx - 1) ∧ ((0 < nx.toInt ∧ n2.toInt = nx.toInt - 1) ∨ (nx.toInt = 0 ∧ n2.toInt = 7)) := ⟨_, rfl, by first | exact Or.inl ⟨by omega, by rw [zti_sub (by omega) (by omega)]; omega⟩ | exact Or.inr ⟨by omega, rfl⟩⟩
    rw [← hn2]
    refine zg 2 (pc' := 24) (ls' := [(0, .ref 45), (1, .ref 1)]) (st' := [.ref 45, .ref 45]) (I' := (zup I 45 1 n2)) rfl ?_
    refine zgf rfl rfl rfl (by rw [zup_at, if_neg (by decide)]; exact k2) ?_
    refine zg 2 (pc' := 29) (ls' := [(0, .ref 45), (1, .ref 1)]) (st' := [.int (kp - 1), .ref 45]) (I' := (zup I 45 1 n2)) rfl ?_
    refine zpf rfl rfl rfl rfl rfl ?_
    refine zg 4 (pc' := 38) (ls' := [(0, .ref 45), (1, .ref 1)]) (st' := [.ref 45, .ref 46, .ref 1]) (I' := (zup (zup I 45 1 n2) 45 2 (kp - 1))) rfl ?_
    refine zgf rfl rfl rfl rfl ?_
    refine zaal rfl (by omega) (by omega) ?_
    have hrow := zof_row (k := n2.toInt.toNat) (by omega)
    have hB1 : zSB (47 + 11 * n2.toInt.toNat) (R n2.toInt.toNat) (zup (zup I 45 1 n2) 45 2 (kp - 1)) := fun o k hc => by
      have ho := (zcell_lt hc).1
      rw [zup_at, if_neg (by omega), zup_at, if_neg (by omega)]
      exact h4 _ (by omega) o k hc
    refine zcj (b1 := 0) (b2 := 0) rfl rfl (zt_copy (s := 47 + 11 * n2.toInt.toNat) (d := 1) hrow rfl (by omega) hB1) (fun J hJ => ?_)
    obtain ⟨hB2, hF2⟩ := hJ
    have e0 : R n2.toInt.toNat = S := by
      have := h7 0 (Nat.zero_lt_succ _)
      rw [show (nx.toInt.toNat + 7 - 0) % 8 = n2.toInt.toNat by omega] at this
      exact this
    rw [e0] at hB2
    rw [List.length_cons] at h5 h6
    have hk := zti_sub (x := kp) (y := 1) (by omega) (by omega)
    refine zret rfl rfl ⟨rfl, rfl, hB2, ⟨n2, kp - 1, R, ⟨?_, ?_, by omega, fun r hr o k hc => ?_⟩, by omega, by omega, fun j hj => ?_⟩, fun a k ha => ?_⟩
    · rw [hF2 _ _ (by omega)]; rfl
    · rw [hF2 _ _ (by omega)]; rfl
    · have ho := (zcell_lt hc).1
      rw [hF2 _ _ (by omega), zup_at, if_neg (by omega), zup_at, if_neg (by omega)]
      exact h4 r hr o k hc
    · have := h7 (j + 1) (by rw [List.length_cons]; omega)
      rw [List.getElem_cons_succ] at this
      rw [← this]
      congr 1
      omega
    · rw [hF2 _ _ (by omega), zup_at, if_neg (by omega), zup_at, if_neg (by omega)]
