/-! A NEW FilterWaterworks -/
/-- every reference is written -/
def zRw : List (Nat × Nat) := [(0, 8), (148, 1), (144, 3), (135, 9), (46, 8), (124, 10), (113, 10), (102, 10), (91, 10), (80, 10), (69, 10), (58, 10), (47, 10), (45, 1), (34, 10), (23, 10), (12, 10), (1, 10)]
theorem zpd_k {a k q : Nat} (h : zpd a k = some q) : k < 10 := by
  unfold zpd at h
  split at h
  · split at h
    · rename_i hb; have := Nat.le_of_ble_eq_true hb; omega
    · cases h
  · split at h
    · split at h <;> first | omega | cases h
    · split at h <;> first | omega | cases h
    · split at h
      · rename_i hb; have := Nat.le_of_ble_eq_true hb; omega
      · cases h
    · split at h
      · omega
      · split at h
        · rename_i hb; have := Nat.le_of_ble_eq_true hb; omega
        · cases h
    · split at h
      · rename_i hb; have := Nat.le_of_ble_eq_true hb; omega
      · cases h
    · cases h
  · cases h
theorem zRw_all : ∀ i, i < 149 → ∀ k, k < 10 → zGp i k = none ∨ ∃ e ∈ zRw, e.1 = i ∧ zrk i k < e.2 := by decide +kernel
theorem zGp_all {i k q : Nat} (h : zGp i k = some q) : ∃ c, (i, c) ∈ zRw ∧ zrk i k < c := by
  have hik : i < 149 ∧ k < 10 := by
    unfold zGp at h
    cases hb : Nat.beq i 148 with
    | true =>
      rw [hb] at h
      have := Nat.eq_of_beq_eq_true hb
      cases k with
      | zero => omega
      | succ k => cases h
    | false =>
      rw [hb] at h
      have := (zpd_lt h).1
      have := zpd_k h
      omega
  rcases zRw_all i hik.1 k hik.2 with h1 | ⟨e, h1, h2, h3⟩
  · rw [h1] at h; cases h
  · refine ⟨e.2, ?_, h3⟩
    rw [← h2]; exact h1
section ZCON2
variable {l : Launch} {X : zX} {d n : Nat} {K : zKT} {P : zPT} {I : zIT} {L : zLT} {B : Nat} {K0 : zKT} {P0 : zPT} {I0 : zIT} {L0 : zLT}
/-- what a new object leaves -/
def zNw (B : Nat) (K0 : zKT) (P0 : zPT) (I0 : zIT) (L0 : zLT) (n : Nat) (K : zKT) (P : zPT) (I : zIT) (L : zLT) : Prop :=
  n = B + 150 ∧ (∀ q, q < B → K q = K0 q ∧ P q = P0 q ∧ I q = I0 q ∧ L q = L0 q) ∧ (∀ i, i < 150 → K (B + i) = zGk i) ∧ (∀ i k, i < 150 → I (B + i) k = if i = 0 ∧ (k = 9 ∨ k = 10) then -1 else 0) ∧ ∀ i k q, zGp i k = some q → P (B + i) k = some (B + q)
theorem zc_X4 (hg : zGa B K0 P0 I0 L0 1 [] n K P I L) : zC l X (d + 3) 149 3997 65 [.ref (B + 0)] n K P I L (fun r n K P I L => r = .inl none ∧ zNw B K0 P0 I0 L0 n K P I L) := by
  unfold zC
  refine zV_ls (ls' := [(0, .ref (B + 0))]) rfl ?_
  refine zV_aload_n rfl rfl ?_
  refine zV_obj rfl (by decide) ?_
  have h0 := zGa_add hg (show 0 < 1 by decide)
  refine zV_aload_n rfl rfl ?_
  refine zV_bud (bc := 148 + 1) (bs := 3981 + zN 7) (by decide) (by decide) (zV_new rfl (by decide) ?_)
  have k0 := zGa_new h0 (e := (7, 16)) rfl
  have e0 : n = B + 1 := h0.1
  rw [e0] at k0 ⊢
  refine zV_dup rfl rfl ?_
  have q0 : ∀ e ∈ [(0, 0)], e.1 ≠ 1 := by decide
  refine zV_bud (bc := 10 + 138) (bs := 108 + 3873) (by decide) (by decide) (zV_cin (av := []) (a := B + 1) (rest := [.ref (B + 1), .ref (B + 0)]) (d := d + 2) (bc1 := 10) (bc2 := 138) (bs1 := 108) (bs2 := 3873) rfl rfl (Nat.le_of_ble_eq_true rfl) (Nat.le_of_ble_eq_true rfl) (zc_X3 (d := d + 1) (by decide +kernel) rfl k0 q0) ?_ (by rintro x n K P I L - ⟨hv, -⟩; cases hv))
  rintro v n K P I L ⟨hv, g⟩
  cases hv
  have s0 : zGa B K0 P0 I0 L0 12 ([(0, 0), (1, 10)]) n K P I L := zGa_sub (by decide) g
  refine zV_putR rfl (zGa_K s0 (show 0 < 12 by decide) rfl) (by decide) rfl rfl rfl ?_
  have t0 := zGa_put (k := 0) (q := 1) s0 (by decide) rfl rfl
  refine zV_aload_n rfl rfl ?_
  refine zV_bud (bc := 137 + 1) (bs := 3857 + zN 7) (by decide) (by decide) (zV_new rfl (by decide) ?_)
  have k1 := zGa_new t0 (e := (7, 16)) rfl
  have e1 := t0.1
  rw [e1] at k1 ⊢
  refine zV_dup rfl rfl ?_
  have q1 : ∀ e ∈ [(0, 1), (1, 10)], e.1 ≠ 12 := by decide
  refine zV_bud (bc := 10 + 127) (bs := 108 + 3749) (by decide) (by decide) (zV_cin (av := []) (a := B + 12) (rest := [.ref (B + 12), .ref (B + 0)]) (d := d + 2) (bc1 := 10) (bc2 := 127) (bs1 := 108) (bs2 := 3749) rfl rfl (Nat.le_of_ble_eq_true rfl) (Nat.le_of_ble_eq_true rfl) (zc_X3 (d := d + 1) (by decide +kernel) rfl k1 q1) ?_ (by rintro x n K P I L - ⟨hv, -⟩; cases hv))
  rintro v n K P I L ⟨hv, g⟩
  cases hv
  have s1 : zGa B K0 P0 I0 L0 23 ([(0, 1), (12, 10), (1, 10)]) n K P I L := zGa_sub (by decide) g
  refine zV_putR rfl (zGa_K s1 (show 0 < 23 by decide) rfl) (by decide) rfl rfl rfl ?_
  have t1 := zGa_put (k := 1) (q := 12) s1 (by decide) rfl rfl
  refine zV_aload_n rfl rfl ?_
  refine zV_bud (bc := 126 + 1) (bs := 3733 + zN 7) (by decide) (by decide) (zV_new rfl (by decide) ?_)
  have k2 := zGa_new t1 (e := (7, 16)) rfl
  have e2 := t1.1
  rw [e2] at k2 ⊢
  refine zV_dup rfl rfl ?_
  have q2 : ∀ e ∈ [(0, 2), (12, 10), (1, 10)], e.1 ≠ 23 := by decide
  refine zV_bud (bc := 10 + 116) (bs := 108 + 3625) (by decide) (by decide) (zV_cin (av := []) (a := B + 23) (rest := [.ref (B + 23), .ref (B + 0)]) (d := d + 2) (bc1 := 10) (bc2 := 116) (bs1 := 108) (bs2 := 3625) rfl rfl (Nat.le_of_ble_eq_true rfl) (Nat.le_of_ble_eq_true rfl) (zc_X3 (d := d + 1) (by decide +kernel) rfl k2 q2) ?_ (by rintro x n K P I L - ⟨hv, -⟩; cases hv))
  rintro v n K P I L ⟨hv, g⟩
  cases hv
  have s2 : zGa B K0 P0 I0 L0 34 ([(0, 2), (23, 10), (12, 10), (1, 10)]) n K P I L := zGa_sub (by decide) g
  refine zV_putR rfl (zGa_K s2 (show 0 < 34 by decide) rfl) (by decide) rfl rfl rfl ?_
  have t2 := zGa_put (k := 2) (q := 23) s2 (by decide) rfl rfl
  refine zV_aload_n rfl rfl ?_
  refine zV_bud (bc := 115 + 1) (bs := 3609 + zN 7) (by decide) (by decide) (zV_new rfl (by decide) ?_)
  have k3 := zGa_new t2 (e := (7, 16)) rfl
  have e3 := t2.1
  rw [e3] at k3 ⊢
  refine zV_dup rfl rfl ?_
  have q3 : ∀ e ∈ [(0, 3), (23, 10), (12, 10), (1, 10)], e.1 ≠ 34 := by decide
  refine zV_bud (bc := 10 + 105) (bs := 108 + 3501) (by decide) (by decide) (zV_cin (av := []) (a := B + 34) (rest := [.ref (B + 34), .ref (B + 0)]) (d := d + 2) (bc1 := 10) (bc2 := 105) (bs1 := 108) (bs2 := 3501) rfl rfl (Nat.le_of_ble_eq_true rfl) (Nat.le_of_ble_eq_true rfl) (zc_X3 (d := d + 1) (by decide +kernel) rfl k3 q3) ?_ (by rintro x n K P I L - ⟨hv, -⟩; cases hv))
  rintro v n K P I L ⟨hv, g⟩
  cases hv
  have s3 : zGa B K0 P0 I0 L0 45 ([(0, 3), (34, 10), (23, 10), (12, 10), (1, 10)]) n K P I L := zGa_sub (by decide) g
  refine zV_putR rfl (zGa_K s3 (show 0 < 45 by decide) rfl) (by decide) rfl rfl rfl ?_
  have t3 := zGa_put (k := 3) (q := 34) s3 (by decide) rfl rfl
  refine zV_aload_n rfl rfl ?_
  refine zV_bud (bc := 104 + 1) (bs := 3498 + zN 5) (by decide) (by decide) (zV_new rfl (by decide) ?_)
  have k4 := zGa_new t3 (e := (5, 3)) rfl
  have e4 := t3.1
  rw [e4] at k4 ⊢
  refine zV_dup rfl rfl ?_
  have q4 : ∀ e ∈ [(0, 4), (34, 10), (23, 10), (12, 10), (1, 10)], e.1 ≠ 45 := by decide
  refine zV_bud (bc := 89 + 15) (bs := 1000 + 2498) (by decide) (by decide) (zV_ci (av := []) (a := B + 45) (rest := [.ref (B + 45), .ref (B + 0)]) (d := d + 2) (bc1 := 89) (bc2 := 15) (bs1 := 1000) (bs2 := 2498) rfl rfl (Nat.le_of_ble_eq_true rfl) (Nat.le_of_ble_eq_true rfl) (zc_X1 (d := d) k4 q4) ?_ (by rintro x n K P I L - ⟨hv, -⟩; cases hv))
  rintro v n K P I L ⟨hv, g⟩
  cases hv
  have s4 : zGa B K0 P0 I0 L0 135 ([(0, 4), (46, 8), (124, 10), (113, 10), (102, 10), (91, 10), (80, 10), (69, 10), (58, 10), (47, 10), (45, 1), (34, 10), (23, 10), (12, 10), (1, 10)]) n K P I L := zGa_sub (by decide) g
  refine zV_putR rfl (zGa_K s4 (show 0 < 135 by decide) rfl) (by decide) rfl rfl rfl ?_
  have t4 := zGa_put (k := 4) (q := 45) s4 (by decide) rfl rfl
  refine zV_aload_n rfl rfl ?_
  refine zV_bud (bc := 14 + 1) (bs := 2486 + zN 4) (by decide) (by decide) (zV_new rfl (by decide) ?_)
  have k5 := zGa_new t4 (e := (4, 12)) rfl
  have e5 := t4.1
  rw [e5] at k5 ⊢
  refine zV_dup rfl rfl ?_
  have q5 : ∀ e ∈ [(0, 5), (46, 8), (124, 10), (113, 10), (102, 10), (91, 10), (80, 10), (69, 10), (58, 10), (47, 10), (45, 1), (34, 10), (23, 10), (12, 10), (1, 10)], e.1 ≠ 135 := by decide
  refine zV_aload_n rfl rfl ?_
  refine zV_getR rfl (zGa_K k5 (show 0 < 136 by decide) rfl) (by decide) rfl (zGa_get k5 (o := 0) (c := 5) (k := 0) (q := 1) List.mem_cons_self (by decide) rfl) ?_
  refine zV_bud (bc := 8 + 6) (bs := 2352 + 134) (by decide) (by decide) (zV_ci (av := [.ref (B + 1)]) (a := B + 135) (rest := [.ref (B + 135), .ref (B + 0)]) (d := d + 2) (bc1 := 8) (bc2 := 6) (bs1 := 2352) (bs2 := 134) rfl rfl (Nat.le_of_ble_eq_true rfl) (Nat.le_of_ble_eq_true rfl) (zc_X0 (d := d + 1) k5 q5) ?_ (by rintro x n K P I L - ⟨hv, -⟩; cases hv))
  rintro v n K P I L ⟨hv, g⟩
  cases hv
  have s5 : zGa B K0 P0 I0 L0 144 ([(0, 5), (135, 9), (46, 8), (124, 10), (113, 10), (102, 10), (91, 10), (80, 10), (69, 10), (58, 10), (47, 10), (45, 1), (34, 10), (23, 10), (12, 10), (1, 10)]) n K P I L := zGa_sub (by decide) g
  refine zV_putR rfl (zGa_K s5 (show 0 < 144 by decide) rfl) (by decide) rfl rfl rfl ?_
  have t5 := zGa_put (k := 5) (q := 135) s5 (by decide) rfl rfl
  refine zV_aload_n rfl rfl ?_
  refine zV_bud (bc := 5 + 1) (bs := 128 + zN 6) (by decide) (by decide) (zV_new rfl (by decide) ?_)
  have k6 := zGa_new t5 (e := (6, 6)) rfl
  have e6 := t5.1
  rw [e6] at k6 ⊢
  refine zV_dup rfl rfl ?_
  have q6 : ∀ e ∈ [(0, 6), (135, 9), (46, 8), (124, 10), (113, 10), (102, 10), (91, 10), (80, 10), (69, 10), (58, 10), (47, 10), (45, 1), (34, 10), (23, 10), (12, 10), (1, 10)], e.1 ≠ 144 := by decide
  refine zV_bud (bc := 3 + 2) (bs := 108 + 20) (by decide) (by decide) (zV_cin (av := []) (a := B + 144) (rest := [.ref (B + 144), .ref (B + 0)]) (d := d + 2) (bc1 := 3) (bc2 := 2) (bs1 := 108) (bs2 := 20) rfl rfl (Nat.le_of_ble_eq_true rfl) (Nat.le_of_ble_eq_true rfl) (zc_X2 (d := d + 1) k6 q6) ?_ (by rintro x n K P I L - ⟨hv, -⟩; cases hv))
  rintro v n K P I L ⟨hv, g⟩
  cases hv
  have s6 : zGa B K0 P0 I0 L0 148 ([(0, 6), (144, 3), (135, 9), (46, 8), (124, 10), (113, 10), (102, 10), (91, 10), (80, 10), (69, 10), (58, 10), (47, 10), (45, 1), (34, 10), (23, 10), (12, 10), (1, 10)]) n K P I L := zGa_sub (by decide) g
  refine zV_putR rfl (zGa_K s6 (show 0 < 148 by decide) rfl) (by decide) rfl rfl rfl ?_
  have t6 := zGa_put (k := 6) (q := 144) s6 (by decide) rfl rfl
  refine zV_aload_n rfl rfl ?_
  refine zV_bud (bc := 1 + 1) (bs := 16 + zN 1) (by decide) (by decide) (zV_new rfl (by decide) ?_)
  have k7 := zGa_new t6 (e := (1, 4)) rfl
  have e7 := t6.1
  rw [e7] at k7 ⊢
  refine zV_dup rfl rfl ?_
  have q7 : ∀ e ∈ [(0, 7), (144, 3), (135, 9), (46, 8), (124, 10), (113, 10), (102, 10), (91, 10), (80, 10), (69, 10), (58, 10), (47, 10), (45, 1), (34, 10), (23, 10), (12, 10), (1, 10)], e.1 ≠ 148 := by decide
  refine zV_bud (bc := 1 + 0) (bs := 16 + 0) (by decide) (by decide) (zV_ci (av := []) (a := B + 148) (rest := [.ref (B + 148), .ref (B + 0)]) (d := d + 2) (bc1 := 1) (bc2 := 0) (bs1 := 16) (bs2 := 0) rfl rfl (Nat.le_of_ble_eq_true rfl) (Nat.le_of_ble_eq_true rfl) (zc_J4 (d := d) k7 q7) ?_ (by rintro x n K P I L - ⟨hv, -⟩; cases hv))
  rintro v n K P I L ⟨hv, g⟩
  cases hv
  have s7 : zGa B K0 P0 I0 L0 150 ([(0, 7), (148, 1), (144, 3), (135, 9), (46, 8), (124, 10), (113, 10), (102, 10), (91, 10), (80, 10), (69, 10), (58, 10), (47, 10), (45, 1), (34, 10), (23, 10), (12, 10), (1, 10)]) n K P I L := zGa_sub (by decide) g
  refine zV_putR rfl (zGa_K s7 (show 0 < 150 by decide) rfl) (by decide) rfl rfl rfl ?_
  have t7 := zGa_put (k := 7) (q := 148) s7 (by decide) rfl rfl
  refine zV_aload_n rfl rfl ?_
  refine zV_iconst rfl rfl ?_
  refine zV_putI rfl (zGa_K t7 (show 0 < 150 by decide) rfl) (by decide) rfl rfl rfl ?_
  refine zV_aload_n rfl rfl ?_
  refine zV_iconst rfl rfl ?_
  refine zV_putI rfl (zGa_K t7 (show 0 < 150 by decide) rfl) (by decide) rfl rfl rfl ?_
  obtain ⟨g1, g2, g3, g4⟩ := t7
  refine zV_vret rfl rfl ⟨rfl, g1, fun q hq => ?_, fun i hi => (g3 i hi).1, fun i k hi => ?_, fun i k q hq => ?_⟩
  · have h1 := g2 q hq
    simp only [zuI, if_neg (show q ≠ B + 0 by omega)]
    exact h1
  · have h1 := (g3 i hi).2 k
    have h2 := (g3 0 (by decide)).2 k
    by_cases hi0 : i = 0
    · subst hi0
      simp only [zuI, upd, if_true, true_and]
      by_cases h9 : k = 9
      · subst h9; rfl
      · by_cases h10 : k = 10
        · subst h10; rfl
        · rw [if_neg h10, if_neg h9, if_neg (by omega)]
          exact h2
    · simp only [zuI, if_neg (show B + i ≠ B + 0 by omega)]
      rw [if_neg (fun h => hi0 h.1)]
      exact h1
  · obtain ⟨c, hc1, hc2⟩ := zGp_all hq
    exact (g4 (i, c) hc1).2 k q hc2 hq
end ZCON2
