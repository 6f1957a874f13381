/-! CONTRACTS: the output -/
/-- the output's text is known: n characters -/
def zTx (I : zM) (n : Int32) : Prop := I 148 0 = some n ∧ 0 ≤ n.toInt ∧ n.toInt ≤ 60 ∧ ∀ j : Nat, (j : Int) < n.toInt → ∃ x, I 149 j = some x ∧ 0 ≤ x.toInt ∧ x.toInt < 128
theorem zTx_up {I : zM} {n x : Int32} (h : zTx I n) (hn : n.toInt ≤ 59) (h0 : 0 ≤ x.toInt) (h1 : x.toInt < 128) : zTx (zup (zup I 149 n.toNatClampNeg x) 148 0 (n + 1)) (n + 1) := by
  obtain ⟨q1, q2, q3, q4⟩ := h
  have ha := zadd1 q2 (by omega)
  have hc : n.toNatClampNeg = n.toInt.toNat := rfl
  refine ⟨by rw [zup_at, if_pos ⟨rfl, rfl⟩], by omega, by omega, fun j hj => ?_⟩
  rw [zup_at, if_neg (by simp), zup_at]
  by_cases hjn : j = n.toNatClampNeg
  · rw [if_pos ⟨rfl, hjn⟩]
    exact ⟨x, rfl, h0, h1⟩
  · rw [if_neg (by simp [hjn])]
    exact q4 j (by omega)
theorem zdg_in {x : Int32} (h0 : 0 ≤ x.toInt) (h1 : x.toInt < 1000) : ∀ c ∈ zdg x, 0 ≤ c.toInt ∧ c.toInt < 128 := by
  have z10 : (10 : Int32).toInt = 10 := rfl
  have z48 : (48 : Int32).toInt = 48 := rfl
  have z100 : (100 : Int32).toInt = 100 := rfl
  have d1 := zti_div (x := x) (y := 10) h0 (by decide)
  have d2 := zti_div (x := x) (y := 100) h0 (by decide)
  rw [z10] at d1
  rw [z100] at d2
  have m1 := zti_mul (x := x / 10) (y := 10) (by rw [z10]; omega) (by rw [z10]; omega)
  have m2 := zti_mul (x := x / 100) (y := 10) (by rw [z10]; omega) (by rw [z10]; omega)
  rw [z10] at m1 m2
  have s1 := zti_sub (x := x) (y := x / 10 * 10) (by omega) (by omega)
  have s2 := zti_sub (x := x / 10) (y := x / 100 * 10) (by omega) (by omega)
  unfold zdg
  intro c hc
  split at hc
  · rename_i q
    have q := Int32.lt_iff_toInt_lt.mp q
    simp only [List.mem_cons, List.not_mem_nil, or_false] at hc
    subst hc
    rw [zti_add (by omega) (by omega)]
    omega
  · split at hc
    · rename_i q
      have q := Int32.lt_iff_toInt_lt.mp q
      simp only [List.mem_cons, List.not_mem_nil, or_false] at hc
      rcases hc with rfl | rfl
      · rw [zti_add (by omega) (by omega)]; omega
      · rw [zti_add (by omega) (by omega)]; omega
    · simp only [List.mem_cons, List.not_mem_nil, or_false] at hc
      rcases hc with rfl | rfl | rfl
      · rw [zti_add (by omega) (by omega)]; omega
      · rw [zti_add (by omega) (by omega)]; omega
      · rw [zti_add (by omega) (by omega)]; omega
theorem zTx_dg {I : zM} {n x : Int32} (h : zTx I n) (hn : n.toInt ≤ 57) (h0 : 0 ≤ x.toInt) (h1 : x.toInt < 1000) :
    zTx (zup ((zdg x).foldl (fun (q : zM × Nat) ch => (zup q.1 149 q.2 ch, q.2 + 1)) (I, n.toNatClampNeg)).1 148 0 (n + Int32.ofNat (zdg x).length)) (n + Int32.ofNat (zdg x).length) ∧ (n + Int32.ofNat (zdg x).length).toInt ≤ n.toInt + 3 ∧ zfr I (zup ((zdg x).foldl (fun (q : zM × Nat) ch => (zup q.1 149 q.2 ch, q.2 + 1)) (I, n.toNatClampNeg)).1 148 0 (n + Int32.ofNat (zdg x).length)) := by
  obtain ⟨q1, q2, q3, q4⟩ := h
  have hl := zdg_len x
  have hof := zofn (n := (zdg x).length) (by omega)
  have ha := zti_add (x := n) (y := Int32.ofNat (zdg x).length) (by omega) (by omega)
  have hc : n.toNatClampNeg = n.toInt.toNat := rfl
  refine ⟨⟨by rw [zup_at, if_pos ⟨rfl, rfl⟩], by omega, by omega, fun j hj => ?_⟩, by omega, fun b j hb => ?_⟩
  · rw [zup_at, if_neg (by simp), zfold_at]
    by_cases hjn : n.toNatClampNeg ≤ j ∧ j < n.toNatClampNeg + (zdg x).length
    · rw [if_pos ⟨rfl, hjn⟩]
      have hlt : j - n.toNatClampNeg < (zdg x).length := by omega
      rw [List.getElem?_eq_getElem hlt]
      exact ⟨_, rfl, zdg_in h0 h1 _ (List.getElem_mem hlt)⟩
    · rw [if_neg (by simp only [true_and]; exact hjn)]
      exact q4 j (by omega)
  · rw [zup_at, if_neg (fun e => by rw [e.1] at hb; cases hb), zfold_at, if_neg (fun e => by rw [e.1] at hb; cases hb)]
section ZWR8
variable {sl D dy mi pc : Nat} {ls : zLs} {st : List Value} {I : zM} {b b2 : Nat} {R : Nat → Option Value → zM → Prop}
theorem zinv {idx c len r3 u : Nat} {pc' : Nat} {ls' : zLs} {st' : List Value} {I' : zM} (h : zl mi pc = some (.invokevirtual idx, len, c, 3, r3)) (hw : zwalk c = false) (hm : zsm st = true) (hp : zprim dy c (pc + len) ls st I = some (.inl (pc', ls', st', I', u))) (k : zW sl D dy mi pc' ls' st' I' (zRg b2 R)) (hb : b2 + u ≤ b) : zW sl D dy mi pc ls st I (zRg b R) := by
  refine zW_nu h (by simp only [zstep, hw, hm]; exact hp) (zW_post k fun o ho => ⟨ho.1, ?_⟩)
  have := ho.2
  show o.2.2.2 + u ≤ b
  omega
theorem zapi {idx len r3 : Nat} {x n : Int32} (h : zl mi pc = some (.invokevirtual idx, len, 206, 3, r3)) (hm : zsm (.int x :: .ref 148 :: st) = true) (hT : zTx I n) (hn : n.toInt ≤ 57) (h0 : 0 ≤ x.toInt) (h1 : x.toInt < 1000)
    (k : ∀ (J : zM) (n' : Int32), zTx J n' → n'.toInt ≤ n.toInt + 3 → zfr I J → zW sl D dy mi (pc + len) ls (.ref 148 :: st) J (zRg b2 R)) (hb : b2 + 1 ≤ b := by omega) : zW sl D dy mi pc ls (.int x :: .ref 148 :: st) I (zRg b R) := by
  obtain ⟨g1, g2, g3⟩ := zTx_dg hT hn h0 h1
  refine zinv (b2 := b2) h rfl hm ?_ (k _ _ g1 g2 g3) hb
  have e1 : decide (0 ≤ x ∧ x < 1000) = true := decide_eq_true ⟨Int32.le_iff_toInt_le.mpr h0, Int32.lt_iff_toInt_lt.mpr h1⟩
  have e2 : decide (0 ≤ n ∧ n ≤ 60) = true := decide_eq_true ⟨Int32.le_iff_toInt_le.mpr hT.2.1, Int32.le_iff_toInt_le.mpr hT.2.2.1⟩
  simp only [zprim, e1, hT.1, e2]
theorem zapc {idx len r3 : Nat} {x n : Int32} (h : zl mi pc = some (.invokevirtual idx, len, 205, 3, r3)) (hm : zsm (.int x :: .ref 148 :: st) = true) (hT : zTx I n) (hn : n.toInt ≤ 57) (h0 : 0 ≤ x.toInt) (h1 : x.toInt < 128)
    (k : ∀ (J : zM) (n' : Int32), zTx J n' → n'.toInt ≤ n.toInt + 1 → zfr I J → zW sl D dy mi (pc + len) ls (.ref 148 :: st) J (zRg b2 R)) (hb : b2 + 1 ≤ b := by omega) : zW sl D dy mi pc ls (.int x :: .ref 148 :: st) I (zRg b R) := by
  refine zinv (b2 := b2) h rfl hm ?_ (k _ _ (zTx_up hT (by omega) h0 h1) (by rw [zadd1 hT.2.1 (by omega)]; omega) (zfr_up (zfr_up (zfr_refl I) rfl) rfl)) hb
  have e1 : decide (0 ≤ x ∧ x < 128) = true := decide_eq_true ⟨Int32.le_iff_toInt_le.mpr h0, Int32.lt_iff_toInt_lt.mpr h1⟩
  have e2 : decide (0 ≤ n ∧ n ≤ 60) = true := decide_eq_true ⟨Int32.le_iff_toInt_le.mpr hT.2.1, Int32.le_iff_toInt_le.mpr hT.2.2.1⟩
  simp only [zprim, e1, hT.1, e2]
theorem zasl {idx len r3 : Nat} (h : zl mi pc = some (.invokevirtual idx, len, 209, 3, r3)) (hm : zsm (.int 0 :: .ref 148 :: st) = true)
    (k : ∀ (J : zM) (n' : Int32), zTx J n' → n'.toInt = 0 → zfr I J → zW sl D dy mi (pc + len) ls st J (zRg b R)) : zW sl D dy mi pc ls (.int 0 :: .ref 148 :: st) I (zRg b R) := by
  refine zinv (b2 := b) (u := 0) h rfl hm (I' := zup I 148 0 0) ?_ (k (zup I 148 0 0) 0 ⟨by rw [zup_at, if_pos ⟨rfl, rfl⟩], by decide, by decide, fun j hj => ?_⟩ rfl (zfr_up (zfr_refl I) rfl)) (Nat.le_refl _)
  · rfl
  · have : (0 : Int32).toInt = 0 := rfl
    omega
theorem zalen {idx len r3 : Nat} {n : Int32} (h : zl mi pc = some (.invokevirtual idx, len, 210, 3, r3)) (hm : zsm (.ref 148 :: st) = true) (hT : I 148 0 = some n)
    (k : zW sl D dy mi (pc + len) ls (.int n :: st) I (zRg b R)) : zW sl D dy mi pc ls (.ref 148 :: st) I (zRg b R) := by
  refine zinv (b2 := b) (u := 0) h rfl hm ?_ k (Nat.le_refl _)
  simp only [zprim, hT]
  rfl
theorem zacat {idx len r3 : Nat} {i n x : Int32} (h : zl mi pc = some (.invokevirtual idx, len, 208, 3, r3)) (hm : zsm (.int i :: .ref 148 :: st) = true) (hT : I 148 0 = some n) (h0 : 0 ≤ i.toInt) (h1 : i.toInt < n.toInt) (hx : I 149 i.toNatClampNeg = some x)
    (k : zW sl D dy mi (pc + len) ls (.int x :: st) I (zRg b R)) : zW sl D dy mi pc ls (.int i :: .ref 148 :: st) I (zRg b R) := by
  refine zinv (b2 := b) (u := 0) h rfl hm ?_ k (Nat.le_refl _)
  have e1 : decide (0 ≤ i ∧ i < n) = true := decide_eq_true ⟨Int32.le_iff_toInt_le.mpr h0, Int32.lt_iff_toInt_lt.mpr h1⟩
  simp only [zprim, hT, hx, e1]
  rfl
end ZWR8
/-- an answer behind a text was made -/
def zQr (I : zM) (m : Int) : Nat → Option Value → zM → Prop := fun c v J => c = 0 ∧ (∃ n, v = some (.int n) ∧ zTx J n ∧ n.toInt ≤ m) ∧ zfr I J
