/-! NUMBERS -/
theorem zbm {x : Int} (h0 : -2147483648 ≤ x) (h1 : x ≤ 2147483647) : x.bmod (2 ^ 32) = x := Int.bmod_eq_of_le (by omega) (by omega)
theorem zti_add {x y : Int32} (h0 : -2147483648 ≤ x.toInt + y.toInt) (h1 : x.toInt + y.toInt ≤ 2147483647) : (x + y).toInt = x.toInt + y.toInt := by rw [Int32.toInt_add]; exact zbm h0 h1
theorem zti_sub {x y : Int32} (h0 : -2147483648 ≤ x.toInt - y.toInt) (h1 : x.toInt - y.toInt ≤ 2147483647) : (x - y).toInt = x.toInt - y.toInt := by rw [Int32.toInt_sub]; exact zbm h0 h1
theorem zti_mul {x y : Int32} (h0 : -2147483648 ≤ x.toInt * y.toInt) (h1 : x.toInt * y.toInt ≤ 2147483647) : (x * y).toInt = x.toInt * y.toInt := by rw [Int32.toInt_mul]; exact zbm h0 h1
theorem zti_neg {x : Int32} (h0 : -2147483647 ≤ x.toInt) (h1 : x.toInt ≤ 2147483647) : (-x).toInt = -x.toInt := by rw [Int32.toInt_neg]; exact zbm (by omega) (by omega)
theorem zti_div {x y : Int32} (hx : 0 ≤ x.toInt) (hy : 0 < y.toInt) : (x / y).toInt = x.toInt / y.toInt := by
  rw [Int32.toInt_div, Int.tdiv_eq_ediv_of_nonneg hx]
  have h1 := Int32.toInt_lt x
  have h2 : x.toInt / y.toInt ≤ x.toInt := Int.ediv_le_self _ hx
  have h3 : 0 ≤ x.toInt / y.toInt := Int.ediv_nonneg hx (by omega)
  exact zbm (by omega) (by omega)
theorem ztn {x : Int32} (h : 0 ≤ x.toInt) : x.toInt = (x.toBitVec.toNat : Int) := by
  rw [← Int32.toInt_toBitVec] at h ⊢
  rw [BitVec.toInt_eq_toNat_cond] at h ⊢
  split at h
  · rename_i hc
    rw [if_pos hc]
  · have := x.toBitVec.isLt
    omega
theorem zti_of {x : Int32} {n : Nat} (h : x.toBitVec.toNat = n) (hn : n < 2147483648) : x.toInt = (n : Int) := by
  rw [← Int32.toInt_toBitVec, ← h]
  exact BitVec.toInt_eq_toNat_of_lt (by omega)
theorem zand_in {x : Int32} (y : Int32) (h0 : 0 ≤ x.toInt) : 0 ≤ (x &&& y).toInt ∧ (x &&& y).toInt ≤ x.toInt := by
  have h1 := ztn h0
  have hb : (x &&& y).toBitVec.toNat ≤ x.toBitVec.toNat := by
    rw [Int32.toBitVec_and, BitVec.toNat_and]
    exact Nat.and_le_left
  have h2 := Int32.toInt_lt x
  have h3 := zti_of (x := x &&& y) rfl (by omega)
  omega
theorem zor_in {x y : Int32} {n : Nat} (hx : 0 ≤ x.toInt ∧ x.toInt < 2 ^ n) (hy : 0 ≤ y.toInt ∧ y.toInt < 2 ^ n) (hn : n ≤ 31) : 0 ≤ (x ||| y).toInt ∧ (x ||| y).toInt < 2 ^ n := by
  have h1 := ztn hx.1
  have h2 := ztn hy.1
  have e : ((2 ^ n : Nat) : Int) = (2 : Int) ^ n := by simp
  have hb : (x ||| y).toBitVec.toNat < 2 ^ n := by
    rw [Int32.toBitVec_or, BitVec.toNat_or]
    exact Nat.or_lt_two_pow (by omega) (by omega)
  have hp : 2 ^ n ≤ 2 ^ 31 := Nat.pow_le_pow_right (by decide) hn
  have h3 := zti_of (x := x ||| y) rfl (by omega)
  omega
section ZWR6
variable {sl D dy mi pc : Nat} {ls : zLs} {st : List Value} {I : zM} {b : Nat} {R : Nat → Option Value → zM → Prop}
/-- the memory afterwards is J -/
theorem zcm {e : Instr × Nat × Nat × Nat × Nat} {m pc' : Nat} {la : zLs} {st' : List Value} {v : Option Value} {J : zM} (h : zl mi pc = some e) (hs : zstep sl dy mi pc e ls st I = some (.inr (.inr (.inr (m, pc', la, st', 0)))))
    (hc : zW sl D dy m 0 la [] I (zRg 0 (zQf J v))) (kr : zW sl (D + 1) dy mi pc' ls (zpush v st') J (zRg b R)) : zW sl (D + 1) dy mi pc ls st I (zRg b R) :=
  zcal (b1 := 0) (b2 := b) h hs hc (fun w J ⟨_, h2, h3⟩ => by rw [h2, h3]; exact kr) (fun c w J ⟨h1, _⟩ => by cases h1)
def zQj (P : zM → Prop) : Nat → Option Value → zM → Prop := fun c v J => c = 0 ∧ v = none ∧ P J
def zQk (P : zM → Prop) : Nat → Option Value → zM → Prop := fun c v J => c = 0 ∧ (∃ x, v = some (.int x)) ∧ P J
theorem zcj {e : Instr × Nat × Nat × Nat × Nat} {m pc' b1 b2 : Nat} {la : zLs} {st' : List Value} {P : zM → Prop} (h : zl mi pc = some e) (hs : zstep sl dy mi pc e ls st I = some (.inr (.inr (.inr (m, pc', la, st', 0)))))
    (hc : zW sl D dy m 0 la [] I (zRg b1 (zQj P))) (kr : ∀ J, P J → zW sl (D + 1) dy mi pc' ls st' J (zRg b2 R)) (hb : b1 + b2 ≤ b := by omega) : zW sl (D + 1) dy mi pc ls st I (zRg b R) :=
  zcal (b1 := b1) (b2 := b2) h hs hc (fun w J ⟨_, h2, h3⟩ => by rw [h2]; exact kr J h3) (fun c w J ⟨h1, _⟩ => by cases h1) hb
theorem zck {e : Instr × Nat × Nat × Nat × Nat} {m pc' b1 b2 : Nat} {la : zLs} {st' : List Value} {P : zM → Prop} (h : zl mi pc = some e) (hs : zstep sl dy mi pc e ls st I = some (.inr (.inr (.inr (m, pc', la, st', 0)))))
    (hc : zW sl D dy m 0 la [] I (zRg b1 (zQk P))) (kr : ∀ x J, P J → zW sl (D + 1) dy mi pc' ls (.int x :: st') J (zRg b2 R)) (hb : b1 + b2 ≤ b := by omega) : zW sl (D + 1) dy mi pc ls st I (zRg b R) :=
  zcal (b1 := b1) (b2 := b2) h hs hc (fun w J ⟨_, ⟨x, h2⟩, h3⟩ => by rw [h2]; exact kr x J h3) (fun c w J ⟨h1, _⟩ => by cases h1) hb
end ZWR6
/-- what a search keeps -/
def zSI (S : Nat → Nat → Int32) (I : zM) : Prop := zSB 1 S I ∧
  (∃ q, I 135 9 = some q ∧ 0 ≤ q.toInt ∧ q.toInt ≤ 2048 ∧ ∀ j : Nat, (j : Int) < q.toInt → ∃ e, I 143 j = some e ∧ 0 ≤ e.toInt ∧ e.toInt < (S 0 10).toInt * 256) ∧
  (∀ k, k < 256 → ∃ x, I 142 k = some x) ∧ ∀ k, k < 8 → ∃ x, I 140 k = some x
theorem zSI_a {S : Nat → Nat → Int32} {I : zM} (h : zSI S I) (k : Nat) (x : Int32) : zSI S (zup I 140 k x) := by
  obtain ⟨h1, ⟨q, h2, h3, h4, h5⟩, h6, h7⟩ := h
  refine ⟨zSB_fr h1 (zfr_up (zfr_refl I) rfl), ⟨q, h2, h3, h4, fun j hj => h5 j hj⟩, fun j hj => h6 j hj, fun j hj => ?_⟩
  rw [zup_at]
  split
  · exact ⟨x, rfl⟩
  · exact h7 j hj
theorem zSI_b {S : Nat → Nat → Int32} {I : zM} (h : zSI S I) {q e : Int32} (k : Nat) (x : Int32) (hq : I 135 9 = some q) (h0 : 0 ≤ q.toInt) (h1 : q.toInt < 2048) (he : 0 ≤ e.toInt ∧ e.toInt < (S 0 10).toInt * 256) : zSI S (zup (zup (zup I 142 k x) 143 q.toNatClampNeg e) 135 9 (q + 1)) := by
  obtain ⟨h2, ⟨q', g2, g3, g4, g5⟩, g6, g7⟩ := h
  cases Option.some.inj (hq.symm.trans g2)
  have ha := zadd1 h0 (by omega)
  refine ⟨zSB_fr h2 (zfr_up (zfr_up (zfr_up (zfr_refl I) rfl) rfl) rfl), ⟨q + 1, by rw [zup_at, if_pos ⟨rfl, rfl⟩], by omega, by omega, fun j hj => ?_⟩, fun j hj => ?_, fun j hj => g7 j hj⟩
  · rw [zup_at, if_neg (by simp), zup_at]
    have hqn : q.toNatClampNeg = q.toInt.toNat := rfl
    by_cases hjq : j = q.toNatClampNeg
    · rw [if_pos ⟨rfl, hjq⟩]
      exact ⟨e, rfl, he⟩
    · rw [if_neg (by simp [hjq]), zup_at, if_neg (by simp)]
      exact g5 j (by omega)
  · rw [zup_at, if_neg (by simp), zup_at, if_neg (by simp), zup_at]
    split
    · exact ⟨x, rfl⟩
    · exact g6 j hj
