/-! FROM A NEW OBJECT TO THE LAW'S PARTS -/
theorem zgoc_D {sl N D dy mi : Nat} : ∀ (n : Nat) {c o : Nat × zLs × List Value × zM × Nat}, zgoc sl N D dy mi n c = some o → zgoc sl N (D + 1) dy mi n c = some o
  | 0, c, o, h => h
  | n + 1, (pc, ls, st, M, u), o, h => by
    unfold zgoc at h ⊢
    cases hz : zl mi pc with
    | none => rw [hz] at h; simp at h
    | some e =>
      rw [hz] at h
      simp only at h ⊢
      cases hs : zstep sl dy mi pc e ls st M with
      | none => rw [hs] at h; simp at h
      | some r =>
        rw [hs] at h
        rcases r with ⟨pc1, ls1, st1, I1, u1⟩ | v | c | ⟨m, pc1, la, st1, q⟩
        · exact zgoc_D n h
        · simp at h
        · simp at h
        · cases q with
          | succ q => simp at h
          | zero =>
            simp only at h ⊢
            cases hc : zrun sl N D dy m 0 la [] M with
            | none => rw [hc] at h; simp at h
            | some r =>
              rw [hc] at h
              rw [zrun_D N hc]
              obtain ⟨c, v, I1, u1⟩ := r
              cases c with
              | succ c => simp at h
              | zero => exact zgoc_D n h
theorem zseg_14 {n pc pc' : Nat} {ls ls' : zLs} {T T' : List (Nat × List (Nat × Int32))} (h : zseg n pc ls T pc' ls' T' = true) {l : Launch} {X : zX} {sl dy b : Nat} {E : zEnv} {Post : zPost} (J : zJDK l X) (hE : zEok X sl dy E) (hl : zRlN ls) (k : zU l X 14 b 178 pc' ls' [] E (zlkT T') Post) : zU l X 14 (b + 5) 178 pc ls [] E (zlkT T) Post := by
  unfold zseg at h
  cases hg : zgoc 2147483648 30000 9 0 178 n (pc, ls, [], zlkT T, 0) with
  | none => rw [hg] at h; cases h
  | some o =>
    rw [hg] at h
    obtain ⟨p, l0, s, M, u⟩ := o
    simp only [Bool.and_eq_true, decide_eq_true_eq] at h
    obtain ⟨⟨rfl, rfl, rfl, hu⟩, h2⟩ := h
    have h3 := zgoc_rr (sl := sl) (dy := dy) n hl zRs_nN hg
    have h4 := zgoc_D n (zgoc_D n (zgoc_D n (zgoc_D n h3)))
    exact zU_le (by omega) (zU_gc (D := 13) J hE n h4 (zU_mem (zlkT_le h2) k)).1
theorem zkd_any {sl i : Nat} {e : Nat × Nat} (hi : i < 150) (h : zkd sl i = some e) : i < 148 ∧ zkd 0 i = some e := by
  rcases zkd_lt h with h1 | ⟨h1, -⟩
  · refine ⟨h1, ?_⟩
    rw [← h]
    unfold zkd
    split
    · rfl
    · rfl
    · rfl
    · rfl
    · split <;> first | rfl | omega
    · rfl
  · omega
theorem z0M_in {a k : Nat} {x : Int32} (h : z0M a k = some x) (ha : a ≠ 148) : a < 148 ∧ x = if a = 0 ∧ (k = 9 ∨ k = 10) then -1 else 0 := by
  unfold z0M at h
  split at h
  · split at h
    · cases h; exact ⟨by decide, rfl⟩
    · cases h; exact ⟨by decide, rfl⟩
    · cases h; exact ⟨by decide, rfl⟩
    · cases h
  · exact absurd rfl ha
  · rename_i h1 h2
    split at h
    · rename_i hb
      have := Nat.le_of_ble_eq_true hb
      refine ⟨by omega, ?_⟩
      rw [if_neg (fun q => h1 q.1)]
      exact (Option.some.inj h).symm
    · cases h
theorem zNw_rel {B : Nat} {K0 K : zKT} {P0 P : zPT} {I0 I : zIT} {L0 L : zLT} {n : Nat} {E : zEnv} (hN : zNw B K0 P0 I0 L0 n K P I L) (hB : zEB E = B) (hF : ∀ a, zEF E a → a < B ∧ zEK E a = K0 a ∧ zEP E a = P0 a ∧ zEI E a = I0 a ∧ zEL E a = L0 a) : zRel E n K P I L z0M := by
  obtain ⟨h1, h2, h3, h4, h5⟩ := hN
  subst hB
  refine ⟨by omega, fun i sl e hi he => ?_, fun i k q hq => ?_, fun i k x hi hx => ?_, fun k x hx => ?_, zEB E + 149, [], ⟨16, ?_, ?_, ?_, by omega, by omega, Nat.zero_le _, by decide, ?_, ?_, fun j x hx => by simp at hx, fun j => by rw [h4 149 j (by decide)]; rfl⟩, by decide, by omega, fun x hx => ?_, fun j x hj => absurd hj (Nat.not_lt_zero _), fun a ha => ?_⟩
  · obtain ⟨hl, hz⟩ := zkd_any hi he
    rw [h3 i hi, ← hz]
    unfold zGk
    cases hb : Nat.beq i 148 with
    | true => have := Nat.eq_of_beq_eq_true hb; omega
    | false =>
      cases hb2 : Nat.beq i 149 with
      | true => have := Nat.eq_of_beq_eq_true hb2; omega
      | false => rfl
  · refine h5 i k q ?_
    unfold zGp
    cases hb : Nat.beq i 148 with
    | true => have := Nat.eq_of_beq_eq_true hb; have := (zpd_lt hq).1; omega
    | false => exact hq
  · obtain ⟨-, rfl⟩ := z0M_in hx (by omega)
    exact h4 i k (by omega)
  · have := (z0M_in hx (by decide)).1
    omega
  · exact h3 148 (by decide)
  · exact h5 148 0 149 rfl
  · exact h3 149 (by decide)
  · exact h4 148 1 (by decide)
  · exact h4 148 3 (by decide)
  · have h0 : z0M 148 0 = some 0 := rfl
    rw [h0] at hx
    cases hx
    rfl
  · obtain ⟨g1, g2, g3, g4, g5⟩ := hF a ha
    obtain ⟨f1, f2, f3, f4⟩ := h2 a g1
    exact ⟨by omega, by omega, f1.trans g2.symm, f2.trans g3.symm, f3.trans g4.symm, f4.trans g5.symm⟩
theorem zTb0_le : zle (zlkT zTb0) z0M := zlkT_le (by decide +kernel)
