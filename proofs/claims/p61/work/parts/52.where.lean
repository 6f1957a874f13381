/-! CONTRACTS: a run that touches neither the law's array nor a built text -/
theorem zkd_sl {sl sl' a : Nat} (h : a ≠ 1000) : zkd sl a = zkd sl' a := by
  unfold zkd
  split <;> first | rfl | (split <;> first | rfl | exact absurd rfl h)
theorem ztx_any {dy a : Nat} {t : List Int32} (h : ztx 0 a = some t) : ztx dy a = some t := by
  unfold ztx at h ⊢
  split at h
  · rename_i q
    exact h
  · rename_i q
    have h5 : 5000 ≤ a := Nat.le_of_ble_eq_true q
    have : Nat.beq a 0 = false := by
      cases hb : Nat.beq a 0 with
      | false => rfl
      | true => have := Nat.eq_of_beq_eq_true hb; omega
    rw [this] at h
    cases h
theorem zfree_sl {sl sl' dy dy' mi pc len r1 r2 r3 : Nat} {i : Instr} {ls : zLs} {st : List Value} {I : zM} (hf : zfreeI i = true) (h1 : i ≠ .arraylength) (h2 : i ≠ .aaload) : zstep sl dy mi pc (i, len, r1, r2, r3) ls st I = zstep sl' dy' mi pc (i, len, r1, r2, r3) ls st I := by
  cases i with
  | fconst f => rcases f with ⟨_ | _ | _ | n, h⟩ <;> first | rfl | (exfalso; omega)
  | dconst d => rcases d with ⟨_ | _ | n, h⟩ <;> first | rfl | (exfalso; omega)
  | _ => first | (cases hf; done) | rfl | exact absurd rfl h1 | exact absurd rfl h2
