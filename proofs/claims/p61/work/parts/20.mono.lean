/-! A RUN FROM A SMALLER MEMORY IS A RUN FROM A LARGER ONE -/
def zle (I J : zM) : Prop := ∀ (a k : Nat) (x : Int32), I a k = some x → J a k = some x
/-- the larger memory changes as the smaller one -/
def zmr (I' J J' : zM) : Prop := zle I' J' ∧ ∀ a k, J' a k = J a k ∨ ∃ x, I' a k = some x ∧ J' a k = some x
theorem zmr_refl {I J : zM} (h : zle I J) : zmr I J J := ⟨h, fun _ _ => Or.inl rfl⟩
/-- known cells stay known -/
def zkn (I I' : zM) : Prop := ∀ a k x, I a k = some x → ∃ y, I' a k = some y
theorem zmr_comp {I1 I2 J J1 J2 : zM} (h1 : zmr I1 J J1) (k2 : zkn I1 I2) (h2 : zmr I2 J1 J2) : zmr I2 J J2 := by
  refine ⟨h2.1, fun a k => ?_⟩
  rcases h2.2 a k with e | e
  · rcases h1.2 a k with e1 | ⟨x, e1, e2⟩
    · exact Or.inl (e.trans e1)
    · obtain ⟨y, hy⟩ := k2 a k x e1
      have h3 := h2.1 a k y hy
      exact Or.inr ⟨y, hy, h3⟩
  · exact Or.inr e
theorem zkn_trans {I1 I2 I3 : zM} (h1 : zkn I1 I2) (h2 : zkn I2 I3) : zkn I1 I3 := fun a k x hx => by
  obtain ⟨y, hy⟩ := h1 a k x hx
  exact h2 a k y hy
theorem zkn_refl (I : zM) : zkn I I := fun _ _ x h => ⟨x, h⟩
theorem zup_mr {I J J0 : zM} (h : zmr I J0 J) (a k : Nat) (x : Int32) : zmr (zup I a k x) J0 (zup J a k x) := by
  refine ⟨fun b j y hy => ?_, fun b j => ?_⟩
  · rw [zup_at] at hy ⊢
    split
    · rename_i hc; rw [if_pos hc] at hy; exact hy
    · rename_i hc; rw [if_neg hc] at hy; exact h.1 b j y hy
  · rw [zup_at, zup_at]
    split
    · exact Or.inr ⟨x, rfl, rfl⟩
    · exact h.2 b j
theorem zup_kn {I0 I : zM} (h : zkn I0 I) (a k : Nat) (x : Int32) : zkn I0 (zup I a k x) := by
  intro b j y hy
  rw [zup_at]
  split
  · exact ⟨x, rfl⟩
  · exact h b j y hy
theorem zcpm_mr {I J : zM} (h : zle I J) (s d n : Nat) (hk : (List.range n).all (fun j => (I s j).isSome) = true) : zmr (zcpm I s d n) J (zcpm J s d n) ∧ zkn I (zcpm I s d n) := by
  have hj : ∀ j, j < n → ∃ y, I s j = some y := fun j hj => Option.isSome_iff_exists.mp (List.all_eq_true.mp hk j (List.mem_range.mpr hj))
  refine ⟨⟨fun b j y hy => ?_, fun b j => ?_⟩, fun b j y hy => ?_⟩
  · rw [zcpm_at] at hy ⊢
    split
    · rename_i hc; rw [if_pos hc] at hy; exact h s j y hy
    · rename_i hc; rw [if_neg hc] at hy; exact h b j y hy
  · rw [zcpm_at, zcpm_at]
    split
    · rename_i hc
      obtain ⟨y, hy⟩ := hj j hc.2
      exact Or.inr ⟨y, hy, h s j y hy⟩
    · exact Or.inl rfl
  · rw [zcpm_at]
    split
    · rename_i hc
      exact hj j hc.2
    · exact ⟨y, hy⟩
theorem zfold_mr (cs : List Int32) : ∀ {I J J0 : zM} (k : Nat), zmr I J0 J → zmr (cs.foldl (fun (q : zM × Nat) ch => (zup q.1 149 q.2 ch, q.2 + 1)) (I, k)).1 J0 (cs.foldl (fun (q : zM × Nat) ch => (zup q.1 149 q.2 ch, q.2 + 1)) (J, k)).1 := by
  induction cs with
  | nil => intro I J J0 k h; exact h
  | cons c r ih => intro I J J0 k h; exact ih (k + 1) (zup_mr h 149 k c)
theorem zfold_kn (cs : List Int32) : ∀ {I0 I : zM} (k : Nat), zkn I0 I → zkn I0 (cs.foldl (fun (q : zM × Nat) ch => (zup q.1 149 q.2 ch, q.2 + 1)) (I, k)).1 := by
  induction cs with
  | nil => intro I0 I k h; exact h
  | cons c r ih => intro I0 I k h; exact ih (k + 1) (zup_kn h 149 k c)
/-- two steps' results -/
def zrs (I J : zM) (r r' : zRes) : Prop := match r with
  | .inl (p, l, s, I', u) => ∃ J', r' = .inl (p, l, s, J', u) ∧ zmr I' J J' ∧ zkn I I'
  | .inr x => r' = .inr x
def zsetM (J : zM) : zRes → zRes
  | .inl (p, l, s, _, u) => .inl (p, l, s, J, u)
  | .inr x => .inr x
def zkeeps (I : zM) : zRes → Prop
  | .inl (_, _, _, I', _) => I' = I
  | .inr _ => True
theorem zrs_free {I J : zM} {r : zRes} (h : zle I J) (hk : zkeeps I r) : zrs I J r (zsetM J r) := by
  rcases r with ⟨p, l, s, I', u⟩ | x
  · cases (show I' = I from hk)
    exact ⟨J, rfl, zmr_refl h, zkn_refl I⟩
  · rfl
def zfreeI : Instr → Bool
  | .getfield _ | .putfield _ | .iaload | .caload | .iastore | .castore | .invokestatic _ | .invokevirtual _ => false
  | _ => true
section ZMONO
variable {sl dy mi pc len r1 r2 r3 : Nat} {ls : zLs} {st : List Value} {I J : zM}
theorem zfree_of {i : Instr} {r : zRes} (hf : zfreeI i = true) (hs : zstep sl dy mi pc (i, len, r1, r2, r3) ls st I = some r) : zkeeps I r ∧ zstep sl dy mi pc (i, len, r1, r2, r3) ls st J = some (zsetM J r) := by
  cases i with
  | iconst a0 => cases hs; exact ⟨rfl, rfl⟩
  | bipush a0 => cases hs; exact ⟨rfl, rfl⟩
  | sipush a0 => cases hs; exact ⟨rfl, rfl⟩
  | lconst a0 => cases hs; exact ⟨rfl, rfl⟩
  | fconst a0 => match a0, hs with
    | 0, hs => cases hs; exact ⟨rfl, rfl⟩
    | 1, hs => cases hs; exact ⟨rfl, rfl⟩
    | 2, hs => cases hs; exact ⟨rfl, rfl⟩
  | dconst a0 => match a0, hs with
    | 0, hs => cases hs; exact ⟨rfl, rfl⟩
    | 1, hs => cases hs; exact ⟨rfl, rfl⟩
  | ldc a0 =>
    simp only [zstep, znx, zLd, zSt, zi2, zl2, zf2, zd2, zjmp, zldc, zcat2] at hs ⊢
    repeat' split at hs
    all_goals first | (cases hs; exact ⟨rfl, by simp_all [zsetM]⟩) | (cases hs; exact ⟨trivial, by simp_all [zsetM]⟩) | cases hs
  | ldc_w a0 =>
    simp only [zstep, znx, zLd, zSt, zi2, zl2, zf2, zd2, zjmp, zldc, zcat2] at hs ⊢
    repeat' split at hs
    all_goals first | (cases hs; exact ⟨rfl, by simp_all [zsetM]⟩) | (cases hs; exact ⟨trivial, by simp_all [zsetM]⟩) | cases hs
  | ldc2_w a0 =>
    simp only [zstep, znx, zLd, zSt, zi2, zl2, zf2, zd2, zjmp, zldc, zcat2] at hs ⊢
    repeat' split at hs
    all_goals first | (cases hs; exact ⟨rfl, by simp_all [zsetM]⟩) | (cases hs; exact ⟨trivial, by simp_all [zsetM]⟩) | cases hs
  | iload a0 =>
    simp only [zstep, znx, zLd, zSt, zi2, zl2, zf2, zd2, zjmp, zldc, zcat2] at hs ⊢
    repeat' split at hs
    all_goals first | (cases hs; exact ⟨rfl, by simp_all [zsetM]⟩) | (cases hs; exact ⟨trivial, by simp_all [zsetM]⟩) | cases hs
  | iload_n a0 =>
    simp only [zstep, znx, zLd, zSt, zi2, zl2, zf2, zd2, zjmp, zldc, zcat2] at hs ⊢
    repeat' split at hs
    all_goals first | (cases hs; exact ⟨rfl, by simp_all [zsetM]⟩) | (cases hs; exact ⟨trivial, by simp_all [zsetM]⟩) | cases hs
  | lload a0 =>
    simp only [zstep, znx, zLd, zSt, zi2, zl2, zf2, zd2, zjmp, zldc, zcat2] at hs ⊢
    repeat' split at hs
    all_goals first | (cases hs; exact ⟨rfl, by simp_all [zsetM]⟩) | (cases hs; exact ⟨trivial, by simp_all [zsetM]⟩) | cases hs
  | lload_n a0 =>
    simp only [zstep, znx, zLd, zSt, zi2, zl2, zf2, zd2, zjmp, zldc, zcat2] at hs ⊢
    repeat' split at hs
    all_goals first | (cases hs; exact ⟨rfl, by simp_all [zsetM]⟩) | (cases hs; exact ⟨trivial, by simp_all [zsetM]⟩) | cases hs
  | fload a0 =>
    simp only [zstep, znx, zLd, zSt, zi2, zl2, zf2, zd2, zjmp, zldc, zcat2] at hs ⊢
    repeat' split at hs
    all_goals first | (cases hs; exact ⟨rfl, by simp_all [zsetM]⟩) | (cases hs; exact ⟨trivial, by simp_all [zsetM]⟩) | cases hs
  | fload_n a0 =>
    simp only [zstep, znx, zLd, zSt, zi2, zl2, zf2, zd2, zjmp, zldc, zcat2] at hs ⊢
    repeat' split at hs
    all_goals first | (cases hs; exact ⟨rfl, by simp_all [zsetM]⟩) | (cases hs; exact ⟨trivial, by simp_all [zsetM]⟩) | cases hs
  | dload a0 =>
    simp only [zstep, znx, zLd, zSt, zi2, zl2, zf2, zd2, zjmp, zldc, zcat2] at hs ⊢
    repeat' split at hs
    all_goals first | (cases hs; exact ⟨rfl, by simp_all [zsetM]⟩) | (cases hs; exact ⟨trivial, by simp_all [zsetM]⟩) | cases hs
  | dload_n a0 =>
    simp only [zstep, znx, zLd, zSt, zi2, zl2, zf2, zd2, zjmp, zldc, zcat2] at hs ⊢
    repeat' split at hs
    all_goals first | (cases hs; exact ⟨rfl, by simp_all [zsetM]⟩) | (cases hs; exact ⟨trivial, by simp_all [zsetM]⟩) | cases hs
  | aload a0 =>
    simp only [zstep, znx, zLd, zSt, zi2, zl2, zf2, zd2, zjmp, zldc, zcat2] at hs ⊢
    repeat' split at hs
    all_goals first | (cases hs; exact ⟨rfl, by simp_all [zsetM]⟩) | (cases hs; exact ⟨trivial, by simp_all [zsetM]⟩) | cases hs
  | aload_n a0 =>
    simp only [zstep, znx, zLd, zSt, zi2, zl2, zf2, zd2, zjmp, zldc, zcat2] at hs ⊢
    repeat' split at hs
    all_goals first | (cases hs; exact ⟨rfl, by simp_all [zsetM]⟩) | (cases hs; exact ⟨trivial, by simp_all [zsetM]⟩) | cases hs
  | istore a0 =>
    simp only [zstep, znx, zLd, zSt, zi2, zl2, zf2, zd2, zjmp, zldc, zcat2] at hs ⊢
    repeat' split at hs
    all_goals first | (cases hs; exact ⟨rfl, by simp_all [zsetM]⟩) | (cases hs; exact ⟨trivial, by simp_all [zsetM]⟩) | cases hs
  | istore_n a0 =>
    simp only [zstep, znx, zLd, zSt, zi2, zl2, zf2, zd2, zjmp, zldc, zcat2] at hs ⊢
    repeat' split at hs
    all_goals first | (cases hs; exact ⟨rfl, by simp_all [zsetM]⟩) | (cases hs; exact ⟨trivial, by simp_all [zsetM]⟩) | cases hs
  | lstore a0 =>
    simp only [zstep, znx, zLd, zSt, zi2, zl2, zf2, zd2, zjmp, zldc, zcat2] at hs ⊢
    repeat' split at hs
    all_goals first | (cases hs; exact ⟨rfl, by simp_all [zsetM]⟩) | (cases hs; exact ⟨trivial, by simp_all [zsetM]⟩) | cases hs
  | lstore_n a0 =>
    simp only [zstep, znx, zLd, zSt, zi2, zl2, zf2, zd2, zjmp, zldc, zcat2] at hs ⊢
    repeat' split at hs
    all_goals first | (cases hs; exact ⟨rfl, by simp_all [zsetM]⟩) | (cases hs; exact ⟨trivial, by simp_all [zsetM]⟩) | cases hs
  | fstore a0 =>
    simp only [zstep, znx, zLd, zSt, zi2, zl2, zf2, zd2, zjmp, zldc, zcat2] at hs ⊢
    repeat' split at hs
    all_goals first | (cases hs; exact ⟨rfl, by simp_all [zsetM]⟩) | (cases hs; exact ⟨trivial, by simp_all [zsetM]⟩) | cases hs
  | fstore_n a0 =>
    simp only [zstep, znx, zLd, zSt, zi2, zl2, zf2, zd2, zjmp, zldc, zcat2] at hs ⊢
    repeat' split at hs
    all_goals first | (cases hs; exact ⟨rfl, by simp_all [zsetM]⟩) | (cases hs; exact ⟨trivial, by simp_all [zsetM]⟩) | cases hs
  | dstore a0 =>
    simp only [zstep, znx, zLd, zSt, zi2, zl2, zf2, zd2, zjmp, zldc, zcat2] at hs ⊢
    repeat' split at hs
    all_goals first | (cases hs; exact ⟨rfl, by simp_all [zsetM]⟩) | (cases hs; exact ⟨trivial, by simp_all [zsetM]⟩) | cases hs
  | dstore_n a0 =>
    simp only [zstep, znx, zLd, zSt, zi2, zl2, zf2, zd2, zjmp, zldc, zcat2] at hs ⊢
    repeat' split at hs
    all_goals first | (cases hs; exact ⟨rfl, by simp_all [zsetM]⟩) | (cases hs; exact ⟨trivial, by simp_all [zsetM]⟩) | cases hs
  | astore a0 =>
    simp only [zstep, znx, zLd, zSt, zi2, zl2, zf2, zd2, zjmp, zldc, zcat2] at hs ⊢
    repeat' split at hs
    all_goals first | (cases hs; exact ⟨rfl, by simp_all [zsetM]⟩) | (cases hs; exact ⟨trivial, by simp_all [zsetM]⟩) | cases hs
  | astore_n a0 =>
    simp only [zstep, znx, zLd, zSt, zi2, zl2, zf2, zd2, zjmp, zldc, zcat2] at hs ⊢
    repeat' split at hs
    all_goals first | (cases hs; exact ⟨rfl, by simp_all [zsetM]⟩) | (cases hs; exact ⟨trivial, by simp_all [zsetM]⟩) | cases hs
  | iinc a0 a1 =>
    simp only [zstep, znx, zLd, zSt, zi2, zl2, zf2, zd2, zjmp, zldc, zcat2] at hs ⊢
    repeat' split at hs
    all_goals first | (cases hs; exact ⟨rfl, by simp_all [zsetM]⟩) | (cases hs; exact ⟨trivial, by simp_all [zsetM]⟩) | cases hs
  | iadd =>
    simp only [zstep, znx, zLd, zSt, zi2, zl2, zf2, zd2, zjmp, zldc, zcat2] at hs ⊢
    repeat' split at hs
    all_goals first | (cases hs; exact ⟨rfl, by simp_all [zsetM]⟩) | (cases hs; exact ⟨trivial, by simp_all [zsetM]⟩) | cases hs
  | isub =>
    simp only [zstep, znx, zLd, zSt, zi2, zl2, zf2, zd2, zjmp, zldc, zcat2] at hs ⊢
    repeat' split at hs
    all_goals first | (cases hs; exact ⟨rfl, by simp_all [zsetM]⟩) | (cases hs; exact ⟨trivial, by simp_all [zsetM]⟩) | cases hs
  | imul =>
    simp only [zstep, znx, zLd, zSt, zi2, zl2, zf2, zd2, zjmp, zldc, zcat2] at hs ⊢
    repeat' split at hs
    all_goals first | (cases hs; exact ⟨rfl, by simp_all [zsetM]⟩) | (cases hs; exact ⟨trivial, by simp_all [zsetM]⟩) | cases hs
  | iand =>
    simp only [zstep, znx, zLd, zSt, zi2, zl2, zf2, zd2, zjmp, zldc, zcat2] at hs ⊢
    repeat' split at hs
    all_goals first | (cases hs; exact ⟨rfl, by simp_all [zsetM]⟩) | (cases hs; exact ⟨trivial, by simp_all [zsetM]⟩) | cases hs
  | ior =>
    simp only [zstep, znx, zLd, zSt, zi2, zl2, zf2, zd2, zjmp, zldc, zcat2] at hs ⊢
    repeat' split at hs
    all_goals first | (cases hs; exact ⟨rfl, by simp_all [zsetM]⟩) | (cases hs; exact ⟨trivial, by simp_all [zsetM]⟩) | cases hs
  | ixor =>
    simp only [zstep, znx, zLd, zSt, zi2, zl2, zf2, zd2, zjmp, zldc, zcat2] at hs ⊢
    repeat' split at hs
    all_goals first | (cases hs; exact ⟨rfl, by simp_all [zsetM]⟩) | (cases hs; exact ⟨trivial, by simp_all [zsetM]⟩) | cases hs
  | ishl =>
    simp only [zstep, znx, zLd, zSt, zi2, zl2, zf2, zd2, zjmp, zldc, zcat2] at hs ⊢
    repeat' split at hs
    all_goals first | (cases hs; exact ⟨rfl, by simp_all [zsetM]⟩) | (cases hs; exact ⟨trivial, by simp_all [zsetM]⟩) | cases hs
  | ishr =>
    simp only [zstep, znx, zLd, zSt, zi2, zl2, zf2, zd2, zjmp, zldc, zcat2] at hs ⊢
    repeat' split at hs
    all_goals first | (cases hs; exact ⟨rfl, by simp_all [zsetM]⟩) | (cases hs; exact ⟨trivial, by simp_all [zsetM]⟩) | cases hs
  | iushr =>
    simp only [zstep, znx, zLd, zSt, zi2, zl2, zf2, zd2, zjmp, zldc, zcat2] at hs ⊢
    repeat' split at hs
    all_goals first | (cases hs; exact ⟨rfl, by simp_all [zsetM]⟩) | (cases hs; exact ⟨trivial, by simp_all [zsetM]⟩) | cases hs
  | idiv =>
    simp only [zstep, znx, zLd, zSt, zi2, zl2, zf2, zd2, zjmp, zldc, zcat2] at hs ⊢
    repeat' split at hs
    all_goals first | (cases hs; exact ⟨rfl, by simp_all [zsetM]⟩) | (cases hs; exact ⟨trivial, by simp_all [zsetM]⟩) | cases hs
  | irem =>
    simp only [zstep, znx, zLd, zSt, zi2, zl2, zf2, zd2, zjmp, zldc, zcat2] at hs ⊢
    repeat' split at hs
    all_goals first | (cases hs; exact ⟨rfl, by simp_all [zsetM]⟩) | (cases hs; exact ⟨trivial, by simp_all [zsetM]⟩) | cases hs
  | ladd =>
    simp only [zstep, znx, zLd, zSt, zi2, zl2, zf2, zd2, zjmp, zldc, zcat2] at hs ⊢
    repeat' split at hs
    all_goals first | (cases hs; exact ⟨rfl, by simp_all [zsetM]⟩) | (cases hs; exact ⟨trivial, by simp_all [zsetM]⟩) | cases hs
  | lmul =>
    simp only [zstep, znx, zLd, zSt, zi2, zl2, zf2, zd2, zjmp, zldc, zcat2] at hs ⊢
    repeat' split at hs
    all_goals first | (cases hs; exact ⟨rfl, by simp_all [zsetM]⟩) | (cases hs; exact ⟨trivial, by simp_all [zsetM]⟩) | cases hs
  | lor =>
    simp only [zstep, znx, zLd, zSt, zi2, zl2, zf2, zd2, zjmp, zldc, zcat2] at hs ⊢
    repeat' split at hs
    all_goals first | (cases hs; exact ⟨rfl, by simp_all [zsetM]⟩) | (cases hs; exact ⟨trivial, by simp_all [zsetM]⟩) | cases hs
  | lxor =>
    simp only [zstep, znx, zLd, zSt, zi2, zl2, zf2, zd2, zjmp, zldc, zcat2] at hs ⊢
    repeat' split at hs
    all_goals first | (cases hs; exact ⟨rfl, by simp_all [zsetM]⟩) | (cases hs; exact ⟨trivial, by simp_all [zsetM]⟩) | cases hs
  | ineg =>
    simp only [zstep, znx, zLd, zSt, zi2, zl2, zf2, zd2, zjmp, zldc, zcat2] at hs ⊢
    repeat' split at hs
    all_goals first | (cases hs; exact ⟨rfl, by simp_all [zsetM]⟩) | (cases hs; exact ⟨trivial, by simp_all [zsetM]⟩) | cases hs
  | lshl =>
    simp only [zstep, znx, zLd, zSt, zi2, zl2, zf2, zd2, zjmp, zldc, zcat2] at hs ⊢
    repeat' split at hs
    all_goals first | (cases hs; exact ⟨rfl, by simp_all [zsetM]⟩) | (cases hs; exact ⟨trivial, by simp_all [zsetM]⟩) | cases hs
  | lushr =>
    simp only [zstep, znx, zLd, zSt, zi2, zl2, zf2, zd2, zjmp, zldc, zcat2] at hs ⊢
    repeat' split at hs
    all_goals first | (cases hs; exact ⟨rfl, by simp_all [zsetM]⟩) | (cases hs; exact ⟨trivial, by simp_all [zsetM]⟩) | cases hs
  | i2l =>
    simp only [zstep, znx, zLd, zSt, zi2, zl2, zf2, zd2, zjmp, zldc, zcat2] at hs ⊢
    repeat' split at hs
    all_goals first | (cases hs; exact ⟨rfl, by simp_all [zsetM]⟩) | (cases hs; exact ⟨trivial, by simp_all [zsetM]⟩) | cases hs
  | i2f =>
    simp only [zstep, znx, zLd, zSt, zi2, zl2, zf2, zd2, zjmp, zldc, zcat2] at hs ⊢
    repeat' split at hs
    all_goals first | (cases hs; exact ⟨rfl, by simp_all [zsetM]⟩) | (cases hs; exact ⟨trivial, by simp_all [zsetM]⟩) | cases hs
  | i2d =>
    simp only [zstep, znx, zLd, zSt, zi2, zl2, zf2, zd2, zjmp, zldc, zcat2] at hs ⊢
    repeat' split at hs
    all_goals first | (cases hs; exact ⟨rfl, by simp_all [zsetM]⟩) | (cases hs; exact ⟨trivial, by simp_all [zsetM]⟩) | cases hs
  | f2i =>
    simp only [zstep, znx, zLd, zSt, zi2, zl2, zf2, zd2, zjmp, zldc, zcat2] at hs ⊢
    repeat' split at hs
    all_goals first | (cases hs; exact ⟨rfl, by simp_all [zsetM]⟩) | (cases hs; exact ⟨trivial, by simp_all [zsetM]⟩) | cases hs
  | d2l =>
    simp only [zstep, znx, zLd, zSt, zi2, zl2, zf2, zd2, zjmp, zldc, zcat2] at hs ⊢
    repeat' split at hs
    all_goals first | (cases hs; exact ⟨rfl, by simp_all [zsetM]⟩) | (cases hs; exact ⟨trivial, by simp_all [zsetM]⟩) | cases hs
  | lcmp =>
    simp only [zstep, znx, zLd, zSt, zi2, zl2, zf2, zd2, zjmp, zldc, zcat2] at hs ⊢
    repeat' split at hs
    all_goals first | (cases hs; exact ⟨rfl, by simp_all [zsetM]⟩) | (cases hs; exact ⟨trivial, by simp_all [zsetM]⟩) | cases hs
  | i2c =>
    simp only [zstep, znx, zLd, zSt, zi2, zl2, zf2, zd2, zjmp, zldc, zcat2] at hs ⊢
    repeat' split at hs
    all_goals first | (cases hs; exact ⟨rfl, by simp_all [zsetM]⟩) | (cases hs; exact ⟨trivial, by simp_all [zsetM]⟩) | cases hs
  | fcmp a0 =>
    simp only [zstep, znx, zLd, zSt, zi2, zl2, zf2, zd2, zjmp, zldc, zcat2] at hs ⊢
    repeat' split at hs
    all_goals first | (cases hs; exact ⟨rfl, by simp_all [zsetM]⟩) | (cases hs; exact ⟨trivial, by simp_all [zsetM]⟩) | cases hs
  | dcmp a0 =>
    simp only [zstep, znx, zLd, zSt, zi2, zl2, zf2, zd2, zjmp, zldc, zcat2] at hs ⊢
    repeat' split at hs
    all_goals first | (cases hs; exact ⟨rfl, by simp_all [zsetM]⟩) | (cases hs; exact ⟨trivial, by simp_all [zsetM]⟩) | cases hs
  | fmul =>
    simp only [zstep, znx, zLd, zSt, zi2, zl2, zf2, zd2, zjmp, zldc, zcat2] at hs ⊢
    repeat' split at hs
    all_goals first | (cases hs; exact ⟨rfl, by simp_all [zsetM]⟩) | (cases hs; exact ⟨trivial, by simp_all [zsetM]⟩) | cases hs
  | fdiv =>
    simp only [zstep, znx, zLd, zSt, zi2, zl2, zf2, zd2, zjmp, zldc, zcat2] at hs ⊢
    repeat' split at hs
    all_goals first | (cases hs; exact ⟨rfl, by simp_all [zsetM]⟩) | (cases hs; exact ⟨trivial, by simp_all [zsetM]⟩) | cases hs
  | fsub =>
    simp only [zstep, znx, zLd, zSt, zi2, zl2, zf2, zd2, zjmp, zldc, zcat2] at hs ⊢
    repeat' split at hs
    all_goals first | (cases hs; exact ⟨rfl, by simp_all [zsetM]⟩) | (cases hs; exact ⟨trivial, by simp_all [zsetM]⟩) | cases hs
  | dmul =>
    simp only [zstep, znx, zLd, zSt, zi2, zl2, zf2, zd2, zjmp, zldc, zcat2] at hs ⊢
    repeat' split at hs
    all_goals first | (cases hs; exact ⟨rfl, by simp_all [zsetM]⟩) | (cases hs; exact ⟨trivial, by simp_all [zsetM]⟩) | cases hs
  | ddiv =>
    simp only [zstep, znx, zLd, zSt, zi2, zl2, zf2, zd2, zjmp, zldc, zcat2] at hs ⊢
    repeat' split at hs
    all_goals first | (cases hs; exact ⟨rfl, by simp_all [zsetM]⟩) | (cases hs; exact ⟨trivial, by simp_all [zsetM]⟩) | cases hs
  | dsub =>
    simp only [zstep, znx, zLd, zSt, zi2, zl2, zf2, zd2, zjmp, zldc, zcat2] at hs ⊢
    repeat' split at hs
    all_goals first | (cases hs; exact ⟨rfl, by simp_all [zsetM]⟩) | (cases hs; exact ⟨trivial, by simp_all [zsetM]⟩) | cases hs
  | dup =>
    simp only [zstep, znx, zLd, zSt, zi2, zl2, zf2, zd2, zjmp, zldc, zcat2] at hs ⊢
    repeat' split at hs
    all_goals first | (cases hs; exact ⟨rfl, by simp_all [zsetM]⟩) | (cases hs; exact ⟨trivial, by simp_all [zsetM]⟩) | cases hs
  | pop =>
    simp only [zstep, znx, zLd, zSt, zi2, zl2, zf2, zd2, zjmp, zldc, zcat2] at hs ⊢
    repeat' split at hs
    all_goals first | (cases hs; exact ⟨rfl, by simp_all [zsetM]⟩) | (cases hs; exact ⟨trivial, by simp_all [zsetM]⟩) | cases hs
  | dup2 =>
    simp only [zstep, znx, zLd, zSt, zi2, zl2, zf2, zd2, zjmp, zldc, zcat2] at hs ⊢
    repeat' split at hs
    all_goals first | (cases hs; exact ⟨rfl, by simp_all [zsetM]⟩) | (cases hs; exact ⟨trivial, by simp_all [zsetM]⟩) | cases hs
  | goto a0 =>
    simp only [zstep, znx, zLd, zSt, zi2, zl2, zf2, zd2, zjmp, zldc, zcat2] at hs ⊢
    repeat' split at hs
    all_goals first | (cases hs; exact ⟨rfl, by simp_all [zsetM]⟩) | (cases hs; exact ⟨trivial, by simp_all [zsetM]⟩) | cases hs
  | ifCond a0 a1 =>
    simp only [zstep, znx, zLd, zSt, zi2, zl2, zf2, zd2, zjmp, zldc, zcat2] at hs ⊢
    repeat' split at hs
    all_goals first | (cases hs; exact ⟨rfl, by simp_all [zsetM]⟩) | (cases hs; exact ⟨trivial, by simp_all [zsetM]⟩) | cases hs
  | if_icmp a0 a1 =>
    simp only [zstep, znx, zLd, zSt, zi2, zl2, zf2, zd2, zjmp, zldc, zcat2] at hs ⊢
    repeat' split at hs
    all_goals first | (cases hs; exact ⟨rfl, by simp_all [zsetM]⟩) | (cases hs; exact ⟨trivial, by simp_all [zsetM]⟩) | cases hs
  | tableswitch a0 a1 a2 a3 =>
    simp only [zstep, znx, zLd, zSt, zi2, zl2, zf2, zd2, zjmp, zldc, zcat2] at hs ⊢
    repeat' split at hs
    all_goals first | (cases hs; exact ⟨rfl, by simp_all [zsetM]⟩) | (cases hs; exact ⟨trivial, by simp_all [zsetM]⟩) | cases hs
  | lookupswitch a0 a1 =>
    simp only [zstep, znx, zLd, zSt, zi2, zl2, zf2, zd2, zjmp, zldc, zcat2] at hs ⊢
    repeat' split at hs
    all_goals first | (cases hs; exact ⟨rfl, by simp_all [zsetM]⟩) | (cases hs; exact ⟨trivial, by simp_all [zsetM]⟩) | cases hs
  | aaload =>
    simp only [zstep, znx, zLd, zSt, zi2, zl2, zf2, zd2, zjmp, zldc, zcat2] at hs ⊢
    repeat' split at hs
    all_goals first | (cases hs; exact ⟨rfl, by simp_all [zsetM]⟩) | (cases hs; exact ⟨trivial, by simp_all [zsetM]⟩) | cases hs
  | arraylength =>
    simp only [zstep, znx, zLd, zSt, zi2, zl2, zf2, zd2, zjmp, zldc, zcat2] at hs ⊢
    repeat' split at hs
    all_goals first | (cases hs; exact ⟨rfl, by simp_all [zsetM]⟩) | (cases hs; exact ⟨trivial, by simp_all [zsetM]⟩) | cases hs
  | ireturn =>
    simp only [zstep, znx, zLd, zSt, zi2, zl2, zf2, zd2, zjmp, zldc, zcat2] at hs ⊢
    repeat' split at hs
    all_goals first | (cases hs; exact ⟨rfl, by simp_all [zsetM]⟩) | (cases hs; exact ⟨trivial, by simp_all [zsetM]⟩) | cases hs
  | lreturn =>
    simp only [zstep, znx, zLd, zSt, zi2, zl2, zf2, zd2, zjmp, zldc, zcat2] at hs ⊢
    repeat' split at hs
    all_goals first | (cases hs; exact ⟨rfl, by simp_all [zsetM]⟩) | (cases hs; exact ⟨trivial, by simp_all [zsetM]⟩) | cases hs
  | freturn =>
    simp only [zstep, znx, zLd, zSt, zi2, zl2, zf2, zd2, zjmp, zldc, zcat2] at hs ⊢
    repeat' split at hs
    all_goals first | (cases hs; exact ⟨rfl, by simp_all [zsetM]⟩) | (cases hs; exact ⟨trivial, by simp_all [zsetM]⟩) | cases hs
  | dreturn =>
    simp only [zstep, znx, zLd, zSt, zi2, zl2, zf2, zd2, zjmp, zldc, zcat2] at hs ⊢
    repeat' split at hs
    all_goals first | (cases hs; exact ⟨rfl, by simp_all [zsetM]⟩) | (cases hs; exact ⟨trivial, by simp_all [zsetM]⟩) | cases hs
  | areturn =>
    simp only [zstep, znx, zLd, zSt, zi2, zl2, zf2, zd2, zjmp, zldc, zcat2] at hs ⊢
    repeat' split at hs
    all_goals first | (cases hs; exact ⟨rfl, by simp_all [zsetM]⟩) | (cases hs; exact ⟨trivial, by simp_all [zsetM]⟩) | cases hs
  | return_ =>
    simp only [zstep, znx, zLd, zSt, zi2, zl2, zf2, zd2, zjmp, zldc, zcat2] at hs ⊢
    repeat' split at hs
    all_goals first | (cases hs; exact ⟨rfl, by simp_all [zsetM]⟩) | (cases hs; exact ⟨trivial, by simp_all [zsetM]⟩) | cases hs
  | new a0 =>
    simp only [zstep, znx, zLd, zSt, zi2, zl2, zf2, zd2, zjmp, zldc, zcat2] at hs ⊢
    repeat' split at hs
    all_goals first | (cases hs; exact ⟨rfl, by simp_all [zsetM]⟩) | (cases hs; exact ⟨trivial, by simp_all [zsetM]⟩) | cases hs
  | getfield a0 => cases hf
  | putfield a0 => cases hf
  | iaload => cases hf
  | caload => cases hf
  | iastore => cases hf
  | castore => cases hf
  | invokestatic a0 => cases hf
  | invokevirtual a0 => cases hf
  | _ => simp [zstep] at hs
theorem zprim_mono {c : Nat} {r : zRes} (h : zle I J) (hs : zprim dy c pc ls st I = some r) : ∃ r', zprim dy c pc ls st J = some r' ∧ zrs I J r r' := by
  unfold zprim at hs ⊢
  split at hs
  · try simp only
    split at hs
    · rename_i x t
      try simp only
      split at hs
      · rename_i m hx hm
        try rw [hx]
        try rw [h _ _ _ hm]
        try simp only
        split at hs
        · rename_i hn
          try rw [hn]
          cases hs
          exact ⟨_, rfl, _, rfl, zup_mr (zfold_mr _ _ (zmr_refl h)) _ _ _, zup_kn (zfold_kn _ _ (zkn_refl I)) _ _ _⟩
        · cases hs
      · cases hs
    · cases hs
  · try simp only
    split at hs
    · rename_i x t
      try simp only
      split at hs
      · rename_i m hx hm
        try rw [hx]
        try rw [h _ _ _ hm]
        try simp only
        split at hs
        · rename_i hn
          try rw [hn]
          cases hs
          exact ⟨_, rfl, _, rfl, zup_mr (zup_mr (zmr_refl h) _ _ _) _ _ _, zup_kn (zup_kn (zkn_refl I) _ _ _) _ _ _⟩
        · cases hs
      · cases hs
    · cases hs
  · try simp only
    split at hs
    · rename_i x t
      try simp only
      split at hs
      · rename_i hx
        try rw [hx]
        cases hs
        exact ⟨_, rfl, _, rfl, zup_mr (zmr_refl h) _ _ _, zup_kn (zkn_refl I) _ _ _⟩
      · cases hs
    · cases hs
  · try simp only
    split at hs
    · rename_i t
      try simp only
      split at hs
      · rename_i m hm
        try rw [h _ _ _ hm]
        cases hs
        exact ⟨_, rfl, _, rfl, zmr_refl h, zkn_refl I⟩
      · cases hs
    · cases hs
  · try simp only
    split at hs
    · rename_i i t
      try simp only
      split at hs
      · rename_i m x hm hx
        try rw [h _ _ _ hm]
        try rw [h _ _ _ hx]
        try simp only
        split at hs
        · rename_i hd
          try rw [hd]
          cases hs
          exact ⟨_, rfl, _, rfl, zmr_refl h, zkn_refl I⟩
        · cases hs
      · cases hs
    · cases hs
  · try simp only
    split at hs
    · rename_i a t
      try simp only
      split at hs
      · rename_i u hu
        try rw [hu]
        cases hs
        exact ⟨_, rfl, _, rfl, zmr_refl h, zkn_refl I⟩
      · cases hs
    · cases hs
  · try simp only
    split at hs
    · rename_i i a t
      try simp only
      split at hs
      · rename_i u hu
        try rw [hu]
        try simp only
        split at hs
        · rename_i x hd hx
          try rw [hd]
          try rw [hx]
          cases hs
          exact ⟨_, rfl, _, rfl, zmr_refl h, zkn_refl I⟩
        · cases hs
      · cases hs
    · cases hs
  · cases hs
theorem zstep_mono {i : Instr} {r : zRes} (h : zle I J) (hs : zstep sl dy mi pc (i, len, r1, r2, r3) ls st I = some r) : ∃ r', zstep sl dy mi pc (i, len, r1, r2, r3) ls st J = some r' ∧ zrs I J r r' := by
  cases hf : zfreeI i with
  | true =>
    obtain ⟨h1, h2⟩ := zfree_of (J := J) hf hs
    exact ⟨_, h2, zrs_free h h1⟩
  | false =>
    cases i with
    | getfield a0 =>
      simp only [zstep] at hs ⊢
      split at hs
      · rename_i a t
        try simp only
        split at hs
        · rename_i k m hk
          try rw [hk]
          try simp only
          split at hs
          · rename_i hb
            try rw [hb]
            try simp only
            split at hs
            · rename_i hz
              try rw [hz]
              try simp only
              split at hs
              · rename_i q hq
                try rw [hq]
                cases hs
                exact ⟨_, rfl, _, rfl, zmr_refl h, zkn_refl I⟩
              · cases hs
            · rename_i hz
              try rw [hz]
              try simp only
              split at hs
              · rename_i x hx
                try rw [h _ _ _ hx]
                cases hs
                exact ⟨_, rfl, _, rfl, zmr_refl h, zkn_refl I⟩
              · cases hs
          · cases hs
        · cases hs
      · cases hs
    | putfield a0 =>
      simp only [zstep] at hs ⊢
      split at hs
      · rename_i x a t
        try simp only
        split at hs
        · rename_i k m hk
          try rw [hk]
          try simp only
          split at hs
          · rename_i hb
            try rw [hb]
            cases hs
            exact ⟨_, rfl, _, rfl, zup_mr (zmr_refl h) _ _ _, zup_kn (zkn_refl I) _ _ _⟩
          · cases hs
        · cases hs
      · cases hs
    | iaload =>
      simp only [zstep] at hs ⊢
      split at hs
      · rename_i i a t
        try simp only
        split at hs
        · rename_i k m hk
          try rw [hk]
          try simp only
          split at hs
          · rename_i x hb hx
            try rw [hb]
            try rw [h _ _ _ hx]
            cases hs
            exact ⟨_, rfl, _, rfl, zmr_refl h, zkn_refl I⟩
          · cases hs
        · cases hs
      · cases hs
    | caload =>
      simp only [zstep] at hs ⊢
      split at hs
      · rename_i i a t
        try simp only
        split at hs
        · rename_i k m hk
          try rw [hk]
          try simp only
          split at hs
          · rename_i x hb hx
            try rw [hb]
            try rw [h _ _ _ hx]
            cases hs
            exact ⟨_, rfl, _, rfl, zmr_refl h, zkn_refl I⟩
          · cases hs
        · cases hs
      · cases hs
    | iastore =>
      simp only [zstep] at hs ⊢
      split at hs
      · rename_i x i a t
        try simp only
        split at hs
        · rename_i k m hk
          try rw [hk]
          try simp only
          split at hs
          · rename_i hb
            try rw [hb]
            cases hs
            exact ⟨_, rfl, _, rfl, zup_mr (zmr_refl h) _ _ _, zup_kn (zkn_refl I) _ _ _⟩
          · cases hs
        · cases hs
      · cases hs
    | castore =>
      simp only [zstep] at hs ⊢
      split at hs
      · rename_i x i a t
        try simp only
        split at hs
        · rename_i k m hk
          try rw [hk]
          try simp only
          split at hs
          · rename_i hb
            try rw [hb]
            cases hs
            exact ⟨_, rfl, _, rfl, zup_mr (zmr_refl h) _ _ _, zup_kn (zkn_refl I) _ _ _⟩
          · cases hs
        · cases hs
      · cases hs
    | invokestatic a0 =>
      simp only [zstep] at hs ⊢
      split at hs
      · try simp only
        exact ⟨r, hs, by obtain ⟨-, -, -, -, rfl⟩ := zcall_inv hs; rfl⟩
      · try simp only
        exact ⟨r, hs, by obtain ⟨-, -, -, -, rfl⟩ := zcall_inv hs; rfl⟩
      · try simp only
        exact ⟨r, hs, by obtain ⟨-, -, -, -, rfl⟩ := zcall_inv hs; rfl⟩
      · try simp only
        split at hs
        · rename_i c dd ss t
          try simp only
          split at hs
          · rename_i ns nd h1 h2
            try rw [h1]
            try rw [h2]
            try simp only
            split at hs
            · rename_i hb
              have hb2 := hb
              simp only [Bool.and_eq_true] at hb2
              have hall : (List.range c.toNatClampNeg).all (fun j => (J ss j).isSome) = true := by
                refine List.all_eq_true.mpr fun j hj => ?_
                obtain ⟨y, hy⟩ := Option.isSome_iff_exists.mp (List.all_eq_true.mp hb2.2 j hj)
                try rw [h _ _ _ hy]
                rfl
              rw [show (decide (0 ≤ c) && Nat.ble c.toNatClampNeg ns && Nat.ble c.toNatClampNeg nd && !(Nat.beq ss dd) && zsm t && (List.range c.toNatClampNeg).all (fun j => (J ss j).isSome)) = true from by
                try rw [hall]
                simp only [Bool.and_eq_true]
                exact ⟨hb2.1, trivial⟩]
              cases hs
              obtain ⟨g1, g2⟩ := zcpm_mr h ss dd c.toNatClampNeg hb2.2
              exact ⟨_, rfl, _, rfl, g1, g2⟩
            · cases hs
          · cases hs
        · cases hs
      · try simp only
        split at hs
        · split at hs
          · rename_i hm
            try rw [hm]
            obtain ⟨x, y, r0, rfl, rfl⟩ := zi2_inv hs
            exact ⟨_, rfl, _, rfl, zmr_refl h, zkn_refl _⟩
          · cases hs
        · split at hs
          · rename_i hm
            try rw [hm]
            obtain ⟨x, y, r0, rfl, rfl⟩ := zi2_inv hs
            exact ⟨_, rfl, _, rfl, zmr_refl h, zkn_refl _⟩
          · cases hs
        · split at hs
          · rename_i x t
            try simp only
            split at hs
            · rename_i hm
              try rw [hm]
              cases hs
              exact ⟨_, rfl, _, rfl, zmr_refl h, zkn_refl _⟩
            · cases hs
          · cases hs
        · cases hs
      · cases hs
    | invokevirtual a0 =>
      simp only [zstep] at hs ⊢
      split at hs
      · try simp only
        split at hs
        · rename_i hw
          try rw [hw]
          try simp only
          split at hs
          · rename_i hr
            try rw [hr]
            exact ⟨r, hs, by obtain ⟨-, -, -, -, rfl⟩ := zcall_inv hs; rfl⟩
          · cases hs
        · rename_i hw
          try rw [hw]
          try simp only
          split at hs
          · rename_i hm
            try rw [hm]
            exact zprim_mono h hs
          · cases hs
      · cases hs
    | _ => cases hf
theorem zmono {sl : Nat} : ∀ (N : Nat) {D dy mi pc : Nat} {ls : zLs} {st : List Value} {I J : zM} {o : zO4}, zle I J → zrun sl N D dy mi pc ls st I = some o → ∃ J', zrun sl N D dy mi pc ls st J = some (o.1, o.2.1, J', o.2.2.2) ∧ zmr o.2.2.1 J J' ∧ zkn I o.2.2.1 := by
  intro N
  induction N with
  | zero => intro D dy mi pc ls st I J o _ h; simp [zrun] at h
  | succ N ih =>
    intro D dy mi pc ls st I J o hIJ h
    unfold zrun at h ⊢
    cases hl : zl mi pc with
    | none => rw [hl] at h; simp at h
    | some e =>
      obtain ⟨i, len, r1, r2, r3⟩ := e
      rw [hl] at h
      simp only at h ⊢
      cases hs : zstep sl dy mi pc (i, len, r1, r2, r3) ls st I with
      | none => rw [hs] at h; simp at h
      | some r =>
        rw [hs] at h
        obtain ⟨r', hs', hr⟩ := zstep_mono hIJ hs
        rw [hs']
        rcases r with ⟨pc', ls', st', I', u⟩ | v | c | ⟨m, pc', la, st', u0⟩
        · obtain ⟨J', rfl, m1, k1⟩ := hr
          simp only [Option.map_eq_some_iff] at h ⊢
          obtain ⟨q, h1, rfl⟩ := h
          obtain ⟨J2, g1, g2, g3⟩ := ih m1.1 h1
          exact ⟨J2, ⟨_, g1, rfl⟩, zmr_comp m1 g3 g2, zkn_trans k1 g3⟩
        · cases (show r' = .inr (.inl v) from hr)
          cases h
          exact ⟨J, rfl, zmr_refl hIJ, zkn_refl I⟩
        · cases (show r' = .inr (.inr (.inl c)) from hr)
          cases h
          exact ⟨J, rfl, zmr_refl hIJ, zkn_refl I⟩
        · cases (show r' = .inr (.inr (.inr (m, pc', la, st', u0))) from hr)
          cases D with
          | zero => simp at h
          | succ D =>
            simp only at h ⊢
            cases hc : zrun sl N D (zdy u0 dy la) m 0 la [] I with
            | none => rw [hc] at h; simp at h
            | some q =>
              rw [hc] at h
              obtain ⟨J1, g1, g2, g3⟩ := ih hIJ hc
              rw [g1]
              obtain ⟨c, v, I', u⟩ := q
              cases c with
              | zero =>
                simp only at h ⊢
                cases hg : zgd u0 v with
                | false => rw [hg] at h; cases h
                | true =>
                  rw [hg] at h
                  simp only [Option.map_eq_some_iff] at h ⊢
                  obtain ⟨q, h1, rfl⟩ := h
                  obtain ⟨J2, f1, f2, f3⟩ := ih g2.1 h1
                  exact ⟨J2, ⟨_, f1, rfl⟩, zmr_comp g2 f3 f2, zkn_trans g3 f3⟩
              | succ c =>
                simp only at h ⊢
                cases hy : zhd c pc (zH mi) with
                | none =>
                  rw [hy] at h
                  simp only at h ⊢
                  cases ha : zany pc (zH mi) with
                  | true => rw [ha] at h; cases h
                  | false =>
                    rw [ha] at h
                    cases h
                    exact ⟨J1, rfl, g2, g3⟩
                | some hh =>
                  rw [hy] at h
                  simp only at h ⊢
                  cases hz : zcat3 mi pc c ls with
                  | none => rw [hz] at h; cases h
                  | some w =>
                    rw [hz] at h
                    obtain ⟨pc2, ls2⟩ := w
                    simp only [Option.map_eq_some_iff] at h ⊢
                    obtain ⟨q, h1, rfl⟩ := h
                    obtain ⟨J2, f1, f2, f3⟩ := ih g2.1 h1
                    exact ⟨J2, ⟨_, f1, rfl⟩, zmr_comp g2 f3 f2, zkn_trans g3 f3⟩
end ZMONO
