/-! THE SIMULATION: a run of the interpreter is a run of the machine -/
theorem zcall_inv {c pc k : Nat} {st : List Value} {r : zRes} (h : zcall c pc k st = some r) : zwalk c = true ∧ zsm (st.drop k) = true ∧ k ≤ st.length ∧ zcat (st.take k) ≤ zL c ∧ r = .inr (.inr (.inr (c, pc, lv_args 0 (st.take k).reverse, st.drop k, 0))) := by
  unfold zcall at h
  split at h
  · rename_i hb
    simp only [Bool.and_eq_true] at hb
    exact ⟨hb.1.1.1, hb.1.1.2, Nat.le_of_ble_eq_true hb.1.2, Nat.le_of_ble_eq_true hb.2, (Option.some.inj h).symm⟩
  · cases h
def zisI : zRes → Bool
  | .inl _ => true
  | _ => false
theorem zprim_shape {dy c pc : Nat} {ls : zLs} {st : List Value} {I : zM} {r : zRes} (h : zprim dy c pc ls st I = some r) : zisI r = true := by
  unfold zprim znx at h
  repeat' split at h
  all_goals first | (cases h; rfl) | cases h
def zshape (i : Instr) (r : zRes) : Bool := match i with
  | .ireturn | .lreturn | .freturn | .dreturn | .areturn | .return_ => match r with
    | .inr (.inl _) => true
    | _ => false
  | .new _ => match r with
    | .inr (.inr _) => true
    | _ => false
  | .invokestatic _ | .invokevirtual _ => match r with
    | .inl _ => true
    | .inr (.inr (.inr _)) => true
    | _ => false
  | _ => zisI r
theorem zshape_of {sl dy mi pc len r1 r2 r3 : Nat} {i : Instr} {ls : zLs} {st : List Value} {I : zM} {r : zRes} (hs : zstep sl dy mi pc (i, len, r1, r2, r3) ls st I = some r) : zshape i r = true := by
  cases i with
  | iconst a0 => cases hs; rfl
  | bipush a0 => cases hs; rfl
  | sipush a0 => cases hs; rfl
  | lconst a0 => cases hs; rfl
  | fconst a0 => 
    match a0, hs with
    | 0, hs => cases hs; rfl
    | 1, hs => cases hs; rfl
    | 2, hs => cases hs; rfl
  | dconst a0 => 
    match a0, hs with
    | 0, hs => cases hs; rfl
    | 1, hs => cases hs; rfl
  | ldc a0 => rcases zldc_inv hs with ⟨-, rfl⟩ | ⟨-, rfl⟩ | ⟨-, rfl⟩ <;> rfl
  | ldc_w a0 => rcases zldc_inv hs with ⟨-, rfl⟩ | ⟨-, rfl⟩ | ⟨-, rfl⟩ <;> rfl
  | ldc2_w a0 => 
    simp only [zstep, znx, zjmp] at hs
    repeat' split at hs
    all_goals first | (cases hs; rfl) | cases hs
  | iload a0 => obtain ⟨v, -, -, rfl⟩ := zLd_inv hs; rfl
  | iload_n a0 => obtain ⟨v, -, -, rfl⟩ := zLd_inv hs; rfl
  | lload a0 => obtain ⟨v, -, -, rfl⟩ := zLd_inv hs; rfl
  | lload_n a0 => obtain ⟨v, -, -, rfl⟩ := zLd_inv hs; rfl
  | fload a0 => obtain ⟨v, -, -, rfl⟩ := zLd_inv hs; rfl
  | fload_n a0 => obtain ⟨v, -, -, rfl⟩ := zLd_inv hs; rfl
  | dload a0 => obtain ⟨v, -, -, rfl⟩ := zLd_inv hs; rfl
  | dload_n a0 => obtain ⟨v, -, -, rfl⟩ := zLd_inv hs; rfl
  | aload a0 => obtain ⟨v, -, -, rfl⟩ := zLd_inv hs; rfl
  | aload_n a0 => obtain ⟨v, -, -, rfl⟩ := zLd_inv hs; rfl
  | istore a0 => obtain ⟨v, r0, -, -, -, rfl⟩ := zSt_inv hs; rfl
  | istore_n a0 => obtain ⟨v, r0, -, -, -, rfl⟩ := zSt_inv hs; rfl
  | lstore a0 => obtain ⟨v, r0, -, -, -, rfl⟩ := zSt_inv hs; rfl
  | lstore_n a0 => obtain ⟨v, r0, -, -, -, rfl⟩ := zSt_inv hs; rfl
  | fstore a0 => obtain ⟨v, r0, -, -, -, rfl⟩ := zSt_inv hs; rfl
  | fstore_n a0 => obtain ⟨v, r0, -, -, -, rfl⟩ := zSt_inv hs; rfl
  | dstore a0 => obtain ⟨v, r0, -, -, -, rfl⟩ := zSt_inv hs; rfl
  | dstore_n a0 => obtain ⟨v, r0, -, -, -, rfl⟩ := zSt_inv hs; rfl
  | astore a0 => obtain ⟨v, r0, -, -, -, rfl⟩ := zSt_inv hs; rfl
  | astore_n a0 => obtain ⟨v, r0, -, -, -, rfl⟩ := zSt_inv hs; rfl
  | iinc a0 a1 => 
    simp only [zstep, znx, zjmp] at hs
    repeat' split at hs
    all_goals first | (cases hs; rfl) | cases hs
  | iadd => obtain ⟨x, y, r0, rfl, rfl⟩ := zi2_inv hs; rfl
  | isub => obtain ⟨x, y, r0, rfl, rfl⟩ := zi2_inv hs; rfl
  | imul => obtain ⟨x, y, r0, rfl, rfl⟩ := zi2_inv hs; rfl
  | iand => obtain ⟨x, y, r0, rfl, rfl⟩ := zi2_inv hs; rfl
  | ior => obtain ⟨x, y, r0, rfl, rfl⟩ := zi2_inv hs; rfl
  | ixor => obtain ⟨x, y, r0, rfl, rfl⟩ := zi2_inv hs; rfl
  | ishl => obtain ⟨x, y, r0, rfl, rfl⟩ := zi2_inv hs; rfl
  | ishr => obtain ⟨x, y, r0, rfl, rfl⟩ := zi2_inv hs; rfl
  | iushr => obtain ⟨x, y, r0, rfl, rfl⟩ := zi2_inv hs; rfl
  | idiv => 
    simp only [zstep, znx, zjmp] at hs
    repeat' split at hs
    all_goals first | (cases hs; rfl) | cases hs
  | irem => 
    simp only [zstep, znx, zjmp] at hs
    repeat' split at hs
    all_goals first | (cases hs; rfl) | cases hs
  | ladd => obtain ⟨x, y, r0, rfl, rfl⟩ := zl2_inv hs; rfl
  | lmul => obtain ⟨x, y, r0, rfl, rfl⟩ := zl2_inv hs; rfl
  | lor => obtain ⟨x, y, r0, rfl, rfl⟩ := zl2_inv hs; rfl
  | lxor => obtain ⟨x, y, r0, rfl, rfl⟩ := zl2_inv hs; rfl
  | ineg => 
    simp only [zstep, znx, zjmp] at hs
    repeat' split at hs
    all_goals first | (cases hs; rfl) | cases hs
  | lshl => 
    simp only [zstep, znx, zjmp] at hs
    repeat' split at hs
    all_goals first | (cases hs; rfl) | cases hs
  | lushr => 
    simp only [zstep, znx, zjmp] at hs
    repeat' split at hs
    all_goals first | (cases hs; rfl) | cases hs
  | i2l => 
    simp only [zstep, znx, zjmp] at hs
    repeat' split at hs
    all_goals first | (cases hs; rfl) | cases hs
  | i2f => 
    simp only [zstep, znx, zjmp] at hs
    repeat' split at hs
    all_goals first | (cases hs; rfl) | cases hs
  | i2d => 
    simp only [zstep, znx, zjmp] at hs
    repeat' split at hs
    all_goals first | (cases hs; rfl) | cases hs
  | f2i => 
    simp only [zstep, znx, zjmp] at hs
    repeat' split at hs
    all_goals first | (cases hs; rfl) | cases hs
  | d2l => 
    simp only [zstep, znx, zjmp] at hs
    repeat' split at hs
    all_goals first | (cases hs; rfl) | cases hs
  | lcmp => 
    simp only [zstep, znx, zjmp] at hs
    repeat' split at hs
    all_goals first | (cases hs; rfl) | cases hs
  | i2c => 
    simp only [zstep, znx, zjmp] at hs
    repeat' split at hs
    all_goals first | (cases hs; rfl) | cases hs
  | fcmp a0 => 
    simp only [zstep, znx, zjmp] at hs
    repeat' split at hs
    all_goals first | (cases hs; rfl) | cases hs
  | dcmp a0 => 
    simp only [zstep, znx, zjmp] at hs
    repeat' split at hs
    all_goals first | (cases hs; rfl) | cases hs
  | fmul => obtain ⟨x, y, r0, rfl, -, rfl⟩ := zf2_inv hs; rfl
  | fdiv => obtain ⟨x, y, r0, rfl, -, rfl⟩ := zf2_inv hs; rfl
  | fsub => obtain ⟨x, y, r0, rfl, -, rfl⟩ := zf2_inv hs; rfl
  | dmul => obtain ⟨x, y, r0, rfl, -, rfl⟩ := zd2_inv hs; rfl
  | ddiv => obtain ⟨x, y, r0, rfl, -, rfl⟩ := zd2_inv hs; rfl
  | dsub => obtain ⟨x, y, r0, rfl, -, rfl⟩ := zd2_inv hs; rfl
  | dup => 
    simp only [zstep, znx, zjmp] at hs
    repeat' split at hs
    all_goals first | (cases hs; rfl) | cases hs
  | pop => 
    simp only [zstep, znx, zjmp] at hs
    repeat' split at hs
    all_goals first | (cases hs; rfl) | cases hs
  | dup2 => 
    simp only [zstep, znx, zjmp] at hs
    repeat' split at hs
    all_goals first | (cases hs; rfl) | cases hs
  | goto a0 => obtain ⟨t, -, rfl⟩ := zjmp_inv hs; rfl
  | ifCond a0 a1 => 
    simp only [zstep, znx, zjmp] at hs
    repeat' split at hs
    all_goals first | (cases hs; rfl) | cases hs
  | if_icmp a0 a1 => 
    simp only [zstep, znx, zjmp] at hs
    repeat' split at hs
    all_goals first | (cases hs; rfl) | cases hs
  | tableswitch a0 a1 a2 a3 => 
    simp only [zstep, znx, zjmp] at hs
    repeat' split at hs
    all_goals first | (cases hs; rfl) | cases hs
  | lookupswitch a0 a1 => 
    simp only [zstep, znx, zjmp] at hs
    repeat' split at hs
    all_goals first | (cases hs; rfl) | cases hs
  | getfield a0 => 
    simp only [zstep, znx, zjmp] at hs
    repeat' split at hs
    all_goals first | (cases hs; rfl) | cases hs
  | putfield a0 => 
    simp only [zstep, znx, zjmp] at hs
    repeat' split at hs
    all_goals first | (cases hs; rfl) | cases hs
  | iaload => 
    simp only [zstep, znx, zjmp] at hs
    repeat' split at hs
    all_goals first | (cases hs; rfl) | cases hs
  | caload => 
    simp only [zstep, znx, zjmp] at hs
    repeat' split at hs
    all_goals first | (cases hs; rfl) | cases hs
  | aaload => 
    simp only [zstep, znx, zjmp] at hs
    repeat' split at hs
    all_goals first | (cases hs; rfl) | cases hs
  | iastore => 
    simp only [zstep, znx, zjmp] at hs
    repeat' split at hs
    all_goals first | (cases hs; rfl) | cases hs
  | castore => 
    simp only [zstep, znx, zjmp] at hs
    repeat' split at hs
    all_goals first | (cases hs; rfl) | cases hs
  | arraylength => 
    simp only [zstep, znx, zjmp] at hs
    repeat' split at hs
    all_goals first | (cases hs; rfl) | cases hs
  | ireturn =>
    simp only [zstep] at hs
    repeat' split at hs
    all_goals first | (cases hs; rfl) | cases hs
  | lreturn =>
    simp only [zstep] at hs
    repeat' split at hs
    all_goals first | (cases hs; rfl) | cases hs
  | freturn =>
    simp only [zstep] at hs
    repeat' split at hs
    all_goals first | (cases hs; rfl) | cases hs
  | dreturn =>
    simp only [zstep] at hs
    repeat' split at hs
    all_goals first | (cases hs; rfl) | cases hs
  | areturn =>
    simp only [zstep] at hs
    repeat' split at hs
    all_goals first | (cases hs; rfl) | cases hs
  | return_ =>
    simp only [zstep] at hs
    repeat' split at hs
    all_goals first | (cases hs; rfl) | cases hs
  | new a0 =>
    simp only [zstep, zcat2] at hs
    repeat' split at hs
    all_goals first | (cases hs; rfl) | cases hs
  | invokestatic a0 =>
    simp only [zstep] at hs
    split at hs
    · obtain ⟨-, -, -, -, rfl⟩ := zcall_inv hs; rfl
    · obtain ⟨-, -, -, -, rfl⟩ := zcall_inv hs; rfl
    · obtain ⟨-, -, -, -, rfl⟩ := zcall_inv hs; rfl
    · simp only [znx] at hs
      repeat' split at hs
      all_goals first | (cases hs; rfl) | cases hs
    · simp only [znx, zi2] at hs
      repeat' split at hs
      all_goals first | (cases hs; rfl) | cases hs
    · cases hs
  | invokevirtual a0 =>
    simp only [zstep] at hs
    split at hs
    · split at hs
      · split at hs
        · obtain ⟨-, -, -, -, rfl⟩ := zcall_inv hs; rfl
        · cases hs
      · split at hs
        · have h1 := zprim_shape hs
          cases r with
          | inl q => rfl
          | inr q => cases h1
        · cases hs
    · cases hs
  | _ => simp [zstep] at hs
section ZSIM
variable {l : Launch} {X : zX} {sl dy d bc bs mi pc : Nat} {E : zEnv} {n : Nat} {K : zKT} {P : zPT} {Ir : zIT} {L : zLT} {Post : zPost}
/-- every step that goes on -/
theorem zq_step (J : zJDK l X) {i : Instr} {len r1 r2 r3 pc1 u : Nat} {ls ls1 : zLs} {st st1 : List Value} {I I1 : zM} (hE : zEok X sl dy E) (hR : zRel E n K P Ir L I) (hz : zl mi pc = some (i, len, r1, r2, r3)) (hs : zstep sl dy mi pc (i, len, r1, r2, r3) ls st I = some (.inl (pc1, ls1, st1, I1, u)))
    (k : ∀ (n' : Nat) (K' : zKT) (P' : zPT) (Ir' : zIT) (L' : zLT), zRel E n' K' P' Ir' L' I1 → zV l X (d + 12) bc bs mi pc1 (zmL (zEr E) ls1) (zmS (zEr E) st1) n' K' P' Ir' L' Post) : zV l X (d + 12) (bc + u * 8) (bs + u * 400) mi pc (zmL (zEr E) ls) (zmS (zEr E) st) n K P Ir L Post := by
  have hsh := zshape_of hs
  cases i with
  | iconst a0 => exact zV_bud (Nat.le_add_right _ _) (Nat.le_add_right _ _) (zq_iconst (d := d + 11) hE hR hz hs k)
  | bipush a0 => exact zV_bud (Nat.le_add_right _ _) (Nat.le_add_right _ _) (zq_bipush (d := d + 11) hE hR hz hs k)
  | sipush a0 => exact zV_bud (Nat.le_add_right _ _) (Nat.le_add_right _ _) (zq_sipush (d := d + 11) hE hR hz hs k)
  | lconst a0 => exact zV_bud (Nat.le_add_right _ _) (Nat.le_add_right _ _) (zq_lconst (d := d + 11) hE hR hz hs k)
  | fconst a0 => exact zV_bud (Nat.le_add_right _ _) (Nat.le_add_right _ _) (zq_fconst (d := d + 11) hE hR hz hs k)
  | dconst a0 => exact zV_bud (Nat.le_add_right _ _) (Nat.le_add_right _ _) (zq_dconst (d := d + 11) hE hR hz hs k)
  | ldc a0 => exact zV_bud (Nat.le_add_right _ _) (Nat.le_add_right _ _) (zq_ldc (d := d + 11) hE hR hz hs k)
  | ldc_w a0 => exact zV_bud (Nat.le_add_right _ _) (Nat.le_add_right _ _) (zq_ldc_w (d := d + 11) hE hR hz hs k)
  | ldc2_w a0 => exact zV_bud (Nat.le_add_right _ _) (Nat.le_add_right _ _) (zq_ldc2_w (d := d + 11) hE hR hz hs k)
  | iload a0 => exact zV_bud (Nat.le_add_right _ _) (Nat.le_add_right _ _) (zq_iload (d := d + 11) hE hR hz hs k)
  | iload_n a0 => exact zV_bud (Nat.le_add_right _ _) (Nat.le_add_right _ _) (zq_iload_n (d := d + 11) hE hR hz hs k)
  | lload a0 => exact zV_bud (Nat.le_add_right _ _) (Nat.le_add_right _ _) (zq_lload (d := d + 11) hE hR hz hs k)
  | lload_n a0 => exact zV_bud (Nat.le_add_right _ _) (Nat.le_add_right _ _) (zq_lload_n (d := d + 11) hE hR hz hs k)
  | fload a0 => exact zV_bud (Nat.le_add_right _ _) (Nat.le_add_right _ _) (zq_fload (d := d + 11) hE hR hz hs k)
  | fload_n a0 => exact zV_bud (Nat.le_add_right _ _) (Nat.le_add_right _ _) (zq_fload_n (d := d + 11) hE hR hz hs k)
  | dload a0 => exact zV_bud (Nat.le_add_right _ _) (Nat.le_add_right _ _) (zq_dload (d := d + 11) hE hR hz hs k)
  | dload_n a0 => exact zV_bud (Nat.le_add_right _ _) (Nat.le_add_right _ _) (zq_dload_n (d := d + 11) hE hR hz hs k)
  | aload a0 => exact zV_bud (Nat.le_add_right _ _) (Nat.le_add_right _ _) (zq_aload (d := d + 11) hE hR hz hs k)
  | aload_n a0 => exact zV_bud (Nat.le_add_right _ _) (Nat.le_add_right _ _) (zq_aload_n (d := d + 11) hE hR hz hs k)
  | istore a0 => exact zV_bud (Nat.le_add_right _ _) (Nat.le_add_right _ _) (zq_istore (d := d + 11) hE hR hz hs k)
  | istore_n a0 => exact zV_bud (Nat.le_add_right _ _) (Nat.le_add_right _ _) (zq_istore_n (d := d + 11) hE hR hz hs k)
  | lstore a0 => exact zV_bud (Nat.le_add_right _ _) (Nat.le_add_right _ _) (zq_lstore (d := d + 11) hE hR hz hs k)
  | lstore_n a0 => exact zV_bud (Nat.le_add_right _ _) (Nat.le_add_right _ _) (zq_lstore_n (d := d + 11) hE hR hz hs k)
  | fstore a0 => exact zV_bud (Nat.le_add_right _ _) (Nat.le_add_right _ _) (zq_fstore (d := d + 11) hE hR hz hs k)
  | fstore_n a0 => exact zV_bud (Nat.le_add_right _ _) (Nat.le_add_right _ _) (zq_fstore_n (d := d + 11) hE hR hz hs k)
  | dstore a0 => exact zV_bud (Nat.le_add_right _ _) (Nat.le_add_right _ _) (zq_dstore (d := d + 11) hE hR hz hs k)
  | dstore_n a0 => exact zV_bud (Nat.le_add_right _ _) (Nat.le_add_right _ _) (zq_dstore_n (d := d + 11) hE hR hz hs k)
  | astore a0 => exact zV_bud (Nat.le_add_right _ _) (Nat.le_add_right _ _) (zq_astore (d := d + 11) hE hR hz hs k)
  | astore_n a0 => exact zV_bud (Nat.le_add_right _ _) (Nat.le_add_right _ _) (zq_astore_n (d := d + 11) hE hR hz hs k)
  | iinc a0 a1 => exact zV_bud (Nat.le_add_right _ _) (Nat.le_add_right _ _) (zq_iinc (d := d + 11) hE hR hz hs k)
  | iadd => exact zV_bud (Nat.le_add_right _ _) (Nat.le_add_right _ _) (zq_iadd (d := d + 11) hE hR hz hs k)
  | isub => exact zV_bud (Nat.le_add_right _ _) (Nat.le_add_right _ _) (zq_isub (d := d + 11) hE hR hz hs k)
  | imul => exact zV_bud (Nat.le_add_right _ _) (Nat.le_add_right _ _) (zq_imul (d := d + 11) hE hR hz hs k)
  | iand => exact zV_bud (Nat.le_add_right _ _) (Nat.le_add_right _ _) (zq_iand (d := d + 11) hE hR hz hs k)
  | ior => exact zV_bud (Nat.le_add_right _ _) (Nat.le_add_right _ _) (zq_ior (d := d + 11) hE hR hz hs k)
  | ixor => exact zV_bud (Nat.le_add_right _ _) (Nat.le_add_right _ _) (zq_ixor (d := d + 11) hE hR hz hs k)
  | ishl => exact zV_bud (Nat.le_add_right _ _) (Nat.le_add_right _ _) (zq_ishl (d := d + 11) hE hR hz hs k)
  | ishr => exact zV_bud (Nat.le_add_right _ _) (Nat.le_add_right _ _) (zq_ishr (d := d + 11) hE hR hz hs k)
  | iushr => exact zV_bud (Nat.le_add_right _ _) (Nat.le_add_right _ _) (zq_iushr (d := d + 11) hE hR hz hs k)
  | idiv => exact zV_bud (Nat.le_add_right _ _) (Nat.le_add_right _ _) (zq_idiv (d := d + 11) hE hR hz hs k)
  | irem => exact zV_bud (Nat.le_add_right _ _) (Nat.le_add_right _ _) (zq_irem (d := d + 11) hE hR hz hs k)
  | ladd => exact zV_bud (Nat.le_add_right _ _) (Nat.le_add_right _ _) (zq_ladd (d := d + 11) hE hR hz hs k)
  | lmul => exact zV_bud (Nat.le_add_right _ _) (Nat.le_add_right _ _) (zq_lmul (d := d + 11) hE hR hz hs k)
  | lor => exact zV_bud (Nat.le_add_right _ _) (Nat.le_add_right _ _) (zq_lor (d := d + 11) hE hR hz hs k)
  | lxor => exact zV_bud (Nat.le_add_right _ _) (Nat.le_add_right _ _) (zq_lxor (d := d + 11) hE hR hz hs k)
  | ineg => exact zV_bud (Nat.le_add_right _ _) (Nat.le_add_right _ _) (zq_ineg (d := d + 11) hE hR hz hs k)
  | lshl => exact zV_bud (Nat.le_add_right _ _) (Nat.le_add_right _ _) (zq_lshl (d := d + 11) hE hR hz hs k)
  | lushr => exact zV_bud (Nat.le_add_right _ _) (Nat.le_add_right _ _) (zq_lushr (d := d + 11) hE hR hz hs k)
  | i2l => exact zV_bud (Nat.le_add_right _ _) (Nat.le_add_right _ _) (zq_i2l (d := d + 11) hE hR hz hs k)
  | i2f => exact zV_bud (Nat.le_add_right _ _) (Nat.le_add_right _ _) (zq_i2f (d := d + 11) hE hR hz hs k)
  | i2d => exact zV_bud (Nat.le_add_right _ _) (Nat.le_add_right _ _) (zq_i2d (d := d + 11) hE hR hz hs k)
  | f2i => exact zV_bud (Nat.le_add_right _ _) (Nat.le_add_right _ _) (zq_f2i (d := d + 11) hE hR hz hs k)
  | d2l => exact zV_bud (Nat.le_add_right _ _) (Nat.le_add_right _ _) (zq_d2l (d := d + 11) hE hR hz hs k)
  | lcmp => exact zV_bud (Nat.le_add_right _ _) (Nat.le_add_right _ _) (zq_lcmp (d := d + 11) hE hR hz hs k)
  | i2c => exact zV_bud (Nat.le_add_right _ _) (Nat.le_add_right _ _) (zq_i2c (d := d + 11) hE hR hz hs k)
  | fcmp a0 => exact zV_bud (Nat.le_add_right _ _) (Nat.le_add_right _ _) (zq_fcmp (d := d + 11) hE hR hz hs k)
  | dcmp a0 => exact zV_bud (Nat.le_add_right _ _) (Nat.le_add_right _ _) (zq_dcmp (d := d + 11) hE hR hz hs k)
  | fmul => exact zV_bud (Nat.le_add_right _ _) (Nat.le_add_right _ _) (zq_fmul (d := d + 11) hE hR hz hs k)
  | fdiv => exact zV_bud (Nat.le_add_right _ _) (Nat.le_add_right _ _) (zq_fdiv (d := d + 11) hE hR hz hs k)
  | fsub => exact zV_bud (Nat.le_add_right _ _) (Nat.le_add_right _ _) (zq_fsub (d := d + 11) hE hR hz hs k)
  | dmul => exact zV_bud (Nat.le_add_right _ _) (Nat.le_add_right _ _) (zq_dmul (d := d + 11) hE hR hz hs k)
  | ddiv => exact zV_bud (Nat.le_add_right _ _) (Nat.le_add_right _ _) (zq_ddiv (d := d + 11) hE hR hz hs k)
  | dsub => exact zV_bud (Nat.le_add_right _ _) (Nat.le_add_right _ _) (zq_dsub (d := d + 11) hE hR hz hs k)
  | dup => exact zV_bud (Nat.le_add_right _ _) (Nat.le_add_right _ _) (zq_dup (d := d + 11) hE hR hz hs k)
  | pop => exact zV_bud (Nat.le_add_right _ _) (Nat.le_add_right _ _) (zq_pop (d := d + 11) hE hR hz hs k)
  | dup2 => exact zV_bud (Nat.le_add_right _ _) (Nat.le_add_right _ _) (zq_dup2 (d := d + 11) hE hR hz hs k)
  | goto a0 => exact zV_bud (Nat.le_add_right _ _) (Nat.le_add_right _ _) (zq_goto (d := d + 11) hE hR hz hs k)
  | ifCond a0 a1 => exact zV_bud (Nat.le_add_right _ _) (Nat.le_add_right _ _) (zq_ifCond (d := d + 11) hE hR hz hs k)
  | if_icmp a0 a1 => exact zV_bud (Nat.le_add_right _ _) (Nat.le_add_right _ _) (zq_if_icmp (d := d + 11) hE hR hz hs k)
  | tableswitch a0 a1 a2 a3 => exact zV_bud (Nat.le_add_right _ _) (Nat.le_add_right _ _) (zq_tableswitch (d := d + 11) hE hR hz hs k)
  | lookupswitch a0 a1 => exact zV_bud (Nat.le_add_right _ _) (Nat.le_add_right _ _) (zq_lookupswitch (d := d + 11) hE hR hz hs k)
  | getfield a0 => exact zV_bud (Nat.le_add_right _ _) (Nat.le_add_right _ _) (zq_getfield (d := d + 11) hE hR hz hs k)
  | putfield a0 => exact zV_bud (Nat.le_add_right _ _) (Nat.le_add_right _ _) (zq_putfield (d := d + 11) hE hR hz hs k)
  | iaload => exact zV_bud (Nat.le_add_right _ _) (Nat.le_add_right _ _) (zq_iaload (d := d + 11) hE hR hz hs k)
  | caload => exact zV_bud (Nat.le_add_right _ _) (Nat.le_add_right _ _) (zq_caload (d := d + 11) hE hR hz hs k)
  | aaload => exact zV_bud (Nat.le_add_right _ _) (Nat.le_add_right _ _) (zq_aaload (d := d + 11) hE hR hz hs k)
  | iastore => exact zV_bud (Nat.le_add_right _ _) (Nat.le_add_right _ _) (zq_iastore (d := d + 11) hE hR hz hs k)
  | castore => exact zV_bud (Nat.le_add_right _ _) (Nat.le_add_right _ _) (zq_castore (d := d + 11) hE hR hz hs k)
  | arraylength => exact zV_bud (Nat.le_add_right _ _) (Nat.le_add_right _ _) (zq_arraylength (d := d + 11) hE hR hz hs k)
  | ireturn => cases hsh
  | lreturn => cases hsh
  | freturn => cases hsh
  | dreturn => cases hsh
  | areturn => cases hsh
  | return_ => cases hsh
  | new a0 => cases hsh
  | invokestatic a0 =>
    obtain rfl : len = 3 := zlen_eq hz rfl
    refine zV_bud (Nat.le_add_right _ _) (Nat.le_add_right _ _) ?_
    simp only [zstep] at hs
    split at hs
    · obtain ⟨-, -, -, -, e⟩ := zcall_inv hs; cases e
    · obtain ⟨-, -, -, -, e⟩ := zcall_inv hs; cases e
    · obtain ⟨-, -, -, -, e⟩ := zcall_inv hs; cases e
    · split at hs
      · rename_i c dd ss rr
        split at hs
        · rename_i ns nd h1 h2
          split at hs
          · rename_i hb
            simp only [Bool.and_eq_true, decide_eq_true_eq, Bool.not_eq_true'] at hb
            obtain ⟨⟨⟨⟨⟨b1, b2⟩, b3⟩, b4⟩, b5⟩, -⟩ := hb
            cases hs
            have hss : ss < 148 := by
              rcases zkd_lt h1 with h | ⟨-, h⟩
              · exact h
              · cases h
            have hdd : dd < 148 := by
              rcases zkd_lt h2 with h | ⟨-, h⟩
              · exact h
              · cases h
            have hne : ss ≠ dd := fun e => by
              subst e
              rw [show Nat.beq ss ss = true from Nat.beq_refl ss] at b4
              cases b4
            have e1 := hE.1 ss (Nat.lt_trans hss (by decide))
            have e2 := hE.1 dd (Nat.lt_trans hdd (by decide))
            refine zV_copy (d := d + 11) hz (zRel_K hE hR h1) (zRel_K hE hR h2) ?_ (Int32.not_lt.mpr b1) (Nat.le_of_ble_eq_true b2) (Nat.le_of_ble_eq_true b3) (by rw [zmS_cat]; exact Nat.le_of_ble_eq_true b5) ?_
            · intro e
              rw [e1, e2] at e
              exact hne (Nat.add_left_cancel e)
            · have := k n K P _ L (zRel_cp (k := c.toNatClampNeg) hss hdd hne hE.2.2.2.2 hR)
              rw [e1, e2]
              exact this
          · cases hs
        · cases hs
      · cases hs
    · split at hs
      · split at hs
        · rename_i hm
          obtain ⟨x, y, r0, rfl, e⟩ := zi2_inv hs
          cases e
          exact zV_mmin (d := d + 11) hz (zcat_le2 hm) (k n K P Ir L hR)
        · cases hs
      · split at hs
        · rename_i hm
          obtain ⟨x, y, r0, rfl, e⟩ := zi2_inv hs
          cases e
          exact zV_mmax (d := d + 11) hz (zcat_le2 hm) (k n K P Ir L hR)
        · cases hs
      · split at hs
        · split at hs
          · rename_i hm
            cases hs
            exact zV_mabs (d := d + 11) hz (by rw [zmS_cat]; exact Nat.le_of_ble_eq_true hm) (k n K P Ir L hR)
          · cases hs
        · cases hs
      · cases hs
    · cases hs
  | invokevirtual a0 =>
    obtain rfl : len = 3 := zlen_eq hz rfl
    simp only [zstep] at hs
    split at hs
    · split at hs
      · split at hs
        · obtain ⟨-, -, -, -, e⟩ := zcall_inv hs; cases e
        · cases hs
      · split at hs
        · rename_i hm
          exact zq_prim J hE hR hz hs hm k
        · cases hs
    · cases hs
  | _ => simp [zstep] at hs
/-- a return -/
theorem zq_ret {i : Instr} {len r1 r2 r3 : Nat} {ls : zLs} {st : List Value} {I : zM} {v : Option Value} (hz : zl mi pc = some (i, len, r1, r2, r3)) (hs : zstep sl dy mi pc (i, len, r1, r2, r3) ls st I = some (.inr (.inl v))) (hp : Post (.inl (v.map (zmv (zEr E)))) n K P Ir L) : zV l X d bc bs mi pc (zmL (zEr E) ls) (zmS (zEr E) st) n K P Ir L Post := by
  have hsh := zshape_of hs
  cases i with
  | ireturn =>
    obtain rfl : len = 1 := zlen_eq hz rfl
    simp only [zstep] at hs
    split at hs
    · split at hs
      · rename_i ty hr
        split at hs
        · rename_i hn
          cases hs
          exact zV_ret hz hr (of_decide_eq_true hn) hp
        · cases hs
      · cases hs
    · cases hs
  | lreturn =>
    obtain rfl : len = 1 := zlen_eq hz rfl
    simp only [zstep] at hs
    split at hs
    · split at hs
      · rename_i hr
        cases hs
        exact zV_lret hz (of_decide_eq_true hr) hp
      · cases hs
    · cases hs
  | freturn =>
    obtain rfl : len = 1 := zlen_eq hz rfl
    simp only [zstep] at hs
    split at hs
    · split at hs
      · rename_i hr
        cases hs
        exact zV_fret hz (of_decide_eq_true hr) hp
      · cases hs
    · cases hs
  | dreturn =>
    obtain rfl : len = 1 := zlen_eq hz rfl
    simp only [zstep] at hs
    split at hs
    · split at hs
      · rename_i hr
        cases hs
        exact zV_dret hz (of_decide_eq_true hr) hp
      · cases hs
    · cases hs
  | areturn =>
    obtain rfl : len = 1 := zlen_eq hz rfl
    simp only [zstep] at hs
    split at hs
    · split at hs
      · rename_i hr
        cases hs
        exact zV_aret hz hr (Or.inl ⟨_, rfl⟩) hp
      · cases hs
    · cases hs
  | return_ =>
    obtain rfl : len = 1 := zlen_eq hz rfl
    simp only [zstep] at hs
    split at hs
    · split at hs
      · rename_i hr
        cases hs
        exact zV_vret hz hr hp
      · cases hs
    · cases hs
  | new a0 =>
    cases hsh
  | invokestatic a0 => cases hsh
  | invokevirtual a0 => cases hsh
  | _ => first | cases hsh | (simp [zstep] at hs; done)
/-- a throw -/
theorem zq_thr {i : Instr} {len r1 r2 r3 c : Nat} {ls : zLs} {st : List Value} {I : zM} (hz : zl mi pc = some (i, len, r1, r2, r3)) (hs : zstep sl dy mi pc (i, len, r1, r2, r3) ls st I = some (.inr (.inr (.inl c)))) (hp : ∀ n', n ≤ n' → Post (.inr c) n' K P Ir L) : zV l X (d + 12) (bc + 8) (bs + 400) mi pc (zmL (zEr E) ls) (zmS (zEr E) st) n K P Ir L Post := by
  have hsh := zshape_of hs
  cases i with
  | new a0 =>
    obtain rfl : len = 3 := zlen_eq hz rfl
    simp only [zstep] at hs
    split at hs
    · split at hs
      · rename_i hb
        simp only [Bool.and_eq_true] at hb
        obtain ⟨hb, hm⟩ := hb
        cases hs
        have hm := Nat.le_of_ble_eq_true hm
        refine zV_bud (bc := bc + 1) (bs := bs + 6) (by omega) (by omega) ?_
        unfold zthr at hb
        split at hb
        · rename_i h1 h2 h3
          split at hb
          · rename_i h4 h5
            obtain rfl := Nat.eq_of_beq_eq_true hb
            exact zV_throw (u2 := 0) (t2 := 0) hz h1 h2 h4 h5 h3 (by omega) (by rw [zmS_cat]; exact hm) hp
          · cases hb
        · rename_i h1 h2 h3
          split at hb
          · rename_i h4 h5
            obtain rfl := Nat.eq_of_beq_eq_true hb
            exact zV_throwW (u2 := 0) (t2 := 0) hz h1 h2 h4 h5 h3 (by omega) (by rw [zmS_cat]; exact hm) hp
          · cases hb
        · cases hb
      · cases hs
    · simp only [zcat2] at hs
      repeat' split at hs
      all_goals cases hs
    · cases hs
  | ireturn => cases hsh
  | lreturn => cases hsh
  | freturn => cases hsh
  | dreturn => cases hsh
  | areturn => cases hsh
  | return_ => cases hsh
  | invokestatic a0 => cases hsh
  | invokevirtual a0 => cases hsh
  | _ => first | cases hsh | (simp [zstep] at hs; done)
end ZSIM
