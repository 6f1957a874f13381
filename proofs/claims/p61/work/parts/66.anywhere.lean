/-! A RUN that never sees the law's array is the same at every length of it, and for every built text -/
def zplN (a : Nat) : Bool := !(Nat.beq a 1000)
def zrvN : Value → Bool
  | .ref a => zplN a
  | _ => true
def zRsN (st : List Value) : Prop := ∀ v ∈ st, zrvN v = true
def zRlN (ls : zLs) : Prop := ∀ q ∈ ls, zrvN q.2 = true
theorem zRs_cN {v : Value} {r : List Value} : zRsN (v :: r) ↔ zrvN v = true ∧ zRsN r := List.forall_mem_cons
theorem zRs_nN : zRsN [] := fun v h => nomatch h
theorem zRs_dropN {st : List Value} (h : zRsN st) (k : Nat) : zRsN (st.drop k) := fun v hv => h v (List.mem_of_mem_drop hv)
theorem zRs_takeN {st : List Value} (h : zRsN st) (k : Nat) : zRsN (st.take k) := fun v hv => h v (List.mem_of_mem_take hv)
theorem zRl_argsN {vs : List Value} (h : zRsN vs) : ∀ i, zRlN (lv_args i vs) := by
  induction vs with
  | nil => intro i q hq; exact nomatch hq
  | cons v r ih =>
    intro i q hq
    rw [zRs_cN] at h
    unfold lv_args at hq
    rcases List.mem_cons.mp hq with rfl | hq
    · exact h.1
    · exact ih h.2 _ q hq
theorem zlk_rvN {ls : zLs} {i : Nat} {v : Value} (hl : zRlN ls) (h : zlk ls i = some v) : zrvN v = true := by
  induction ls with
  | nil => cases h
  | cons q r ih =>
    unfold zlk at h
    split at h
    · cases h; exact hl q (List.mem_cons_self)
    · exact ih (fun q hq => hl q (List.mem_cons_of_mem _ hq)) h
theorem zRl_fN {ls : zLs} (hl : zRlN ls) (f : Nat × Value → Bool) : zRlN (ls.filter f) := fun q hq => hl q (List.mem_filter.mp hq).1
theorem zRl_1N {ls : zLs} (hl : zRlN ls) {i : Nat} {v : Value} (hv : zrvN v = true) : zRlN (zs1 ls i v) := by
  unfold zs1
  intro q hq
  rcases List.mem_cons.mp hq with rfl | hq
  · exact hv
  · exact zRl_fN hl _ q hq
theorem zRl_2N {ls : zLs} (hl : zRlN ls) {i : Nat} {v : Value} (hv : zrvN v = true) : zRlN (zs2 ls i v) := by
  unfold zs2
  intro q hq
  rcases List.mem_cons.mp hq with rfl | hq
  · exact hv
  · exact zRl_fN hl _ q hq
theorem zplN_ne {a : Nat} (h : zplN a = true) : a ≠ 1000 := fun e => by rw [e] at h; cases h
theorem zplN_of {a : Nat} (h : a ≠ 1000) : zplN a = true := by
  unfold zplN
  cases hb : Nat.beq a 1000 with
  | false => rfl
  | true => exact absurd (Nat.eq_of_beq_eq_true hb) h
theorem zpl_geN {a : Nat} (h : 2000 ≤ a) : zplN a = true := zplN_of (by omega)
theorem zpl_pdN {a k q : Nat} (h : zplN a = true) (hq : zpd a k = some q) : zplN q = true := zplN_of (by have := (zpd_lt hq).2; omega)
theorem zpl_kdN {sl sl' a : Nat} (h : zplN a = true) : zkd sl a = zkd sl' a := zkd_sl (zplN_ne h)
/-- a step's result: references of the kind alone, and what lies elsewhere as it was -/
def zrrN (I : zM) : zRes → Prop
  | .inl (_, ls, st, _, _) => zRlN ls ∧ zRsN st
  | .inr (.inl v) => ∀ x, v = some x → zrvN x = true
  | .inr (.inr (.inl _)) => True
  | .inr (.inr (.inr (_, _, la, st, _))) => zRlN la ∧ zRsN st
section ZRFN
variable {sl dy d0 mi pc len r1 r2 r3 : Nat} {ls : zLs} {st : List Value} {I : zM} {r : zRes}
theorem zLd_rrN {i t : Nat} (hl : zRlN ls) (hr : zRsN st) (h : zLd pc ls st I i t = some r) : zrrN I r := by
  unfold zLd at h
  split at h
  · rename_i v hv
    cases h
    unfold zld at hv
    split at hv
    · rename_i u hu
      split at hv
      · cases hv
        exact ⟨hl, zRs_cN.mpr ⟨zlk_rvN hl hu, hr⟩⟩
      · cases hv
    · cases hv
  · cases h
theorem zSt_rrN {nL i t : Nat} (hl : zRlN ls) (hr : zRsN st) (h : zSt pc nL ls st I i t = some r) : zrrN I r := by
  unfold zSt at h
  split at h
  · rename_i v u
    rw [zRs_cN] at hr
    split at h
    · cases h
      refine ⟨?_, hr.2⟩
      by_cases ht : t = 1 ∨ t = 3
      · rw [if_pos ht]; exact zRl_2N hl hr.1
      · rw [if_neg ht]; exact zRl_1N hl hr.1
    · cases h
  · cases h
theorem zcall_rrN {c k : Nat} (hr : zRsN st) (h : zcall c pc k st = some r) : zrrN I r := by
  obtain ⟨-, -, -, -, rfl⟩ := zcall_inv h
  exact ⟨zRl_argsN (fun v hv => zRs_takeN hr k v (List.mem_reverse.mp hv)) 0, zRs_dropN hr k⟩
theorem zprim_rrN {c : Nat} (hd : d0 = 0 ∨ d0 = dy) (hl : zRlN ls) (hr : zRsN st) (hs : zprim d0 c pc ls st I = some r) : zprim dy c pc ls st I = some r ∧ zrrN I r := by
  have hx : ∀ {a : Nat} {t : List Int32}, ztx d0 a = some t → ztx dy a = some t := fun h => by
    rcases hd with rfl | rfl
    · exact ztx_any h
    · exact h
  unfold zprim at hs ⊢
  split at hs
  · try simp only
    refine ⟨hs, ?_⟩
    repeat' split at hs
    all_goals first
      | cases hs; done
      | (cases hs; rw [zRs_cN, zRs_cN] at hr; exact ⟨hl, zRs_cN.mpr ⟨rfl, hr.2.2⟩⟩)
  · try simp only
    refine ⟨hs, ?_⟩
    repeat' split at hs
    all_goals first
      | cases hs; done
      | (cases hs; rw [zRs_cN, zRs_cN] at hr; exact ⟨hl, zRs_cN.mpr ⟨rfl, hr.2.2⟩⟩)
  · try simp only
    refine ⟨hs, ?_⟩
    simp only [znx] at hs
    repeat' split at hs
    all_goals first
      | cases hs; done
      | (cases hs; rw [zRs_cN, zRs_cN] at hr; exact ⟨hl, hr.2.2⟩)
  · try simp only
    refine ⟨hs, ?_⟩
    simp only [znx] at hs
    repeat' split at hs
    all_goals first
      | cases hs; done
      | (cases hs; rw [zRs_cN] at hr; exact ⟨hl, zRs_cN.mpr ⟨rfl, hr.2⟩⟩)
  · try simp only
    refine ⟨hs, ?_⟩
    simp only [znx] at hs
    repeat' split at hs
    all_goals first
      | cases hs; done
      | (cases hs; rw [zRs_cN, zRs_cN] at hr; exact ⟨hl, zRs_cN.mpr ⟨rfl, hr.2.2⟩⟩)
  · try simp only
    split at hs
    · rename_i a t
      rw [zRs_cN] at hr
      split at hs
      · rename_i u hu
        simp only [hx hu]
        refine ⟨hs, ?_⟩
        cases hs
        exact ⟨hl, zRs_cN.mpr ⟨rfl, hr.2⟩⟩
      · cases hs
    · cases hs
  · try simp only
    split at hs
    · rename_i i a t
      rw [zRs_cN, zRs_cN] at hr
      split at hs
      · rename_i u hu
        simp only [hx hu]
        refine ⟨hs, ?_⟩
        split at hs
        · cases hs
          exact ⟨hl, zRs_cN.mpr ⟨rfl, hr.2.2⟩⟩
        · cases hs
      · cases hs
    · cases hs
  · cases hs
theorem zfree_rrN {i : Instr} (hf : zfreeI i = true) (hl : zRlN ls) (hr : zRsN st) (hs : zstep sl d0 mi pc (i, len, r1, r2, r3) ls st I = some r) : zrrN I r := by
  cases i with
  | iconst a0 => cases hs; exact ⟨hl, zRs_cN.mpr ⟨rfl, hr⟩⟩
  | bipush a0 => cases hs; exact ⟨hl, zRs_cN.mpr ⟨rfl, hr⟩⟩
  | sipush a0 => cases hs; exact ⟨hl, zRs_cN.mpr ⟨rfl, hr⟩⟩
  | lconst a0 => cases hs; exact ⟨hl, zRs_cN.mpr ⟨rfl, hr⟩⟩
  | fconst a0 => match a0, hs with
    | 0, hs => cases hs; exact ⟨hl, zRs_cN.mpr ⟨rfl, hr⟩⟩
    | 1, hs => cases hs; exact ⟨hl, zRs_cN.mpr ⟨rfl, hr⟩⟩
    | 2, hs => cases hs; exact ⟨hl, zRs_cN.mpr ⟨rfl, hr⟩⟩
  | dconst a0 => match a0, hs with
    | 0, hs => cases hs; exact ⟨hl, zRs_cN.mpr ⟨rfl, hr⟩⟩
    | 1, hs => cases hs; exact ⟨hl, zRs_cN.mpr ⟨rfl, hr⟩⟩
  | ldc a0 =>
    simp only [zstep, zldc, znx] at hs
    split at hs
    · cases hs; exact ⟨hl, zRs_cN.mpr ⟨rfl, hr⟩⟩
    · cases hs; exact ⟨hl, zRs_cN.mpr ⟨rfl, hr⟩⟩
    · cases hs; exact ⟨hl, zRs_cN.mpr ⟨zpl_geN (Nat.le_add_right 2000 r2), hr⟩⟩
    · cases hs
  | ldc_w a0 =>
    simp only [zstep, zldc, znx] at hs
    split at hs
    · cases hs; exact ⟨hl, zRs_cN.mpr ⟨rfl, hr⟩⟩
    · cases hs; exact ⟨hl, zRs_cN.mpr ⟨rfl, hr⟩⟩
    · cases hs; exact ⟨hl, zRs_cN.mpr ⟨zpl_geN (Nat.le_add_right 2000 r2), hr⟩⟩
    · cases hs
  | ldc2_w a0 =>
    simp only [zstep, znx, zi2, zl2, zf2, zd2, zjmp, zldc] at hs
    repeat' split at hs
    all_goals first
      | cases hs; done
      | (cases hs; refine ⟨hl, ?_⟩; simp_all [zRs_cN, zrvN]; done)
      | (cases hs; exact ⟨hl, hr⟩)
  | iload a0 => exact zLd_rrN hl hr hs
  | iload_n a0 => exact zLd_rrN hl hr hs
  | lload a0 => exact zLd_rrN hl hr hs
  | lload_n a0 => exact zLd_rrN hl hr hs
  | fload a0 => exact zLd_rrN hl hr hs
  | fload_n a0 => exact zLd_rrN hl hr hs
  | dload a0 => exact zLd_rrN hl hr hs
  | dload_n a0 => exact zLd_rrN hl hr hs
  | aload a0 => exact zLd_rrN hl hr hs
  | aload_n a0 => exact zLd_rrN hl hr hs
  | istore a0 => exact zSt_rrN hl hr hs
  | istore_n a0 => exact zSt_rrN hl hr hs
  | lstore a0 => exact zSt_rrN hl hr hs
  | lstore_n a0 => exact zSt_rrN hl hr hs
  | fstore a0 => exact zSt_rrN hl hr hs
  | fstore_n a0 => exact zSt_rrN hl hr hs
  | dstore a0 => exact zSt_rrN hl hr hs
  | dstore_n a0 => exact zSt_rrN hl hr hs
  | astore a0 => exact zSt_rrN hl hr hs
  | astore_n a0 => exact zSt_rrN hl hr hs
  | iinc a0 a1 =>
    simp only [zstep, znx] at hs
    repeat' split at hs
    all_goals first | (cases hs; exact ⟨zRl_1N hl rfl, hr⟩) | cases hs
  | iadd =>
    simp only [zstep, znx, zi2, zl2, zf2, zd2, zjmp, zldc] at hs
    repeat' split at hs
    all_goals first
      | cases hs; done
      | (cases hs; refine ⟨hl, ?_⟩; simp_all [zRs_cN, zrvN]; done)
      | (cases hs; exact ⟨hl, hr⟩)
  | isub =>
    simp only [zstep, znx, zi2, zl2, zf2, zd2, zjmp, zldc] at hs
    repeat' split at hs
    all_goals first
      | cases hs; done
      | (cases hs; refine ⟨hl, ?_⟩; simp_all [zRs_cN, zrvN]; done)
      | (cases hs; exact ⟨hl, hr⟩)
  | imul =>
    simp only [zstep, znx, zi2, zl2, zf2, zd2, zjmp, zldc] at hs
    repeat' split at hs
    all_goals first
      | cases hs; done
      | (cases hs; refine ⟨hl, ?_⟩; simp_all [zRs_cN, zrvN]; done)
      | (cases hs; exact ⟨hl, hr⟩)
  | iand =>
    simp only [zstep, znx, zi2, zl2, zf2, zd2, zjmp, zldc] at hs
    repeat' split at hs
    all_goals first
      | cases hs; done
      | (cases hs; refine ⟨hl, ?_⟩; simp_all [zRs_cN, zrvN]; done)
      | (cases hs; exact ⟨hl, hr⟩)
  | ior =>
    simp only [zstep, znx, zi2, zl2, zf2, zd2, zjmp, zldc] at hs
    repeat' split at hs
    all_goals first
      | cases hs; done
      | (cases hs; refine ⟨hl, ?_⟩; simp_all [zRs_cN, zrvN]; done)
      | (cases hs; exact ⟨hl, hr⟩)
  | ixor =>
    simp only [zstep, znx, zi2, zl2, zf2, zd2, zjmp, zldc] at hs
    repeat' split at hs
    all_goals first
      | cases hs; done
      | (cases hs; refine ⟨hl, ?_⟩; simp_all [zRs_cN, zrvN]; done)
      | (cases hs; exact ⟨hl, hr⟩)
  | ishl =>
    simp only [zstep, znx, zi2, zl2, zf2, zd2, zjmp, zldc] at hs
    repeat' split at hs
    all_goals first
      | cases hs; done
      | (cases hs; refine ⟨hl, ?_⟩; simp_all [zRs_cN, zrvN]; done)
      | (cases hs; exact ⟨hl, hr⟩)
  | ishr =>
    simp only [zstep, znx, zi2, zl2, zf2, zd2, zjmp, zldc] at hs
    repeat' split at hs
    all_goals first
      | cases hs; done
      | (cases hs; refine ⟨hl, ?_⟩; simp_all [zRs_cN, zrvN]; done)
      | (cases hs; exact ⟨hl, hr⟩)
  | iushr =>
    simp only [zstep, znx, zi2, zl2, zf2, zd2, zjmp, zldc] at hs
    repeat' split at hs
    all_goals first
      | cases hs; done
      | (cases hs; refine ⟨hl, ?_⟩; simp_all [zRs_cN, zrvN]; done)
      | (cases hs; exact ⟨hl, hr⟩)
  | idiv =>
    simp only [zstep, znx, zi2, zl2, zf2, zd2, zjmp, zldc] at hs
    repeat' split at hs
    all_goals first
      | cases hs; done
      | (cases hs; refine ⟨hl, ?_⟩; simp_all [zRs_cN, zrvN]; done)
      | (cases hs; exact ⟨hl, hr⟩)
  | irem =>
    simp only [zstep, znx, zi2, zl2, zf2, zd2, zjmp, zldc] at hs
    repeat' split at hs
    all_goals first
      | cases hs; done
      | (cases hs; refine ⟨hl, ?_⟩; simp_all [zRs_cN, zrvN]; done)
      | (cases hs; exact ⟨hl, hr⟩)
  | ladd =>
    simp only [zstep, znx, zi2, zl2, zf2, zd2, zjmp, zldc] at hs
    repeat' split at hs
    all_goals first
      | cases hs; done
      | (cases hs; refine ⟨hl, ?_⟩; simp_all [zRs_cN, zrvN]; done)
      | (cases hs; exact ⟨hl, hr⟩)
  | lmul =>
    simp only [zstep, znx, zi2, zl2, zf2, zd2, zjmp, zldc] at hs
    repeat' split at hs
    all_goals first
      | cases hs; done
      | (cases hs; refine ⟨hl, ?_⟩; simp_all [zRs_cN, zrvN]; done)
      | (cases hs; exact ⟨hl, hr⟩)
  | lor =>
    simp only [zstep, znx, zi2, zl2, zf2, zd2, zjmp, zldc] at hs
    repeat' split at hs
    all_goals first
      | cases hs; done
      | (cases hs; refine ⟨hl, ?_⟩; simp_all [zRs_cN, zrvN]; done)
      | (cases hs; exact ⟨hl, hr⟩)
  | lxor =>
    simp only [zstep, znx, zi2, zl2, zf2, zd2, zjmp, zldc] at hs
    repeat' split at hs
    all_goals first
      | cases hs; done
      | (cases hs; refine ⟨hl, ?_⟩; simp_all [zRs_cN, zrvN]; done)
      | (cases hs; exact ⟨hl, hr⟩)
  | ineg =>
    simp only [zstep, znx, zi2, zl2, zf2, zd2, zjmp, zldc] at hs
    repeat' split at hs
    all_goals first
      | cases hs; done
      | (cases hs; refine ⟨hl, ?_⟩; simp_all [zRs_cN, zrvN]; done)
      | (cases hs; exact ⟨hl, hr⟩)
  | lshl =>
    simp only [zstep, znx, zi2, zl2, zf2, zd2, zjmp, zldc] at hs
    repeat' split at hs
    all_goals first
      | cases hs; done
      | (cases hs; refine ⟨hl, ?_⟩; simp_all [zRs_cN, zrvN]; done)
      | (cases hs; exact ⟨hl, hr⟩)
  | lushr =>
    simp only [zstep, znx, zi2, zl2, zf2, zd2, zjmp, zldc] at hs
    repeat' split at hs
    all_goals first
      | cases hs; done
      | (cases hs; refine ⟨hl, ?_⟩; simp_all [zRs_cN, zrvN]; done)
      | (cases hs; exact ⟨hl, hr⟩)
  | i2l =>
    simp only [zstep, znx, zi2, zl2, zf2, zd2, zjmp, zldc] at hs
    repeat' split at hs
    all_goals first
      | cases hs; done
      | (cases hs; refine ⟨hl, ?_⟩; simp_all [zRs_cN, zrvN]; done)
      | (cases hs; exact ⟨hl, hr⟩)
  | i2f =>
    simp only [zstep, znx, zi2, zl2, zf2, zd2, zjmp, zldc] at hs
    repeat' split at hs
    all_goals first
      | cases hs; done
      | (cases hs; refine ⟨hl, ?_⟩; simp_all [zRs_cN, zrvN]; done)
      | (cases hs; exact ⟨hl, hr⟩)
  | i2d =>
    simp only [zstep, znx, zi2, zl2, zf2, zd2, zjmp, zldc] at hs
    repeat' split at hs
    all_goals first
      | cases hs; done
      | (cases hs; refine ⟨hl, ?_⟩; simp_all [zRs_cN, zrvN]; done)
      | (cases hs; exact ⟨hl, hr⟩)
  | f2i =>
    simp only [zstep, znx, zi2, zl2, zf2, zd2, zjmp, zldc] at hs
    repeat' split at hs
    all_goals first
      | cases hs; done
      | (cases hs; refine ⟨hl, ?_⟩; simp_all [zRs_cN, zrvN]; done)
      | (cases hs; exact ⟨hl, hr⟩)
  | d2l =>
    simp only [zstep, znx, zi2, zl2, zf2, zd2, zjmp, zldc] at hs
    repeat' split at hs
    all_goals first
      | cases hs; done
      | (cases hs; refine ⟨hl, ?_⟩; simp_all [zRs_cN, zrvN]; done)
      | (cases hs; exact ⟨hl, hr⟩)
  | lcmp =>
    simp only [zstep, znx, zi2, zl2, zf2, zd2, zjmp, zldc] at hs
    repeat' split at hs
    all_goals first
      | cases hs; done
      | (cases hs; refine ⟨hl, ?_⟩; simp_all [zRs_cN, zrvN]; done)
      | (cases hs; exact ⟨hl, hr⟩)
  | i2c =>
    simp only [zstep, znx, zi2, zl2, zf2, zd2, zjmp, zldc] at hs
    repeat' split at hs
    all_goals first
      | cases hs; done
      | (cases hs; refine ⟨hl, ?_⟩; simp_all [zRs_cN, zrvN]; done)
      | (cases hs; exact ⟨hl, hr⟩)
  | fcmp a0 =>
    simp only [zstep, znx, zi2, zl2, zf2, zd2, zjmp, zldc] at hs
    repeat' split at hs
    all_goals first
      | cases hs; done
      | (cases hs; refine ⟨hl, ?_⟩; simp_all [zRs_cN, zrvN]; done)
      | (cases hs; exact ⟨hl, hr⟩)
  | dcmp a0 =>
    simp only [zstep, znx, zi2, zl2, zf2, zd2, zjmp, zldc] at hs
    repeat' split at hs
    all_goals first
      | cases hs; done
      | (cases hs; refine ⟨hl, ?_⟩; simp_all [zRs_cN, zrvN]; done)
      | (cases hs; exact ⟨hl, hr⟩)
  | fmul =>
    simp only [zstep, znx, zi2, zl2, zf2, zd2, zjmp, zldc] at hs
    repeat' split at hs
    all_goals first
      | cases hs; done
      | (cases hs; refine ⟨hl, ?_⟩; simp_all [zRs_cN, zrvN]; done)
      | (cases hs; exact ⟨hl, hr⟩)
  | fdiv =>
    simp only [zstep, znx, zi2, zl2, zf2, zd2, zjmp, zldc] at hs
    repeat' split at hs
    all_goals first
      | cases hs; done
      | (cases hs; refine ⟨hl, ?_⟩; simp_all [zRs_cN, zrvN]; done)
      | (cases hs; exact ⟨hl, hr⟩)
  | fsub =>
    simp only [zstep, znx, zi2, zl2, zf2, zd2, zjmp, zldc] at hs
    repeat' split at hs
    all_goals first
      | cases hs; done
      | (cases hs; refine ⟨hl, ?_⟩; simp_all [zRs_cN, zrvN]; done)
      | (cases hs; exact ⟨hl, hr⟩)
  | dmul =>
    simp only [zstep, znx, zi2, zl2, zf2, zd2, zjmp, zldc] at hs
    repeat' split at hs
    all_goals first
      | cases hs; done
      | (cases hs; refine ⟨hl, ?_⟩; simp_all [zRs_cN, zrvN]; done)
      | (cases hs; exact ⟨hl, hr⟩)
  | ddiv =>
    simp only [zstep, znx, zi2, zl2, zf2, zd2, zjmp, zldc] at hs
    repeat' split at hs
    all_goals first
      | cases hs; done
      | (cases hs; refine ⟨hl, ?_⟩; simp_all [zRs_cN, zrvN]; done)
      | (cases hs; exact ⟨hl, hr⟩)
  | dsub =>
    simp only [zstep, znx, zi2, zl2, zf2, zd2, zjmp, zldc] at hs
    repeat' split at hs
    all_goals first
      | cases hs; done
      | (cases hs; refine ⟨hl, ?_⟩; simp_all [zRs_cN, zrvN]; done)
      | (cases hs; exact ⟨hl, hr⟩)
  | dup =>
    simp only [zstep, znx, zi2, zl2, zf2, zd2, zjmp, zldc] at hs
    repeat' split at hs
    all_goals first
      | cases hs; done
      | (cases hs; refine ⟨hl, ?_⟩; simp_all [zRs_cN, zrvN]; done)
      | (cases hs; exact ⟨hl, hr⟩)
  | pop =>
    simp only [zstep, znx, zi2, zl2, zf2, zd2, zjmp, zldc] at hs
    repeat' split at hs
    all_goals first
      | cases hs; done
      | (cases hs; refine ⟨hl, ?_⟩; simp_all [zRs_cN, zrvN]; done)
      | (cases hs; exact ⟨hl, hr⟩)
  | dup2 =>
    simp only [zstep, znx, zi2, zl2, zf2, zd2, zjmp, zldc] at hs
    repeat' split at hs
    all_goals first
      | cases hs; done
      | (cases hs; refine ⟨hl, ?_⟩; simp_all [zRs_cN, zrvN]; done)
      | (cases hs; exact ⟨hl, hr⟩)
  | goto a0 =>
    simp only [zstep, znx, zi2, zl2, zf2, zd2, zjmp, zldc] at hs
    repeat' split at hs
    all_goals first
      | cases hs; done
      | (cases hs; refine ⟨hl, ?_⟩; simp_all [zRs_cN, zrvN]; done)
      | (cases hs; exact ⟨hl, hr⟩)
  | ifCond a0 a1 =>
    simp only [zstep, znx, zi2, zl2, zf2, zd2, zjmp, zldc] at hs
    repeat' split at hs
    all_goals first
      | cases hs; done
      | (cases hs; refine ⟨hl, ?_⟩; simp_all [zRs_cN, zrvN]; done)
      | (cases hs; exact ⟨hl, hr⟩)
  | if_icmp a0 a1 =>
    simp only [zstep, znx, zi2, zl2, zf2, zd2, zjmp, zldc] at hs
    repeat' split at hs
    all_goals first
      | cases hs; done
      | (cases hs; refine ⟨hl, ?_⟩; simp_all [zRs_cN, zrvN]; done)
      | (cases hs; exact ⟨hl, hr⟩)
  | tableswitch a0 a1 a2 a3 =>
    simp only [zstep, znx, zi2, zl2, zf2, zd2, zjmp, zldc] at hs
    repeat' split at hs
    all_goals first
      | cases hs; done
      | (cases hs; refine ⟨hl, ?_⟩; simp_all [zRs_cN, zrvN]; done)
      | (cases hs; exact ⟨hl, hr⟩)
  | lookupswitch a0 a1 =>
    simp only [zstep, znx, zi2, zl2, zf2, zd2, zjmp, zldc] at hs
    repeat' split at hs
    all_goals first
      | cases hs; done
      | (cases hs; refine ⟨hl, ?_⟩; simp_all [zRs_cN, zrvN]; done)
      | (cases hs; exact ⟨hl, hr⟩)
  | aaload =>
    simp only [zstep, znx] at hs
    split at hs
    · rename_i i a t
      simp only [zRs_cN] at hr
      split at hs
      · rename_i k m hk
        split at hs
        · rename_i q hb hq
          cases hs
          exact ⟨hl, zRs_cN.mpr ⟨zpl_pdN hr.2.1 hq, hr.2.2⟩⟩
        · cases hs
      · cases hs
    · cases hs
  | arraylength =>
    simp only [zstep, znx, zi2, zl2, zf2, zd2, zjmp, zldc] at hs
    repeat' split at hs
    all_goals first
      | cases hs; done
      | (cases hs; refine ⟨hl, ?_⟩; simp_all [zRs_cN, zrvN]; done)
      | (cases hs; exact ⟨hl, hr⟩)
  | ireturn =>
    simp only [zstep] at hs
    repeat' split at hs
    all_goals first
      | cases hs; done
      | (cases hs; intro x hx; cases hx; done)
      | (cases hs; intro x hx; cases hx; first | rfl | exact (zRs_cN.mp hr).1)
  | lreturn =>
    simp only [zstep] at hs
    repeat' split at hs
    all_goals first
      | cases hs; done
      | (cases hs; intro x hx; cases hx; done)
      | (cases hs; intro x hx; cases hx; first | rfl | exact (zRs_cN.mp hr).1)
  | freturn =>
    simp only [zstep] at hs
    repeat' split at hs
    all_goals first
      | cases hs; done
      | (cases hs; intro x hx; cases hx; done)
      | (cases hs; intro x hx; cases hx; first | rfl | exact (zRs_cN.mp hr).1)
  | dreturn =>
    simp only [zstep] at hs
    repeat' split at hs
    all_goals first
      | cases hs; done
      | (cases hs; intro x hx; cases hx; done)
      | (cases hs; intro x hx; cases hx; first | rfl | exact (zRs_cN.mp hr).1)
  | areturn =>
    simp only [zstep] at hs
    repeat' split at hs
    all_goals first
      | cases hs; done
      | (cases hs; intro x hx; cases hx; done)
      | (cases hs; intro x hx; cases hx; first | rfl | exact (zRs_cN.mp hr).1)
  | return_ =>
    simp only [zstep] at hs
    repeat' split at hs
    all_goals first
      | cases hs; done
      | (cases hs; intro x hx; cases hx; done)
      | (cases hs; intro x hx; cases hx; first | rfl | exact (zRs_cN.mp hr).1)
  | new a0 =>
    simp only [zstep] at hs
    split at hs
    · split at hs
      · cases hs; exact trivial
      · cases hs
    · unfold zcat2 at hs
      repeat' split at hs
      all_goals first
        | cases hs; done
        | (cases hs
           refine ⟨fun q hq => ?_, zRs_nN⟩
           rcases List.mem_cons.mp hq with rfl | hq
           · rfl
           · rcases List.mem_cons.mp hq with rfl | hq
             · exact zpl_geN (by omega)
             · exact nomatch hq)
    · cases hs
  | getfield a0 => cases hf
  | putfield a0 => cases hf
  | iaload => cases hf
  | caload => cases hf
  | iastore => cases hf
  | castore => cases hf
  | invokestatic a0 => cases hf
  | invokevirtual a0 => cases hf
  | _ => simp [zstep] at hs
theorem zstep_rrN {i : Instr} (hd : d0 = 0 ∨ d0 = dy) (hl : zRlN ls) (hr : zRsN st) (hs : zstep 2147483648 d0 mi pc (i, len, r1, r2, r3) ls st I = some r) : zstep sl dy mi pc (i, len, r1, r2, r3) ls st I = some r ∧ zrrN I r := by
  cases hf : zfreeI i with
  | true =>
    refine ⟨?_, zfree_rrN hf hl hr hs⟩
    by_cases h1 : i = .arraylength
    · subst h1
      simp only [zstep] at hs ⊢
      split at hs
      · rename_i a t
        rw [zpl_kdN (sl' := sl) (zRs_cN.mp hr).1] at hs
        exact hs
      · cases hs
    · by_cases h2 : i = .aaload
      · subst h2
        simp only [zstep] at hs ⊢
        split at hs
        · rename_i i a t
          rw [zpl_kdN (sl' := sl) (zRs_cN.mp (zRs_cN.mp hr).2).1] at hs
          exact hs
        · cases hs
      · rw [← zfree_sl hf h1 h2]
        exact hs
  | false =>
    cases i with
    | getfield a0 =>
      simp only [zstep, znx] at hs ⊢
      split at hs
      · rename_i a t
        simp only [zRs_cN] at hr
        rw [zpl_kdN (sl' := sl) hr.1] at hs
        refine ⟨hs, ?_⟩
        repeat' split at hs
        all_goals first
          | cases hs; done
          | (cases hs; exact ⟨hl, zRs_cN.mpr ⟨zpl_pdN hr.1 (by assumption), hr.2⟩⟩)
          | (cases hs; exact ⟨hl, zRs_cN.mpr ⟨rfl, hr.2⟩⟩)
      · cases hs
    | putfield a0 =>
      simp only [zstep, znx] at hs ⊢
      split at hs
      · rename_i x a t
        simp only [zRs_cN] at hr
        rw [zpl_kdN (sl' := sl) hr.2.1] at hs
        refine ⟨hs, ?_⟩
        repeat' split at hs
        all_goals first
          | cases hs; done
          | (cases hs; exact ⟨hl, hr.2.2⟩)
      · cases hs
    | iaload =>
      simp only [zstep, znx] at hs ⊢
      split at hs
      · rename_i i a t
        simp only [zRs_cN] at hr
        rw [zpl_kdN (sl' := sl) hr.2.1] at hs
        refine ⟨hs, ?_⟩
        repeat' split at hs
        all_goals first
          | cases hs; done
          | (cases hs; exact ⟨hl, zRs_cN.mpr ⟨rfl, hr.2.2⟩⟩)
      · cases hs
    | caload =>
      simp only [zstep, znx] at hs ⊢
      split at hs
      · rename_i i a t
        simp only [zRs_cN] at hr
        rw [zpl_kdN (sl' := sl) hr.2.1] at hs
        refine ⟨hs, ?_⟩
        repeat' split at hs
        all_goals first
          | cases hs; done
          | (cases hs; exact ⟨hl, zRs_cN.mpr ⟨rfl, hr.2.2⟩⟩)
      · cases hs
    | iastore =>
      simp only [zstep, znx] at hs ⊢
      split at hs
      · rename_i x i a t
        simp only [zRs_cN] at hr
        rw [zpl_kdN (sl' := sl) hr.2.2.1] at hs
        refine ⟨hs, ?_⟩
        repeat' split at hs
        all_goals first
          | cases hs; done
          | (cases hs; exact ⟨hl, hr.2.2.2⟩)
      · cases hs
    | castore =>
      simp only [zstep, znx] at hs ⊢
      split at hs
      · rename_i x i a t
        simp only [zRs_cN] at hr
        rw [zpl_kdN (sl' := sl) hr.2.2.1] at hs
        refine ⟨hs, ?_⟩
        repeat' split at hs
        all_goals first
          | cases hs; done
          | (cases hs; exact ⟨hl, hr.2.2.2⟩)
      · cases hs
    | invokestatic a0 =>
      simp only [zstep] at hs ⊢
      split at hs
      · exact ⟨hs, zcall_rrN hr hs⟩
      · exact ⟨hs, zcall_rrN hr hs⟩
      · exact ⟨hs, zcall_rrN hr hs⟩
      · try simp only
        split at hs
        · rename_i c dd ss t
          simp only [zRs_cN] at hr
          rw [zpl_kdN (sl' := sl) hr.2.2.1, zpl_kdN (sl' := sl) hr.2.2.2.2.1] at hs
          refine ⟨hs, ?_⟩
          simp only [znx] at hs
          repeat' split at hs
          all_goals first
            | cases hs; done
            | (cases hs; exact ⟨hl, hr.2.2.2.2.2⟩)
        · cases hs
      · refine ⟨hs, ?_⟩
        simp only [znx, zi2] at hs
        repeat' split at hs
        all_goals first
          | cases hs; done
          | (cases hs; refine ⟨hl, ?_⟩; simp_all [zRs_cN, zrvN]; done)
      · cases hs
    | invokevirtual a0 =>
      simp only [zstep] at hs ⊢
      split at hs
      · try simp only
        split at hs
        · rename_i hw
          try rw [hw]
          try simp only
          split at hs
          · rename_i hc
            have hc2 : zrecv sl r1 st = true := by
              unfold zrecv at hc ⊢
              split at hc
              · rename_i a q hq
                have h3 : zrvN (.ref a) = true := zRs_dropN hr _ _ (by rw [hq]; exact List.mem_cons_self)
                rw [zpl_kdN (sl' := sl) h3] at hc
                exact hc
              · cases hc
            rw [hc2]
            exact ⟨hs, zcall_rrN hr hs⟩
          · cases hs
        · rename_i hw
          try rw [hw]
          try simp only
          split at hs
          · rename_i hm
            try rw [hm]
            exact zprim_rrN hd hl hr hs
          · cases hs
      · cases hs
    | _ => cases hf
theorem zcat3_rrN {c pc2 : Nat} {ls2 : zLs} (hl : zRlN ls) (h : zcat3 mi pc c ls = some (pc2, ls2)) : zRlN ls2 := by
  unfold zcat3 at h
  repeat' split at h
  all_goals first | cases h; done | (cases h; exact zRl_fN hl _)
theorem zdy_rrN (hd : d0 = 0 ∨ d0 = dy) (u : Nat) (la : zLs) : zdy u d0 la = 0 ∨ zdy u d0 la = zdy u dy la := by
  unfold zdy
  split
  · exact hd
  · split
    · exact Or.inr rfl
    · exact hd
/-- A RUN FROM THE SCRIPT'S PLACES is the same at every length of the law's array and for every built text, and changes those places alone -/
theorem zrun_rrN : ∀ (N : Nat) {D d0 dy mi pc : Nat} {ls : zLs} {st : List Value} {I : zM} {o : zO4}, (d0 = 0 ∨ d0 = dy) → zRlN ls → zRsN st → zrun 2147483648 N D d0 mi pc ls st I = some o →
    zrun sl N D dy mi pc ls st I = some o ∧ ∀ x, o.2.1 = some x → zrvN x = true := by
  intro N
  induction N with
  | zero => intro D d0 dy mi pc ls st I o _ _ _ h; simp [zrun] at h
  | succ N ih =>
    intro D d0 dy mi pc ls st I o hd hl hr h
    unfold zrun at h ⊢
    cases hz : zl mi pc with
    | none => rw [hz] at h; simp at h
    | some e =>
      obtain ⟨i, len, r1, r2, r3⟩ := e
      rw [hz] at h
      simp only at h ⊢
      cases hs : zstep 2147483648 d0 mi pc (i, len, r1, r2, r3) ls st I with
      | none => rw [hs] at h; simp at h
      | some r =>
        rw [hs] at h
        obtain ⟨hs', hq⟩ := zstep_rrN (sl := sl) hd hl hr hs
        rw [hs']
        rcases r with ⟨pc', ls', st', I', u⟩ | v | c | ⟨m, pc', la, st', u0⟩
        · obtain ⟨q1, q2⟩ := hq
          simp only [Option.map_eq_some_iff] at h ⊢
          obtain ⟨q, h1, rfl⟩ := h
          obtain ⟨g1, g2⟩ := ih hd q1 q2 h1
          exact ⟨⟨q, g1, rfl⟩, g2⟩
        · cases h
          exact ⟨rfl, hq⟩
        · cases h
          exact ⟨rfl, fun x hx => (by cases hx)⟩
        · obtain ⟨q1, q2⟩ := hq
          cases D with
          | zero => simp at h
          | succ D =>
            simp only at h ⊢
            cases hc : zrun 2147483648 N D (zdy u0 d0 la) m 0 la [] I with
            | none => rw [hc] at h; simp at h
            | some q =>
              rw [hc] at h
              obtain ⟨g1, g2⟩ := ih (zdy_rrN hd u0 la) q1 zRs_nN hc
              rw [g1]
              obtain ⟨c, v, I', u⟩ := q
              cases c with
              | zero =>
                simp only at h ⊢
                cases hg : zgd u0 v with
                | false => rw [hg] at h; cases h
                | true =>
                  rw [hg] at h
                  simp only [Option.map_eq_some_iff] at h ⊢
                  obtain ⟨q, h1, rfl⟩ := h
                  have hp : zRsN (zpush v st') := by
                    cases v with
                    | none => exact q2
                    | some x => exact zRs_cN.mpr ⟨g2 x rfl, q2⟩
                  obtain ⟨f1, f2⟩ := ih hd hl hp h1
                  exact ⟨⟨q, f1, rfl⟩, f2⟩
              | succ c =>
                simp only at h ⊢
                cases hy : zhd c pc (zH mi) with
                | none =>
                  rw [hy] at h
                  simp only at h ⊢
                  cases ha : zany pc (zH mi) with
                  | true => rw [ha] at h; cases h
                  | false =>
                    rw [ha] at h
                    cases h
                    exact ⟨rfl, fun x hx => (by cases hx)⟩
                | some hh =>
                  rw [hy] at h
                  simp only at h ⊢
                  cases hz3 : zcat3 mi pc c ls with
                  | none => rw [hz3] at h; cases h
                  | some w =>
                    rw [hz3] at h
                    obtain ⟨pc2, ls2⟩ := w
                    simp only [Option.map_eq_some_iff] at h ⊢
                    obtain ⟨q, h1, rfl⟩ := h
                    obtain ⟨f1, f2⟩ := ih hd (zcat3_rrN hl hz3) zRs_nN h1
                    exact ⟨⟨q, f1, rfl⟩, f2⟩
/-- the law's frame, as the kernel runs it -/
theorem zgoc_rr {N D mi : Nat} : ∀ (n : Nat) {pc : Nat} {ls : zLs} {st : List Value} {M : zM} {u0 pc' u : Nat} {ls' : zLs} {st' : List Value} {M' : zM}, zRlN ls → zRsN st → zgoc 2147483648 N D 0 mi n (pc, ls, st, M, u0) = some (pc', ls', st', M', u) → zgoc sl N D dy mi n (pc, ls, st, M, u0) = some (pc', ls', st', M', u)
  | 0, pc, ls, st, M, u0, pc', u, ls', st', M', hl, hr, h => h
  | n + 1, pc, ls, st, M, u0, pc', u, ls', st', M', hl, hr, h => by
    unfold zgoc at h ⊢
    cases hz : zl mi pc with
    | none => rw [hz] at h; simp at h
    | some e =>
      obtain ⟨i, len, r1, r2, r3⟩ := e
      rw [hz] at h
      simp only at h ⊢
      cases hs : zstep 2147483648 0 mi pc (i, len, r1, r2, r3) ls st M with
      | none => rw [hs] at h; simp at h
      | some r =>
        rw [hs] at h
        obtain ⟨hs', hq⟩ := zstep_rrN (sl := sl) (dy := dy) (Or.inl rfl) hl hr hs
        rw [hs']
        rcases r with ⟨pc1, ls1, st1, I1, u1⟩ | v | c | ⟨m, pc1, la, st1, q⟩
        · exact zgoc_rr n hq.1 hq.2 h
        · simp at h
        · simp at h
        · cases q with
          | succ q => simp at h
          | zero =>
            simp only at h ⊢
            cases hc : zrun 2147483648 N D 0 m 0 la [] M with
            | none => rw [hc] at h; simp at h
            | some o =>
              rw [hc] at h
              obtain ⟨g1, g2⟩ := zrun_rrN (sl := sl) (dy := dy) N (Or.inl rfl) hq.1 zRs_nN hc
              rw [g1]
              obtain ⟨cc, v, I1, u1⟩ := o
              cases cc with
              | succ c => simp at h
              | zero =>
                simp only at h ⊢
                have hp : zRsN (zpush v st1) := by
                  cases v with
                  | none => exact hq.2
                  | some x => exact zRs_cN.mpr ⟨g2 x rfl, hq.2⟩
                exact zgoc_rr n hl hp h
end ZRFN
