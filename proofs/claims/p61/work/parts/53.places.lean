/-! CONTRACTS: a run from the script's places alone -/
/-- places 144 to 147 and texts -/
def zpl (a : Nat) : Bool := (Nat.ble 144 a && Nat.ble a 147) || Nat.ble 2000 a
def zrv : Value → Bool
  | .ref a => zpl a
  | _ => true
def zRs (st : List Value) : Prop := ∀ v ∈ st, zrv v = true
def zRl (ls : zLs) : Prop := ∀ q ∈ ls, zrv q.2 = true
theorem zRs_c {v : Value} {r : List Value} : zRs (v :: r) ↔ zrv v = true ∧ zRs r := List.forall_mem_cons
theorem zRs_n : zRs [] := fun v h => nomatch h
theorem zRs_drop {st : List Value} (h : zRs st) (k : Nat) : zRs (st.drop k) := fun v hv => h v (List.mem_of_mem_drop hv)
theorem zRs_take {st : List Value} (h : zRs st) (k : Nat) : zRs (st.take k) := fun v hv => h v (List.mem_of_mem_take hv)
theorem zRl_args {vs : List Value} (h : zRs vs) : ∀ i, zRl (lv_args i vs) := by
  induction vs with
  | nil => intro i q hq; exact nomatch hq
  | cons v r ih =>
    intro i q hq
    rw [zRs_c] at h
    unfold lv_args at hq
    rcases List.mem_cons.mp hq with rfl | hq
    · exact h.1
    · exact ih h.2 _ q hq
theorem zlk_rv {ls : zLs} {i : Nat} {v : Value} (hl : zRl ls) (h : zlk ls i = some v) : zrv v = true := by
  induction ls with
  | nil => cases h
  | cons q r ih =>
    unfold zlk at h
    split at h
    · cases h; exact hl q (List.mem_cons_self)
    · exact ih (fun q hq => hl q (List.mem_cons_of_mem _ hq)) h
theorem zRl_f {ls : zLs} (hl : zRl ls) (f : Nat × Value → Bool) : zRl (ls.filter f) := fun q hq => hl q (List.mem_filter.mp hq).1
theorem zRl_1 {ls : zLs} (hl : zRl ls) {i : Nat} {v : Value} (hv : zrv v = true) : zRl (zs1 ls i v) := by
  unfold zs1
  intro q hq
  rcases List.mem_cons.mp hq with rfl | hq
  · exact hv
  · exact zRl_f hl _ q hq
theorem zRl_2 {ls : zLs} (hl : zRl ls) {i : Nat} {v : Value} (hv : zrv v = true) : zRl (zs2 ls i v) := by
  unfold zs2
  intro q hq
  rcases List.mem_cons.mp hq with rfl | hq
  · exact hv
  · exact zRl_f hl _ q hq
theorem zpl_lt {a : Nat} (h : zpl a = true) : (144 ≤ a ∧ a ≤ 147) ∨ 2000 ≤ a := by
  unfold zpl at h
  simp only [Bool.or_eq_true, Bool.and_eq_true] at h
  rcases h with h | h
  · exact Or.inl ⟨Nat.le_of_ble_eq_true h.1, Nat.le_of_ble_eq_true h.2⟩
  · exact Or.inr (Nat.le_of_ble_eq_true h)
theorem zpl_ge {a : Nat} (h : 2000 ≤ a) : zpl a = true := by
  unfold zpl
  rw [Nat.ble_eq_true_of_le h, Bool.or_true]
theorem zpl_pd {a k q : Nat} (h : zpl a = true) (hq : zpd a k = some q) : zpl q = true := by
  have h1 := zpl_lt h
  have h2 := zpd_lt hq
  have : a = 144 ∨ a = 145 ∨ a = 146 ∨ a = 147 := by omega
  rcases this with rfl | rfl | rfl | rfl
  · have h3 : (match Nat.ble (k + 1) 3 with | true => some (145 + k) | false => none) = some q := hq
    split at h3
    · rename_i hb
      have := Nat.le_of_ble_eq_true hb
      cases h3
      have : k = 0 ∨ k = 1 ∨ k = 2 := by omega
      rcases this with rfl | rfl | rfl <;> rfl
    · cases h3
  all_goals exact nomatch (show (none : Option Nat) = some q from hq)
theorem zpl_kd {sl sl' a : Nat} (h : zpl a = true) : zkd sl a = zkd sl' a := zkd_sl (by have := zpl_lt h; omega)
def zp4 (a : Nat) : Bool := Nat.ble 144 a && Nat.ble a 147
theorem zp4_of {sl a : Nat} {e : Nat × Nat} (h : zpl a = true) (hk : zkd sl a = some e) : zp4 a = true := by
  have h1 := zpl_lt h
  have h2 := zkd_lt hk
  have : a = 144 ∨ a = 145 ∨ a = 146 ∨ a = 147 := by omega
  rcases this with rfl | rfl | rfl | rfl <;> rfl
/-- a step's result: references of the kind alone, and what lies elsewhere as it was -/
def zrr (I : zM) : zRes → Prop
  | .inl (_, ls, st, I', _) => zRl ls ∧ zRs st ∧ ∀ a k, zp4 a = false → I' a k = I a k
  | .inr (.inl v) => ∀ x, v = some x → zrv x = true
  | .inr (.inr (.inl _)) => True
  | .inr (.inr (.inr (_, _, la, st, _))) => zRl la ∧ zRs st
section ZRF
variable {sl dy d0 mi pc len r1 r2 r3 : Nat} {ls : zLs} {st : List Value} {I : zM} {r : zRes}
theorem zLd_rr {i t : Nat} (hl : zRl ls) (hr : zRs st) (h : zLd pc ls st I i t = some r) : zrr I r := by
  unfold zLd at h
  split at h
  · rename_i v hv
    cases h
    unfold zld at hv
    split at hv
    · rename_i u hu
      split at hv
      · cases hv
        exact ⟨hl, zRs_c.mpr ⟨zlk_rv hl hu, hr⟩, fun _ _ _ => rfl⟩
      · cases hv
    · cases hv
  · cases h
theorem zSt_rr {nL i t : Nat} (hl : zRl ls) (hr : zRs st) (h : zSt pc nL ls st I i t = some r) : zrr I r := by
  unfold zSt at h
  split at h
  · rename_i v u
    rw [zRs_c] at hr
    split at h
    · cases h
      refine ⟨?_, hr.2, fun _ _ _ => rfl⟩
      by_cases ht : t = 1 ∨ t = 3
      · rw [if_pos ht]; exact zRl_2 hl hr.1
      · rw [if_neg ht]; exact zRl_1 hl hr.1
    · cases h
  · cases h
theorem zcall_rr {c k : Nat} (hr : zRs st) (h : zcall c pc k st = some r) : zrr I r := by
  obtain ⟨-, -, -, -, rfl⟩ := zcall_inv h
  exact ⟨zRl_args (fun v hv => zRs_take hr k v (List.mem_reverse.mp hv)) 0, zRs_drop hr k⟩
theorem zprim_rr {c : Nat} (hd : d0 = 0 ∨ d0 = dy) (hl : zRl ls) (hr : zRs st) (hs : zprim d0 c pc ls st I = some r) : zprim dy c pc ls st I = some r ∧ zrr I r := by
  have hx : ∀ {a : Nat} {t : List Int32}, ztx d0 a = some t → ztx dy a = some t := fun h => by
    rcases hd with rfl | rfl
    · exact ztx_any h
    · exact h
  unfold zprim at hs ⊢
  split at hs
  · split at hs
    · rw [zRs_c, zRs_c] at hr; exact absurd hr.2.1 (by decide)
    · cases hs
  · split at hs
    · rw [zRs_c, zRs_c] at hr; exact absurd hr.2.1 (by decide)
    · cases hs
  · split at hs
    · rw [zRs_c, zRs_c] at hr; exact absurd hr.2.1 (by decide)
    · cases hs
  · split at hs
    · rw [zRs_c] at hr; exact absurd hr.1 (by decide)
    · cases hs
  · split at hs
    · rw [zRs_c, zRs_c] at hr; exact absurd hr.2.1 (by decide)
    · cases hs
  · try simp only
    split at hs
    · rename_i a t
      rw [zRs_c] at hr
      split at hs
      · rename_i u hu
        simp only [hx hu]
        refine ⟨hs, ?_⟩
        cases hs
        exact ⟨hl, zRs_c.mpr ⟨rfl, hr.2⟩, fun _ _ _ => rfl⟩
      · cases hs
    · cases hs
  · try simp only
    split at hs
    · rename_i i a t
      rw [zRs_c, zRs_c] at hr
      split at hs
      · rename_i u hu
        simp only [hx hu]
        refine ⟨hs, ?_⟩
        split at hs
        · cases hs
          exact ⟨hl, zRs_c.mpr ⟨rfl, hr.2.2⟩, fun _ _ _ => rfl⟩
        · cases hs
      · cases hs
    · cases hs
  · cases hs
theorem zfree_rr {i : Instr} (hf : zfreeI i = true) (hl : zRl ls) (hr : zRs st) (hs : zstep sl d0 mi pc (i, len, r1, r2, r3) ls st I = some r) : zrr I r := by
  cases i with
  | iconst a0 => cases hs; exact ⟨hl, zRs_c.mpr ⟨rfl, hr⟩, fun _ _ _ => rfl⟩
  | bipush a0 => cases hs; exact ⟨hl, zRs_c.mpr ⟨rfl, hr⟩, fun _ _ _ => rfl⟩
  | sipush a0 => cases hs; exact ⟨hl, zRs_c.mpr ⟨rfl, hr⟩, fun _ _ _ => rfl⟩
  | lconst a0 => cases hs; exact ⟨hl, zRs_c.mpr ⟨rfl, hr⟩, fun _ _ _ => rfl⟩
  | fconst a0 => match a0, hs with
    | 0, hs => cases hs; exact ⟨hl, zRs_c.mpr ⟨rfl, hr⟩, fun _ _ _ => rfl⟩
    | 1, hs => cases hs; exact ⟨hl, zRs_c.mpr ⟨rfl, hr⟩, fun _ _ _ => rfl⟩
    | 2, hs => cases hs; exact ⟨hl, zRs_c.mpr ⟨rfl, hr⟩, fun _ _ _ => rfl⟩
  | dconst a0 => match a0, hs with
    | 0, hs => cases hs; exact ⟨hl, zRs_c.mpr ⟨rfl, hr⟩, fun _ _ _ => rfl⟩
    | 1, hs => cases hs; exact ⟨hl, zRs_c.mpr ⟨rfl, hr⟩, fun _ _ _ => rfl⟩
  | ldc a0 =>
    simp only [zstep, zldc, znx] at hs
    split at hs
    · cases hs; exact ⟨hl, zRs_c.mpr ⟨rfl, hr⟩, fun _ _ _ => rfl⟩
    · cases hs; exact ⟨hl, zRs_c.mpr ⟨rfl, hr⟩, fun _ _ _ => rfl⟩
    · cases hs; exact ⟨hl, zRs_c.mpr ⟨zpl_ge (Nat.le_add_right 2000 r2), hr⟩, fun _ _ _ => rfl⟩
    · cases hs
  | ldc_w a0 =>
    simp only [zstep, zldc, znx] at hs
    split at hs
    · cases hs; exact ⟨hl, zRs_c.mpr ⟨rfl, hr⟩, fun _ _ _ => rfl⟩
    · cases hs; exact ⟨hl, zRs_c.mpr ⟨rfl, hr⟩, fun _ _ _ => rfl⟩
    · cases hs; exact ⟨hl, zRs_c.mpr ⟨zpl_ge (Nat.le_add_right 2000 r2), hr⟩, fun _ _ _ => rfl⟩
    · cases hs
  | ldc2_w a0 =>
    simp only [zstep, znx, zi2, zl2, zf2, zd2, zjmp, zldc] at hs
    repeat' split at hs
    all_goals first
      | cases hs; done
      | (cases hs; refine ⟨hl, ?_, fun _ _ _ => rfl⟩; simp_all [zRs_c, zrv]; done)
      | (cases hs; exact ⟨hl, hr, fun _ _ _ => rfl⟩)
  | iload a0 => exact zLd_rr hl hr hs
  | iload_n a0 => exact zLd_rr hl hr hs
  | lload a0 => exact zLd_rr hl hr hs
  | lload_n a0 => exact zLd_rr hl hr hs
  | fload a0 => exact zLd_rr hl hr hs
  | fload_n a0 => exact zLd_rr hl hr hs
  | dload a0 => exact zLd_rr hl hr hs
  | dload_n a0 => exact zLd_rr hl hr hs
  | aload a0 => exact zLd_rr hl hr hs
  | aload_n a0 => exact zLd_rr hl hr hs
  | istore a0 => exact zSt_rr hl hr hs
  | istore_n a0 => exact zSt_rr hl hr hs
  | lstore a0 => exact zSt_rr hl hr hs
  | lstore_n a0 => exact zSt_rr hl hr hs
  | fstore a0 => exact zSt_rr hl hr hs
  | fstore_n a0 => exact zSt_rr hl hr hs
  | dstore a0 => exact zSt_rr hl hr hs
  | dstore_n a0 => exact zSt_rr hl hr hs
  | astore a0 => exact zSt_rr hl hr hs
  | astore_n a0 => exact zSt_rr hl hr hs
  | iinc a0 a1 =>
    simp only [zstep, znx] at hs
    repeat' split at hs
    all_goals first | (cases hs; exact ⟨zRl_1 hl rfl, hr, fun _ _ _ => rfl⟩) | cases hs
  | iadd =>
    simp only [zstep, znx, zi2, zl2, zf2, zd2, zjmp, zldc] at hs
    repeat' split at hs
    all_goals first
      | cases hs; done
      | (cases hs; refine ⟨hl, ?_, fun _ _ _ => rfl⟩; simp_all [zRs_c, zrv]; done)
      | (cases hs; exact ⟨hl, hr, fun _ _ _ => rfl⟩)
  | isub =>
    simp only [zstep, znx, zi2, zl2, zf2, zd2, zjmp, zldc] at hs
    repeat' split at hs
    all_goals first
      | cases hs; done
      | (cases hs; refine ⟨hl, ?_, fun _ _ _ => rfl⟩; simp_all [zRs_c, zrv]; done)
      | (cases hs; exact ⟨hl, hr, fun _ _ _ => rfl⟩)
  | imul =>
    simp only [zstep, znx, zi2, zl2, zf2, zd2, zjmp, zldc] at hs
    repeat' split at hs
    all_goals first
      | cases hs; done
      | (cases hs; refine ⟨hl, ?_, fun _ _ _ => rfl⟩; simp_all [zRs_c, zrv]; done)
      | (cases hs; exact ⟨hl, hr, fun _ _ _ => rfl⟩)
  | iand =>
    simp only [zstep, znx, zi2, zl2, zf2, zd2, zjmp, zldc] at hs
    repeat' split at hs
    all_goals first
      | cases hs; done
      | (cases hs; refine ⟨hl, ?_, fun _ _ _ => rfl⟩; simp_all [zRs_c, zrv]; done)
      | (cases hs; exact ⟨hl, hr, fun _ _ _ => rfl⟩)
  | ior =>
    simp only [zstep, znx, zi2, zl2, zf2, zd2, zjmp, zldc] at hs
    repeat' split at hs
    all_goals first
      | cases hs; done
      | (cases hs; refine ⟨hl, ?_, fun _ _ _ => rfl⟩; simp_all [zRs_c, zrv]; done)
      | (cases hs; exact ⟨hl, hr, fun _ _ _ => rfl⟩)
  | ixor =>
    simp only [zstep, znx, zi2, zl2, zf2, zd2, zjmp, zldc] at hs
    repeat' split at hs
    all_goals first
      | cases hs; done
      | (cases hs; refine ⟨hl, ?_, fun _ _ _ => rfl⟩; simp_all [zRs_c, zrv]; done)
      | (cases hs; exact ⟨hl, hr, fun _ _ _ => rfl⟩)
  | ishl =>
    simp only [zstep, znx, zi2, zl2, zf2, zd2, zjmp, zldc] at hs
    repeat' split at hs
    all_goals first
      | cases hs; done
      | (cases hs; refine ⟨hl, ?_, fun _ _ _ => rfl⟩; simp_all [zRs_c, zrv]; done)
      | (cases hs; exact ⟨hl, hr, fun _ _ _ => rfl⟩)
  | ishr =>
    simp only [zstep, znx, zi2, zl2, zf2, zd2, zjmp, zldc] at hs
    repeat' split at hs
    all_goals first
      | cases hs; done
      | (cases hs; refine ⟨hl, ?_, fun _ _ _ => rfl⟩; simp_all [zRs_c, zrv]; done)
      | (cases hs; exact ⟨hl, hr, fun _ _ _ => rfl⟩)
  | iushr =>
    simp only [zstep, znx, zi2, zl2, zf2, zd2, zjmp, zldc] at hs
    repeat' split at hs
    all_goals first
      | cases hs; done
      | (cases hs; refine ⟨hl, ?_, fun _ _ _ => rfl⟩; simp_all [zRs_c, zrv]; done)
      | (cases hs; exact ⟨hl, hr, fun _ _ _ => rfl⟩)
  | idiv =>
    simp only [zstep, znx, zi2, zl2, zf2, zd2, zjmp, zldc] at hs
    repeat' split at hs
    all_goals first
      | cases hs; done
      | (cases hs; refine ⟨hl, ?_, fun _ _ _ => rfl⟩; simp_all [zRs_c, zrv]; done)
      | (cases hs; exact ⟨hl, hr, fun _ _ _ => rfl⟩)
  | irem =>
    simp only [zstep, znx, zi2, zl2, zf2, zd2, zjmp, zldc] at hs
    repeat' split at hs
    all_goals first
      | cases hs; done
      | (cases hs; refine ⟨hl, ?_, fun _ _ _ => rfl⟩; simp_all [zRs_c, zrv]; done)
      | (cases hs; exact ⟨hl, hr, fun _ _ _ => rfl⟩)
  | ladd =>
    simp only [zstep, znx, zi2, zl2, zf2, zd2, zjmp, zldc] at hs
    repeat' split at hs
    all_goals first
      | cases hs; done
      | (cases hs; refine ⟨hl, ?_, fun _ _ _ => rfl⟩; simp_all [zRs_c, zrv]; done)
      | (cases hs; exact ⟨hl, hr, fun _ _ _ => rfl⟩)
  | lmul =>
    simp only [zstep, znx, zi2, zl2, zf2, zd2, zjmp, zldc] at hs
    repeat' split at hs
    all_goals first
      | cases hs; done
      | (cases hs; refine ⟨hl, ?_, fun _ _ _ => rfl⟩; simp_all [zRs_c, zrv]; done)
      | (cases hs; exact ⟨hl, hr, fun _ _ _ => rfl⟩)
  | lor =>
    simp only [zstep, znx, zi2, zl2, zf2, zd2, zjmp, zldc] at hs
    repeat' split at hs
    all_goals first
      | cases hs; done
      | (cases hs; refine ⟨hl, ?_, fun _ _ _ => rfl⟩; simp_all [zRs_c, zrv]; done)
      | (cases hs; exact ⟨hl, hr, fun _ _ _ => rfl⟩)
  | lxor =>
    simp only [zstep, znx, zi2, zl2, zf2, zd2, zjmp, zldc] at hs
    repeat' split at hs
    all_goals first
      | cases hs; done
      | (cases hs; refine ⟨hl, ?_, fun _ _ _ => rfl⟩; simp_all [zRs_c, zrv]; done)
      | (cases hs; exact ⟨hl, hr, fun _ _ _ => rfl⟩)
  | ineg =>
    simp only [zstep, znx, zi2, zl2, zf2, zd2, zjmp, zldc] at hs
    repeat' split at hs
    all_goals first
      | cases hs; done
      | (cases hs; refine ⟨hl, ?_, fun _ _ _ => rfl⟩; simp_all [zRs_c, zrv]; done)
      | (cases hs; exact ⟨hl, hr, fun _ _ _ => rfl⟩)
  | lshl =>
    simp only [zstep, znx, zi2, zl2, zf2, zd2, zjmp, zldc] at hs
    repeat' split at hs
    all_goals first
      | cases hs; done
      | (cases hs; refine ⟨hl, ?_, fun _ _ _ => rfl⟩; simp_all [zRs_c, zrv]; done)
      | (cases hs; exact ⟨hl, hr, fun _ _ _ => rfl⟩)
  | lushr =>
    simp only [zstep, znx, zi2, zl2, zf2, zd2, zjmp, zldc] at hs
    repeat' split at hs
    all_goals first
      | cases hs; done
      | (cases hs; refine ⟨hl, ?_, fun _ _ _ => rfl⟩; simp_all [zRs_c, zrv]; done)
      | (cases hs; exact ⟨hl, hr, fun _ _ _ => rfl⟩)
  | i2l =>
    simp only [zstep, znx, zi2, zl2, zf2, zd2, zjmp, zldc] at hs
    repeat' split at hs
    all_goals first
      | cases hs; done
      | (cases hs; refine ⟨hl, ?_, fun _ _ _ => rfl⟩; simp_all [zRs_c, zrv]; done)
      | (cases hs; exact ⟨hl, hr, fun _ _ _ => rfl⟩)
  | i2f =>
    simp only [zstep, znx, zi2, zl2, zf2, zd2, zjmp, zldc] at hs
    repeat' split at hs
    all_goals first
      | cases hs; done
      | (cases hs; refine ⟨hl, ?_, fun _ _ _ => rfl⟩; simp_all [zRs_c, zrv]; done)
      | (cases hs; exact ⟨hl, hr, fun _ _ _ => rfl⟩)
  | i2d =>
    simp only [zstep, znx, zi2, zl2, zf2, zd2, zjmp, zldc] at hs
    repeat' split at hs
    all_goals first
      | cases hs; done
      | (cases hs; refine ⟨hl, ?_, fun _ _ _ => rfl⟩; simp_all [zRs_c, zrv]; done)
      | (cases hs; exact ⟨hl, hr, fun _ _ _ => rfl⟩)
  | f2i =>
    simp only [zstep, znx, zi2, zl2, zf2, zd2, zjmp, zldc] at hs
    repeat' split at hs
    all_goals first
      | cases hs; done
      | (cases hs; refine ⟨hl, ?_, fun _ _ _ => rfl⟩; simp_all [zRs_c, zrv]; done)
      | (cases hs; exact ⟨hl, hr, fun _ _ _ => rfl⟩)
  | d2l =>
    simp only [zstep, znx, zi2, zl2, zf2, zd2, zjmp, zldc] at hs
    repeat' split at hs
    all_goals first
      | cases hs; done
      | (cases hs; refine ⟨hl, ?_, fun _ _ _ => rfl⟩; simp_all [zRs_c, zrv]; done)
      | (cases hs; exact ⟨hl, hr, fun _ _ _ => rfl⟩)
  | lcmp =>
    simp only [zstep, znx, zi2, zl2, zf2, zd2, zjmp, zldc] at hs
    repeat' split at hs
    all_goals first
      | cases hs; done
      | (cases hs; refine ⟨hl, ?_, fun _ _ _ => rfl⟩; simp_all [zRs_c, zrv]; done)
      | (cases hs; exact ⟨hl, hr, fun _ _ _ => rfl⟩)
  | i2c =>
    simp only [zstep, znx, zi2, zl2, zf2, zd2, zjmp, zldc] at hs
    repeat' split at hs
    all_goals first
      | cases hs; done
      | (cases hs; refine ⟨hl, ?_, fun _ _ _ => rfl⟩; simp_all [zRs_c, zrv]; done)
      | (cases hs; exact ⟨hl, hr, fun _ _ _ => rfl⟩)
  | fcmp a0 =>
    simp only [zstep, znx, zi2, zl2, zf2, zd2, zjmp, zldc] at hs
    repeat' split at hs
    all_goals first
      | cases hs; done
      | (cases hs; refine ⟨hl, ?_, fun _ _ _ => rfl⟩; simp_all [zRs_c, zrv]; done)
      | (cases hs; exact ⟨hl, hr, fun _ _ _ => rfl⟩)
  | dcmp a0 =>
    simp only [zstep, znx, zi2, zl2, zf2, zd2, zjmp, zldc] at hs
    repeat' split at hs
    all_goals first
      | cases hs; done
      | (cases hs; refine ⟨hl, ?_, fun _ _ _ => rfl⟩; simp_all [zRs_c, zrv]; done)
      | (cases hs; exact ⟨hl, hr, fun _ _ _ => rfl⟩)
  | fmul =>
    simp only [zstep, znx, zi2, zl2, zf2, zd2, zjmp, zldc] at hs
    repeat' split at hs
    all_goals first
      | cases hs; done
      | (cases hs; refine ⟨hl, ?_, fun _ _ _ => rfl⟩; simp_all [zRs_c, zrv]; done)
      | (cases hs; exact ⟨hl, hr, fun _ _ _ => rfl⟩)
  | fdiv =>
    simp only [zstep, znx, zi2, zl2, zf2, zd2, zjmp, zldc] at hs
    repeat' split at hs
    all_goals first
      | cases hs; done
      | (cases hs; refine ⟨hl, ?_, fun _ _ _ => rfl⟩; simp_all [zRs_c, zrv]; done)
      | (cases hs; exact ⟨hl, hr, fun _ _ _ => rfl⟩)
  | fsub =>
    simp only [zstep, znx, zi2, zl2, zf2, zd2, zjmp, zldc] at hs
    repeat' split at hs
    all_goals first
      | cases hs; done
      | (cases hs; refine ⟨hl, ?_, fun _ _ _ => rfl⟩; simp_all [zRs_c, zrv]; done)
      | (cases hs; exact ⟨hl, hr, fun _ _ _ => rfl⟩)
  | dmul =>
    simp only [zstep, znx, zi2, zl2, zf2, zd2, zjmp, zldc] at hs
    repeat' split at hs
    all_goals first
      | cases hs; done
      | (cases hs; refine ⟨hl, ?_, fun _ _ _ => rfl⟩; simp_all [zRs_c, zrv]; done)
      | (cases hs; exact ⟨hl, hr, fun _ _ _ => rfl⟩)
  | ddiv =>
    simp only [zstep, znx, zi2, zl2, zf2, zd2, zjmp, zldc] at hs
    repeat' split at hs
    all_goals first
      | cases hs; done
      | (cases hs; refine ⟨hl, ?_, fun _ _ _ => rfl⟩; simp_all [zRs_c, zrv]; done)
      | (cases hs; exact ⟨hl, hr, fun _ _ _ => rfl⟩)
  | dsub =>
    simp only [zstep, znx, zi2, zl2, zf2, zd2, zjmp, zldc] at hs
    repeat' split at hs
    all_goals first
      | cases hs; done
      | (cases hs; refine ⟨hl, ?_, fun _ _ _ => rfl⟩; simp_all [zRs_c, zrv]; done)
      | (cases hs; exact ⟨hl, hr, fun _ _ _ => rfl⟩)
  | dup =>
    simp only [zstep, znx, zi2, zl2, zf2, zd2, zjmp, zldc] at hs
    repeat' split at hs
    all_goals first
      | cases hs; done
      | (cases hs; refine ⟨hl, ?_, fun _ _ _ => rfl⟩; simp_all [zRs_c, zrv]; done)
      | (cases hs; exact ⟨hl, hr, fun _ _ _ => rfl⟩)
  | pop =>
    simp only [zstep, znx, zi2, zl2, zf2, zd2, zjmp, zldc] at hs
    repeat' split at hs
    all_goals first
      | cases hs; done
      | (cases hs; refine ⟨hl, ?_, fun _ _ _ => rfl⟩; simp_all [zRs_c, zrv]; done)
      | (cases hs; exact ⟨hl, hr, fun _ _ _ => rfl⟩)
  | dup2 =>
    simp only [zstep, znx, zi2, zl2, zf2, zd2, zjmp, zldc] at hs
    repeat' split at hs
    all_goals first
      | cases hs; done
      | (cases hs; refine ⟨hl, ?_, fun _ _ _ => rfl⟩; simp_all [zRs_c, zrv]; done)
      | (cases hs; exact ⟨hl, hr, fun _ _ _ => rfl⟩)
  | goto a0 =>
    simp only [zstep, znx, zi2, zl2, zf2, zd2, zjmp, zldc] at hs
    repeat' split at hs
    all_goals first
      | cases hs; done
      | (cases hs; refine ⟨hl, ?_, fun _ _ _ => rfl⟩; simp_all [zRs_c, zrv]; done)
      | (cases hs; exact ⟨hl, hr, fun _ _ _ => rfl⟩)
  | ifCond a0 a1 =>
    simp only [zstep, znx, zi2, zl2, zf2, zd2, zjmp, zldc] at hs
    repeat' split at hs
    all_goals first
      | cases hs; done
      | (cases hs; refine ⟨hl, ?_, fun _ _ _ => rfl⟩; simp_all [zRs_c, zrv]; done)
      | (cases hs; exact ⟨hl, hr, fun _ _ _ => rfl⟩)
  | if_icmp a0 a1 =>
    simp only [zstep, znx, zi2, zl2, zf2, zd2, zjmp, zldc] at hs
    repeat' split at hs
    all_goals first
      | cases hs; done
      | (cases hs; refine ⟨hl, ?_, fun _ _ _ => rfl⟩; simp_all [zRs_c, zrv]; done)
      | (cases hs; exact ⟨hl, hr, fun _ _ _ => rfl⟩)
  | tableswitch a0 a1 a2 a3 =>
    simp only [zstep, znx, zi2, zl2, zf2, zd2, zjmp, zldc] at hs
    repeat' split at hs
    all_goals first
      | cases hs; done
      | (cases hs; refine ⟨hl, ?_, fun _ _ _ => rfl⟩; simp_all [zRs_c, zrv]; done)
      | (cases hs; exact ⟨hl, hr, fun _ _ _ => rfl⟩)
  | lookupswitch a0 a1 =>
    simp only [zstep, znx, zi2, zl2, zf2, zd2, zjmp, zldc] at hs
    repeat' split at hs
    all_goals first
      | cases hs; done
      | (cases hs; refine ⟨hl, ?_, fun _ _ _ => rfl⟩; simp_all [zRs_c, zrv]; done)
      | (cases hs; exact ⟨hl, hr, fun _ _ _ => rfl⟩)
  | aaload =>
    simp only [zstep, znx] at hs
    split at hs
    · rename_i i a t
      simp only [zRs_c] at hr
      split at hs
      · rename_i k m hk
        split at hs
        · rename_i q hb hq
          cases hs
          exact ⟨hl, zRs_c.mpr ⟨zpl_pd hr.2.1 hq, hr.2.2⟩, fun _ _ _ => rfl⟩
        · cases hs
      · cases hs
    · cases hs
  | arraylength =>
    simp only [zstep, znx, zi2, zl2, zf2, zd2, zjmp, zldc] at hs
    repeat' split at hs
    all_goals first
      | cases hs; done
      | (cases hs; refine ⟨hl, ?_, fun _ _ _ => rfl⟩; simp_all [zRs_c, zrv]; done)
      | (cases hs; exact ⟨hl, hr, fun _ _ _ => rfl⟩)
  | ireturn =>
    simp only [zstep] at hs
    repeat' split at hs
    all_goals first
      | cases hs; done
      | (cases hs; intro x hx; cases hx; done)
      | (cases hs; intro x hx; cases hx; first | rfl | exact (zRs_c.mp hr).1)
  | lreturn =>
    simp only [zstep] at hs
    repeat' split at hs
    all_goals first
      | cases hs; done
      | (cases hs; intro x hx; cases hx; done)
      | (cases hs; intro x hx; cases hx; first | rfl | exact (zRs_c.mp hr).1)
  | freturn =>
    simp only [zstep] at hs
    repeat' split at hs
    all_goals first
      | cases hs; done
      | (cases hs; intro x hx; cases hx; done)
      | (cases hs; intro x hx; cases hx; first | rfl | exact (zRs_c.mp hr).1)
  | dreturn =>
    simp only [zstep] at hs
    repeat' split at hs
    all_goals first
      | cases hs; done
      | (cases hs; intro x hx; cases hx; done)
      | (cases hs; intro x hx; cases hx; first | rfl | exact (zRs_c.mp hr).1)
  | areturn =>
    simp only [zstep] at hs
    repeat' split at hs
    all_goals first
      | cases hs; done
      | (cases hs; intro x hx; cases hx; done)
      | (cases hs; intro x hx; cases hx; first | rfl | exact (zRs_c.mp hr).1)
  | return_ =>
    simp only [zstep] at hs
    repeat' split at hs
    all_goals first
      | cases hs; done
      | (cases hs; intro x hx; cases hx; done)
      | (cases hs; intro x hx; cases hx; first | rfl | exact (zRs_c.mp hr).1)
  | new a0 =>
    simp only [zstep] at hs
    split at hs
    · split at hs
      · cases hs; exact trivial
      · cases hs
    · unfold zcat2 at hs
      split at hs
      · rw [zRs_c] at hr; exact absurd hr.1 (by decide)
      · cases hs
    · cases hs
  | getfield a0 => cases hf
  | putfield a0 => cases hf
  | iaload => cases hf
  | caload => cases hf
  | iastore => cases hf
  | castore => cases hf
  | invokestatic a0 => cases hf
  | invokevirtual a0 => cases hf
  | _ => simp [zstep] at hs
theorem zstep_rr {i : Instr} (hd : d0 = 0 ∨ d0 = dy) (hl : zRl ls) (hr : zRs st) (hs : zstep 2147483648 d0 mi pc (i, len, r1, r2, r3) ls st I = some r) : zstep sl dy mi pc (i, len, r1, r2, r3) ls st I = some r ∧ zrr I r := by
  cases hf : zfreeI i with
  | true =>
    refine ⟨?_, zfree_rr hf hl hr hs⟩
    by_cases h1 : i = .arraylength
    · subst h1
      simp only [zstep] at hs ⊢
      split at hs
      · rename_i a t
        rw [zpl_kd (sl' := sl) (zRs_c.mp hr).1] at hs
        exact hs
      · cases hs
    · by_cases h2 : i = .aaload
      · subst h2
        simp only [zstep] at hs ⊢
        split at hs
        · rename_i i a t
          rw [zpl_kd (sl' := sl) (zRs_c.mp (zRs_c.mp hr).2).1] at hs
          exact hs
        · cases hs
      · rw [← zfree_sl hf h1 h2]
        exact hs
  | false =>
    cases i with
    | getfield a0 =>
      simp only [zstep, znx] at hs ⊢
      split at hs
      · rename_i a t
        simp only [zRs_c] at hr
        rw [zpl_kd (sl' := sl) hr.1] at hs
        refine ⟨hs, ?_⟩
        repeat' split at hs
        all_goals first
          | cases hs; done
          | (cases hs; exact ⟨hl, zRs_c.mpr ⟨zpl_pd hr.1 (by assumption), hr.2⟩, fun _ _ _ => rfl⟩)
          | (cases hs; exact ⟨hl, zRs_c.mpr ⟨rfl, hr.2⟩, fun _ _ _ => rfl⟩)
      · cases hs
    | putfield a0 =>
      simp only [zstep, znx] at hs ⊢
      split at hs
      · rename_i x a t
        simp only [zRs_c] at hr
        rw [zpl_kd (sl' := sl) hr.2.1] at hs
        refine ⟨hs, ?_⟩
        repeat' split at hs
        all_goals first
          | cases hs; done
          | (cases hs; exact ⟨hl, hr.2.2, (fun b j hb => by rw [zup_at, if_neg (fun e => by rw [e.1, zp4_of hr.2.1 (by assumption)] at hb; cases hb)])⟩)
      · cases hs
    | iaload =>
      simp only [zstep, znx] at hs ⊢
      split at hs
      · rename_i i a t
        simp only [zRs_c] at hr
        rw [zpl_kd (sl' := sl) hr.2.1] at hs
        refine ⟨hs, ?_⟩
        repeat' split at hs
        all_goals first
          | cases hs; done
          | (cases hs; exact ⟨hl, zRs_c.mpr ⟨rfl, hr.2.2⟩, fun _ _ _ => rfl⟩)
      · cases hs
    | caload =>
      simp only [zstep, znx] at hs ⊢
      split at hs
      · rename_i i a t
        simp only [zRs_c] at hr
        rw [zpl_kd (sl' := sl) hr.2.1] at hs
        refine ⟨hs, ?_⟩
        repeat' split at hs
        all_goals first
          | cases hs; done
          | (cases hs; exact ⟨hl, zRs_c.mpr ⟨rfl, hr.2.2⟩, fun _ _ _ => rfl⟩)
      · cases hs
    | iastore =>
      simp only [zstep, znx] at hs ⊢
      split at hs
      · rename_i x i a t
        simp only [zRs_c] at hr
        rw [zpl_kd (sl' := sl) hr.2.2.1] at hs
        refine ⟨hs, ?_⟩
        repeat' split at hs
        all_goals first
          | cases hs; done
          | (cases hs; exact ⟨hl, hr.2.2.2, (fun b j hb => by rw [zup_at, if_neg (fun e => by rw [e.1, zp4_of hr.2.2.1 (by assumption)] at hb; cases hb)])⟩)
      · cases hs
    | castore =>
      simp only [zstep, znx] at hs ⊢
      split at hs
      · rename_i x i a t
        simp only [zRs_c] at hr
        rw [zpl_kd (sl' := sl) hr.2.2.1] at hs
        refine ⟨hs, ?_⟩
        repeat' split at hs
        all_goals first
          | cases hs; done
          | (cases hs; exact ⟨hl, hr.2.2.2, (fun b j hb => by rw [zup_at, if_neg (fun e => by rw [e.1, zp4_of hr.2.2.1 (by assumption)] at hb; cases hb)])⟩)
      · cases hs
    | invokestatic a0 =>
      simp only [zstep] at hs ⊢
      split at hs
      · exact ⟨hs, zcall_rr hr hs⟩
      · exact ⟨hs, zcall_rr hr hs⟩
      · exact ⟨hs, zcall_rr hr hs⟩
      · try simp only
        split at hs
        · rename_i c dd ss t
          simp only [zRs_c] at hr
          rw [zpl_kd (sl' := sl) hr.2.2.1, zpl_kd (sl' := sl) hr.2.2.2.2.1] at hs
          refine ⟨hs, ?_⟩
          simp only [znx] at hs
          repeat' split at hs
          all_goals first
            | cases hs; done
            | (cases hs; exact ⟨hl, hr.2.2.2.2.2, fun b j hb => by rw [zcpm_at, if_neg (fun e => by rw [e.1, zp4_of hr.2.2.1 (by assumption)] at hb; cases hb)]⟩)
        · cases hs
      · refine ⟨hs, ?_⟩
        simp only [znx, zi2] at hs
        repeat' split at hs
        all_goals first
          | cases hs; done
          | (cases hs; refine ⟨hl, ?_, fun _ _ _ => rfl⟩; simp_all [zRs_c, zrv]; done)
      · cases hs
    | invokevirtual a0 =>
      simp only [zstep] at hs ⊢
      split at hs
      · try simp only
        split at hs
        · rename_i hw
          try rw [hw]
          try simp only
          split at hs
          · rename_i hc
            have hc2 : zrecv sl r1 st = true := by
              unfold zrecv at hc ⊢
              split at hc
              · rename_i a q hq
                have h3 : zrv (.ref a) = true := zRs_drop hr _ _ (by rw [hq]; exact List.mem_cons_self)
                rw [zpl_kd (sl' := sl) h3] at hc
                exact hc
              · cases hc
            rw [hc2]
            exact ⟨hs, zcall_rr hr hs⟩
          · cases hs
        · rename_i hw
          try rw [hw]
          try simp only
          split at hs
          · rename_i hm
            try rw [hm]
            exact zprim_rr hd hl hr hs
          · cases hs
      · cases hs
    | _ => cases hf
theorem zcat3_rr {c pc2 : Nat} {ls2 : zLs} (hl : zRl ls) (h : zcat3 mi pc c ls = some (pc2, ls2)) : zRl ls2 := by
  unfold zcat3 at h
  repeat' split at h
  all_goals first | cases h; done | (cases h; exact zRl_f hl _)
theorem zdy_rr (hd : d0 = 0 ∨ d0 = dy) (u : Nat) (la : zLs) : zdy u d0 la = 0 ∨ zdy u d0 la = zdy u dy la := by
  unfold zdy
  split
  · exact hd
  · split
    · exact Or.inr rfl
    · exact hd
/-- A RUN FROM THE SCRIPT'S PLACES is the same at every length of the law's array and for every built text, and changes those places alone -/
theorem zrun_rr : ∀ (N : Nat) {D d0 dy mi pc : Nat} {ls : zLs} {st : List Value} {I : zM} {o : zO4}, (d0 = 0 ∨ d0 = dy) → zRl ls → zRs st → zrun 2147483648 N D d0 mi pc ls st I = some o →
    zrun sl N D dy mi pc ls st I = some o ∧ (∀ x, o.2.1 = some x → zrv x = true) ∧ ∀ a k, zp4 a = false → o.2.2.1 a k = I a k := by
  intro N
  induction N with
  | zero => intro D d0 dy mi pc ls st I o _ _ _ h; simp [zrun] at h
  | succ N ih =>
    intro D d0 dy mi pc ls st I o hd hl hr h
    unfold zrun at h ⊢
    cases hz : zl mi pc with
    | none => rw [hz] at h; simp at h
    | some e =>
      obtain ⟨i, len, r1, r2, r3⟩ := e
      rw [hz] at h
      simp only at h ⊢
      cases hs : zstep 2147483648 d0 mi pc (i, len, r1, r2, r3) ls st I with
      | none => rw [hs] at h; simp at h
      | some r =>
        rw [hs] at h
        obtain ⟨hs', hq⟩ := zstep_rr (sl := sl) hd hl hr hs
        rw [hs']
        rcases r with ⟨pc', ls', st', I', u⟩ | v | c | ⟨m, pc', la, st', u0⟩
        · obtain ⟨q1, q2, q3⟩ := hq
          simp only [Option.map_eq_some_iff] at h ⊢
          obtain ⟨q, h1, rfl⟩ := h
          obtain ⟨g1, g2, g3⟩ := ih hd q1 q2 h1
          exact ⟨⟨q, g1, rfl⟩, g2, fun a k hp => (g3 a k hp).trans (q3 a k hp)⟩
        · cases h
          exact ⟨rfl, hq, fun _ _ _ => rfl⟩
        · cases h
          exact ⟨rfl, fun x hx => (by cases hx), fun _ _ _ => rfl⟩
        · obtain ⟨q1, q2⟩ := hq
          cases D with
          | zero => simp at h
          | succ D =>
            simp only at h ⊢
            cases hc : zrun 2147483648 N D (zdy u0 d0 la) m 0 la [] I with
            | none => rw [hc] at h; simp at h
            | some q =>
              rw [hc] at h
              obtain ⟨g1, g2, g3⟩ := ih (zdy_rr hd u0 la) q1 zRs_n hc
              rw [g1]
              obtain ⟨c, v, I', u⟩ := q
              cases c with
              | zero =>
                simp only at h ⊢
                cases hg : zgd u0 v with
                | false => rw [hg] at h; cases h
                | true =>
                  rw [hg] at h
                  simp only [Option.map_eq_some_iff] at h ⊢
                  obtain ⟨q, h1, rfl⟩ := h
                  have hp : zRs (zpush v st') := by
                    cases v with
                    | none => exact q2
                    | some x => exact zRs_c.mpr ⟨g2 x rfl, q2⟩
                  obtain ⟨f1, f2, f3⟩ := ih hd hl hp h1
                  exact ⟨⟨q, f1, rfl⟩, f2, fun a k ha => (f3 a k ha).trans (g3 a k ha)⟩
              | succ c =>
                simp only at h ⊢
                cases hy : zhd c pc (zH mi) with
                | none =>
                  rw [hy] at h
                  simp only at h ⊢
                  cases ha : zany pc (zH mi) with
                  | true => rw [ha] at h; cases h
                  | false =>
                    rw [ha] at h
                    cases h
                    exact ⟨rfl, fun x hx => (by cases hx), g3⟩
                | some hh =>
                  rw [hy] at h
                  simp only at h ⊢
                  cases hz3 : zcat3 mi pc c ls with
                  | none => rw [hz3] at h; cases h
                  | some w =>
                    rw [hz3] at h
                    obtain ⟨pc2, ls2⟩ := w
                    simp only [Option.map_eq_some_iff] at h ⊢
                    obtain ⟨q, h1, rfl⟩ := h
                    obtain ⟨f1, f2, f3⟩ := ih hd (zcat3_rr hl hz3) zRs_n h1
                    exact ⟨⟨q, f1, rfl⟩, f2, fun a k hp => (f3 a k hp).trans (g3 a k hp)⟩
end ZRF
