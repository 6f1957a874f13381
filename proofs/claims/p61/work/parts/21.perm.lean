/-! THE ORDER OF THE LOCALS' LIST DOES NOT MATTER -/
def zPm (l1 l2 : zLs) : Prop := (∀ i v, zlk l1 i = some v → zlk l2 i = some v) ∧ (l1.map (fun q => q.1)).Nodup ∧ (l2.map (fun q => q.1)).Nodup
theorem zlk_of_mem {i : Nat} {v : Value} : ∀ {l : zLs}, (l.map (fun q => q.1)).Nodup → (i, v) ∈ l → zlk l i = some v
  | [], _, h => nomatch h
  | q :: t, hn, h => by
    simp only [List.map_cons, List.nodup_cons] at hn
    unfold zlk
    rcases List.mem_cons.mp h with rfl | h
    · rw [show Nat.beq i i = true from Nat.beq_refl i]
    · have hne : q.1 ≠ i := fun e => hn.1 (List.mem_map.mpr ⟨(i, v), h, e.symm⟩)
      have : Nat.beq q.1 i = false := by
        cases hb : Nat.beq q.1 i with
        | true => exact absurd (Nat.eq_of_beq_eq_true hb) hne
        | false => rfl
      rw [this]
      exact zlk_of_mem hn.2 h
theorem znd_filter {l : zLs} (h : (l.map (fun q => q.1)).Nodup) (f : Nat × Value → Bool) : ((l.filter f).map (fun q => q.1)).Nodup := List.Sublist.nodup (List.Sublist.map (fun q : Nat × Value => q.1) (List.filter_sublist (p := f) (l := l))) h
theorem zPm_filter {l1 l2 : zLs} (h : zPm l1 l2) (f : Nat × Value → Bool) : zPm (l1.filter f) (l2.filter f) := by
  refine ⟨fun i v hv => ?_, znd_filter h.2.1 f, znd_filter h.2.2 f⟩
  have h1 := List.mem_filter.mp (zlk_mem hv)
  have h2 := h.1 i v (zlk_of_mem h.2.1 h1.1)
  exact zlk_of_mem (znd_filter h.2.2 f) (List.mem_filter.mpr ⟨zlk_mem h2, h1.2⟩)
theorem zPm_cons {l1 l2 : zLs} (h : zPm l1 l2) (i : Nat) (v : Value) (h1 : i ∉ l1.map (fun q => q.1)) (h2 : i ∉ l2.map (fun q => q.1)) : zPm ((i, v) :: l1) ((i, v) :: l2) := by
  refine ⟨fun j w hw => ?_, List.nodup_cons.mpr ⟨h1, h.2.1⟩, List.nodup_cons.mpr ⟨h2, h.2.2⟩⟩
  unfold zlk at hw ⊢
  cases hb : Nat.beq (i, v).1 j with
  | true => rw [hb] at hw; exact hw
  | false => rw [hb] at hw; exact h.1 j w hw
theorem znot_s1 (l : zLs) (i : Nat) : i ∉ (l.filter (fun q => !(q.1 == i) && !(q.1 + 1 == i && q.2.category == 2))).map (fun q => q.1) := fun hm => by
  obtain ⟨q, hq, e⟩ := List.mem_map.mp hm
  have := (List.mem_filter.mp hq).2
  simp only [Bool.and_eq_true, Bool.not_eq_true', beq_eq_false_iff_ne] at this
  exact this.1 e
theorem znot_s2 (l : zLs) (i : Nat) : i ∉ (l.filter (fun q => !(q.1 == i) && (!(q.1 == i + 1) && !(q.1 + 1 == i && q.2.category == 2)))).map (fun q => q.1) := fun hm => by
  obtain ⟨q, hq, e⟩ := List.mem_map.mp hm
  have := (List.mem_filter.mp hq).2
  simp only [Bool.and_eq_true, Bool.not_eq_true', beq_eq_false_iff_ne] at this
  exact this.1 e
theorem zPm_s1 {l1 l2 : zLs} (h : zPm l1 l2) (i : Nat) (v : Value) : zPm (zs1 l1 i v) (zs1 l2 i v) := zPm_cons (zPm_filter h _) i v (znot_s1 l1 i) (znot_s1 l2 i)
theorem zPm_s2 {l1 l2 : zLs} (h : zPm l1 l2) (i : Nat) (v : Value) : zPm (zs2 l1 i v) (zs2 l2 i v) := zPm_cons (zPm_filter h _) i v (znot_s2 l1 i) (znot_s2 l2 i)
def zrl (l2 : zLs) (r r' : zRes) : Prop := match r with
  | .inl (p, l, s, I, u) => ∃ l', r' = .inl (p, l', s, I, u) ∧ zPm l l'
  | .inr x => r' = .inr x
def zsetL (l2 : zLs) : zRes → zRes
  | .inl (p, _, s, I, u) => .inl (p, l2, s, I, u)
  | .inr x => .inr x
def zkeepL (l1 : zLs) : zRes → Prop
  | .inl (_, l, _, _, _) => l = l1
  | .inr _ => True
theorem zrl_free {l1 l2 : zLs} {r : zRes} (h : zPm l1 l2) (hk : zkeepL l1 r) : zrl l2 r (zsetL l2 r) := by
  rcases r with ⟨p, l, s, I', u⟩ | x
  · cases (show l = l1 from hk)
    exact ⟨l2, rfl, h⟩
  · rfl
def zlocI : Instr → Bool
  | .aload _ | .aload_n _ | .astore _ | .astore_n _ | .dload _ | .dload_n _ | .dstore _ | .dstore_n _ | .fload _ | .fload_n _ | .fstore _ | .fstore_n _ | .iinc _ _ | .iload _ | .iload_n _ | .istore _ | .istore_n _ | .lload _ | .lload_n _ | .lstore _ | .lstore_n _ => true
  | _ => false
section ZPERM
variable {sl dy mi pc len r1 r2 r3 : Nat} {l1 l2 : zLs} {st : List Value} {I : zM}
theorem zprim_L {c : Nat} {r : zRes} (hs : zprim dy c pc l1 st I = some r) : zkeepL l1 r ∧ zprim dy c pc l2 st I = some (zsetL l2 r) := by
  unfold zprim znx at hs ⊢
  repeat' split at hs
  all_goals first | (cases hs; exact ⟨rfl, by simp_all [zsetL]⟩) | cases hs
theorem zfreeL {i : Instr} {r : zRes} (h : zPm l1 l2) (hf : zlocI i = false) (hs : zstep sl dy mi pc (i, len, r1, r2, r3) l1 st I = some r) : zkeepL l1 r ∧ zstep sl dy mi pc (i, len, r1, r2, r3) l2 st I = some (zsetL l2 r) := by
  cases i with
  | iconst a0 => cases hs; exact ⟨rfl, rfl⟩
  | bipush a0 => cases hs; exact ⟨rfl, rfl⟩
  | sipush a0 => cases hs; exact ⟨rfl, rfl⟩
  | lconst a0 => cases hs; exact ⟨rfl, rfl⟩
  | fconst a0 => match a0, hs with
    | 0, hs => cases hs; exact ⟨rfl, rfl⟩
    | 1, hs => cases hs; exact ⟨rfl, rfl⟩
    | 2, hs => cases hs; exact ⟨rfl, rfl⟩
  | dconst a0 => match a0, hs with
    | 0, hs => cases hs; exact ⟨rfl, rfl⟩
    | 1, hs => cases hs; exact ⟨rfl, rfl⟩
  | ldc a0 =>
    simp only [zstep, znx, zi2, zl2, zf2, zd2, zjmp, zldc] at hs ⊢
    repeat' split at hs
    all_goals first | (cases hs; exact ⟨rfl, by simp_all [zsetL]⟩) | (cases hs; exact ⟨trivial, by simp_all [zsetL]⟩) | cases hs
  | ldc_w a0 =>
    simp only [zstep, znx, zi2, zl2, zf2, zd2, zjmp, zldc] at hs ⊢
    repeat' split at hs
    all_goals first | (cases hs; exact ⟨rfl, by simp_all [zsetL]⟩) | (cases hs; exact ⟨trivial, by simp_all [zsetL]⟩) | cases hs
  | ldc2_w a0 =>
    simp only [zstep, znx, zi2, zl2, zf2, zd2, zjmp, zldc] at hs ⊢
    repeat' split at hs
    all_goals first | (cases hs; exact ⟨rfl, by simp_all [zsetL]⟩) | (cases hs; exact ⟨trivial, by simp_all [zsetL]⟩) | cases hs
  | iadd =>
    simp only [zstep, znx, zi2, zl2, zf2, zd2, zjmp, zldc] at hs ⊢
    repeat' split at hs
    all_goals first | (cases hs; exact ⟨rfl, by simp_all [zsetL]⟩) | (cases hs; exact ⟨trivial, by simp_all [zsetL]⟩) | cases hs
  | isub =>
    simp only [zstep, znx, zi2, zl2, zf2, zd2, zjmp, zldc] at hs ⊢
    repeat' split at hs
    all_goals first | (cases hs; exact ⟨rfl, by simp_all [zsetL]⟩) | (cases hs; exact ⟨trivial, by simp_all [zsetL]⟩) | cases hs
  | imul =>
    simp only [zstep, znx, zi2, zl2, zf2, zd2, zjmp, zldc] at hs ⊢
    repeat' split at hs
    all_goals first | (cases hs; exact ⟨rfl, by simp_all [zsetL]⟩) | (cases hs; exact ⟨trivial, by simp_all [zsetL]⟩) | cases hs
  | iand =>
    simp only [zstep, znx, zi2, zl2, zf2, zd2, zjmp, zldc] at hs ⊢
    repeat' split at hs
    all_goals first | (cases hs; exact ⟨rfl, by simp_all [zsetL]⟩) | (cases hs; exact ⟨trivial, by simp_all [zsetL]⟩) | cases hs
  | ior =>
    simp only [zstep, znx, zi2, zl2, zf2, zd2, zjmp, zldc] at hs ⊢
    repeat' split at hs
    all_goals first | (cases hs; exact ⟨rfl, by simp_all [zsetL]⟩) | (cases hs; exact ⟨trivial, by simp_all [zsetL]⟩) | cases hs
  | ixor =>
    simp only [zstep, znx, zi2, zl2, zf2, zd2, zjmp, zldc] at hs ⊢
    repeat' split at hs
    all_goals first | (cases hs; exact ⟨rfl, by simp_all [zsetL]⟩) | (cases hs; exact ⟨trivial, by simp_all [zsetL]⟩) | cases hs
  | ishl =>
    simp only [zstep, znx, zi2, zl2, zf2, zd2, zjmp, zldc] at hs ⊢
    repeat' split at hs
    all_goals first | (cases hs; exact ⟨rfl, by simp_all [zsetL]⟩) | (cases hs; exact ⟨trivial, by simp_all [zsetL]⟩) | cases hs
  | ishr =>
    simp only [zstep, znx, zi2, zl2, zf2, zd2, zjmp, zldc] at hs ⊢
    repeat' split at hs
    all_goals first | (cases hs; exact ⟨rfl, by simp_all [zsetL]⟩) | (cases hs; exact ⟨trivial, by simp_all [zsetL]⟩) | cases hs
  | iushr =>
    simp only [zstep, znx, zi2, zl2, zf2, zd2, zjmp, zldc] at hs ⊢
    repeat' split at hs
    all_goals first | (cases hs; exact ⟨rfl, by simp_all [zsetL]⟩) | (cases hs; exact ⟨trivial, by simp_all [zsetL]⟩) | cases hs
  | idiv =>
    simp only [zstep, znx, zi2, zl2, zf2, zd2, zjmp, zldc] at hs ⊢
    repeat' split at hs
    all_goals first | (cases hs; exact ⟨rfl, by simp_all [zsetL]⟩) | (cases hs; exact ⟨trivial, by simp_all [zsetL]⟩) | cases hs
  | irem =>
    simp only [zstep, znx, zi2, zl2, zf2, zd2, zjmp, zldc] at hs ⊢
    repeat' split at hs
    all_goals first | (cases hs; exact ⟨rfl, by simp_all [zsetL]⟩) | (cases hs; exact ⟨trivial, by simp_all [zsetL]⟩) | cases hs
  | ladd =>
    simp only [zstep, znx, zi2, zl2, zf2, zd2, zjmp, zldc] at hs ⊢
    repeat' split at hs
    all_goals first | (cases hs; exact ⟨rfl, by simp_all [zsetL]⟩) | (cases hs; exact ⟨trivial, by simp_all [zsetL]⟩) | cases hs
  | lmul =>
    simp only [zstep, znx, zi2, zl2, zf2, zd2, zjmp, zldc] at hs ⊢
    repeat' split at hs
    all_goals first | (cases hs; exact ⟨rfl, by simp_all [zsetL]⟩) | (cases hs; exact ⟨trivial, by simp_all [zsetL]⟩) | cases hs
  | lor =>
    simp only [zstep, znx, zi2, zl2, zf2, zd2, zjmp, zldc] at hs ⊢
    repeat' split at hs
    all_goals first | (cases hs; exact ⟨rfl, by simp_all [zsetL]⟩) | (cases hs; exact ⟨trivial, by simp_all [zsetL]⟩) | cases hs
  | lxor =>
    simp only [zstep, znx, zi2, zl2, zf2, zd2, zjmp, zldc] at hs ⊢
    repeat' split at hs
    all_goals first | (cases hs; exact ⟨rfl, by simp_all [zsetL]⟩) | (cases hs; exact ⟨trivial, by simp_all [zsetL]⟩) | cases hs
  | ineg =>
    simp only [zstep, znx, zi2, zl2, zf2, zd2, zjmp, zldc] at hs ⊢
    repeat' split at hs
    all_goals first | (cases hs; exact ⟨rfl, by simp_all [zsetL]⟩) | (cases hs; exact ⟨trivial, by simp_all [zsetL]⟩) | cases hs
  | lshl =>
    simp only [zstep, znx, zi2, zl2, zf2, zd2, zjmp, zldc] at hs ⊢
    repeat' split at hs
    all_goals first | (cases hs; exact ⟨rfl, by simp_all [zsetL]⟩) | (cases hs; exact ⟨trivial, by simp_all [zsetL]⟩) | cases hs
  | lushr =>
    simp only [zstep, znx, zi2, zl2, zf2, zd2, zjmp, zldc] at hs ⊢
    repeat' split at hs
    all_goals first | (cases hs; exact ⟨rfl, by simp_all [zsetL]⟩) | (cases hs; exact ⟨trivial, by simp_all [zsetL]⟩) | cases hs
  | i2l =>
    simp only [zstep, znx, zi2, zl2, zf2, zd2, zjmp, zldc] at hs ⊢
    repeat' split at hs
    all_goals first | (cases hs; exact ⟨rfl, by simp_all [zsetL]⟩) | (cases hs; exact ⟨trivial, by simp_all [zsetL]⟩) | cases hs
  | i2f =>
    simp only [zstep, znx, zi2, zl2, zf2, zd2, zjmp, zldc] at hs ⊢
    repeat' split at hs
    all_goals first | (cases hs; exact ⟨rfl, by simp_all [zsetL]⟩) | (cases hs; exact ⟨trivial, by simp_all [zsetL]⟩) | cases hs
  | i2d =>
    simp only [zstep, znx, zi2, zl2, zf2, zd2, zjmp, zldc] at hs ⊢
    repeat' split at hs
    all_goals first | (cases hs; exact ⟨rfl, by simp_all [zsetL]⟩) | (cases hs; exact ⟨trivial, by simp_all [zsetL]⟩) | cases hs
  | f2i =>
    simp only [zstep, znx, zi2, zl2, zf2, zd2, zjmp, zldc] at hs ⊢
    repeat' split at hs
    all_goals first | (cases hs; exact ⟨rfl, by simp_all [zsetL]⟩) | (cases hs; exact ⟨trivial, by simp_all [zsetL]⟩) | cases hs
  | d2l =>
    simp only [zstep, znx, zi2, zl2, zf2, zd2, zjmp, zldc] at hs ⊢
    repeat' split at hs
    all_goals first | (cases hs; exact ⟨rfl, by simp_all [zsetL]⟩) | (cases hs; exact ⟨trivial, by simp_all [zsetL]⟩) | cases hs
  | lcmp =>
    simp only [zstep, znx, zi2, zl2, zf2, zd2, zjmp, zldc] at hs ⊢
    repeat' split at hs
    all_goals first | (cases hs; exact ⟨rfl, by simp_all [zsetL]⟩) | (cases hs; exact ⟨trivial, by simp_all [zsetL]⟩) | cases hs
  | i2c =>
    simp only [zstep, znx, zi2, zl2, zf2, zd2, zjmp, zldc] at hs ⊢
    repeat' split at hs
    all_goals first | (cases hs; exact ⟨rfl, by simp_all [zsetL]⟩) | (cases hs; exact ⟨trivial, by simp_all [zsetL]⟩) | cases hs
  | fcmp a0 =>
    simp only [zstep, znx, zi2, zl2, zf2, zd2, zjmp, zldc] at hs ⊢
    repeat' split at hs
    all_goals first | (cases hs; exact ⟨rfl, by simp_all [zsetL]⟩) | (cases hs; exact ⟨trivial, by simp_all [zsetL]⟩) | cases hs
  | dcmp a0 =>
    simp only [zstep, znx, zi2, zl2, zf2, zd2, zjmp, zldc] at hs ⊢
    repeat' split at hs
    all_goals first | (cases hs; exact ⟨rfl, by simp_all [zsetL]⟩) | (cases hs; exact ⟨trivial, by simp_all [zsetL]⟩) | cases hs
  | fmul =>
    simp only [zstep, znx, zi2, zl2, zf2, zd2, zjmp, zldc] at hs ⊢
    repeat' split at hs
    all_goals first | (cases hs; exact ⟨rfl, by simp_all [zsetL]⟩) | (cases hs; exact ⟨trivial, by simp_all [zsetL]⟩) | cases hs
  | fdiv =>
    simp only [zstep, znx, zi2, zl2, zf2, zd2, zjmp, zldc] at hs ⊢
    repeat' split at hs
    all_goals first | (cases hs; exact ⟨rfl, by simp_all [zsetL]⟩) | (cases hs; exact ⟨trivial, by simp_all [zsetL]⟩) | cases hs
  | fsub =>
    simp only [zstep, znx, zi2, zl2, zf2, zd2, zjmp, zldc] at hs ⊢
    repeat' split at hs
    all_goals first | (cases hs; exact ⟨rfl, by simp_all [zsetL]⟩) | (cases hs; exact ⟨trivial, by simp_all [zsetL]⟩) | cases hs
  | dmul =>
    simp only [zstep, znx, zi2, zl2, zf2, zd2, zjmp, zldc] at hs ⊢
    repeat' split at hs
    all_goals first | (cases hs; exact ⟨rfl, by simp_all [zsetL]⟩) | (cases hs; exact ⟨trivial, by simp_all [zsetL]⟩) | cases hs
  | ddiv =>
    simp only [zstep, znx, zi2, zl2, zf2, zd2, zjmp, zldc] at hs ⊢
    repeat' split at hs
    all_goals first | (cases hs; exact ⟨rfl, by simp_all [zsetL]⟩) | (cases hs; exact ⟨trivial, by simp_all [zsetL]⟩) | cases hs
  | dsub =>
    simp only [zstep, znx, zi2, zl2, zf2, zd2, zjmp, zldc] at hs ⊢
    repeat' split at hs
    all_goals first | (cases hs; exact ⟨rfl, by simp_all [zsetL]⟩) | (cases hs; exact ⟨trivial, by simp_all [zsetL]⟩) | cases hs
  | dup =>
    simp only [zstep, znx, zi2, zl2, zf2, zd2, zjmp, zldc] at hs ⊢
    repeat' split at hs
    all_goals first | (cases hs; exact ⟨rfl, by simp_all [zsetL]⟩) | (cases hs; exact ⟨trivial, by simp_all [zsetL]⟩) | cases hs
  | pop =>
    simp only [zstep, znx, zi2, zl2, zf2, zd2, zjmp, zldc] at hs ⊢
    repeat' split at hs
    all_goals first | (cases hs; exact ⟨rfl, by simp_all [zsetL]⟩) | (cases hs; exact ⟨trivial, by simp_all [zsetL]⟩) | cases hs
  | dup2 =>
    simp only [zstep, znx, zi2, zl2, zf2, zd2, zjmp, zldc] at hs ⊢
    repeat' split at hs
    all_goals first | (cases hs; exact ⟨rfl, by simp_all [zsetL]⟩) | (cases hs; exact ⟨trivial, by simp_all [zsetL]⟩) | cases hs
  | goto a0 =>
    simp only [zstep, znx, zi2, zl2, zf2, zd2, zjmp, zldc] at hs ⊢
    repeat' split at hs
    all_goals first | (cases hs; exact ⟨rfl, by simp_all [zsetL]⟩) | (cases hs; exact ⟨trivial, by simp_all [zsetL]⟩) | cases hs
  | ifCond a0 a1 =>
    simp only [zstep, znx, zi2, zl2, zf2, zd2, zjmp, zldc] at hs ⊢
    repeat' split at hs
    all_goals first | (cases hs; exact ⟨rfl, by simp_all [zsetL]⟩) | (cases hs; exact ⟨trivial, by simp_all [zsetL]⟩) | cases hs
  | if_icmp a0 a1 =>
    simp only [zstep, znx, zi2, zl2, zf2, zd2, zjmp, zldc] at hs ⊢
    repeat' split at hs
    all_goals first | (cases hs; exact ⟨rfl, by simp_all [zsetL]⟩) | (cases hs; exact ⟨trivial, by simp_all [zsetL]⟩) | cases hs
  | tableswitch a0 a1 a2 a3 =>
    simp only [zstep, znx, zi2, zl2, zf2, zd2, zjmp, zldc] at hs ⊢
    repeat' split at hs
    all_goals first | (cases hs; exact ⟨rfl, by simp_all [zsetL]⟩) | (cases hs; exact ⟨trivial, by simp_all [zsetL]⟩) | cases hs
  | lookupswitch a0 a1 =>
    simp only [zstep, znx, zi2, zl2, zf2, zd2, zjmp, zldc] at hs ⊢
    repeat' split at hs
    all_goals first | (cases hs; exact ⟨rfl, by simp_all [zsetL]⟩) | (cases hs; exact ⟨trivial, by simp_all [zsetL]⟩) | cases hs
  | getfield a0 =>
    simp only [zstep, znx, zi2, zl2, zf2, zd2, zjmp, zldc] at hs ⊢
    repeat' split at hs
    all_goals first | (cases hs; exact ⟨rfl, by simp_all [zsetL]⟩) | (cases hs; exact ⟨trivial, by simp_all [zsetL]⟩) | cases hs
  | putfield a0 =>
    simp only [zstep, znx, zi2, zl2, zf2, zd2, zjmp, zldc] at hs ⊢
    repeat' split at hs
    all_goals first | (cases hs; exact ⟨rfl, by simp_all [zsetL]⟩) | (cases hs; exact ⟨trivial, by simp_all [zsetL]⟩) | cases hs
  | iaload =>
    simp only [zstep, znx, zi2, zl2, zf2, zd2, zjmp, zldc] at hs ⊢
    repeat' split at hs
    all_goals first | (cases hs; exact ⟨rfl, by simp_all [zsetL]⟩) | (cases hs; exact ⟨trivial, by simp_all [zsetL]⟩) | cases hs
  | caload =>
    simp only [zstep, znx, zi2, zl2, zf2, zd2, zjmp, zldc] at hs ⊢
    repeat' split at hs
    all_goals first | (cases hs; exact ⟨rfl, by simp_all [zsetL]⟩) | (cases hs; exact ⟨trivial, by simp_all [zsetL]⟩) | cases hs
  | aaload =>
    simp only [zstep, znx, zi2, zl2, zf2, zd2, zjmp, zldc] at hs ⊢
    repeat' split at hs
    all_goals first | (cases hs; exact ⟨rfl, by simp_all [zsetL]⟩) | (cases hs; exact ⟨trivial, by simp_all [zsetL]⟩) | cases hs
  | iastore =>
    simp only [zstep, znx, zi2, zl2, zf2, zd2, zjmp, zldc] at hs ⊢
    repeat' split at hs
    all_goals first | (cases hs; exact ⟨rfl, by simp_all [zsetL]⟩) | (cases hs; exact ⟨trivial, by simp_all [zsetL]⟩) | cases hs
  | castore =>
    simp only [zstep, znx, zi2, zl2, zf2, zd2, zjmp, zldc] at hs ⊢
    repeat' split at hs
    all_goals first | (cases hs; exact ⟨rfl, by simp_all [zsetL]⟩) | (cases hs; exact ⟨trivial, by simp_all [zsetL]⟩) | cases hs
  | arraylength =>
    simp only [zstep, znx, zi2, zl2, zf2, zd2, zjmp, zldc] at hs ⊢
    repeat' split at hs
    all_goals first | (cases hs; exact ⟨rfl, by simp_all [zsetL]⟩) | (cases hs; exact ⟨trivial, by simp_all [zsetL]⟩) | cases hs
  | ireturn =>
    simp only [zstep, znx, zi2, zl2, zf2, zd2, zjmp, zldc] at hs ⊢
    repeat' split at hs
    all_goals first | (cases hs; exact ⟨rfl, by simp_all [zsetL]⟩) | (cases hs; exact ⟨trivial, by simp_all [zsetL]⟩) | cases hs
  | lreturn =>
    simp only [zstep, znx, zi2, zl2, zf2, zd2, zjmp, zldc] at hs ⊢
    repeat' split at hs
    all_goals first | (cases hs; exact ⟨rfl, by simp_all [zsetL]⟩) | (cases hs; exact ⟨trivial, by simp_all [zsetL]⟩) | cases hs
  | freturn =>
    simp only [zstep, znx, zi2, zl2, zf2, zd2, zjmp, zldc] at hs ⊢
    repeat' split at hs
    all_goals first | (cases hs; exact ⟨rfl, by simp_all [zsetL]⟩) | (cases hs; exact ⟨trivial, by simp_all [zsetL]⟩) | cases hs
  | dreturn =>
    simp only [zstep, znx, zi2, zl2, zf2, zd2, zjmp, zldc] at hs ⊢
    repeat' split at hs
    all_goals first | (cases hs; exact ⟨rfl, by simp_all [zsetL]⟩) | (cases hs; exact ⟨trivial, by simp_all [zsetL]⟩) | cases hs
  | areturn =>
    simp only [zstep, znx, zi2, zl2, zf2, zd2, zjmp, zldc] at hs ⊢
    repeat' split at hs
    all_goals first | (cases hs; exact ⟨rfl, by simp_all [zsetL]⟩) | (cases hs; exact ⟨trivial, by simp_all [zsetL]⟩) | cases hs
  | return_ =>
    simp only [zstep, znx, zi2, zl2, zf2, zd2, zjmp, zldc] at hs ⊢
    repeat' split at hs
    all_goals first | (cases hs; exact ⟨rfl, by simp_all [zsetL]⟩) | (cases hs; exact ⟨trivial, by simp_all [zsetL]⟩) | cases hs
  | new a0 =>
    simp only [zstep] at hs ⊢
    split at hs
    · try simp only
      split at hs
      · rename_i hb
        try rw [hb]
        cases hs
        exact ⟨trivial, rfl⟩
      · cases hs
    · try simp only
      unfold zcat2 at hs ⊢
      split at hs
      · rename_i hm
        try rw [hm]
        try simp only
        split at hs
        · try simp only
          split at hs
          · rename_i x hx
            rw [h.1 _ _ hx]
            try simp only
            split at hs
            · rename_i hd
              try rw [hd]
              cases hs
              exact ⟨trivial, rfl⟩
            · cases hs
          · cases hs
        · try simp only
          split at hs
          · rename_i x hx
            rw [h.1 _ _ hx]
            try simp only
            split at hs
            · rename_i hd
              try rw [hd]
              cases hs
              exact ⟨trivial, rfl⟩
            · cases hs
          · cases hs
        · cases hs
      · cases hs
    · cases hs
  | invokestatic a0 =>
    simp only [zstep, znx, zi2] at hs ⊢
    split at hs
    · obtain ⟨-, -, -, -, rfl⟩ := zcall_inv hs; exact ⟨trivial, hs⟩
    · obtain ⟨-, -, -, -, rfl⟩ := zcall_inv hs; exact ⟨trivial, hs⟩
    · obtain ⟨-, -, -, -, rfl⟩ := zcall_inv hs; exact ⟨trivial, hs⟩
    · repeat' split at hs
      all_goals first | (cases hs; exact ⟨rfl, by simp_all [zsetL]⟩) | cases hs
    · split at hs
      · split at hs
        · split at hs
          · cases hs; exact ⟨rfl, by simp_all [zsetL]⟩
          · cases hs
        · cases hs
      · split at hs
        · split at hs
          · cases hs; exact ⟨rfl, by simp_all [zsetL]⟩
          · cases hs
        · cases hs
      · split at hs
        · split at hs
          · cases hs; exact ⟨rfl, by simp_all [zsetL]⟩
          · cases hs
        · cases hs
      · cases hs
    · cases hs
  | invokevirtual a0 =>
    simp only [zstep] at hs ⊢
    split at hs
    · try simp only
      split at hs
      · rename_i hw
        try rw [hw]
        try simp only
        split at hs
        · rename_i hr
          try rw [hr]
          obtain ⟨-, -, -, -, rfl⟩ := zcall_inv hs; exact ⟨trivial, hs⟩
        · cases hs
      · rename_i hw
        try rw [hw]
        try simp only
        split at hs
        · rename_i hm
          try rw [hm]
          exact zprim_L hs
        · cases hs
    · cases hs
  | aload a0 => cases hf
  | aload_n a0 => cases hf
  | astore a0 => cases hf
  | astore_n a0 => cases hf
  | dload a0 => cases hf
  | dload_n a0 => cases hf
  | dstore a0 => cases hf
  | dstore_n a0 => cases hf
  | fload a0 => cases hf
  | fload_n a0 => cases hf
  | fstore a0 => cases hf
  | fstore_n a0 => cases hf
  | iinc a0 a1 => cases hf
  | iload a0 => cases hf
  | iload_n a0 => cases hf
  | istore a0 => cases hf
  | istore_n a0 => cases hf
  | lload a0 => cases hf
  | lload_n a0 => cases hf
  | lstore a0 => cases hf
  | lstore_n a0 => cases hf
  | _ => simp [zstep] at hs
theorem zstep_L {i : Instr} {r : zRes} (h : zPm l1 l2) (hs : zstep sl dy mi pc (i, len, r1, r2, r3) l1 st I = some r) : ∃ r', zstep sl dy mi pc (i, len, r1, r2, r3) l2 st I = some r' ∧ zrl l2 r r' := by
  cases hf : zlocI i with
  | false =>
    obtain ⟨h1, h2⟩ := zfreeL h hf hs
    exact ⟨_, h2, zrl_free h h1⟩
  | true =>
    cases i with
    | iload a0 =>
      simp only [zstep, zLd, zld] at hs ⊢
      cases hk : zlk l1 a0 with
      | none => rw [hk] at hs; cases hs
      | some v =>
        rw [h.1 _ _ hk]
        rw [hk] at hs
        simp only at hs ⊢
        cases hb : Nat.beq (zvt v) 0 with
        | false => rw [hb] at hs; cases hs
        | true =>
          rw [hb] at hs
          cases hs
          exact ⟨_, rfl, l2, rfl, h⟩
    | iload_n a0 =>
      simp only [zstep, zLd, zld] at hs ⊢
      cases hk : zlk l1 a0.val with
      | none => rw [hk] at hs; cases hs
      | some v =>
        rw [h.1 _ _ hk]
        rw [hk] at hs
        simp only at hs ⊢
        cases hb : Nat.beq (zvt v) 0 with
        | false => rw [hb] at hs; cases hs
        | true =>
          rw [hb] at hs
          cases hs
          exact ⟨_, rfl, l2, rfl, h⟩
    | lload a0 =>
      simp only [zstep, zLd, zld] at hs ⊢
      cases hk : zlk l1 a0 with
      | none => rw [hk] at hs; cases hs
      | some v =>
        rw [h.1 _ _ hk]
        rw [hk] at hs
        simp only at hs ⊢
        cases hb : Nat.beq (zvt v) 1 with
        | false => rw [hb] at hs; cases hs
        | true =>
          rw [hb] at hs
          cases hs
          exact ⟨_, rfl, l2, rfl, h⟩
    | lload_n a0 =>
      simp only [zstep, zLd, zld] at hs ⊢
      cases hk : zlk l1 a0.val with
      | none => rw [hk] at hs; cases hs
      | some v =>
        rw [h.1 _ _ hk]
        rw [hk] at hs
        simp only at hs ⊢
        cases hb : Nat.beq (zvt v) 1 with
        | false => rw [hb] at hs; cases hs
        | true =>
          rw [hb] at hs
          cases hs
          exact ⟨_, rfl, l2, rfl, h⟩
    | fload a0 =>
      simp only [zstep, zLd, zld] at hs ⊢
      cases hk : zlk l1 a0 with
      | none => rw [hk] at hs; cases hs
      | some v =>
        rw [h.1 _ _ hk]
        rw [hk] at hs
        simp only at hs ⊢
        cases hb : Nat.beq (zvt v) 2 with
        | false => rw [hb] at hs; cases hs
        | true =>
          rw [hb] at hs
          cases hs
          exact ⟨_, rfl, l2, rfl, h⟩
    | fload_n a0 =>
      simp only [zstep, zLd, zld] at hs ⊢
      cases hk : zlk l1 a0.val with
      | none => rw [hk] at hs; cases hs
      | some v =>
        rw [h.1 _ _ hk]
        rw [hk] at hs
        simp only at hs ⊢
        cases hb : Nat.beq (zvt v) 2 with
        | false => rw [hb] at hs; cases hs
        | true =>
          rw [hb] at hs
          cases hs
          exact ⟨_, rfl, l2, rfl, h⟩
    | dload a0 =>
      simp only [zstep, zLd, zld] at hs ⊢
      cases hk : zlk l1 a0 with
      | none => rw [hk] at hs; cases hs
      | some v =>
        rw [h.1 _ _ hk]
        rw [hk] at hs
        simp only at hs ⊢
        cases hb : Nat.beq (zvt v) 3 with
        | false => rw [hb] at hs; cases hs
        | true =>
          rw [hb] at hs
          cases hs
          exact ⟨_, rfl, l2, rfl, h⟩
    | dload_n a0 =>
      simp only [zstep, zLd, zld] at hs ⊢
      cases hk : zlk l1 a0.val with
      | none => rw [hk] at hs; cases hs
      | some v =>
        rw [h.1 _ _ hk]
        rw [hk] at hs
        simp only at hs ⊢
        cases hb : Nat.beq (zvt v) 3 with
        | false => rw [hb] at hs; cases hs
        | true =>
          rw [hb] at hs
          cases hs
          exact ⟨_, rfl, l2, rfl, h⟩
    | aload a0 =>
      simp only [zstep, zLd, zld] at hs ⊢
      cases hk : zlk l1 a0 with
      | none => rw [hk] at hs; cases hs
      | some v =>
        rw [h.1 _ _ hk]
        rw [hk] at hs
        simp only at hs ⊢
        cases hb : Nat.beq (zvt v) 4 with
        | false => rw [hb] at hs; cases hs
        | true =>
          rw [hb] at hs
          cases hs
          exact ⟨_, rfl, l2, rfl, h⟩
    | aload_n a0 =>
      simp only [zstep, zLd, zld] at hs ⊢
      cases hk : zlk l1 a0.val with
      | none => rw [hk] at hs; cases hs
      | some v =>
        rw [h.1 _ _ hk]
        rw [hk] at hs
        simp only at hs ⊢
        cases hb : Nat.beq (zvt v) 4 with
        | false => rw [hb] at hs; cases hs
        | true =>
          rw [hb] at hs
          cases hs
          exact ⟨_, rfl, l2, rfl, h⟩
    | istore a0 =>
      obtain ⟨v, r0, rfl, h2, h3, rfl⟩ := zSt_inv hs
      refine ⟨.inl (pc + len, zs1 l2 _ v, r0, I, 0), ?_, _, rfl, zPm_s1 h _ v⟩
      simp only [zstep, zSt] at hs ⊢
      split at hs
      · rename_i hb
        try simp only [hb]
        rfl
      · cases hs
    | istore_n a0 =>
      obtain ⟨v, r0, rfl, h2, h3, rfl⟩ := zSt_inv hs
      refine ⟨.inl (pc + len, zs1 l2 _ v, r0, I, 0), ?_, _, rfl, zPm_s1 h _ v⟩
      simp only [zstep, zSt] at hs ⊢
      split at hs
      · rename_i hb
        try simp only [hb]
        rfl
      · cases hs
    | lstore a0 =>
      obtain ⟨v, r0, rfl, h2, h3, rfl⟩ := zSt_inv hs
      refine ⟨.inl (pc + len, zs2 l2 _ v, r0, I, 0), ?_, _, rfl, zPm_s2 h _ v⟩
      simp only [zstep, zSt] at hs ⊢
      split at hs
      · rename_i hb
        try simp only [hb]
        rfl
      · cases hs
    | lstore_n a0 =>
      obtain ⟨v, r0, rfl, h2, h3, rfl⟩ := zSt_inv hs
      refine ⟨.inl (pc + len, zs2 l2 _ v, r0, I, 0), ?_, _, rfl, zPm_s2 h _ v⟩
      simp only [zstep, zSt] at hs ⊢
      split at hs
      · rename_i hb
        try simp only [hb]
        rfl
      · cases hs
    | fstore a0 =>
      obtain ⟨v, r0, rfl, h2, h3, rfl⟩ := zSt_inv hs
      refine ⟨.inl (pc + len, zs1 l2 _ v, r0, I, 0), ?_, _, rfl, zPm_s1 h _ v⟩
      simp only [zstep, zSt] at hs ⊢
      split at hs
      · rename_i hb
        try simp only [hb]
        rfl
      · cases hs
    | fstore_n a0 =>
      obtain ⟨v, r0, rfl, h2, h3, rfl⟩ := zSt_inv hs
      refine ⟨.inl (pc + len, zs1 l2 _ v, r0, I, 0), ?_, _, rfl, zPm_s1 h _ v⟩
      simp only [zstep, zSt] at hs ⊢
      split at hs
      · rename_i hb
        try simp only [hb]
        rfl
      · cases hs
    | dstore a0 =>
      obtain ⟨v, r0, rfl, h2, h3, rfl⟩ := zSt_inv hs
      refine ⟨.inl (pc + len, zs2 l2 _ v, r0, I, 0), ?_, _, rfl, zPm_s2 h _ v⟩
      simp only [zstep, zSt] at hs ⊢
      split at hs
      · rename_i hb
        try simp only [hb]
        rfl
      · cases hs
    | dstore_n a0 =>
      obtain ⟨v, r0, rfl, h2, h3, rfl⟩ := zSt_inv hs
      refine ⟨.inl (pc + len, zs2 l2 _ v, r0, I, 0), ?_, _, rfl, zPm_s2 h _ v⟩
      simp only [zstep, zSt] at hs ⊢
      split at hs
      · rename_i hb
        try simp only [hb]
        rfl
      · cases hs
    | astore a0 =>
      obtain ⟨v, r0, rfl, h2, h3, rfl⟩ := zSt_inv hs
      refine ⟨.inl (pc + len, zs1 l2 _ v, r0, I, 0), ?_, _, rfl, zPm_s1 h _ v⟩
      simp only [zstep, zSt] at hs ⊢
      split at hs
      · rename_i hb
        try simp only [hb]
        rfl
      · cases hs
    | astore_n a0 =>
      obtain ⟨v, r0, rfl, h2, h3, rfl⟩ := zSt_inv hs
      refine ⟨.inl (pc + len, zs1 l2 _ v, r0, I, 0), ?_, _, rfl, zPm_s1 h _ v⟩
      simp only [zstep, zSt] at hs ⊢
      split at hs
      · rename_i hb
        try simp only [hb]
        rfl
      · cases hs
    | iinc a0 a1 =>
      simp only [zstep] at hs ⊢
      split at hs
      · rename_i x hx
        rw [h.1 _ _ hx]
        try simp only
        split at hs
        · rename_i hb
          try simp only [hb]
          cases hs
          exact ⟨_, rfl, _, rfl, zPm_s1 h _ _⟩
        · cases hs
      · cases hs
    | _ => cases hf
theorem zcat3_L {c : Nat} {w : Nat × zLs} (h : zPm l1 l2) (hs : zcat3 mi pc c l1 = some w) : ∃ l', zcat3 mi pc c l2 = some (w.1, l') ∧ zPm w.2 l' := by
  unfold zcat3 at hs ⊢
  split at hs
  · cases hs
  · split at hs
    · split at hs
      · rename_i hb
        cases hs
        try simp only [hb]
        exact ⟨_, rfl, zPm_filter h _⟩
      · cases hs
    · split at hs
      · rename_i hb
        cases hs
        try simp only [hb]
        exact ⟨_, rfl, zPm_filter h _⟩
      · cases hs
    · cases hs
theorem zrun_L : ∀ (N : Nat) {D dy mi pc : Nat} {l1 l2 : zLs} {st : List Value} {I : zM} {o : zO4}, zPm l1 l2 → zrun sl N D dy mi pc l1 st I = some o → zrun sl N D dy mi pc l2 st I = some o := by
  intro N
  induction N with
  | zero => intro D dy mi pc l1 l2 st I o _ h; simp [zrun] at h
  | succ N ih =>
    intro D dy mi pc l1 l2 st I o hp h
    unfold zrun at h ⊢
    cases hl : zl mi pc with
    | none => rw [hl] at h; simp at h
    | some e =>
      obtain ⟨i, len, r1, r2, r3⟩ := e
      rw [hl] at h
      simp only at h ⊢
      cases hs : zstep sl dy mi pc (i, len, r1, r2, r3) l1 st I with
      | none => rw [hs] at h; simp at h
      | some r =>
        rw [hs] at h
        obtain ⟨r', hs', hr⟩ := zstep_L hp hs
        rw [hs']
        rcases r with ⟨pc', ls', st', I', u⟩ | v | c | ⟨m, pc', la, st', u0⟩
        · obtain ⟨l', rfl, m1⟩ := hr
          simp only [Option.map_eq_some_iff] at h ⊢
          obtain ⟨q, h1, rfl⟩ := h
          exact ⟨q, ih m1 h1, rfl⟩
        · cases (show r' = .inr (.inl v) from hr)
          exact h
        · cases (show r' = .inr (.inr (.inl c)) from hr)
          exact h
        · cases (show r' = .inr (.inr (.inr (m, pc', la, st', u0))) from hr)
          cases D with
          | zero => simp at h
          | succ D =>
            simp only at h ⊢
            cases hc : zrun sl N D (zdy u0 dy la) m 0 la [] I with
            | none => rw [hc] at h; simp at h
            | some q =>
              rw [hc] at h
              obtain ⟨c, v, I', u⟩ := q
              cases c with
              | zero =>
                simp only at h ⊢
                cases hg : zgd u0 v with
                | false => rw [hg] at h; cases h
                | true =>
                  rw [hg] at h
                  simp only [Option.map_eq_some_iff] at h ⊢
                  obtain ⟨q, h1, rfl⟩ := h
                  exact ⟨q, ih hp h1, rfl⟩
              | succ c =>
                simp only at h ⊢
                cases hy : zhd c pc (zH mi) with
                | none => rw [hy] at h; exact h
                | some hh =>
                  rw [hy] at h
                  simp only at h ⊢
                  cases hz : zcat3 mi pc c l1 with
                  | none => rw [hz] at h; cases h
                  | some w =>
                    rw [hz] at h
                    obtain ⟨l', g1, g2⟩ := zcat3_L hp hz
                    rw [g1]
                    obtain ⟨pc2, ls2⟩ := w
                    simp only [Option.map_eq_some_iff] at h ⊢
                    obtain ⟨q, h1, rfl⟩ := h
                    exact ⟨q, ih g2 h1, rfl⟩
theorem zPm_of {l1 l2 ex : zLs} (h : (l1 ++ ex).Perm l2) (hn : ((l1 ++ ex).map (fun q => q.1)).Nodup) : zPm l1 l2 := by
  have hn1 : (l1.map (fun q => q.1)).Nodup := by
    rw [List.map_append] at hn
    exact (List.nodup_append.mp hn).1
  have hn2 : (l2.map (fun q => q.1)).Nodup := (h.map (fun q => q.1)).nodup_iff.mp hn
  exact ⟨fun i v hv => zlk_of_mem hn2 (h.mem_iff.mp (List.mem_append_left _ (zlk_mem hv))), hn1, hn2⟩
end ZPERM
