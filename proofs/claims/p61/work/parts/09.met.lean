/-! CALLS: a contract as the kit's, its words, what follows behind a call -/
def zPc (X : zX) (av : List Value) (n : Nat) (K : zKT) (P : zPT) (I : zIT) (L : zLT) : Array Value → State → Prop := fun a U => a = av.toArray ∧ zK X U U.heap ∧ zPic X U U.heap n K P I L
def zRm (d bc bs : Nat) : Room := { frames := d, cells := bc, slots := bs, locals := 60 * d }
theorem zmI {mi : Nat} (h : mi < 224) (hne : mi ≠ 178) : zhas (zi mi).2.2.2.2.2.2.2.2.1 (.initialized (zY mi).cls) = true ∧ zL mi ≤ 40 ∧ (parseMethodDescriptor (zY mi).desc).map (fun d => d.parameters.length) = some (zNP mi) ∧ plainName (zY mi).cls = true ∧ (zY mi).cls ≠ "java/lang/invoke/MethodHandle" ∧ (zY mi).cls ≠ "java/lang/invoke/VarHandle" := by
  have h1 := (zm_all mi h hne).1
  unfold zmc at h1
  simp only [Bool.and_eq_true, decide_eq_true_eq] at h1
  obtain ⟨⟨⟨⟨⟨⟨⟨-, -⟩, h2⟩, h3⟩, h4⟩, h5⟩, h6⟩, h7⟩ := h1
  exact ⟨h2, h3, h4, h5, h6, h7⟩
theorem zcw_good (mi : Nat) : goodWord (zcw mi) = true := by
  unfold zcw
  split <;> rfl
theorem zcw_in {mi : Nat} (h : mi < 224) (hne : mi ≠ 178) : zcw mi ∈ zTs := List.mem_filter.mpr ⟨(zm_all mi h hne).2, zcw_good mi⟩
theorem zws_good {mi : Nat} (h : mi < 224) (hne : mi ≠ 178) : GoodIn zTs (zcw mi :: zTs) := by
  intro w hw
  rcases List.mem_cons.mp hw with rfl | hw
  · exact ⟨zcw_in h hne, good_of_word (zcw_good mi)⟩
  · exact ⟨hw, good_of_word (List.mem_filter.mp hw).2⟩
theorem zS_new {l : Launch} {X : zX} {d bc bs mi : Nat} {av : List Value} {n : Nat} {K : zKT} {P : zPT} {I : zIT} {L : zLT} {p : Program} {e : Env} {s s₁ : State} {m : MethodId} {args : Array Value} {below : List Frame} {meth : Method} {c : Code}
    (hst : l.stackTraces = false) (B : BodyLoose p l (zY mi) (headSpec (zcw mi :: zTs) (zRm d bc bs)) (zB mi) (zL mi) (zRt mi) e s m args below meth c s₁) (hml : c.maxLocals = zL mi) (ht : c.exceptionTable.toList = tableOf (zH mi)) (hP : zPc X av n K P I L args s) :
    zS p l e (zRm d bc bs) s m args below meth c X d mi :=
  ⟨B.exec, B.bytes, hml, findClass_of_methodNamed B.named, fun w hw => atoms_spec (ws := zcw mi :: zTs) B.pre w (List.mem_cons_of_mem _ hw), B.returns, B.notSynchronized, ht, (name_of_methodNamed B.named B.method).1, Nat.le_refl _, Nat.le_refl _, hP.2.1, hst⟩
theorem zMet {l : Launch} {X : zX} {d bc bs mi : Nat} {av : List Value} {n : Nat} {K : zKT} {P : zPT} {I : zIT} {L : zLT} {Q : zPost} (h : mi < 224) (hne : mi ≠ 178) (hst : l.stackTraces = false) (hlen : (lg_sl av).length ≤ zL mi) (hv : zC l X d bc bs mi av n K P I L Q) :
    vx_Met l (zY mi) (zcw mi :: zTs) (zRm d bc bs) (zPc X av n K P I L) (zQ X Q) (zXC X Q) bc bs (zA X) := by
  have key : ∀ (p : Program) (e : Env) (s : State) (m : MethodId) (args : Array Value) (below : List Frame) (meth : Method) (c : Code) (s₁ : State), BodyLoose p l (zY mi) (headSpec (zcw mi :: zTs) (zRm d bc bs)) (zB mi) (zL mi) (zRt mi) e s m args below meth c s₁ → c.maxLocals = zL mi → c.exceptionTable.toList = tableOf (zH mi) → zPc X av n K P I L args s →
      W p l e (zRm d bc bs) s m args below meth c s.heap [] 0 0 (vx_MQ below (zQ X Q) (zXC X Q) args s bc bs (zA X)) (entryFrame m args (zL mi)) := by
    intro p e s m args below meth c s₁ B hml ht hP
    have S := zS_new hst B hml ht hP
    obtain ⟨rfl, hK, hpic⟩ := hP
    rw [lg_entry_eq]
    exact hv p e (zRm d bc bs) s m av.toArray below meth c s.heap [] 0 0 bc bs _ S ⟨Nat.le_of_eq (Nat.zero_add _), Nat.le_of_eq (Nat.zero_add _), Nat.le_refl _, Nat.le_refl _, ⟨Nat.le_refl _, fun _ _ _ => rfl, fun q hq => nomatch hq⟩, hpic⟩ (lv_entry av hlen)
  cases hH : zH mi with
  | nil =>
    refine vx_ofW (cc := zB mi) (maxL := zL mi) (ret := zRt mi) (ws' := zTs) (zmI h hne).2.2.2.1 (by unfold zcw; rw [hH]) ?_
    intro p e s m args below meth c s₁ B hml ht hP
    refine key p e s m args below meth c s₁ B hml ?_ hP
    rw [hH]
    cases hc : c.exceptionTable.toList with
    | nil => rfl
    | cons x t => exact (ht x (by rw [hc]; exact List.mem_cons_self)).elim
  | cons q r =>
    have hw : zcw mi = Cond.codeWith (zY mi) (zB mi) (zL mi) (zRt mi) (q :: r) := by unfold zcw; rw [hH]
    refine vx_ofWH (cc := zB mi) (maxL := zL mi) (ret := zRt mi) (hh := q :: r) (ws' := zTs) (zmI h hne).2.2.2.1 (by rw [hw]) ?_
    intro p e s m args below meth c s₁ B hml hP
    refine key p e s m args below meth c s₁ B hml ?_ hP
    rw [hH]
    exact vx_table (x := zY mi) B (by rw [← hw]; exact atoms_spec (ws := zcw mi :: zTs) B.pre _ List.mem_cons_self)
theorem zPc_blind {X : zX} {av : List Value} {n : Nat} {K : zKT} {P : zPT} {I : zIT} {L : zLT} : FrameBlind (zPc X av n K P I L) := fun _ U _ _ h =>
  ⟨h.1, zK_moved (locs := []) h.2.1 (State.WarmedH.refl U) ⟨Nat.le_refl _, fun _ _ _ => rfl, fun q hq => nomatch hq⟩ rfl, zPic_moved (State.WarmedH.refl U).alike h.2.2⟩
theorem zPc_at {X : zX} {av : List Value} {n : Nat} {K : zKT} {P : zPT} {I : zIT} {L : zLT} {s U : State} {H : Heap} {locs : List Loc} (hK : zK X s s.heap) (hS : va_S (zA X) s.heap H locs) (hpic : zPic X s H n K P I L) (hU : U.heap = H) (hW : s.WarmedH U.vm) : zPc X av n K P I L av.toArray U := by
  subst hU
  exact ⟨rfl, zK_moved hK hW hS rfl, zPic_moved hW.alike hpic⟩
section ZA
variable {l : Launch} {X : zX} {d bc bs mi pc : Nat} {ls : List (Nat × Value)} {st : List Value} {n : Nat} {K : zKT} {P : zPT} {I : zIT} {L : zLT} {Post : zPost}
/-- what is thrown x here: no handler, or one of them with any place q of it -/
def zXh (l : Launch) (X : zX) (d bc bs mi pc : Nat) (ls : List (Nat × Value)) (x n : Nat) (K : zKT) (P : zPT) (I : zIT) (L : zLT) (Post : zPost) : Prop :=
  ((∀ z ∈ zH mi, ¬ (z.1 ≤ pc ∧ pc < z.2.1)) ∧ Post (.inr x) n K P I L) ∨
  ∃ (pre suf : List (Nat × Nat × Nat × Nat)) (z : Nat × Nat × Nat × Nat), zH mi = pre ++ z :: suf ∧ (z.1 ≤ pc ∧ pc < z.2.1) ∧ z.2.2.2 = zcc x ∧ (∀ w ∈ pre, ¬ (w.1 ≤ pc ∧ pc < w.2.1) ∨ w.2.2.2 ≠ zcc x) ∧ ∀ q : Nat, zV l X d bc bs mi z.2.2.1 ls [.ref q] n K P I L Post
theorem zcovers {z : Nat × Nat × Nat × Nat} {pc : Nat} : covers ⟨z.1, z.2.1, z.2.2.1, z.2.2.2⟩ pc = (decide (z.1 ≤ pc) && decide (pc < z.2.1)) := rfl
end ZA
