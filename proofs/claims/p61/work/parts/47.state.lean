/-! CONTRACTS: what is asked is a function of the state -/
theorem zrun_D {sl : Nat} : ∀ (N : Nat) {D dy mi pc : Nat} {ls : zLs} {st : List Value} {I : zM} {o : zO4}, zrun sl N D dy mi pc ls st I = some o → zrun sl N (D + 1) dy mi pc ls st I = some o := by
  intro N
  induction N with
  | zero => intro D dy mi pc ls st I o h; simp [zrun] at h
  | succ N ih =>
    intro D dy mi pc ls st I o h
    unfold zrun at h ⊢
    cases hl : zl mi pc with
    | none => rw [hl] at h; simp at h
    | some e =>
      rw [hl] at h
      simp only at h ⊢
      cases hs : zstep sl dy mi pc e ls st I with
      | none => rw [hs] at h; simp at h
      | some r =>
        rw [hs] at h
        rcases r with ⟨pc', ls', st', I', u⟩ | v | c | ⟨m, pc', la, st', u0⟩
        · simp only [Option.map_eq_some_iff] at h ⊢
          obtain ⟨q, h1, rfl⟩ := h
          exact ⟨q, ih h1, rfl⟩
        · exact h
        · exact h
        · cases D with
          | zero => simp at h
          | succ D =>
            simp only at h ⊢
            cases hc : zrun sl N D (zdy u0 dy la) m 0 la [] I with
            | none => rw [hc] at h; simp at h
            | some q =>
              rw [hc] at h
              rw [ih hc]
              obtain ⟨c, v, I', u⟩ := q
              cases c with
              | zero =>
                simp only at h ⊢
                cases hg : zgd u0 v with
                | false => rw [hg] at h; cases h
                | true =>
                  rw [hg] at h
                  simp only [Option.map_eq_some_iff] at h ⊢
                  obtain ⟨q, h1, rfl⟩ := h
                  exact ⟨q, ih h1, rfl⟩
              | succ c =>
                simp only at h ⊢
                cases hy : zhd c pc (zH mi) with
                | none => rw [hy] at h; exact h
                | some hh =>
                  rw [hy] at h
                  simp only at h ⊢
                  cases hz : zcat3 mi pc c ls with
                  | none => rw [hz] at h; cases h
                  | some w =>
                    rw [hz] at h
                    obtain ⟨pc2, ls2⟩ := w
                    simp only [Option.map_eq_some_iff] at h ⊢
                    obtain ⟨q, h1, rfl⟩ := h
                    exact ⟨q, ih h1, rfl⟩
theorem zrun_D2 {sl N D dy mi pc : Nat} {ls : zLs} {st : List Value} {I : zM} {o : zO4} (h : zrun sl N D dy mi pc ls st I = some o) : ∀ k : Nat, zrun sl N (D + k) dy mi pc ls st I = some o := by
  intro k
  induction k with
  | zero => exact h
  | succ k ih => exact zrun_D N ih
/-- the state's cells alone -/
def zSM (S : Nat → Nat → Int32) : zM := fun a k => if 1 ≤ a ∧ zcell (a - 1) k = true then some (S (a - 1) k) else none
theorem zSM_B (S : Nat → Nat → Int32) : zSB 1 S (zSM S) := fun o k hc => by
  unfold zSM
  rw [if_pos ⟨by omega, by rw [Nat.add_sub_cancel]; exact hc⟩, Nat.add_sub_cancel]
theorem zSM_le {S : Nat → Nat → Int32} {I : zM} (hB : zSB 1 S I) : zle (zSM S) I := fun a k x h => by
  unfold zSM at h
  split at h
  · rename_i q
    have := hB (a - 1) k q.2
    rw [Nat.sub_add_cancel q.1] at this
    rw [this]
    exact h
  · cases h
def zQv (I : zM) (x : Int64) : Nat → Option Value → zM → Prop := fun c v J => c = 0 ∧ v = some (.long x) ∧ zfr I J ∧ zOo J
theorem zdet {sl D dy m b : Nat} {la : zLs} {S : Nat → Nat → Int32} (h : zW sl D dy m 0 la [] (zSM S) (zRg b (zQa (zSM S)))) : ∃ x : Int64, ∀ (k : Nat) (I : zM), zSB 1 S I → zW sl (D + k) dy m 0 la [] I (zRg b (zQv I x)) := by
  obtain ⟨N, q, h1, ⟨hq, ⟨x, hx⟩, hf, n, hn1, hn2⟩, hb⟩ := h
  refine ⟨x, fun k I hB => ?_⟩
  obtain ⟨J, g1, g2, -⟩ := zmono N (zSM_le hB) h1
  refine ⟨N, _, zrun_D2 g1 k, ⟨hq, hx, fun a j ha => ?_, n, g2.1 148 0 n hn1, hn2⟩, hb⟩
  rcases g2.2 a j with e | ⟨y, e1, e2⟩
  · exact e
  · rw [hf a j ha] at e1
    exact e2.trans (zSM_le hB a j y e1).symm
noncomputable def zAns (sl dy : Nat) (S : Nat → Nat → Int32) : Int64 := @dite Int64 (∃ x : Int64, ∀ (k : Nat) (I : zM), zSB 1 S I → zW sl (12 + k) dy 175 0 [(0, .ref 0)] [] I (zRg 508 (zQv I x))) (Classical.propDecidable _) (fun h => Classical.choose h) (fun _ => 0)
theorem zl_asksF {sl D dy : Nat} {I : zM} {S : Nat → Nat → Int32} (hB : zSB 1 S I) (hV : zOK S) (hn2 : 1 ≤ (S 0 10).toInt) : zW sl (D + 12) dy 175 0 [(0, .ref 0)] [] I (zRg 508 (zQv I (zAns sl dy S))) := by
  have h := zdet (zl_asks (sl := sl) (D := 0) (dy := dy) (zSM_B S) hV hn2)
  rw [Nat.zero_add] at h
  unfold zAns
  rw [dif_pos h, Nat.add_comm D 12]
  exact Classical.choose_spec h D I hB
