/-! THE LOGIC over the interpreter -/
theorem zrun_le {sl : Nat} : ∀ (N : Nat) {D dy mi pc : Nat} {ls : zLs} {st : List Value} {I : zM} {o : zO4}, zrun sl N D dy mi pc ls st I = some o → ∀ {N' D' : Nat}, N ≤ N' → D ≤ D' → zrun sl N' D' dy mi pc ls st I = some o := by
  intro N
  induction N with
  | zero => intro D dy mi pc ls st I o h; simp [zrun] at h
  | succ N ih =>
    intro D dy mi pc ls st I o h N' D' hN hD
    obtain ⟨N', rfl⟩ : ∃ k, N' = k + 1 := ⟨N' - 1, by omega⟩
    have hN : N ≤ N' := by omega
    unfold zrun at h ⊢
    cases hl : zl mi pc with
    | none => rw [hl] at h; simp at h
    | some e =>
      rw [hl] at h
      simp only at h ⊢
      cases hs : zstep sl dy mi pc e ls st I with
      | none => rw [hs] at h; simp at h
      | some r =>
        rw [hs] at h
        rcases r with ⟨pc', ls', st', I', u⟩ | v | c | ⟨m, pc', la, st', u0⟩
        · simp only [Option.map_eq_some_iff] at h ⊢
          obtain ⟨q, h1, h2⟩ := h
          exact ⟨q, ih h1 hN hD, h2⟩
        · exact h
        · exact h
        · cases D with
          | zero => simp at h
          | succ D =>
            obtain ⟨D', rfl⟩ : ∃ k, D' = k + 1 := ⟨D' - 1, by omega⟩
            have hD2 : D ≤ D' := by omega
            simp only at h ⊢
            cases hc : zrun sl N D (zdy u0 dy la) m 0 la [] I with
            | none => rw [hc] at h; simp at h
            | some q =>
              rw [hc] at h
              rw [ih hc hN hD2]
              obtain ⟨c, v, I', u⟩ := q
              cases c with
              | zero =>
                simp only at h ⊢
                cases hg : zgd u0 v with
                | false => rw [hg] at h; cases h
                | true =>
                  rw [hg] at h
                  simp only [Option.map_eq_some_iff] at h ⊢
                  obtain ⟨q, h1, h2⟩ := h
                  exact ⟨q, ih h1 hN hD, h2⟩
              | succ c =>
                simp only at h ⊢
                cases hy : zhd c pc (zH mi) with
                | none => rw [hy] at h; exact h
                | some hh =>
                  rw [hy] at h
                  simp only at h ⊢
                  cases hz : zcat3 mi pc c ls with
                  | none => rw [hz] at h; cases h
                  | some w =>
                    rw [hz] at h
                    obtain ⟨pc2, ls2⟩ := w
                    simp only [Option.map_eq_some_iff] at h ⊢
                    obtain ⟨q, h1, h2⟩ := h
                    exact ⟨q, ih h1 hN hD, h2⟩
/-- it comes to an end, with Post of the outcome -/
def zW (sl D dy mi pc : Nat) (ls : zLs) (st : List Value) (I : zM) (Post : zO4 → Prop) : Prop := ∃ (N : Nat) (o : zO4), zrun sl N D dy mi pc ls st I = some o ∧ Post o
section ZT
variable {sl D dy mi pc : Nat} {ls : zLs} {st : List Value} {I : zM} {Post : zO4 → Prop}
theorem zW_post {Q : zO4 → Prop} (k : zW sl D dy mi pc ls st I Q) (h : ∀ o, Q o → Post o) : zW sl D dy mi pc ls st I Post := by
  obtain ⟨N, o, h1, h2⟩ := k
  exact ⟨N, o, h1, h o h2⟩
theorem zW_D {D' : Nat} (k : zW sl D dy mi pc ls st I Post) (h : D ≤ D') : zW sl D' dy mi pc ls st I Post := by
  obtain ⟨N, o, h1, h2⟩ := k
  exact ⟨N, o, zrun_le N h1 (Nat.le_refl _) h, h2⟩
theorem zW_nu {e : Instr × Nat × Nat × Nat × Nat} {pc' u : Nat} {ls' : zLs} {st' : List Value} {I' : zM} (h : zl mi pc = some e) (hs : zstep sl dy mi pc e ls st I = some (.inl (pc', ls', st', I', u))) (k : zW sl D dy mi pc' ls' st' I' (fun o => Post (zadd u o))) : zW sl D dy mi pc ls st I Post := by
  obtain ⟨N, o, h1, h2⟩ := k
  refine ⟨N + 1, zadd u o, ?_, h2⟩
  simp only [zrun, h, hs, h1, Option.map_some]
theorem zW_n {e : Instr × Nat × Nat × Nat × Nat} {pc' : Nat} {ls' : zLs} {st' : List Value} {I' : zM} (h : zl mi pc = some e) (hs : zstep sl dy mi pc e ls st I = some (.inl (pc', ls', st', I', 0))) (k : zW sl D dy mi pc' ls' st' I' Post) : zW sl D dy mi pc ls st I Post := zW_nu h hs k
theorem zW_r {e : Instr × Nat × Nat × Nat × Nat} {v : Option Value} (h : zl mi pc = some e) (hs : zstep sl dy mi pc e ls st I = some (.inr (.inl v))) (hp : Post (0, v, I, 0)) : zW sl D dy mi pc ls st I Post := by
  refine ⟨1, _, ?_, hp⟩
  simp only [zrun, h, hs]
theorem zW_x {e : Instr × Nat × Nat × Nat × Nat} {c : Nat} (h : zl mi pc = some e) (hs : zstep sl dy mi pc e ls st I = some (.inr (.inr (.inl c)))) (hp : Post (c + 1, none, I, 1)) : zW sl D dy mi pc ls st I Post := by
  refine ⟨1, _, ?_, hp⟩
  simp only [zrun, h, hs]
theorem zcat3_some {c : Nat} {w : Nat × zLs} (h : zcat3 mi pc c ls = some w) : ∃ hh, zhd c pc (zH mi) = some hh := by
  unfold zcat3 at h
  split at h
  · cases h
  · rename_i hh hx
    exact ⟨hh, hx⟩
/-- a call: what it gives, what it throws here or further on -/
theorem zW_cu {e : Instr × Nat × Nat × Nat × Nat} {m pc' u0 : Nat} {la : zLs} {st' : List Value} {Q : zO4 → Prop} (h : zl mi pc = some e) (hs : zstep sl dy mi pc e ls st I = some (.inr (.inr (.inr (m, pc', la, st', u0)))))
    (hc : zW sl D (zdy u0 dy la) m 0 la [] I Q)
    (hr : ∀ (v : Option Value) (I' : zM) (u : Nat), Q (0, v, I', u) → zgd u0 v = true ∧ zW sl (D + 1) dy mi pc' ls (zpush v st') I' (fun o => Post (zadd (u + u0) o)))
    (hx : ∀ (c : Nat) (v : Option Value) (I' : zM) (u : Nat), Q (c + 1, v, I', u) → (zhd c pc (zH mi) = none ∧ zany pc (zH mi) = false ∧ Post (c + 1, none, I', u + u0)) ∨ ∃ (pc2 : Nat) (ls2 : zLs), zcat3 mi pc c ls = some (pc2, ls2) ∧ zW sl (D + 1) dy mi pc2 ls2 [] I' (fun o => Post (zadd (u + u0) o))) :
    zW sl (D + 1) dy mi pc ls st I Post := by
  obtain ⟨N, ⟨c, v, I', u⟩, h1, h2⟩ := hc
  cases c with
  | zero =>
    obtain ⟨hg, N2, o, g1, g2⟩ := hr v I' u h2
    refine ⟨max N N2 + 1, zadd (u + u0) o, ?_, g2⟩
    have e1 := zrun_le N h1 (Nat.le_max_left N N2) (Nat.le_refl _)
    have e2 := zrun_le N2 g1 (Nat.le_max_right N N2) (Nat.le_refl _)
    unfold zrun
    simp only [h, hs, e1, hg, e2, Option.map_some]
  | succ c =>
    rcases hx c v I' u h2 with ⟨g1, g0, g2⟩ | ⟨pc2, ls2, g1, N2, o, g2, g3⟩
    · refine ⟨N + 1, _, ?_, g2⟩
      unfold zrun
      simp only [h, hs, h1, g1, g0]
    · refine ⟨max N N2 + 1, zadd (u + u0) o, ?_, g3⟩
      have e1 := zrun_le N h1 (Nat.le_max_left N N2) (Nat.le_refl _)
      have e2 := zrun_le N2 g2 (Nat.le_max_right N N2) (Nat.le_refl _)
      obtain ⟨hh, hy⟩ := zcat3_some g1
      unfold zrun
      simp only [h, hs, e1, e2, g1, hy, Option.map_some]
/-- several instructions of one method that go on -/
def zgo (sl dy mi : Nat) : Nat → Nat × zLs × List Value × zM × Nat → Option (Nat × zLs × List Value × zM × Nat)
  | 0, c => some c
  | n + 1, (pc, ls, st, I, u) => match zl mi pc with
    | some e => match zstep sl dy mi pc e ls st I with
      | some (.inl (pc', ls', st', I', u')) => zgo sl dy mi n (pc', ls', st', I', u' + u)
      | _ => none
    | none => none
theorem zW_gu : ∀ (n : Nat) {pc : Nat} {ls : zLs} {st : List Value} {I : zM} {u0 : Nat} {Post : zO4 → Prop} {pc' : Nat} {ls' : zLs} {st' : List Value} {I' : zM} {u : Nat}, zgo sl dy mi n (pc, ls, st, I, u0) = some (pc', ls', st', I', u) → zW sl D dy mi pc' ls' st' I' (fun o => Post (zadd u o)) → zW sl D dy mi pc ls st I (fun o => Post (zadd u0 o))
  | 0, pc, ls, st, I, u0, Post, pc', ls', st', I', u, h, k => by
    simp only [zgo, Option.some.injEq, Prod.mk.injEq] at h
    obtain ⟨rfl, rfl, rfl, rfl, rfl⟩ := h
    exact k
  | n + 1, pc, ls, st, I, u0, Post, pc', ls', st', I', u, h, k => by
    unfold zgo at h
    cases hl : zl mi pc with
    | none => rw [hl] at h; simp at h
    | some e =>
      rw [hl] at h
      simp only at h
      cases hs : zstep sl dy mi pc e ls st I with
      | none => rw [hs] at h; simp at h
      | some r =>
        rw [hs] at h
        rcases r with ⟨pc1, ls1, st1, I1, u1⟩ | v | c | q
        · refine zW_nu hl hs ?_
          refine zW_post (zW_gu n h k) (fun o ho => ?_)
          have : zadd (u1 + u0) o = zadd u0 (zadd u1 o) := by simp only [zadd, Nat.add_assoc]
          rw [← this]
          exact ho
        · simp at h
        · simp at h
        · simp at h
theorem zW_g (n : Nat) {pc' : Nat} {ls' : zLs} {st' : List Value} {I' : zM} (h : zgo sl dy mi n (pc, ls, st, I, 0) = some (pc', ls', st', I', 0)) (k : zW sl D dy mi pc' ls' st' I' Post) : zW sl D dy mi pc ls st I Post := zW_gu n h k
end ZT
