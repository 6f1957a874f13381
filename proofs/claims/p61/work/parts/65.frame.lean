/-! THE LAW'S OWN FRAME, over the pure memory -/
def zU (l : Launch) (X : zX) (D b mi pc : Nat) (ls : zLs) (st : List Value) (E : zEnv) (M : zM) (Post : zPost) : Prop := ∀ (n : Nat) (K : zKT) (P : zPT) (I : zIT) (L : zLT), zRel E n K P I L M → zV l X (D + 12) (b * 8) (b * 400) mi pc (zmL (zEr E) ls) (zmS (zEr E) st) n K P I L Post
theorem zRel_le {E : zEnv} {n : Nat} {K : zKT} {P : zPT} {I : zIT} {L : zLT} {T M : zM} (hR : zRel E n K P I L M) (h : zle T M) : zRel E n K P I L T := by
  obtain ⟨h1, h2, h3, h4, h5, va, t, h6, h7, h8, h9, h10, h11⟩ := hR
  exact ⟨h1, h2, h3, fun i k x hi hx => h4 i k x hi (h i k x hx), fun k x hx => h5 k x (h 1000 k x hx), va, t, h6, h7, h8, fun x hx => h9 x (h 148 0 x hx), fun j x hj hx => h10 j x hj (h 149 j x hx), h11⟩
/-- the law's array, as the real memory has it -/
def zpat (sl : Nat) (E : zEnv) (M : zM) : zM := fun a k => match Nat.beq a 1000 with
  | true => if k < sl then some (zEI E (zEr E 1000) k) else none
  | false => M a k
theorem zpat_no {sl : Nat} {E : zEnv} {M : zM} {a k : Nat} (h : a ≠ 1000) : zpat sl E M a k = M a k := by
  unfold zpat
  cases hb : Nat.beq a 1000 with
  | false => rfl
  | true => exact absurd (Nat.eq_of_beq_eq_true hb) h
theorem zpat_lw {sl : Nat} {E : zEnv} {M : zM} : zLw sl (zpat sl E M) := fun k hk => ⟨_, (show (if k < sl then some (zEI E (zEr E 1000) k) else none) = _ from if_pos hk)⟩
theorem zRel_pat {sl : Nat} {E : zEnv} {n : Nat} {K : zKT} {P : zPT} {I : zIT} {L : zLT} {M : zM} (hR : zRel E n K P I L M) : zRel E n K P I L (zpat sl E M) := by
  obtain ⟨h1, h2, h3, h4, h5, va, t, h6, h7, h8, h9, h10, h11⟩ := hR
  refine ⟨h1, h2, h3, fun i k x hi hx => h4 i k x hi ((zpat_no (sl := sl) (E := E) (M := M) (show i ≠ 1000 by omega)).symm.trans hx), fun k x hx => ?_, va, t, h6, h7, h8, fun x hx => h9 x hx, fun j x hj hx => h10 j x hj hx, h11⟩
  have hx : (if k < sl then some (zEI E (zEr E 1000) k) else none) = some x := hx
  split at hx
  · exact Option.some.inj hx
  · cases hx
section ZUS
variable {l : Launch} {X : zX} {sl dy D b mi pc : Nat} {E : zEnv} {ls : zLs} {st : List Value} {M : zM} {Post : zPost}
theorem zU_le {b' : Nat} (h : b ≤ b') (k : zU l X D b mi pc ls st E M Post) : zU l X D b' mi pc ls st E M Post := fun n K P I L hR => zV_bud (by omega) (by omega) (k n K P I L hR)
theorem zU_mem {T : zM} (h : zle T M) (k : zU l X D b mi pc ls st E T Post) : zU l X D b mi pc ls st E M Post := fun n K P I L hR => k n K P I L (zRel_le hR h)
theorem zU_pat (k : zU l X D b mi pc ls st E (zpat sl E M) Post) : zU l X D b mi pc ls st E M Post := fun n K P I L hR => k n K P I L (zRel_pat hR)
theorem zU_s (J : zJDK l X) (hE : zEok X sl dy E) {e : Instr × Nat × Nat × Nat × Nat} {pc' u : Nat} {ls' : zLs} {st' : List Value} {M' : zM} (h : zl mi pc = some e) (hs : zstep sl dy mi pc e ls st M = some (.inl (pc', ls', st', M', u))) (k : zU l X D b mi pc' ls' st' E M' Post) : zU l X D (b + u) mi pc ls st E M Post := fun n K P I L hR => by
  obtain ⟨i, len, r1, r2, r3⟩ := e
  exact zV_bud (by omega) (by omega) (zq_step (Post := Post) (bc := b * 8) (bs := b * 400) J hE hR h hs (fun n' K' P' I' L' hR' => k n' K' P' I' L' hR'))
theorem zU_n (J : zJDK l X) (hE : zEok X sl dy E) {e : Instr × Nat × Nat × Nat × Nat} {pc' : Nat} {ls' : zLs} {st' : List Value} {M' : zM} (h : zl mi pc = some e) (hs : zstep sl dy mi pc e ls st M = some (.inl (pc', ls', st', M', 0))) (k : zU l X D b mi pc' ls' st' E M' Post) : zU l X D b mi pc ls st E M Post := zU_s J hE h hs k
theorem zU_c (J : zJDK l X) (hE : zEok X sl dy E) {e : Instr × Nat × Nat × Nat × Nat} {m pc' b1 b2 : Nat} {la : zLs} {st' : List Value} {Q : Nat → Option Value → zM → Prop} (hz : zl mi pc = some e) (hs : zstep sl dy mi pc e ls st M = some (.inr (.inr (.inr (m, pc', la, st', 0)))))
    (hc : zW sl D dy m 0 la [] M (zRg b1 Q)) (hx : ∀ c v M', ¬ Q (c + 1) v M') (kr : ∀ v M', Q 0 v M' → zU l X (D + 1) b2 mi pc' ls (zpush v st') E M' Post) : zU l X (D + 1) (b1 + b2) mi pc ls st E M Post := fun n K P I L hR => by
  obtain ⟨N, ⟨cc, v, I1, u1⟩, hc, hq, hu⟩ := hc
  cases cc with
  | succ c => exact absurd hq (hx c v I1)
  | zero =>
    have kr' : ∀ (n' : Nat) (K' : zKT) (P' : zPT) (I' : zIT) (L' : zLT), zRel E n' K' P' I' L' I1 → zV l X (D + 1 + 12) (b2 * 8) (b2 * 400) mi pc' (zmL (zEr E) ls) (zmS (zEr E) (zpush v st')) n' K' P' I' L' Post := fun n' K' P' I' L' h => kr v I1 hq n' K' P' I' L' h
    obtain ⟨i, len, r1, r2, r3⟩ := e
    have hu : u1 ≤ b1 := hu
    refine zV_bud (bc := u1 * 8 + b2 * 8) (bs := u1 * 400 + b2 * 400) (by omega) (by omega) ?_
    have hsh := zshape_of hs
    cases i with
    | invokestatic a0 =>
      obtain rfl : len = 3 := zlen_eq hz rfl
      have hst : (r2 = 0 ∨ r2 = 1 ∨ r2 = 2) ∧ zcall r1 (pc + 3) (zNP r1) st = some (.inr (.inr (.inr (m, pc', la, st', 0)))) := by
        simp only [zstep] at hs
        split at hs
        · exact ⟨Or.inl rfl, hs⟩
        · exact ⟨Or.inr (Or.inl rfl), hs⟩
        · exact ⟨Or.inr (Or.inr rfl), hs⟩
        · simp only [znx] at hs
          repeat' split at hs
          all_goals cases hs
        · simp only [znx, zi2] at hs
          repeat' split at hs
          all_goals cases hs
        · cases hs
      obtain ⟨hr2, hcl⟩ := hst
      obtain ⟨-, c2, c3, c4, e⟩ := zcall_inv hcl
      cases e
      have hav : (zmS (zEr E) (st.take (zNP m)).reverse).length = zNP m := by simp; omega
      have hlen : (lg_sl (zmS (zEr E) (st.take (zNP m)).reverse)).length ≤ zL m := by
        rw [zsl_len]
        show zcat _ ≤ _
        have : zcat (zmS (zEr E) (st.take (zNP m)).reverse) = zcat (st.take (zNP m)) := by
          rw [← zcat_rev (st.take (zNP m))]
          exact zmS_cat _ _
        omega
      have hW : ((zmS (zEr E) (st.drop (zNP m))).map fun v => v.category).sum ≤ 8 := by
        rw [zmS_cat]
        exact Nat.le_of_ble_eq_true c2
      have hcc : zC l X (D + 12) (u1 * 8) (u1 * 400) m (zmS (zEr E) (st.take (zNP m)).reverse) n K P I L (zPo E (0, v, I1, u1)) := by
        unfold zC
        rw [zargs_map]
        exact zsim J N hc hE hR
      have kk : ∀ (v' : Option Value) (n' : Nat) (K' : zKT) (P' : zPT) (I' : zIT) (L' : zLT), zPo E (0, v, I1, u1) (.inl v') n' K' P' I' L' → zV l X (D + 12 + 1) (b2 * 8) (b2 * 400) mi (pc + 3) (zmL (zEr E) ls) (v'.toList ++ zmS (zEr E) (st.drop (zNP m))) n' K' P' I' L' Post := by
        rintro v' n' K' P' I' L' ⟨e1, e2⟩
        cases e1
        rw [zpush_map]
        exact kr' n' K' P' I' L' e2
      have kx' : ∀ (x n' : Nat) (K' : zKT) (P' : zPT) (I' : zIT) (L' : zLT), x < 6 → zPo E (0, v, I1, u1) (.inr x) n' K' P' I' L' → zXh l X (D + 12 + 1) (b2 * 8) (b2 * 400) mi pc (zmL (zEr E) ls) x n' K' P' I' L' Post := by
        rintro x n' K' P' I' L' - ⟨e1, e2⟩
        cases e1
      rw [zstk (zEr E) (zNP m) st]
      rcases hr2 with rfl | rfl | rfl
      · exact zV_cs (d := D + 12) hz hav hlen hW hcc kk kx'
      · exact zV_csx (d := D + 12) hz hav hlen hW hcc kk kx'
      · exact zV_csn (d := D + 12) hz hav hlen hW hcc kk kx'
    | invokevirtual a0 =>
      obtain rfl : len = 3 := zlen_eq hz rfl
      have hst : r2 = 3 ∧ zrecv sl r1 st = true ∧ zcall r1 (pc + 3) (zNP r1 + 1) st = some (.inr (.inr (.inr (m, pc', la, st', 0)))) := by
        simp only [zstep] at hs
        split at hs
        · split at hs
          · split at hs
            · rename_i hrc
              exact ⟨rfl, hrc, hs⟩
            · cases hs
          · split at hs
            · have h1 := zprim_shape hs
              cases h1
            · cases hs
        · cases hs
      obtain ⟨rfl, hrc, hcl⟩ := hst
      obtain ⟨-, c2, c3, c4, e⟩ := zcall_inv hcl
      cases e
      obtain ⟨a, k0, m0, rr, hd, hk0, hk100, hcn⟩ := zrecv_inv hrc
      have ht : st.take (zNP m + 1) = st.take (zNP m) ++ [.ref a] := by
        have h1 : st[zNP m]? = some (.ref a) := by
          have : (st.drop (zNP m))[0]? = some (.ref a) := by rw [hd]; rfl
          simpa using this
        rw [List.take_succ, h1]
        rfl
      have hdr : st.drop (zNP m + 1) = rr := by
        rw [← List.drop_drop, hd]
        rfl
      have hst2 : zmS (zEr E) st = (zmS (zEr E) (st.take (zNP m)).reverse).reverse ++ .ref (zEr E a) :: zmS (zEr E) rr := by
        rw [zstk (zEr E) (zNP m) st, hd]
        rfl
      have hav : (zmS (zEr E) (st.take (zNP m)).reverse).length = zNP m := by simp; omega
      have hrev : (st.take (zNP m + 1)).reverse = .ref a :: (st.take (zNP m)).reverse := by rw [ht, List.reverse_append]; rfl
      have hlen : (lg_sl (.ref (zEr E a) :: zmS (zEr E) (st.take (zNP m)).reverse)).length ≤ zL m := by
        rw [zsl_len]
        have : zcat (zmS (zEr E) (st.take (zNP m + 1)).reverse) = zcat (st.take (zNP m + 1)) := by
          rw [← zcat_rev (st.take (zNP m + 1))]
          exact zmS_cat _ _
        rw [hrev] at this
        have h2 : zcat (.ref (zEr E a) :: zmS (zEr E) (st.take (zNP m)).reverse) = zcat (st.take (zNP m + 1)) := this
        omega
      have hW : ((zmS (zEr E) rr).map fun v => v.category).sum ≤ 8 := by
        rw [zmS_cat, ← hdr]
        exact Nat.le_of_ble_eq_true c2
      have hcc : zC l X (D + 12) (u1 * 8) (u1 * 400) m (.ref (zEr E a) :: zmS (zEr E) (st.take (zNP m)).reverse) n K P I L (zPo E (0, v, I1, u1)) := by
        unfold zC
        have := zsim J N hc hE hR
        rw [hrev, ← zargs_map] at this
        exact this
      have kk : ∀ (v' : Option Value) (n' : Nat) (K' : zKT) (P' : zPT) (I' : zIT) (L' : zLT), zPo E (0, v, I1, u1) (.inl v') n' K' P' I' L' → zV l X (D + 12 + 1) (b2 * 8) (b2 * 400) mi (pc + 3) (zmL (zEr E) ls) (v'.toList ++ zmS (zEr E) rr) n' K' P' I' L' Post := by
        rintro v' n' K' P' I' L' ⟨e1, e2⟩
        cases e1
        have := kr' n' K' P' I' L' e2
        rw [hdr] at this
        rw [zpush_map]
        exact this
      have kx' : ∀ (x n' : Nat) (K' : zKT) (P' : zPT) (I' : zIT) (L' : zLT), x < 6 → zPo E (0, v, I1, u1) (.inr x) n' K' P' I' L' → zXh l X (D + 12 + 1) (b2 * 8) (b2 * 400) mi pc (zmL (zEr E) ls) x n' K' P' I' L' Post := by
        rintro x n' K' P' I' L' - ⟨e1, e2⟩
        cases e1
      rw [hst2]
      exact zV_cv (d := D + 12) hz (zRel_K hE hR hk0) hk100 (by rw [zkd_own hk0 hk100, hcn]) hav hlen hW hcc kk kx'
    | new a0 =>
      exfalso
      simp only [zstep] at hs
      split at hs
      · split at hs
        · cases hs
        · cases hs
      · unfold zcat2 at hs
        repeat' split at hs
        all_goals cases hs
      · cases hs
    | ireturn => cases hsh
    | lreturn => cases hsh
    | freturn => cases hsh
    | dreturn => cases hsh
    | areturn => cases hsh
    | return_ => cases hsh
    | _ => first | cases hsh | (simp [zstep] at hs; done)
theorem zU_g (J : zJDK l X) (hE : zEok X sl dy E) : ∀ (n : Nat) {pc : Nat} {ls : zLs} {st : List Value} {M : zM} {u0 pc' u : Nat} {ls' : zLs} {st' : List Value} {M' : zM}, zgo sl dy mi n (pc, ls, st, M, u0) = some (pc', ls', st', M', u) → zU l X D b mi pc' ls' st' E M' Post → zU l X D (b + (u - u0)) mi pc ls st E M Post ∧ u0 ≤ u
  | 0, pc, ls, st, M, u0, pc', u, ls', st', M', h, k => by
    simp only [zgo, Option.some.injEq, Prod.mk.injEq] at h
    obtain ⟨rfl, rfl, rfl, rfl, rfl⟩ := h
    exact ⟨zU_le (by omega) k, Nat.le_refl _⟩
  | n + 1, pc, ls, st, M, u0, pc', u, ls', st', M', h, k => by
    unfold zgo at h
    cases hl : zl mi pc with
    | none => rw [hl] at h; simp at h
    | some e =>
      rw [hl] at h
      simp only at h
      cases hs : zstep sl dy mi pc e ls st M with
      | none => rw [hs] at h; simp at h
      | some r =>
        rw [hs] at h
        rcases r with ⟨pc1, ls1, st1, I1, u1⟩ | v | c | q
        · obtain ⟨g1, g2⟩ := zU_g J hE n h k
          exact ⟨zU_le (by omega) (zU_s J hE hl hs g1), by omega⟩
        · simp at h
        · simp at h
        · simp at h
theorem ug (J : zJDK l X) (hE : zEok X sl dy E) (n : Nat) {pc' : Nat} {ls' : zLs} {st' : List Value} {M' : zM} (h : zgo sl dy mi n (pc, ls, st, M, 0) = some (pc', ls', st', M', 0)) (k : zU l X D b mi pc' ls' st' E M' Post) : zU l X D b mi pc ls st E M Post := (zU_g J hE n h k).1
theorem uif (J : zJDK l X) (hE : zEok X sl dy E) {len r1 r2 r3 t : Nat} {c : ClassFile.Cond} {off : Int} {x : Int32} (h : zl mi pc = some (.ifCond c off, len, r1, r2, r3)) (ht : ztg pc off = some t)
    (kt : zc1 c x 0 = true → zU l X D b mi t ls st E M Post) (kf : zc1 c x 0 = false → zU l X D b mi (pc + len) ls st E M Post) : zU l X D b mi pc ls (.int x :: st) E M Post := by
  cases hc : zc1 c x 0 with
  | true => exact zU_n J hE h (by simp only [zstep, ht, hc]; rfl) (kt hc)
  | false => exact zU_n J hE h (by simp only [zstep, ht, hc]; rfl) (kf hc)
theorem uicmp (J : zJDK l X) (hE : zEok X sl dy E) {len r1 r2 r3 t : Nat} {c : ClassFile.Cond} {off : Int} {x y : Int32} (h : zl mi pc = some (.if_icmp c off, len, r1, r2, r3)) (ht : ztg pc off = some t)
    (kt : zc1 c x y = true → zU l X D b mi t ls st E M Post) (kf : zc1 c x y = false → zU l X D b mi (pc + len) ls st E M Post) : zU l X D b mi pc ls (.int y :: .int x :: st) E M Post := by
  cases hc : zc1 c x y with
  | true => exact zU_n J hE h (by simp only [zstep, ht, hc]; rfl) (kt hc)
  | false => exact zU_n J hE h (by simp only [zstep, ht, hc]; rfl) (kf hc)
/-- a call that answers an int .. one value .. what is asked -/
theorem ucP (J : zJDK l X) (hE : zEok X sl dy E) {e : Instr × Nat × Nat × Nat × Nat} {m pc' b1 b2 : Nat} {la : zLs} {st' : List Value} {P : Int32 → zM → Prop} (h : zl mi pc = some e) (hs : zstep sl dy mi pc e ls st M = some (.inr (.inr (.inr (m, pc', la, st', 0)))))
    (hc : zW sl D dy m 0 la [] M (zRg b1 (zQP P))) (kr : ∀ x M', P x M' → zU l X (D + 1) b2 mi pc' ls (.int x :: st') E M' Post) (hb : b1 + b2 ≤ b := by omega) : zU l X (D + 1) b mi pc ls st E M Post :=
  zU_le hb (zU_c J hE h hs hc (fun c v M' q => by cases q.1) (fun v M' ⟨_, x, h2, h3⟩ => by rw [h2]; exact kr x M' h3))
theorem ucf (J : zJDK l X) (hE : zEok X sl dy E) {e : Instr × Nat × Nat × Nat × Nat} {m pc' b1 b2 : Nat} {la : zLs} {st' : List Value} {v : Option Value} (h : zl mi pc = some e) (hs : zstep sl dy mi pc e ls st M = some (.inr (.inr (.inr (m, pc', la, st', 0)))))
    (hc : zW sl D dy m 0 la [] M (zRg b1 (zQf M v))) (kr : zU l X (D + 1) b2 mi pc' ls (zpush v st') E M Post) (hb : b1 + b2 ≤ b := by omega) : zU l X (D + 1) b mi pc ls st E M Post :=
  zU_le hb (zU_c J hE h hs hc (fun c v M' q => by cases q.1) (fun w M' ⟨_, h2, h3⟩ => by rw [h2, h3]; exact kr))
theorem ucA (J : zJDK l X) (hE : zEok X sl dy E) {e : Instr × Nat × Nat × Nat × Nat} {m pc' b1 b2 : Nat} {la : zLs} {st' : List Value} {x : Int64} (h : zl mi pc = some e) (hs : zstep sl dy mi pc e ls st M = some (.inr (.inr (.inr (m, pc', la, st', 0)))))
    (hc : zW sl D dy m 0 la [] M (zRg b1 (zQv M x))) (kr : ∀ M', zfr M M' → zOo M' → zU l X (D + 1) b2 mi pc' ls (.long x :: st') E M' Post) (hb : b1 + b2 ≤ b := by omega) : zU l X (D + 1) b mi pc ls st E M Post :=
  zU_le hb (zU_c J hE h hs hc (fun c v M' q => by cases q.1) (fun v M' ⟨_, h2, h3, h4⟩ => by rw [h2]; exact kr M' h3 h4))
theorem uret {len r1 r2 r3 : Nat} {x : Int32} {ty : FieldType} (h : zl mi pc = some (.ireturn, len, r1, r2, r3)) (hr : zRt mi = some ty) (hn : narrow ty (.int x) = .int x) (hp : ∀ n K P I L, Post (.inl (some (.int x))) n K P I L) : zU l X D b mi pc ls [.int x] E M Post := fun n K P I L hR =>
  zV_bud (Nat.zero_le _) (Nat.zero_le _) (zq_ret (bc := 0) (bs := 0) (st := [.int x]) (I := M) (v := some (.int x)) (sl := 0) (dy := 0) h (by simp only [zstep, hr, hn, decide_true]) (hp n K P I L))
end ZUS
/-- several instructions of the law's frame, calls too: what the kernel runs -/
def zgoc (sl N D dy mi : Nat) : Nat → Nat × zLs × List Value × zM × Nat → Option (Nat × zLs × List Value × zM × Nat)
  | 0, c => some c
  | n + 1, (pc, ls, st, I, u) => match zl mi pc with
    | some e => match zstep sl dy mi pc e ls st I with
      | some (.inl (pc', ls', st', I', u')) => zgoc sl N D dy mi n (pc', ls', st', I', u' + u)
      | some (.inr (.inr (.inr (m, pc', la, st', 0)))) => match zrun sl N D dy m 0 la [] I with
        | some (0, v, I', u') => zgoc sl N D dy mi n (pc', ls, zpush v st', I', u' + u)
        | _ => none
      | _ => none
    | none => none
theorem zU_gc {l : Launch} {X : zX} {sl dy N D b mi : Nat} {E : zEnv} {Post : zPost} (J : zJDK l X) (hE : zEok X sl dy E) : ∀ (n : Nat) {pc : Nat} {ls : zLs} {st : List Value} {M : zM} {u0 pc' u : Nat} {ls' : zLs} {st' : List Value} {M' : zM}, zgoc sl N D dy mi n (pc, ls, st, M, u0) = some (pc', ls', st', M', u) → zU l X (D + 1) b mi pc' ls' st' E M' Post → zU l X (D + 1) (b + (u - u0)) mi pc ls st E M Post ∧ u0 ≤ u
  | 0, pc, ls, st, M, u0, pc', u, ls', st', M', h, k => by
    simp only [zgoc, Option.some.injEq, Prod.mk.injEq] at h
    obtain ⟨rfl, rfl, rfl, rfl, rfl⟩ := h
    exact ⟨zU_le (by omega) k, Nat.le_refl _⟩
  | n + 1, pc, ls, st, M, u0, pc', u, ls', st', M', h, k => by
    unfold zgoc at h
    cases hl : zl mi pc with
    | none => rw [hl] at h; simp at h
    | some e =>
      rw [hl] at h
      simp only at h
      cases hs : zstep sl dy mi pc e ls st M with
      | none => rw [hs] at h; simp at h
      | some r =>
        rw [hs] at h
        rcases r with ⟨pc1, ls1, st1, I1, u1⟩ | v | c | ⟨m, pc1, la, st1, q⟩
        · obtain ⟨g1, g2⟩ := zU_gc J hE n h k
          exact ⟨zU_le (by omega) (zU_s J hE hl hs g1), by omega⟩
        · simp at h
        · simp at h
        · cases q with
          | succ q => simp at h
          | zero =>
            simp only at h
            cases hc : zrun sl N D dy m 0 la [] M with
            | none => rw [hc] at h; simp at h
            | some o =>
              rw [hc] at h
              obtain ⟨cc, v, I1, u1⟩ := o
              cases cc with
              | succ c => simp at h
              | zero =>
                simp only at h
                obtain ⟨g1, g2⟩ := zU_gc J hE n h k
                have hW : zW sl D dy m 0 la [] M (zRg u1 (fun c w J1 => c = 0 ∧ w = v ∧ J1 = I1)) := ⟨N, _, hc, ⟨rfl, rfl, rfl⟩, Nat.le_refl _⟩
                exact ⟨zU_le (b := u1 + (b + (u - (u1 + u0)))) (by omega) (zU_c J hE hl hs hW (fun c w J1 q => by cases q.1) (fun w J1 ⟨_, h2, h3⟩ => by rw [h2, h3]; exact g1)), by omega⟩
