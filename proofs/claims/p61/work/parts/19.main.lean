/-- a walked method's arguments: no texts are given to it but by the law's two places -/
theorem zrecv_inv {sl c : Nat} {st : List Value} (h : zrecv sl c st = true) : ∃ (a k m : Nat) (r : List Value), st.drop (zNP c) = .ref a :: r ∧ zkd sl a = some (k, m) ∧ k < 100 ∧ zcn k = zO c := by
  unfold zrecv at h
  split at h
  · rename_i a r hd
    split at h
    · rename_i k m hk
      simp only [Bool.and_eq_true, decide_eq_true_eq] at h
      exact ⟨a, k, m, r, hd, hk, Nat.le_of_ble_eq_true h.1, h.2⟩
    · cases h
  · cases h
theorem zkd_own {sl a k m : Nat} (h : zkd sl a = some (k, m)) (hk : k < 100) : vwCl[k]?.map (fun r => r.1) = some (zcn k) := by
  by_cases h9 : zof a = 99
  · unfold zkd at h
    rw [h9] at h
    simp only at h
    split at h <;> first | (cases h; rfl) | (cases h; omega) | cases h
  · unfold zkd at h
    split at h
    · cases h; rfl
    · cases h; omega
    · cases h; omega
    · cases h; omega
    · rename_i h1
      exact absurd h1 h9
    · cases h; omega
section ZMAIN
variable {l : Launch} {X : zX} {sl : Nat}
/-- the environment of a method that is given a built text -/
def zEtxt (E : zEnv) (n n' : Nat) (K' : zKT) (P' : zPT) (I' : zIT) (L' : zLT) (j q : Nat) : zEnv :=
  (zEB E, fun i => if i = j then q else zEr E i, fun a => zEF E a ∨ (n ≤ a ∧ a < n'), K', P', I', L')
theorem zstr_mono {F G : Nat → Prop} {K K' : zKT} {P P' : zPT} {I I' : zIT} {a : Nat} {t : List Int32} (h : zStr F K P I a t) (hFG : ∀ q, F q → G q) (he : ∀ q, F q → K' q = K q ∧ P' q = P q ∧ I' q = I q) : zStr G K' P' I' a t := by
  obtain ⟨b, k1, m, k2, f1, f2, h1, h2, h3, h4, h5, h6, h7⟩ := h
  obtain ⟨a1, a2, a3⟩ := he _ f1
  obtain ⟨b1, b2, b3⟩ := he _ f2
  exact ⟨b, k1, m, k2, hFG _ f1, hFG _ f2, by rw [a1]; exact h1, h2, by rw [a2]; exact h3, by rw [b1]; exact h4, h5, by rw [a3]; exact h6, fun j x hj => by rw [b3]; exact h7 j x hj⟩
theorem ztx_const {dy dy' a : Nat} (h : a < 5000) : ztx dy a = ztx dy' a := by
  unfold ztx
  have : Nat.ble 5000 a = false := by
    cases hb : Nat.ble 5000 a with
    | true => exact absurd (Nat.le_of_ble_eq_true hb) (by omega)
    | false => rfl
  rw [this]
theorem ztx_dy {dy a : Nat} {t : List Int32} (h : ztx dy a = some t) (ha : 5000 ≤ a) : a = dy := by
  unfold ztx at h
  rw [Nat.ble_eq_true_of_le ha] at h
  simp only at h
  cases hb : Nat.beq a dy with
  | true => exact Nat.eq_of_beq_eq_true hb
  | false => rw [hb] at h; cases h
theorem zEtxt_ok {dy j q n n' : Nat} {E : zEnv} {K K' : zKT} {P P' : zPT} {Ir I' : zIT} {L L' : zLT} {M : zM} {t : List Int32} (hE : zEok X sl dy E) (hR : zRel E n K P Ir L M) (hm : zMade n K P Ir L n' K' P' I' L' q t) (hj : 5000 ≤ j) (ht : ∀ t', ztx j j = some t' → t' = t) :
    zEok X sl j (zEtxt E n n' K' P' I' L' j q) ∧ zRel (zEtxt E n n' K' P' I' L' j q) n' K' P' I' L' M := by
  obtain ⟨m1, m2, m3⟩ := hm
  obtain ⟨e1, e2, e3, e4, e5⟩ := id hE
  obtain ⟨r1, r2, r3, r4, r5, va, t0, ⟨cap, b1, b2, b3, b4, b5, b6, b7, b8, b9, b10, b11⟩, r7, r8, r9, r10, r11⟩ := id hR
  have old : ∀ a, zEF E a → K' a = zEK E a ∧ P' a = zEP E a ∧ I' a = zEI E a := fun a ha => by
    obtain ⟨g1, g2, g3, g4, g5, g6⟩ := r11 a ha
    obtain ⟨q1, q2, q3, q4⟩ := m3 a g1
    exact ⟨by rw [q1, g3], by rw [q2, g4], by rw [q3, g5]⟩
  have own : ∀ i, i < 150 → K' (zEB E + i) = K (zEB E + i) ∧ P' (zEB E + i) = P (zEB E + i) ∧ I' (zEB E + i) = Ir (zEB E + i) := fun i hi => by
    obtain ⟨q1, q2, q3, q4⟩ := m3 (zEB E + i) (by omega)
    exact ⟨q1, q2, q3⟩
  have hρ : ∀ i, i ≠ j → zEr (zEtxt E n n' K' P' I' L' j q) i = zEr E i := fun i hi => if_neg hi
  have hρj : zEr (zEtxt E n n' K' P' I' L' j q) j = q := if_pos rfl
  refine ⟨⟨fun i hi => ?_, ⟨?_, ?_⟩, fun i u hu => ?_, fun k hk => ?_, fun a ha => ?_⟩, Nat.le_trans r1 m1, fun i sl e hi he => ?_, fun i k w hw => ?_, fun i k x hi hx => ?_, fun k x hx => ?_, va, t0, ?_, r7, r8, r9, r10, fun a ha => ?_⟩
  · rw [hρ i (by omega)]; exact e1 i hi
  · rw [hρ 1000 (by omega)]; exact Or.inl e2.1
  · rw [hρ 1000 (by omega)]
    show K' (zEr E 1000) = _
    rw [(old _ e2.1).1]
    exact e2.2
  · by_cases hi : i < 5000
    · rw [hρ i (by omega)]
      rw [ztx_const (dy' := dy) hi] at hu
      exact zstr_mono (e3 i u hu) (fun a ha => Or.inl ha) (fun a ha => old a ha)
    · have hij := ztx_dy hu (by omega)
      subst hij
      rw [hρj, ht u hu]
      exact zstr_mono m2 (fun a ha => Or.inr ha) (fun a ha => ⟨rfl, rfl, rfl⟩)
  · rw [hρ _ (by omega)]; exact e4 k hk
  · rcases ha with ha | ha
    · exact e5 a ha
    · show ¬ (zEB E ≤ a ∧ a < zEB E + 150)
      omega
  · rw [show zEB (zEtxt E n n' K' P' I' L' j q) = zEB E from rfl, (own i hi).1]
    exact r2 i sl e hi he
  · have h1 := (zpd_lt hw).1
    rw [show zEB (zEtxt E n n' K' P' I' L' j q) = zEB E from rfl, (own i (by omega)).2.1]
    exact r3 i k w hw
  · rw [show zEB (zEtxt E n n' K' P' I' L' j q) = zEB E from rfl, (own i (by omega)).2.2]
    exact r4 i k x hi hx
  · rw [hρ 1000 (by omega)]
    show I' (zEr E 1000) k = x
    rw [(old _ e2.1).2.2]
    exact r5 k x hx
  · rw [show zEB (zEtxt E n n' K' P' I' L' j q) = zEB E from rfl]
    have h8 := own 148 (by omega)
    obtain ⟨q1, q2, q3, q4⟩ := m3 va b5
    exact ⟨cap, by rw [h8.1]; exact b1, by rw [h8.2.1]; exact b2, by rw [q1]; exact b3, b4, by omega, b6, b7, by rw [h8.2.2]; exact b8, by rw [h8.2.2]; exact b9, fun j x hj => by rw [q3]; exact b10 j x hj, fun j => by rw [q3]; exact b11 j⟩
  · rcases ha with ha | ha
    · obtain ⟨g1, g2, -⟩ := r11 a ha
      exact ⟨by omega, g2, rfl, rfl, rfl, rfl⟩
    · exact ⟨ha.2, by omega, rfl, rfl, rfl, rfl⟩
theorem zEtxt_back {dy j q n n' : Nat} {E : zEnv} {K K' : zKT} {P P' : zPT} {Ir I' : zIT} {L L' : zLT} {M M' : zM} {t : List Int32} {n2 : Nat} {K2 : zKT} {P2 : zPT} {I2 : zIT} {L2 : zLT} (hE : zEok X sl dy E) (hR : zRel E n K P Ir L M) (hm : zMade n K P Ir L n' K' P' I' L' q t) (hj : 5000 ≤ j)
    (h2 : zRel (zEtxt E n n' K' P' I' L' j q) n2 K2 P2 I2 L2 M') : zRel E n2 K2 P2 I2 L2 M' := by
  obtain ⟨m1, m2, m3⟩ := hm
  obtain ⟨e1, e2, e3, e4, e5⟩ := id hE
  obtain ⟨-, -, -, -, -, va0, t0, -, -, -, -, -, r11⟩ := id hR
  obtain ⟨s1, s2, s3, s4, s5, va, t1, s6, s7, s8, s9, s10, s11⟩ := h2
  have old : ∀ a, zEF E a → K' a = zEK E a ∧ P' a = zEP E a ∧ I' a = zEI E a ∧ L' a = zEL E a := fun a ha => by
    obtain ⟨g1, g2, g3, g4, g5, g6⟩ := r11 a ha
    obtain ⟨q1, q2, q3, q4⟩ := m3 a g1
    exact ⟨by rw [q1, g3], by rw [q2, g4], by rw [q3, g5], by rw [q4, g6]⟩
  refine ⟨s1, s2, s3, s4, fun k x hx => ?_, va, t1, s6, s7, s8, s9, s10, fun a ha => ?_⟩
  · have := s5 k x hx
    rw [show zEr (zEtxt E n n' K' P' I' L' j q) 1000 = zEr E 1000 from if_neg (by omega)] at this
    rw [← (old _ e2.1).2.2.1]
    exact this
  · obtain ⟨g1, g2, g3, g4, g5, g6⟩ := s11 a (Or.inl ha)
    obtain ⟨o1, o2, o3, o4⟩ := old a ha
    exact ⟨g1, g2, g3.trans o1, g4.trans o2, g5.trans o3, g6.trans o4⟩
theorem zof_ref (p : Int32) (h0 : 0 ≤ p) : Int32.ofNat p.toNatClampNeg = p := by
  have h1 := znn (Int32.not_lt.mpr h0)
  rw [← Int32.toInt_inj, Int32.toInt_ofNat_of_lt (by have := Int32.toInt_lt p; omega), h1]
/-- A RUN OF THE INTERPRETER IS ONE OF THE MACHINE -/
theorem zsim (J : zJDK l X) : ∀ (N : Nat) {D dy mi pc : Nat} {ls : zLs} {st : List Value} {M : zM} {o : zO4}, zrun sl N D dy mi pc ls st M = some o → ∀ {E : zEnv} {n : Nat} {K : zKT} {P : zPT} {Ir : zIT} {L : zLT}, zEok X sl dy E → zRel E n K P Ir L M →
    zV l X (D + 12) (o.2.2.2 * 8) (o.2.2.2 * 400) mi pc (zmL (zEr E) ls) (zmS (zEr E) st) n K P Ir L (zPo E o) := by
  intro N
  induction N with
  | zero => intro D dy mi pc ls st M o h; simp [zrun] at h
  | succ N ih =>
    intro D dy mi pc ls st M o h E n K P Ir L hE hR
    unfold zrun at h
    cases hz : zl mi pc with
    | none => rw [hz] at h; simp at h
    | some e =>
      obtain ⟨i, len, r1, r2, r3⟩ := e
      rw [hz] at h
      simp only at h
      cases hs : zstep sl dy mi pc (i, len, r1, r2, r3) ls st M with
      | none => rw [hs] at h; simp at h
      | some r =>
        rw [hs] at h
        rcases r with ⟨pc', ls', st', I', u⟩ | v | c | ⟨m, pc', la, st', u0⟩
        · simp only [Option.map_eq_some_iff] at h
          obtain ⟨q, h1, rfl⟩ := h
          refine zV_bud (bc := q.2.2.2 * 8 + u * 8) (bs := q.2.2.2 * 400 + u * 400) (by simp only [zadd]; omega) (by simp only [zadd]; omega) ?_
          exact zq_step (Post := zPo E (zadd u q)) J hE hR hz hs (fun n' K' P' Ir' L' hR' => ih h1 hE hR')
        · cases h
          exact zV_bud (Nat.zero_le _) (Nat.zero_le _) (zq_ret (bc := 0) (bs := 0) hz hs ⟨rfl, hR⟩)
        · cases h
          exact zV_bud (bc := 0 + 8) (bs := 0 + 400) (by simp) (by simp) (zq_thr hz hs (fun n' hn => ⟨rfl, zRel_n hn hR⟩))
        · cases D with
          | zero => simp at h
          | succ D =>
            simp only at h
            cases hc : zrun sl N D (zdy u0 dy la) m 0 la [] M with
            | none => rw [hc] at h; simp at h
            | some oc =>
              rw [hc] at h
              obtain ⟨cc, v, I1, u1⟩ := oc
              -- what follows
              have key : ∃ w : Nat, o.2.2.2 = u1 + u0 + w ∧ (cc = 0 → zgd u0 v = true) ∧
                  (∀ (n' : Nat) (K' : zKT) (P' : zPT) (Ir' : zIT) (L' : zLT), cc = 0 → zRel E n' K' P' Ir' L' I1 → zV l X (D + 1 + 12) (w * 8) (w * 400) mi pc' (zmL (zEr E) ls) (zmS (zEr E) (zpush v st')) n' K' P' Ir' L' (zPo E o)) ∧
                  (∀ (c n' : Nat) (K' : zKT) (P' : zPT) (Ir' : zIT) (L' : zLT), cc = c + 1 → zRel E n' K' P' Ir' L' I1 → zXh l X (D + 1 + 12) (w * 8) (w * 400) mi pc (zmL (zEr E) ls) c n' K' P' Ir' L' (zPo E o)) ∧
                  (∀ c, cc = c + 1 → zH mi = [] → zro (zEr E) o = .inr c ∧ o.2.2.1 = I1) := by
                cases cc with
                | zero =>
                  simp only at h
                  cases hg : zgd u0 v with
                  | false => rw [hg] at h; cases h
                  | true =>
                    rw [hg] at h
                    simp only [Option.map_eq_some_iff] at h
                    obtain ⟨q, h1, rfl⟩ := h
                    exact ⟨q.2.2.2, by simp only [zadd]; omega, fun _ => rfl, fun n' K' P' Ir' L' _ hR' => ih h1 hE hR', fun c n' K' P' Ir' L' hc => (by cases hc), fun c hc => (by cases hc)⟩
                | succ c =>
                  simp only at h
                  cases hy : zhd c pc (zH mi) with
                  | none =>
                    rw [hy] at h
                    simp only at h
                    cases ha : zany pc (zH mi) with
                    | true => rw [ha] at h; cases h
                    | false =>
                      rw [ha] at h
                      cases h
                      exact ⟨0, rfl, fun hc => (by cases hc), fun n' K' P' Ir' L' hc => (by cases hc), fun c2 n' K' P' Ir' L' hc hR' => by
                        cases hc
                        exact zq_caught (Or.inl ⟨hy, ha, rfl⟩) hR', fun c2 hc _ => by cases hc; exact ⟨rfl, rfl⟩⟩
                  | some hh =>
                    rw [hy] at h
                    simp only at h
                    cases hz3 : zcat3 mi pc c ls with
                    | none => rw [hz3] at h; cases h
                    | some w =>
                      rw [hz3] at h
                      obtain ⟨pc2, ls2⟩ := w
                      simp only [Option.map_eq_some_iff] at h
                      obtain ⟨q, h1, rfl⟩ := h
                      exact ⟨q.2.2.2, by simp only [zadd]; omega, fun hc => (by cases hc), fun n' K' P' Ir' L' hc => (by cases hc), fun c2 n' K' P' Ir' L' hc hR' => by
                        cases hc
                        exact zq_caught (u := 0) (o := zadd (u1 + u0) q) (Or.inr ⟨pc2, ls2, hz3, ih h1 hE hR'⟩) hR', fun c2 hc hH => by
                        rw [hH] at hy
                        cases hy⟩
              obtain ⟨w, kw, kg, kr, kx, kn⟩ := key
              have hsh := zshape_of hs
              cases i with
              | invokestatic a0 =>
                obtain rfl : len = 3 := zlen_eq hz rfl
                have hst : (r2 = 0 ∨ r2 = 1 ∨ r2 = 2) ∧ zcall r1 (pc + 3) (zNP r1) st = some (.inr (.inr (.inr (m, pc', la, st', u0)))) := by
                  simp only [zstep] at hs
                  split at hs
                  · exact ⟨Or.inl rfl, hs⟩
                  · exact ⟨Or.inr (Or.inl rfl), hs⟩
                  · exact ⟨Or.inr (Or.inr rfl), hs⟩
                  · simp only [znx] at hs
                    repeat' split at hs
                    all_goals cases hs
                  · simp only [znx, zi2] at hs
                    repeat' split at hs
                    all_goals cases hs
                  · cases hs
                obtain ⟨hr2, hcl⟩ := hst
                obtain ⟨-, c2, c3, c4, e⟩ := zcall_inv hcl
                cases e
                have hav : (zmS (zEr E) (st.take (zNP r1)).reverse).length = zNP r1 := by simp; omega
                have hlen : (lg_sl (zmS (zEr E) (st.take (zNP r1)).reverse)).length ≤ zL r1 := by
                  rw [zsl_len]
                  show zcat _ ≤ _
                  have : zcat (zmS (zEr E) (st.take (zNP r1)).reverse) = zcat (st.take (zNP r1)) := by
                    rw [← zcat_rev (st.take (zNP r1))]
                    exact zmS_cat _ _
                  omega
                have hW : ((zmS (zEr E) (st.drop (zNP r1))).map fun v => v.category).sum ≤ 8 := by
                  rw [zmS_cat]
                  exact Nat.le_of_ble_eq_true c2
                have hcc : zC l X (D + 12) (u1 * 8) (u1 * 400) r1 (zmS (zEr E) (st.take (zNP r1)).reverse) n K P Ir L (zPo E (cc, v, I1, u1)) := by
                  unfold zC
                  rw [zargs_map]
                  exact ih hc hE hR
                have kk : ∀ (v' : Option Value) (n' : Nat) (K' : zKT) (P' : zPT) (I' : zIT) (L' : zLT), zPo E (cc, v, I1, u1) (.inl v') n' K' P' I' L' → zV l X (D + 12 + 1) (w * 8) (w * 400) mi (pc + 3) (zmL (zEr E) ls) (v'.toList ++ zmS (zEr E) (st.drop (zNP r1))) n' K' P' I' L' (zPo E o) := by
                  rintro v' n' K' P' I' L' ⟨e1, e2⟩
                  cases cc with
                  | zero =>
                    cases e1
                    rw [zpush_map]
                    exact kr n' K' P' I' L' rfl e2
                  | succ c => cases e1
                have kx' : ∀ (x n' : Nat) (K' : zKT) (P' : zPT) (I' : zIT) (L' : zLT), x < 6 → zPo E (cc, v, I1, u1) (.inr x) n' K' P' I' L' → zXh l X (D + 12 + 1) (w * 8) (w * 400) mi pc (zmL (zEr E) ls) x n' K' P' I' L' (zPo E o) := by
                  rintro x n' K' P' I' L' - ⟨e1, e2⟩
                  cases cc with
                  | zero => cases e1
                  | succ c =>
                    cases e1
                    exact kx _ n' K' P' I' L' rfl e2
                rw [zstk (zEr E) (zNP r1) st]
                refine zV_bud (bc := u1 * 8 + w * 8) (bs := u1 * 400 + w * 400) (by rw [kw]; omega) (by rw [kw]; omega) ?_
                rcases hr2 with rfl | rfl | rfl
                · exact zV_cs (d := D + 12) hz hav hlen hW hcc kk kx'
                · exact zV_csx (d := D + 12) hz hav hlen hW hcc kk kx'
                · exact zV_csn (d := D + 12) hz hav hlen hW hcc kk kx'
              | invokevirtual a0 =>
                obtain rfl : len = 3 := zlen_eq hz rfl
                have hst : r2 = 3 ∧ zrecv sl r1 st = true ∧ zcall r1 (pc + 3) (zNP r1 + 1) st = some (.inr (.inr (.inr (m, pc', la, st', u0)))) := by
                  simp only [zstep] at hs
                  split at hs
                  · split at hs
                    · split at hs
                      · rename_i hrc
                        exact ⟨rfl, hrc, hs⟩
                      · cases hs
                    · split at hs
                      · have h1 := zprim_shape hs
                        cases h1
                      · cases hs
                  · cases hs
                obtain ⟨rfl, hrc, hcl⟩ := hst
                obtain ⟨-, c2, c3, c4, e⟩ := zcall_inv hcl
                cases e
                obtain ⟨a, k0, m0, rr, hd, hk0, hk100, hcn⟩ := zrecv_inv hrc
                have ht : st.take (zNP r1 + 1) = st.take (zNP r1) ++ [.ref a] := by
                  have h1 : st[zNP r1]? = some (.ref a) := by
                    have : (st.drop (zNP r1))[0]? = some (.ref a) := by rw [hd]; rfl
                    simpa using this
                  rw [List.take_succ, h1]
                  rfl
                have hdr : st.drop (zNP r1 + 1) = rr := by
                  rw [← List.drop_drop, hd]
                  rfl
                have hst2 : zmS (zEr E) st = (zmS (zEr E) (st.take (zNP r1)).reverse).reverse ++ .ref (zEr E a) :: zmS (zEr E) rr := by
                  rw [zstk (zEr E) (zNP r1) st, hd]
                  rfl
                have hav : (zmS (zEr E) (st.take (zNP r1)).reverse).length = zNP r1 := by simp; omega
                have hrev : (st.take (zNP r1 + 1)).reverse = .ref a :: (st.take (zNP r1)).reverse := by rw [ht, List.reverse_append]; rfl
                have hlen : (lg_sl (.ref (zEr E a) :: zmS (zEr E) (st.take (zNP r1)).reverse)).length ≤ zL r1 := by
                  rw [zsl_len]
                  have : zcat (zmS (zEr E) (st.take (zNP r1 + 1)).reverse) = zcat (st.take (zNP r1 + 1)) := by
                    rw [← zcat_rev (st.take (zNP r1 + 1))]
                    exact zmS_cat _ _
                  rw [hrev] at this
                  have h2 : zcat (.ref (zEr E a) :: zmS (zEr E) (st.take (zNP r1)).reverse) = zcat (st.take (zNP r1 + 1)) := this
                  omega
                have hW : ((zmS (zEr E) rr).map fun v => v.category).sum ≤ 8 := by
                  rw [zmS_cat, ← hdr]
                  exact Nat.le_of_ble_eq_true c2
                have hcc : zC l X (D + 12) (u1 * 8) (u1 * 400) r1 (.ref (zEr E a) :: zmS (zEr E) (st.take (zNP r1)).reverse) n K P Ir L (zPo E (cc, v, I1, u1)) := by
                  unfold zC
                  have := ih hc hE hR
                  rw [hrev, ← zargs_map] at this
                  exact this
                have kk : ∀ (v' : Option Value) (n' : Nat) (K' : zKT) (P' : zPT) (I' : zIT) (L' : zLT), zPo E (cc, v, I1, u1) (.inl v') n' K' P' I' L' → zV l X (D + 12 + 1) (w * 8) (w * 400) mi (pc + 3) (zmL (zEr E) ls) (v'.toList ++ zmS (zEr E) rr) n' K' P' I' L' (zPo E o) := by
                  rintro v' n' K' P' I' L' ⟨e1, e2⟩
                  cases cc with
                  | zero =>
                    cases e1
                    have := kr n' K' P' I' L' rfl e2
                    rw [hdr] at this
                    rw [zpush_map]
                    exact this
                  | succ c => cases e1
                have kx' : ∀ (x n' : Nat) (K' : zKT) (P' : zPT) (I' : zIT) (L' : zLT), x < 6 → zPo E (cc, v, I1, u1) (.inr x) n' K' P' I' L' → zXh l X (D + 12 + 1) (w * 8) (w * 400) mi pc (zmL (zEr E) ls) x n' K' P' I' L' (zPo E o) := by
                  rintro x n' K' P' I' L' - ⟨e1, e2⟩
                  cases cc with
                  | zero => cases e1
                  | succ c =>
                    cases e1
                    exact kx _ n' K' P' I' L' rfl e2
                rw [hst2]
                refine zV_bud (bc := u1 * 8 + w * 8) (bs := u1 * 400 + w * 400) (by rw [kw]; omega) (by rw [kw]; omega) ?_
                exact zV_cv (d := D + 12) hz (zRel_K hE hR hk0) hk100 (by rw [zkd_own hk0 hk100, hcn]) hav hlen hW hcc kk kx'
              | new a0 =>
                have hst : ∃ (p j : Nat) (x : Int32) (a b : String), mi = 176 ∧ st = [.ref 0] ∧ zlk ls j = some (.int x) ∧ 0 ≤ x ∧ x < 13 ∧ m = 173 ∧ pc' = 355 ∧ st' = [] ∧ u0 = 1 ∧ la = [(0, .ref 0), (1, .ref p)] ∧ 5000 ≤ p ∧ (∀ t, ztx p p = some t → t = zch a ++ zdg x ++ zch b) ∧ zJtxt l X pc j a b := by
                  simp only [zstep] at hs
                  split at hs
                  · split at hs
                    · cases hs
                    · cases hs
                  · unfold zcat2 at hs
                    split at hs
                    · rename_i hmi
                      split at hs
                      · split at hs
                        · rename_i x hx
                          split at hs
                          · rename_i hd
                            have hd := of_decide_eq_true hd
                            cases hs
                            refine ⟨_, 3, x, "wait;valve ", " 3", Nat.eq_of_beq_eq_true hmi, rfl, hx, hd.1, hd.2, rfl, rfl, rfl, rfl, rfl, Nat.le_add_right _ _, fun t ht => ?_, J.2.2.2.2.2.2.2.1⟩
                            have h13 : x.toNatClampNeg < 100 := by
                              have h1 := znn (Int32.not_lt.mpr hd.1)
                              have h2 := Int32.lt_iff_toInt_lt.mp hd.2
                              have : (13 : Int32).toInt = 13 := rfl
                              omega
                            unfold ztx at ht
                            rw [Nat.ble_eq_true_of_le (Nat.le_add_right 5000 _), Nat.beq_refl] at ht
                            have h51 : Nat.ble 5100 (5000 + x.toNatClampNeg) = false := by
                              cases hb : Nat.ble 5100 (5000 + x.toNatClampNeg) with
                              | true => exact absurd (Nat.le_of_ble_eq_true hb) (by omega)
                              | false => rfl
                            simp only [h51] at ht
                            rw [← Option.some.inj ht, show 5000 + x.toNatClampNeg - 5000 = x.toNatClampNeg by omega, zof_ref x hd.1]
                          · cases hs
                        · cases hs
                      · split at hs
                        · rename_i x hx
                          split at hs
                          · rename_i hd
                            have hd := of_decide_eq_true hd
                            cases hs
                            refine ⟨_, 2, x, "pour 0 1/h;draw ", " 2", Nat.eq_of_beq_eq_true hmi, rfl, hx, hd.1, Int32.lt_of_lt_of_le hd.2 (by decide), rfl, rfl, rfl, rfl, rfl, by omega, fun t ht => ?_, J.2.2.2.2.2.2.2.2⟩
                            unfold ztx at ht
                            rw [Nat.ble_eq_true_of_le (show 5000 ≤ 5100 + x.toNatClampNeg by omega), Nat.beq_refl] at ht
                            simp only [Nat.ble_eq_true_of_le (Nat.le_add_right 5100 _)] at ht
                            rw [← Option.some.inj ht, show 5100 + x.toNatClampNeg - 5100 = x.toNatClampNeg by omega, zof_ref x hd.1]
                          · cases hs
                        · cases hs
                      · cases hs
                    · cases hs
                  · cases hs
                obtain ⟨p, j, x, a, b, rfl, rfl, hx, hx0, hx13, rfl, rfl, rfl, rfl, rfl, hp, htx, hJ⟩ := hst
                have hlx : zlk (zmL (zEr E) ls) j = some (.int x) := by rw [zlk_map, hx]; rfl
                refine zV_bud (bc := u1 * 8 + w * 8 + 8) (bs := u1 * 400 + w * 400 + 400) (by rw [kw]; omega) (by rw [kw]; omega) ?_
                refine hJ (D + 1) (u1 * 8 + w * 8) (u1 * 400 + w * 400) n K P Ir L (zmL (zEr E) ls) (zEr E 0) x (zPo E o) hlx hx0 hx13 (zStr_nowC hE hR) (fun n' K' P' I' L' q hm => ?_)
                obtain ⟨hE2, hR2⟩ := zEtxt_ok hE hR hm hp htx
                have hcc : zC l X (D + 12) (u1 * 8) (u1 * 400) 173 [.ref (zEr E 0), .ref q] n' K' P' I' L' (zPo (zEtxt E n n' K' P' I' L' p q) (cc, v, I1, u1)) := by
                  unfold zC
                  have := ih hc hE2 hR2
                  rw [show zmL (zEr (zEtxt E n n' K' P' I' L' p q)) [(0, .ref 0), (1, .ref p)] = lv_args 0 [.ref (zEr E 0), .ref q] from by
                    show [(0, Value.ref (zEr (zEtxt E n n' K' P' I' L' p q) 0)), (1, Value.ref (zEr (zEtxt E n n' K' P' I' L' p q) p))] = [(0, Value.ref (zEr E 0)), (1, Value.ref q)]
                    rw [show zEr (zEtxt E n n' K' P' I' L' p q) 0 = zEr E 0 from if_neg (by omega), show zEr (zEtxt E n n' K' P' I' L' p q) p = q from if_pos rfl]] at this
                  exact this
                refine zV_cs (d := D + 12) (av := [.ref (zEr E 0), .ref q]) (rest := []) (idx := 289) (r3 := 1376) (by decide +kernel) rfl (by show 2 ≤ _; decide) (by decide) hcc ?_ ?_
                · rintro v' n2 K2 P2 I2 L2 ⟨e1, e2⟩
                  cases cc with
                  | zero =>
                    cases e1
                    have hg := kg rfl
                    have := kr n2 K2 P2 I2 L2 rfl (zEtxt_back hE hR hm hp e2)
                    match v, hg, this with
                    | some (.int z), _, this => exact this
                  | succ c => cases e1
                · rintro y n2 K2 P2 I2 L2 - ⟨e1, e2⟩
                  cases cc with
                  | zero => cases e1
                  | succ c =>
                    cases e1
                    obtain ⟨g1, g2⟩ := kn y rfl rfl
                    left
                    refine ⟨fun z hz => (nomatch (show z ∈ ([] : List (Nat × Nat × Nat × Nat)) from hz)), g1.symm, ?_⟩
                    rw [g2]
                    exact zEtxt_back hE hR hm hp e2
              | ireturn => cases hsh
              | lreturn => cases hsh
              | freturn => cases hsh
              | dreturn => cases hsh
              | areturn => cases hsh
              | return_ => cases hsh
              | _ => first | cases hsh | (simp [zstep] at hs; done)
end ZMAIN
