/-! A PRIMITIVE'S STEP -/
section ZPS
variable {l : Launch} {X : zX} {sl dy d bc bs mi pc : Nat} {E : zEnv} {n : Nat} {K : zKT} {P : zPT} {Ir : zIT} {L : zLT} {Post : zPost}
theorem zXh_false {bc bs x n' : Nat} {ls : List (Nat × Value)} {K' : zKT} {P' : zPT} {I' : zIT} {L' : zLT} {q : Option Value} (h : (Sum.inr x : zR) = .inl q) : zXh l X d bc bs mi pc ls x n' K' P' I' L' Post := nomatch h
theorem zcat_le {v : Value} {r : List Value} {ρ : Nat → Nat} (h : zsm (v :: r) = true) : ((zmS ρ r).map fun v => v.category).sum ≤ 8 := by
  rw [zmS_cat]
  have h1 := Nat.le_of_ble_eq_true h
  unfold zcat at h1 ⊢
  simp only [List.map_cons, List.sum_cons] at h1
  omega
theorem zcat_le2 {v w : Value} {r : List Value} {ρ : Nat → Nat} (h : zsm (v :: w :: r) = true) : ((zmS ρ r).map fun v => v.category).sum ≤ 8 := by
  rw [zmS_cat]
  have h1 := Nat.le_of_ble_eq_true h
  unfold zcat at h1 ⊢
  simp only [List.map_cons, List.sum_cons] at h1
  omega
theorem zq_prim (J : zJDK l X) {idx c r3 pc1 u : Nat} {ls ls1 : zLs} {st st1 : List Value} {I I1 : zM} (hE : zEok X sl dy E) (hR : zRel E n K P Ir L I) (hz : zl mi pc = some (.invokevirtual idx, 3, c, 3, r3)) (hs : zprim dy c (pc + 3) ls st I = some (.inl (pc1, ls1, st1, I1, u))) (hm : zsm st = true)
    (k : ∀ (n' : Nat) (K' : zKT) (P' : zPT) (Ir' : zIT) (L' : zLT), zRel E n' K' P' Ir' L' I1 → zV l X (d + 12) bc bs mi pc1 (zmL (zEr E) ls1) (zmS (zEr E) st1) n' K' P' Ir' L' Post) : zV l X (d + 12) (bc + u * 8) (bs + u * 400) mi pc (zmL (zEr E) ls) (zmS (zEr E) st) n K P Ir L Post := by
  obtain ⟨J206, J205, J209, J210, J208, J196, J197, -, -⟩ := J
  have hEF := hE.2.2.2.2
  have hr148 : zEr E 148 = zEB E + 148 := hE.1 148 (by decide)
  obtain ⟨r1, r2, r3', r4, r5, va, t, hb, r7, r8, r9, r10, r11⟩ := id hR
  obtain ⟨cap, b1, b2, b3, b4, b5, b6, b7, b8, b9, b10, b11⟩ := id hb
  unfold zprim at hs
  split at hs
  -- append(int)
  · split at hs
    · rename_i x r
      split at hs
      · rename_i m hx hm0
        have hx := of_decide_eq_true hx
        split at hs
        · rename_i hn
          have hn := of_decide_eq_true hn
          cases hs
          have ht : Int32.ofNat t.length = m := r9 m hm0
          have htn : m.toNatClampNeg = t.length := by rw [← ht]; exact zn_of (by omega)
          have htl : t.length ≤ 60 := by
            have h1 := Int32.le_iff_toInt_le.mp hn.2
            rw [← ht, Int32.toInt_ofNat_of_lt (by omega)] at h1
            have : (60 : Int32).toInt = 60 := rfl
            omega
          have hv := zV_cv (bc2 := bc) (bs2 := bs) (ls := zmL (zEr E) ls) (rest := zmS (zEr E) r) (av := [.int x]) (Post := Post) hz (a := zEB E + 148) b1 (by decide) rfl rfl (by show 2 ≤ _; decide) (zcat_le2 hm) (J206 d n K P Ir L (zEB E + 148) va t x hb htl hx.1 hx.2)
            (fun v n' K' P' I' L' hq => by
              obtain ⟨e, va', g1, g2⟩ := hq
              cases e
              have hl := zdg_len x
              have := k n' K' P' I' L' (zRel_keep (t' := t ++ zdg x) hEF hR b2 g2 g1 (by simp; omega) (fun i j h1 h2 => by rw [zup_at, if_neg (by simp [h1]), zfold_at, if_neg (by simp [h2])]) (fun y hy => by
                rw [zup_at, if_pos ⟨rfl, rfl⟩] at hy
                cases hy
                rw [List.length_append, Int32.ofNat_add, ht]) (fun j y hj hy => by
                rw [zup_at, if_neg (by simp), zfold_at, htn] at hy
                by_cases hjt : t.length ≤ j
                · rw [if_pos ⟨rfl, hjt, by simpa using hj⟩] at hy
                  rw [List.getElem?_append_right hjt]
                  exact hy
                · rw [if_neg (by omega)] at hy
                  rw [List.getElem?_append_left (by omega)]
                  exact r10 j y (by omega) hy))
              rw [show zmS (zEr E) (.ref 148 :: r) = .ref (zEB E + 148) :: zmS (zEr E) r from by rw [← hr148]; rfl] at this
              exact this)
            (fun y n' K' P' I' L' _ hq => zXh_false hq.1)
          rw [show zmS (zEr E) (.int x :: .ref 148 :: r) = .int x :: .ref (zEB E + 148) :: zmS (zEr E) r from by rw [← hr148]; rfl]
          exact zV_bud (by omega) (by omega) hv
        · cases hs
      · cases hs
    · cases hs
  -- append(char)
  · split at hs
    · rename_i x r
      split at hs
      · rename_i m hx hm0
        have hx := of_decide_eq_true hx
        split at hs
        · rename_i hn
          have hn := of_decide_eq_true hn
          cases hs
          have ht : Int32.ofNat t.length = m := r9 m hm0
          have htn : m.toNatClampNeg = t.length := by rw [← ht]; exact zn_of (by omega)
          have htl : t.length ≤ 60 := by
            have h1 := Int32.le_iff_toInt_le.mp hn.2
            rw [← ht, Int32.toInt_ofNat_of_lt (by omega)] at h1
            have : (60 : Int32).toInt = 60 := rfl
            omega
          have hv := zV_cv (bc2 := bc) (bs2 := bs) (ls := zmL (zEr E) ls) (rest := zmS (zEr E) r) (av := [.int x]) (Post := Post) hz (a := zEB E + 148) b1 (by decide) rfl rfl (by show 2 ≤ _; decide) (zcat_le2 hm) (J205 d n K P Ir L (zEB E + 148) va t x hb htl hx.1 hx.2)
            (fun v n' K' P' I' L' hq => by
              obtain ⟨e, va', g1, g2⟩ := hq
              cases e
              have := k n' K' P' I' L' (zRel_keep (t' := t ++ [x]) hEF hR b2 g2 g1 (by simp; omega) (fun i j h1 h2 => by rw [zup_at, if_neg (by simp [h1]), zup_at, if_neg (by simp [h2])]) (fun y hy => by
                rw [zup_at, if_pos ⟨rfl, rfl⟩] at hy
                cases hy
                rw [List.length_append, Int32.ofNat_add, ht]
                rfl) (fun j y hj hy => by
                rw [zup_at, if_neg (by simp), zup_at, htn] at hy
                by_cases hjt : j = t.length
                · rw [if_pos ⟨rfl, hjt⟩] at hy
                  rw [List.getElem?_append_right (by omega), hjt]
                  simpa using hy
                · rw [if_neg (by simp [hjt])] at hy
                  simp at hj
                  rw [List.getElem?_append_left (by omega)]
                  exact r10 j y (by omega) hy))
              rw [show zmS (zEr E) (.ref 148 :: r) = .ref (zEB E + 148) :: zmS (zEr E) r from by rw [← hr148]; rfl] at this
              exact this)
            (fun y n' K' P' I' L' _ hq => zXh_false hq.1)
          rw [show zmS (zEr E) (.int x :: .ref 148 :: r) = .int x :: .ref (zEB E + 148) :: zmS (zEr E) r from by rw [← hr148]; rfl]
          exact zV_bud (by omega) (by omega) hv
        · cases hs
      · cases hs
    · cases hs
  -- setLength(0)
  · split at hs
    · rename_i x r
      split at hs
      · rename_i hx
        have hx0 := of_decide_eq_true hx
        subst hx0
        cases hs
        have hv := zV_cv (bc2 := bc) (bs2 := bs) (ls := zmL (zEr E) ls) (rest := zmS (zEr E) st1) (av := [.int 0]) (Post := Post) hz (a := zEB E + 148) b1 (by decide) rfl rfl (by show 2 ≤ _; decide) (zcat_le2 hm) (J209 d n K P Ir L (zEB E + 148) va t hb r7)
          (fun v n' K' P' I' L' hq => by
            obtain ⟨e, va', g1, g2⟩ := hq
            cases e
            exact k n' K' P' I' L' (zRel_keep (t' := []) hEF hR b2 g2 g1 (by decide) (fun i j h1 h2 => by rw [zup_at, if_neg (by simp [h1])]) (fun y hy => by
              rw [zup_at, if_pos ⟨rfl, rfl⟩] at hy
              cases hy
              rfl) (fun j y hj hy => absurd hj (Nat.not_lt_zero j))))
          (fun y n' K' P' I' L' _ hq => zXh_false hq.1)
        rw [show zmS (zEr E) (.int 0 :: .ref 148 :: st1) = .int 0 :: .ref (zEB E + 148) :: zmS (zEr E) st1 from by rw [← hr148]; rfl]
        exact zV_bud (by omega) (by omega) hv
      · cases hs
    · cases hs
  -- length()
  · split at hs
    · rename_i r
      split at hs
      · rename_i m hm0
        cases hs
        have ht : Int32.ofNat t.length = m := r9 m hm0
        have hv := zV_cv (bc2 := bc) (bs2 := bs) (ls := zmL (zEr E) ls) (rest := zmS (zEr E) r) (av := []) (Post := Post) hz (a := zEB E + 148) b1 (by decide) rfl rfl (by show 1 ≤ _; decide) (zcat_le hm) (J210 d n K P Ir L (zEB E + 148) va t hb)
          (fun v n' K' P' I' L' hq => by
            obtain ⟨e, rfl, rfl, rfl, rfl, rfl⟩ := hq
            cases e
            have := k _ _ _ _ _ hR
            rw [← ht] at this
            exact this)
          (fun y n' K' P' I' L' _ hq => zXh_false hq.1)
        rw [show zmS (zEr E) (.ref 148 :: r) = .ref (zEB E + 148) :: zmS (zEr E) r from by rw [← hr148]; rfl]
        exact zV_bud (by omega) (by omega) hv
      · cases hs
    · cases hs
  -- charAt(int)
  · split at hs
    · rename_i i r
      split at hs
      · rename_i m x hm0 hx
        split at hs
        · rename_i hd
          have hd := of_decide_eq_true hd
          cases hs
          have ht : Int32.ofNat t.length = m := r9 m hm0
          have hit : i.toNatClampNeg < t.length := by
            have h1 := Int32.lt_iff_toInt_lt.mp hd.2
            rw [← ht, Int32.toInt_ofNat_of_lt (by omega)] at h1
            have h2 := znn (Int32.not_lt.mpr hd.1)
            omega
          have htx : t[i.toNatClampNeg]? = some x := r10 _ _ hit hx
          have hv := zV_cv (bc2 := bc) (bs2 := bs) (ls := zmL (zEr E) ls) (rest := zmS (zEr E) r) (av := [.int i]) (Post := Post) hz (a := zEB E + 148) b1 (by decide) rfl rfl (by show 2 ≤ _; decide) (zcat_le2 hm) (J208 d n K P Ir L (zEB E + 148) va t i x hb r7 hd.1 htx)
            (fun v n' K' P' I' L' hq => by
              obtain ⟨e, rfl, rfl, rfl, rfl, rfl⟩ := hq
              cases e
              exact k _ _ _ _ _ hR)
            (fun y n' K' P' I' L' _ hq => zXh_false hq.1)
          rw [show zmS (zEr E) (.int i :: .ref 148 :: r) = .int i :: .ref (zEB E + 148) :: zmS (zEr E) r from by rw [← hr148]; rfl]
          exact zV_bud (by omega) (by omega) hv
        · cases hs
      · cases hs
    · cases hs
  -- String.length()
  · split at hs
    · rename_i a r
      split at hs
      · rename_i tt htt
        cases hs
        have hS := zStr_now hE hR htt
        obtain ⟨b, k1, m, k2, -, -, g1, g2, -⟩ := id hS
        have hv := zV_cvS (bc2 := bc) (bs2 := bs) (ls := zmL (zEr E) ls) (rest := zmS (zEr E) r) (av := []) (Post := Post) hz (a := zEr E a) g1 g2 rfl rfl (by show 1 ≤ _; decide) (zcat_le hm) (J196 d n K P Ir L (zEr E a) tt hS)
          (fun v n' K' P' I' L' hq => by
            obtain ⟨e, rfl, rfl, rfl, rfl, rfl⟩ := hq
            cases e
            exact k _ _ _ _ _ hR)
          (fun y n' K' P' I' L' _ hq => zXh_false hq.1)
        exact zV_bud (by omega) (by omega) hv
      · cases hs
    · cases hs
  -- String.charAt(int)
  · split at hs
    · rename_i i a r
      split at hs
      · rename_i tt htt
        split at hs
        · rename_i x hd hx
          have hd := of_decide_eq_true hd
          cases hs
          have hS := zStr_now hE hR htt
          obtain ⟨b, k1, m, k2, -, -, g1, g2, -⟩ := id hS
          have hv := zV_cvS (bc2 := bc) (bs2 := bs) (ls := zmL (zEr E) ls) (rest := zmS (zEr E) r) (av := [.int i]) (Post := Post) hz (a := zEr E a) g1 g2 rfl rfl (by show 2 ≤ _; decide) (zcat_le2 hm) (J197 d n K P Ir L (zEr E a) tt i x hS (ztx_len htt) hd hx)
            (fun v n' K' P' I' L' hq => by
              obtain ⟨e, rfl, rfl, rfl, rfl, rfl⟩ := hq
              cases e
              exact k _ _ _ _ _ hR)
            (fun y n' K' P' I' L' _ hq => zXh_false hq.1)
          exact zV_bud (by omega) (by omega) hv
        · cases hs
      · cases hs
    · cases hs
  · cases hs
end ZPS
