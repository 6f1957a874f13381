/-! THE PRIMITIVES OF THE INTERPRETER ARE THE JDK'S METHODS -/
theorem zn_of {k : Nat} (h : k ≤ 2000) : (Int32.ofNat k).toNatClampNeg = k := by
  have h1 : (Int32.ofNat k).toInt = (k : Int) := Int32.toInt_ofNat_of_lt (by omega)
  unfold Int32.toNatClampNeg
  rw [h1]
  rfl
theorem zfold_at (cs : List Int32) : ∀ (M : zM) (k i j : Nat), (cs.foldl (fun (q : zM × Nat) ch => (zup q.1 149 q.2 ch, q.2 + 1)) (M, k)).1 i j = if i = 149 ∧ k ≤ j ∧ j < k + cs.length then cs[j - k]? else M i j := by
  induction cs with
  | nil =>
    intro M k i j
    rw [if_neg (by simp only [List.length_nil]; omega)]
    rfl
  | cons c r ih =>
    intro M k i j
    show (r.foldl _ (zup M 149 k c, k + 1)).1 i j = _
    rw [ih, zup_at]
    simp only [List.length_cons]
    by_cases hi : i = 149
    · subst hi
      by_cases hj : j = k
      · subst hj
        rw [if_neg (by omega), if_pos ⟨rfl, rfl⟩, if_pos ⟨rfl, Nat.le_refl _, by omega⟩]
        simp
      · by_cases hlt : k + 1 ≤ j ∧ j < k + 1 + r.length
        · rw [if_pos ⟨rfl, hlt⟩, if_pos ⟨rfl, by omega, by omega⟩]
          rw [show j - k = (j - (k + 1)) + 1 by omega]
          simp
        · rw [if_neg (by simp; omega), if_neg (by simp [hj]), if_neg (by simp; omega)]
    · rw [if_neg (by simp [hi]), if_neg (by simp [hi]), if_neg (by simp [hi])]
theorem zdg_len (x : Int32) : (zdg x).length ≤ 3 := by
  unfold zdg
  split
  · simp
  · split <;> simp
set_option maxRecDepth 100000 in
theorem zstr_len : (zstr.all (fun q => decide ((zch q.2.2).length ≤ 900))) = true := by decide +kernel
theorem ztx_len {dy a : Nat} {t : List Int32} (h : ztx dy a = some t) : t.length ≤ 1000 := by
  unfold ztx at h
  split at h
  · split at h
    · simp only [Option.map_eq_some_iff] at h
      obtain ⟨q, h1, rfl⟩ := h
      have := of_decide_eq_true (List.all_eq_true.mp zstr_len q (List.mem_of_getElem? h1))
      omega
    · cases h
  · split at h
    · cases h
    · split at h
      · cases h
        have := zdg_len (Int32.ofNat (a - 5000))
        simp only [List.length_append]
        rw [show (zch "wait;valve ").length = 11 from by decide +kernel, show (zch " 3").length = 2 from by decide +kernel]
        omega
      · cases h
        have := zdg_len (Int32.ofNat (a - 5100))
        simp only [List.length_append]
        rw [show (zch "pour 0 1/h;draw ").length = 16 from by decide +kernel, show (zch " 2").length = 2 from by decide +kernel]
        omega
section ZPRIM
variable {l : Launch} {X : zX} {sl dy d bc bs mi pc : Nat} {E : zEnv} {n : Nat} {K : zKT} {P : zPT} {Ir : zIT} {L : zLT} {Post : zPost}
/-- the builder has changed, all else is as it was -/
theorem zRel_keep {M M' : zM} {va va' n' : Nat} {K' : zKT} {P' : zPT} {I' : zIT} {L' : zLT} {t' : List Int32} (hEF : ∀ q, zEF E q → ¬ (zEB E ≤ q ∧ q < zEB E + 150)) (hR : zRel E n K P Ir L M) (hva : P (zEB E + 148) 0 = some va) (hk : zKeep n K P Ir L (zEB E + 148) va va' n' K' P' I' L') (hb : zBd n' K' P' I' (zEB E + 148) va' t') (hl : t'.length ≤ 63)
    (hM : ∀ i k, i ≠ 148 → i ≠ 149 → M' i k = M i k) (h8 : ∀ x, M' 148 0 = some x → Int32.ofNat t'.length = x) (h9 : ∀ (j : Nat) (x : Int32), j < t'.length → M' 149 j = some x → t'[j]? = some x) : zRel E n' K' P' I' L' M' := by
  obtain ⟨r1, r2, r3, r4, r5, va0, t, ⟨cap, b1, b2, b3, b4, b5, b6, b7, b8, b9, b10⟩, r7, r8, r9, r10, r11⟩ := hR
  cases Option.some.inj (hva.symm.trans b2)
  obtain ⟨k1, k2, k3⟩ := hk
  have kk : ∀ i, i < 148 → K' (zEB E + i) = K (zEB E + i) ∧ P' (zEB E + i) = P (zEB E + i) ∧ I' (zEB E + i) = Ir (zEB E + i) ∧ L' (zEB E + i) = L (zEB E + i) := fun i hi => k3 _ (by omega) (by omega) (by omega)
  refine ⟨by omega, fun i sl e hi he => ?_, fun i k q hq => ?_, fun i k x hi hx => ?_, fun k x hx => ?_, va', t', hb, hl, by omega, h8, h9, fun a ha => ?_⟩
  · have hi2 : i < 148 := by
      rcases zkd_lt he with h | h
      · exact h
      · omega
    rw [(kk i hi2).1]
    exact r2 i sl e hi he
  · rw [(kk i (zpd_lt hq).1).2.1]
    exact r3 i k q hq
  · rw [(kk i hi).2.2.1]
    rw [hM i k (by omega) (by omega)] at hx
    exact r4 i k x hi hx
  · rw [hM 1000 k (by omega) (by omega)] at hx
    exact r5 k x hx
  · obtain ⟨g1, g2, g3, g4, g5, g6⟩ := r11 a ha
    have hne : a ≠ zEB E + 148 := fun e => hEF a ha (by omega)
    obtain ⟨q1, q2, q3, q4⟩ := k3 a g1 hne g2
    exact ⟨by omega, by omega, by rw [q1, g3], by rw [q2, g4], by rw [q3, g5], by rw [q4, g6]⟩
/-- a String's method: the receiver is any String -/
theorem zV_cvS {bc1 bc2 bs1 bs2 r3 mk idx : Nat} {ls : List (Nat × Value)} {av rest : List Value} {Q : zPost} {a k m : Nat} (h : zl mi pc = some (.invokevirtual idx, 3, mk, 3, r3)) (hKa : K a = some (k, m)) (hk : k = 120 ∨ k = 0) (hco : zO mk = RJ0) (hav : av.length = zNP mk) (hlen : (lg_sl (.ref a :: av)).length ≤ zL mk) (hW : (rest.map fun v => v.category).sum ≤ 8) (hc : zC l X d bc1 bs1 mk (.ref a :: av) n K P Ir L Q)
    (kk : ∀ (v : Option Value) (n' : Nat) (K' : zKT) (P' : zPT) (I' : zIT) (L' : zLT), Q (.inl v) n' K' P' I' L' → zV l X (d + 1) bc2 bs2 mi (pc + 3) ls (v.toList ++ rest) n' K' P' I' L' Post)
    (kx : ∀ (x n' : Nat) (K' : zKT) (P' : zPT) (I' : zIT) (L' : zLT), x < 6 → Q (.inr x) n' K' P' I' L' → zXh l X (d + 1) bc2 bs2 mi pc ls x n' K' P' I' L' Post) :
    zV l X (d + 1) (bc1 + bc2) (bs1 + bs2) mi pc ls (av.reverse ++ .ref a :: rest) n K P Ir L Post := by
  rcases hk with rfl | rfl
  · intro p e R s m args below meth c H locs cells slots mc ms lsr S D hl
    have hk := zkc_at h
    simp only [zkc, Bool.and_eq_true, decide_eq_true_eq] at hk
    obtain ⟨⟨⟨⟨k1, k5⟩, k2⟩, k3⟩, k4⟩ := hk
    have hw : zhas r3 (.methodLink (zO mi) idx (zY mk)) = true := zl_wc h
    obtain ⟨hxx, hb, hml, hown, hts, hrt, hlk, htab, hnm, hdf, hdl, hKs, hst⟩ := id S
    obtain ⟨d1, d2, d3, d4, hS, hpic⟩ := id D
    obtain ⟨hA, cell, c1, c2, c3, c4, c5⟩ := (hpic.2 a 120 _ hKa).2.2.2 (by decide)
    exact zV_after S D hl (vx_runV (C := zO mk) (b := a) (As := av) (rest := rest) ⟨hxx, hb, hml, hown, hts⟩ (zMet k3 k4 hst hlen hc) ⟨zcallB S k3 k4 k2 (hts _ (zTs_in hw rfl)), hts _ (zTs_in k1 rfl), hts _ (zTs_in k5 rfl)⟩
      ⟨zPc_blind, ⟨cell, c1, c3, by rw [hco]; exact c4⟩, fun _ hU hW => zPc_at hKs hS hpic hU hW⟩ rfl hav hl.1 rfl (by show 2 * 0 + _ ≤ 8; omega) (zl_dec h) ⟨by omega, by omega⟩) kk kx
  · exact zV_cv h hKa (by decide) (by rw [hco]; rfl) hav hlen hW hc kk kx
theorem zStr_now {a : Nat} {t : List Int32} {M : zM} (hE : zEok X sl dy E) (hR : zRel E n K P Ir L M) (h : ztx dy a = some t) : zStr (fun _ => True) K P Ir (zEr E a) t := by
  obtain ⟨b, k1, m, k2, f1, f2, h1, h2, h3, h4, h5, h6, h7⟩ := hE.2.2.1 a t h
  obtain ⟨va, t0, -, -, -, -, -, hF⟩ := hR.2.2.2.2.2
  obtain ⟨-, -, a1, a2, a3, -⟩ := hF _ f1
  obtain ⟨-, -, b1, b2, b3, -⟩ := hF _ f2
  exact ⟨b, k1, m, k2, trivial, trivial, by rw [a1]; exact h1, h2, by rw [a2]; exact h3, by rw [b1]; exact h4, h5, by rw [a3]; exact h6, fun j x hj => by rw [b3]; exact h7 j x hj⟩
theorem zStr_nowC {M : zM} (hE : zEok X sl dy E) (hR : zRel E n K P Ir L M) (c : Nat) (s : String × Nat × String) (h : zstr[c]? = some s) : zStr (fun q => q < n) K P Ir (X.2.2.2 c) (zch s.2.2) := by
  have hc : c < 40 := (List.getElem?_eq_some_iff.mp h).1
  have ht : ztx dy (2000 + c) = some (zch s.2.2) := by
    unfold ztx
    have e1 : Nat.ble 5000 (2000 + c) = false := by
      cases hb : Nat.ble 5000 (2000 + c) with
      | true => exact absurd (Nat.le_of_ble_eq_true hb) (by omega)
      | false => rfl
    rw [e1, Nat.ble_eq_true_of_le (Nat.le_add_right 2000 c)]
    simp only
    rw [Nat.add_sub_cancel_left, h]
    rfl
  obtain ⟨b, k1, m, k2, f1, f2, h1, h2, h3, h4, h5, h6, h7⟩ := hE.2.2.1 _ _ ht
  obtain ⟨va, t0, -, -, -, -, -, hF⟩ := hR.2.2.2.2.2
  obtain ⟨q1, -, a1, a2, a3, -⟩ := hF _ f1
  obtain ⟨q2, -, b1, b2, b3, -⟩ := hF _ f2
  rw [hE.2.2.2.1 c (by omega)] at q1 a1 a2 a3 h1 h3 h6
  exact ⟨b, k1, m, k2, q1, q2, by rw [a1]; exact h1, h2, by rw [a2]; exact h3, by rw [b1]; exact h4, h5, by rw [a3]; exact h6, fun j x hj => by rw [b3]; exact h7 j x hj⟩
end ZPRIM
