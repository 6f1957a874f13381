/-! THE LAW'S TWO TEXTS -/
section ZJX
variable {l : Launch} {X : zX} {n n1 n2 : Nat} {K K1 K2 : zKT} {P P1 P2 : zPT} {I I1 I2 : zIT} {L L1 L2 : zLT} {b va va2 cap cap2 a : Nat} {t t2 : List Int32}
theorem zSg_of (hs : zStr (fun q => q < n) K P I a t) (hu : ∀ q, q < n → K1 q = K q ∧ P1 q = P q ∧ I1 q = I q ∧ L1 q = L q) : ∃ s2, a < n ∧ s2 < n ∧ zSg K1 P1 I1 a s2 t := by
  obtain ⟨s2, k1, m1, k2, fA, fB, s1, s2', s3, s4, s5, s6, s7⟩ := hs
  have fA : a < n := fA
  have fB : s2 < n := fB
  obtain ⟨c1, c2, c3, -⟩ := hu a fA
  obtain ⟨f1, f2, f3, -⟩ := hu s2 fB
  exact ⟨s2, fA, fB, k1, m1, k2, c1.trans s1, s2', by rw [c2]; exact s3, f1.trans s4, s5, by rw [c3]; exact s6, fun j x hj => by rw [f3]; exact s7 j x hj⟩
/-- a builder made since, and all that was there -/
def zTbd (n : Nat) (K : zKT) (P : zPT) (I : zIT) (L : zLT) (cap n1 : Nat) (K1 : zKT) (P1 : zPT) (I1 : zIT) (L1 : zLT) (b va : Nat) (t : List Int32) : Prop :=
  zBc cap n1 K1 P1 I1 b va t ∧ n ≤ b ∧ n ≤ n1 ∧ ∀ q, q < n → K1 q = K q ∧ P1 q = P q ∧ I1 q = I q ∧ L1 q = L q
theorem zTbd_lt (h : zTbd n K P I L cap n1 K1 P1 I1 L1 b va t) : b < n1 ∧ va < n1 ∧ b < va := by
  obtain ⟨⟨-, -, -, b4, b5, -⟩, -⟩ := h
  omega
theorem zTbd_keep (h : zTbd n K P I L cap n1 K1 P1 I1 L1 b va t) (hb : zBc cap2 n2 K2 P2 I2 b va2 t2) (hk : zKeep n1 K1 P1 I1 L1 b va va2 n2 K2 P2 I2 L2) : zTbd n K P I L cap2 n2 K2 P2 I2 L2 b va2 t2 := by
  have hl := zTbd_lt h
  obtain ⟨-, h2, h3, h4⟩ := h
  obtain ⟨k1, -, k3⟩ := hk
  refine ⟨hb, h2, by omega, fun q hq => ?_⟩
  obtain ⟨g1, g2, g3, g4⟩ := k3 q (by omega) (by omega) (by omega)
  obtain ⟨f1, f2, f3, f4⟩ := h4 q hq
  exact ⟨g1.trans f1, g2.trans f2, g3.trans f3, g4.trans f4⟩
theorem zTbd_made (h : zTbd n K P I L cap n1 K1 P1 I1 L1 b va t) (hm : zMade n1 K1 P1 I1 L1 n2 K2 P2 I2 L2 a t2) : zMade n K P I L n2 K2 P2 I2 L2 a t2 := by
  obtain ⟨-, h2, h3, h4⟩ := h
  obtain ⟨m1, ⟨s2, k1, w, k2, fA, fB, s⟩, m3⟩ := hm
  have fA : n1 ≤ a ∧ a < n2 := fA
  have fB : n1 ≤ s2 ∧ s2 < n2 := fB
  refine ⟨by omega, ⟨s2, k1, w, k2, ⟨by omega, fA.2⟩, ⟨by omega, fB.2⟩, s⟩, fun q hq => ?_⟩
  obtain ⟨g1, g2, g3, g4⟩ := m3 q (by omega)
  obtain ⟨f1, f2, f3, f4⟩ := h4 q hq
  exact ⟨g1.trans f1, g2.trans f2, g3.trans f3, g4.trans f4⟩
theorem zn13 {x : Int32} (h0 : 0 ≤ x) (h1 : x < 13) : ∃ y : Nat, x = Int32.ofNat y ∧ y < 13 := by
  have e := zof_ref x h0
  refine ⟨x.toNatClampNeg, e.symm, ?_⟩
  have hb := x.toNatClampNeg_lt
  refine (zql (b := 13) (by omega) (by omega)).mp ?_
  rw [e]
  exact h1
theorem zdn12 {y : Nat} (h : y < 13) : zdn y = 1 ∨ zdn y = 2 := by
  unfold zdn
  split
  · exact Or.inl rfl
  · rw [if_pos (by omega)]
    exact Or.inr rfl
theorem zjt_297 : zJtxt l X 297 3 "wait;valve " " 3" := by
  intro d bc bs n K P I L ls o x Post hx h0 h13 hc k
  obtain ⟨y, rfl, hy⟩ := zn13 h0 h13
  have hz := zdn12 hy
  have la : (zch "wait;valve ").length = 11 := by decide +kernel
  have lb : (zch " 3").length = 2 := by decide +kernel
  have hy2 := (zdf y (by omega)).1
  rw [hy2] at k
  refine zV_bud (bc := (bc + 7) + 1) (bs := (bs + 396) + zN 1) (by omega) (by show _ + 4 ≤ _; omega) (zV_new rfl (by decide) ?_)
  refine zV_dup rfl rfl ?_
  refine zV_bud (bc := 1 + (bc + 6)) (bs := 16 + (bs + 380)) (by omega) (by omega) (zV_ci (av := []) (rest := [.ref n, .ref o]) rfl rfl (Nat.le_of_ble_eq_true rfl) (Nat.le_of_ble_eq_true rfl) (zj_203 (d := d + 9) (if_pos rfl) (Nat.lt_succ_self n) (fun k => congrFun (if_pos rfl : z0I I n n = fun _ => 0) k)) ?_ (by rintro x n K P I L - ⟨hv, -⟩; cases hv))
  rintro v n2 K2 P2 I2 L2 ⟨hv, hn2, hb2, hk2⟩
  cases hv
  have hT2 : zTbd n K P I L 16 n2 K2 P2 I2 L2 n (n + 1) [] := ⟨hb2, Nat.le_refl _, by omega, fun q hq => by
    have hqn : q ≠ n := by omega
    obtain ⟨g1, g2, g3, g4⟩ := hk2 q (by omega) hqn
    exact ⟨g1.trans (if_neg hqn), g2.trans (if_neg hqn), g3.trans (if_neg hqn), g4.trans (if_neg hqn)⟩⟩
  clear hb2 hk2 hn2
  have hlt := zTbd_lt hT2
  obtain ⟨s1, ha, hs1, hsg⟩ := zSg_of (L := L) (L1 := L2) (hc 33 _ rfl) hT2.2.2.2
  have hsg : zSg K2 P2 I2 (X.2.2.2 33) s1 (zch "wait;valve ") := hsg
  have hnn := hT2.2.2.1
  refine zV_ldcwS rfl ?_
  refine zV_bud (bc := 1 + (bc + 5)) (bs := 0 + (bs + 380)) (by omega) (by omega) (zV_cv (av := [.ref (X.2.2.2 33)]) (rest := [.ref o]) rfl hT2.1.1 (by decide) rfl rfl (Nat.le_of_ble_eq_true rfl) (Nat.le_of_ble_eq_true rfl) (zj_204 (d := d + 6) (B := 0) (Or.inl (by rw [la]; decide)) hT2.1 hsg (by rw [la]; decide) ⟨by omega, by omega, by omega⟩ ⟨by omega, by omega, by omega⟩) ?_ (by rintro x n K P I L - ⟨hv, -⟩; cases hv))
  rintro v n3 K3 P3 I3 L3 ⟨hv, va3, hb3, hk3⟩
  cases hv
  have hT3 := zTbd_keep hT2 hb3 hk3
  have e3 : zgrw 16 (([] : List Int32).length + (zch "wait;valve ").length) = 16 := by rw [la]; rfl
  rw [e3, List.nil_append] at hT3
  clear hb3 hk3 hsg hlt hnn hT2 e3 ha hs1
  refine zV_iload_n rfl hx ?_
  refine zV_bud (bc := 1 + (bc + 4)) (bs := 0 + (bs + 340)) (by omega) (by omega) (zV_cv (av := [.int (Int32.ofNat y)]) (rest := [.ref o]) rfl hT3.1.1 (by decide) rfl rfl (Nat.le_of_ble_eq_true rfl) (Nat.le_of_ble_eq_true rfl) (zj_206 (d := d + 6) (B := 0) (Or.inl (by rw [la]; omega)) hT3.1 (by omega) (by rw [la]; decide)) ?_ (by rintro x n K P I L - ⟨hv, -⟩; cases hv))
  rintro v n4 K4 P4 I4 L4 ⟨hv, va4, hb4, hk4⟩
  cases hv
  have hT4 := zTbd_keep hT3 hb4 hk4
  have e4 : zgrw 16 ((zch "wait;valve ").length + zdn y) = 16 := by rw [la]; rcases hz with h | h <;> rw [h] <;> rfl
  rw [e4] at hT4
  have l4 : (zch "wait;valve " ++ zdl y).length = 11 + zdn y := by rw [List.length_append, zdl_len, la]
  clear hb4 hk4 hT3 e4
  have hlt := zTbd_lt hT4
  obtain ⟨s1, ha, hs1, hsg⟩ := zSg_of (L := L) (L1 := L4) (hc 34 _ rfl) hT4.2.2.2
  have hsg : zSg K4 P4 I4 (X.2.2.2 34) s1 (zch " 3") := hsg
  have hnb := hT4.2.1
  have hnn := hT4.2.2.1
  refine zV_ldcwS rfl ?_
  refine zV_bud (bc := 1 + (bc + 3)) (bs := 0 + (bs + 340)) (by omega) (by omega) (zV_cv (av := [.ref (X.2.2.2 34)]) (rest := [.ref o]) rfl hT4.1.1 (by decide) rfl rfl (Nat.le_of_ble_eq_true rfl) (Nat.le_of_ble_eq_true rfl) (zj_204 (d := d + 6) (B := 0) (Or.inl (by rw [l4, lb]; omega)) hT4.1 hsg (by rw [l4, lb]; omega) ⟨by omega, by omega, by omega⟩ ⟨by omega, by omega, by omega⟩) ?_ (by rintro x n K P I L - ⟨hv, -⟩; cases hv))
  rintro v n5 K5 P5 I5 L5 ⟨hv, va5, hb5, hk5⟩
  cases hv
  have hT5 := zTbd_keep hT4 hb5 hk5
  have e5 : zgrw 16 ((zch "wait;valve " ++ zdl y).length + (zch " 3").length) = 16 := by rw [l4, lb]; rcases hz with h | h <;> rw [h] <;> rfl
  rw [e5] at hT5
  clear hb5 hk5 hT4 e5 hsg
  refine zV_bud (bc := 2 + (bc + 1)) (bs := 204 + (bs + 136)) (by omega) (by omega) (zV_cv (av := []) (rest := [.ref o]) rfl hT5.1.1 (by decide) rfl rfl (Nat.le_of_ble_eq_true rfl) (Nat.le_of_ble_eq_true rfl) (zj_207 (d := d + 6) hT5.1 (by rw [List.length_append, l4, lb]; omega)) ?_ (by rintro x n K P I L - ⟨hv, -⟩; cases hv))
  rintro v n6 K6 P6 I6 L6 ⟨hv, hm⟩
  cases hv
  refine zV_goto 352 rfl rfl ?_
  exact zV_bud (by omega) (by omega) (k n6 K6 P6 I6 L6 _ (zTbd_made hT5 hm))
theorem zjt_326 : zJtxt l X 326 2 "pour 0 1/h;draw " " 2" := by
  intro d bc bs n K P I L ls o x Post hx h0 h13 hc k
  obtain ⟨y, rfl, hy⟩ := zn13 h0 h13
  have hz := zdn12 hy
  have la : (zch "pour 0 1/h;draw ").length = 16 := by decide +kernel
  have lb : (zch " 2").length = 2 := by decide +kernel
  have hy2 := (zdf y (by omega)).1
  rw [hy2] at k
  refine zV_bud (bc := (bc + 7) + 1) (bs := (bs + 396) + zN 1) (by omega) (by show _ + 4 ≤ _; omega) (zV_new rfl (by decide) ?_)
  refine zV_dup rfl rfl ?_
  refine zV_bud (bc := 1 + (bc + 6)) (bs := 16 + (bs + 380)) (by omega) (by omega) (zV_ci (av := []) (rest := [.ref n, .ref o]) rfl rfl (Nat.le_of_ble_eq_true rfl) (Nat.le_of_ble_eq_true rfl) (zj_203 (d := d + 9) (if_pos rfl) (Nat.lt_succ_self n) (fun k => congrFun (if_pos rfl : z0I I n n = fun _ => 0) k)) ?_ (by rintro x n K P I L - ⟨hv, -⟩; cases hv))
  rintro v n2 K2 P2 I2 L2 ⟨hv, hn2, hb2, hk2⟩
  cases hv
  have hT2 : zTbd n K P I L 16 n2 K2 P2 I2 L2 n (n + 1) [] := ⟨hb2, Nat.le_refl _, by omega, fun q hq => by
    have hqn : q ≠ n := by omega
    obtain ⟨g1, g2, g3, g4⟩ := hk2 q (by omega) hqn
    exact ⟨g1.trans (if_neg hqn), g2.trans (if_neg hqn), g3.trans (if_neg hqn), g4.trans (if_neg hqn)⟩⟩
  clear hb2 hk2 hn2
  have hlt := zTbd_lt hT2
  obtain ⟨s1, ha, hs1, hsg⟩ := zSg_of (L := L) (L1 := L2) (hc 35 _ rfl) hT2.2.2.2
  have hsg : zSg K2 P2 I2 (X.2.2.2 35) s1 (zch "pour 0 1/h;draw ") := hsg
  have hnn := hT2.2.2.1
  refine zV_ldcwS rfl ?_
  refine zV_bud (bc := 1 + (bc + 5)) (bs := 0 + (bs + 380)) (by omega) (by omega) (zV_cv (av := [.ref (X.2.2.2 35)]) (rest := [.ref o]) rfl hT2.1.1 (by decide) rfl rfl (Nat.le_of_ble_eq_true rfl) (Nat.le_of_ble_eq_true rfl) (zj_204 (d := d + 6) (B := 0) (Or.inl (by rw [la]; decide)) hT2.1 hsg (by rw [la]; decide) ⟨by omega, by omega, by omega⟩ ⟨by omega, by omega, by omega⟩) ?_ (by rintro x n K P I L - ⟨hv, -⟩; cases hv))
  rintro v n3 K3 P3 I3 L3 ⟨hv, va3, hb3, hk3⟩
  cases hv
  have hT3 := zTbd_keep hT2 hb3 hk3
  have e3 : zgrw 16 (([] : List Int32).length + (zch "pour 0 1/h;draw ").length) = 16 := by rw [la]; rfl
  rw [e3, List.nil_append] at hT3
  clear hb3 hk3 hsg hlt hnn hT2 e3 ha hs1
  refine zV_iload_n rfl hx ?_
  refine zV_bud (bc := 1 + (bc + 4)) (bs := 34 + (bs + 340)) (by omega) (by omega) (zV_cv (av := [.int (Int32.ofNat y)]) (rest := [.ref o]) rfl hT3.1.1 (by decide) rfl rfl (Nat.le_of_ble_eq_true rfl) (Nat.le_of_ble_eq_true rfl) (zj_206 (d := d + 6) (B := 34) (Or.inr (by rw [la]; rcases hz with h | h <;> rw [h] <;> decide)) hT3.1 (by omega) (by rw [la]; decide)) ?_ (by rintro x n K P I L - ⟨hv, -⟩; cases hv))
  rintro v n4 K4 P4 I4 L4 ⟨hv, va4, hb4, hk4⟩
  cases hv
  have hT4 := zTbd_keep hT3 hb4 hk4
  have e4 : zgrw 16 ((zch "pour 0 1/h;draw ").length + zdn y) = 34 := by rw [la]; rcases hz with h | h <;> rw [h] <;> rfl
  rw [e4] at hT4
  have l4 : (zch "pour 0 1/h;draw " ++ zdl y).length = 16 + zdn y := by rw [List.length_append, zdl_len, la]
  clear hb4 hk4 hT3 e4
  have hlt := zTbd_lt hT4
  obtain ⟨s1, ha, hs1, hsg⟩ := zSg_of (L := L) (L1 := L4) (hc 36 _ rfl) hT4.2.2.2
  have hsg : zSg K4 P4 I4 (X.2.2.2 36) s1 (zch " 2") := hsg
  have hnb := hT4.2.1
  have hnn := hT4.2.2.1
  refine zV_ldcwS rfl ?_
  refine zV_bud (bc := 1 + (bc + 3)) (bs := 0 + (bs + 340)) (by omega) (by omega) (zV_cv (av := [.ref (X.2.2.2 36)]) (rest := [.ref o]) rfl hT4.1.1 (by decide) rfl rfl (Nat.le_of_ble_eq_true rfl) (Nat.le_of_ble_eq_true rfl) (zj_204 (d := d + 6) (B := 0) (Or.inl (by rw [l4, lb]; omega)) hT4.1 hsg (by rw [l4, lb]; omega) ⟨by omega, by omega, by omega⟩ ⟨by omega, by omega, by omega⟩) ?_ (by rintro x n K P I L - ⟨hv, -⟩; cases hv))
  rintro v n5 K5 P5 I5 L5 ⟨hv, va5, hb5, hk5⟩
  cases hv
  have hT5 := zTbd_keep hT4 hb5 hk5
  have e5 : zgrw 34 ((zch "pour 0 1/h;draw " ++ zdl y).length + (zch " 2").length) = 34 := by rw [l4, lb]; rcases hz with h | h <;> rw [h] <;> rfl
  rw [e5] at hT5
  clear hb5 hk5 hT4 e5 hsg
  refine zV_bud (bc := 2 + (bc + 1)) (bs := 204 + (bs + 136)) (by omega) (by omega) (zV_cv (av := []) (rest := [.ref o]) rfl hT5.1.1 (by decide) rfl rfl (Nat.le_of_ble_eq_true rfl) (Nat.le_of_ble_eq_true rfl) (zj_207 (d := d + 6) hT5.1 (by rw [List.length_append, l4, lb]; omega)) ?_ (by rintro x n K P I L - ⟨hv, -⟩; cases hv))
  rintro v n6 K6 P6 I6 L6 ⟨hv, hm⟩
  cases hv
  exact zV_bud (by omega) (by omega) (k n6 K6 P6 I6 L6 _ (zTbd_made hT5 hm))
end ZJX
