/-! setLength(0), append(char) -/
theorem z128b {x : Int32} (h0 : 0 ≤ x) (h1 : x < 128) : x.toInt8.toInt32 = x ∧ ¬ (255 : Int32) < x ∧ fits .byte (.int x) = true := by
  have hall : ∀ k, k < 128 → (Int32.ofNat k).toInt8.toInt32 = Int32.ofNat k ∧ ¬ (255 : Int32) < Int32.ofNat k ∧ fits .byte (.int (Int32.ofNat k)) = true := by decide +kernel
  have g0 := Int32.le_iff_toInt_le.mp h0
  have g1 := Int32.lt_iff_toInt_lt.mp h1
  have z0 : (0 : Int32).toInt = 0 := rfl
  have z1 : (128 : Int32).toInt = 128 := rfl
  have e : Int32.ofNat x.toInt.toNat = x := by
    apply Int32.toInt.inj
    rw [Int32.toInt_ofNat_of_lt (by omega)]
    omega
  rw [← e]
  exact hall _ (by omega)
section ZJF
variable {l : Launch} {X : zX} {d n : Nat} {K : zKT} {P : zPT} {I : zIT} {L : zLT} {b va cap : Nat} {t : List Int32}
theorem zKeep_tr {n1 va1 : Nat} {K1 : zKT} {P1 : zPT} {I1 : zIT} {L1 : zLT} {n2 va2 : Nat} {K2 : zKT} {P2 : zPT} {I2 : zIT} {L2 : zLT} (h1 : zKeep n K P I L b va va1 n1 K1 P1 I1 L1) (h2 : zKeep n1 K1 P1 I1 L1 b va1 va2 n2 K2 P2 I2 L2) : zKeep n K P I L b va va2 n2 K2 P2 I2 L2 := by
  obtain ⟨a1, a2, a3⟩ := h1
  obtain ⟨c1, c2, c3⟩ := h2
  refine ⟨Nat.le_trans a1 c1, ?_, fun q q1 q2 q3 => ?_⟩
  · rcases c2 with rfl | c2
    · exact a2
    · exact Or.inr (Nat.le_trans a1 c2)
  · obtain ⟨e1, e2, e3, e4⟩ := a3 q q1 q2 q3
    obtain ⟨f1, f2, f3, f4⟩ := c3 q (Nat.lt_of_lt_of_le q1 a1) q2 (by rcases a2 with rfl | a2 <;> omega)
    exact ⟨f1.trans e1, f2.trans e2, f3.trans e3, f4.trans e4⟩
theorem zKeep_I {I' : zIT} (h : ∀ q, q ≠ b → q ≠ va → I' q = I q) : zKeep n K P I L b va va n K P I' L := ⟨Nat.le_refl _, Or.inl rfl, fun q _ q2 q3 => ⟨rfl, rfl, h q q2 q3, rfl⟩⟩
theorem zj_183 (hb : zBc cap n K P I b va t) (hl : t.length ≤ 63) : zC l X (d + 1) 0 0 183 [.ref b, .int 0] n K P I L (zPB n K P I L b va none []) := by
  obtain ⟨b1, b2, b3, b4, b5, b6, b7, b8, b9, b10, b11⟩ := id hb
  unfold zC
  refine zV_ls (ls' := [(0, .ref b), (1, .int 0)]) rfl ?_
  refine zV_iload_n rfl rfl ?_
  refine zV_if_ge 13 rfl rfl (fun _ => ?_) (fun h => absurd (by decide) h)
  refine zV_aload_n rfl rfl ?_
  refine zV_iload_n rfl rfl ?_
  refine zV_bud (bc := 0 + 0) (bs := 0 + 0) (by omega) (by omega) (zV_cu (av := [.int (Int32.ofNat 0)]) (rest := []) rfl (Or.inr rfl) (by decide) b1 rfl (Nat.le_of_ble_eq_true rfl) (Nat.le_of_ble_eq_true rfl) (zj_181z (d := d) (m := 0) hb (Nat.zero_le _)) ?_ (by rintro x n K P I L - ⟨hv, -⟩; cases hv))
  rintro v n' K' P' I' L' ⟨hv, rfl, rfl, rfl, rfl, rfl⟩
  cases hv
  have hvb : va ≠ b := by omega
  have fin : ∀ I2 : zIT, (I2 = I' ∨ I2 = zuI I' b 2 1) → zV l X (d + 1) 0 0 183 76 [(0, .ref b), (1, .int 0)] [] n' K' P' I2 L' (zPB n' K' P' I' L' b va none []) := by
    intro I2 h2
    refine zV_aload_n rfl rfl ?_
    refine zV_iload_n rfl rfl ?_
    refine zV_putI rfl b1 (by decide) rfl rfl rfl ?_
    have i1 : zuI I2 b 3 0 va = I' va := by
      rcases h2 with rfl | rfl
      · exact if_neg hvb
      · exact (if_neg hvb).trans (if_neg hvb)
    have i2 : zuI I2 b 3 0 b 1 = 0 := by
      rcases h2 with rfl | rfl
      · simpa [zuI, upd] using b8
      · simpa [zuI, upd] using b8
    have i3 : zuI I2 b 3 0 b 3 = 0 := by simp [zuI, upd]
    refine zV_vret rfl rfl ⟨rfl, va, ⟨cap, b1, b2, b3, b4, b5, Nat.zero_le _, b7, i2, i3, fun j x hj => by simp at hj, fun j => by rw [i1]; exact b11 j⟩, zKeep_I (fun q q1 q2 => ?_)⟩
    rcases h2 with rfl | rfl
    · exact if_neg q1
    · exact (if_neg q1).trans (if_neg q1)
  refine zV_aload_n rfl rfl ?_
  refine zV_getI rfl b1 (by decide) rfl ?_
  rw [b9]
  refine zV_iload_n rfl rfl ?_
  refine zV_icmp_ge 63 rfl rfl (fun h => ?_) (fun h => absurd ((zqL (a := 0) (by omega) (by omega)).mpr (Nat.zero_le _)) h)
  refine zV_aload_n rfl rfl ?_
  refine zV_getI rfl b1 (by decide) rfl ?_
  rw [b9]
  refine zV_iload_n rfl rfl ?_
  refine zV_icmp_le 76 rfl rfl (fun _ => fin _ (Or.inl rfl)) (fun _ => ?_)
  refine zV_aload_n rfl rfl ?_
  refine zV_iconst (v := 1) rfl rfl ?_
  refine zV_putI rfl b1 (by decide) rfl rfl rfl ?_
  exact fin _ (Or.inr rfl)
theorem zj_209 (hb : zBd n K P I b va t) (hl : t.length ≤ 63) : zC l X (d + 2) 0 0 209 [.ref b, .int 0] n K P I L (zPB n K P I L b va none []) := by
  obtain ⟨cap, hb⟩ := zBd_c hb
  unfold zC
  refine zV_ls (ls' := [(0, .ref b), (1, .int 0)]) rfl ?_
  refine zV_aload_n rfl rfl ?_
  refine zV_iload_n rfl rfl ?_
  refine zV_bud (bc := 0 + 0) (bs := 0 + 0) (by omega) (by omega) (zV_csu (av := [.int 0]) (rest := []) rfl rfl (by decide) hb.1 rfl (Nat.le_of_ble_eq_true rfl) (Nat.le_of_ble_eq_true rfl) (zj_183 (d := d) hb hl) ?_ (by rintro x n K P I L - ⟨hv, -⟩; cases hv))
  rintro v n' K' P' I' L' ⟨hv, h⟩
  cases hv
  exact zV_vret rfl rfl ⟨rfl, h⟩
theorem zj_212 {x : Int32} (h0 : 0 ≤ x) (h1 : x < 128) : zC l X d 0 0 212 [.int x] n K P I L (zSame n K P I L (.int 1)) := by
  unfold zC
  refine zV_ls (ls' := [(0, .int x)]) rfl ?_
  refine zV_iload_n rfl rfl ?_
  refine zV_sipush (v := 255) rfl rfl ?_
  refine zV_icmp_gt 11 rfl rfl (fun h => absurd h (z128b h0 h1).2.1) (fun h => ?_)
  refine zV_iconst (v := 1) rfl rfl ?_
  refine zV_goto 12 rfl rfl ?_
  exact zV_ret rfl rfl rfl zsq
theorem zj_186 {x : Int32} (hb : zBc cap n K P I b va t) (hl : t.length ≤ 60) (h0 : 0 ≤ x) (h1 : x < 128) : zC l X (d + 4) 1 200 186 [.ref b, .int x] n K P I L (zPB n K P I L b va (some (.ref b)) (t ++ [x])) := by
  obtain ⟨b1, b2, b3, b4, b5, b6, b7, b8, b9, b10, b11⟩ := id hb
  have hx := z128b h0 h1
  unfold zC
  refine zV_ls (ls' := [(0, .ref b), (1, .int x)]) rfl ?_
  refine zV_aload_n rfl rfl ?_
  refine zV_aload_n rfl rfl ?_
  refine zV_getI rfl b1 (by decide) rfl ?_
  rw [b9]
  refine zV_iconst (v := Int32.ofNat 1) rfl rfl ?_
  refine zV_iadd rfl ?_
  rw [zqa]
  refine zV_bud (bc := 1 + 0) (bs := 200 + 0) (by omega) (by omega) (zV_cu (av := [.int (Int32.ofNat (t.length + 1))]) (rest := []) rfl (Or.inr rfl) (by decide) b1 rfl (Nat.le_of_ble_eq_true rfl) (Nat.le_of_ble_eq_true rfl) (zj_181 (d := d) (m := t.length + 1) (Or.inr (zgrw_200 b7 (by omega))) hb (by omega)) ?_ (by rintro x n K P I L - ⟨hv, -⟩; cases hv))
  rintro v n' K' P' I' L' ⟨hv, va', cap', hb', hcap, hk⟩
  have hcap : t.length + 1 ≤ cap' := by rw [hcap]; exact zgrw_le _ _
  cases hv
  clear b1 b2 b3 b4 b5 b6 b7 b8 b9 b10 b11
  obtain ⟨b1, b2, b3, b4, b5, b6, b7, b8, b9, b10, b11⟩ := id hb'
  have hvb : va' ≠ b := by omega
  refine zV_aload_n rfl rfl ?_
  refine zV_cuq (av := []) (rest := []) rfl (Or.inl rfl) (by decide) b1 rfl (Nat.le_of_ble_eq_true rfl) (Nat.le_of_ble_eq_true rfl) (zj_189 (d := d + 3) ⟨cap', hb'⟩) ?_
  refine zV_if_eq 45 rfl rfl (fun h => absurd h (by decide)) (fun h => ?_)
  refine zV_iload_n rfl rfl ?_
  refine zV_csq (av := [.int x]) (rest := []) rfl rfl (Nat.le_of_ble_eq_true rfl) (Nat.le_of_ble_eq_true rfl) (zj_212 (d := d + 3) h0 h1) ?_
  refine zV_if_eq 45 rfl rfl (fun h => absurd h (by decide)) (fun h => ?_)
  refine zV_aload_n rfl rfl ?_
  refine zV_getR rfl b1 (by decide) rfl b2 ?_
  refine zV_aload_n rfl rfl ?_
  refine zV_dup rfl rfl ?_
  refine zV_getI rfl b1 (by decide) rfl ?_
  rw [b9]
  refine zV_dup_x1 rfl rfl rfl ?_
  refine zV_iconst (v := Int32.ofNat 1) rfl rfl ?_
  refine zV_iadd rfl ?_
  rw [zqa]
  refine zV_putI rfl b1 (by decide) rfl rfl rfl ?_
  refine zV_iload_n rfl rfl ?_
  refine zV_i2b rfl ?_
  rw [hx.1]
  refine zV_bast rfl b3 (zvpN ((zqL (a := 0) (by omega) (by omega)).mpr (Nat.zero_le _)) (by rw [zqn (by omega)]; omega)) ?_
  rw [hx.1, zqn (by omega)]
  refine zV_goto 75 rfl rfl ?_
  refine zV_aload_n rfl rfl ?_
  have i1 : ∀ j, zuI (zuI I' b 3 (Int32.ofNat (t.length + 1))) va' t.length x va' j = if j = t.length then x else I' va' j := fun j => by
    show (if va' = va' then upd (zuI I' b 3 (Int32.ofNat (t.length + 1)) va') t.length x else _) j = _
    rw [if_pos rfl]
    unfold upd
    have e : zuI I' b 3 (Int32.ofNat (t.length + 1)) va' = I' va' := if_neg hvb
    rw [e]
  have i2 : zuI (zuI I' b 3 (Int32.ofNat (t.length + 1))) va' t.length x b = upd (I' b) 3 (Int32.ofNat (t.length + 1)) := (if_neg (Ne.symm hvb)).trans (if_pos rfl)
  refine zV_aret rfl rfl (Or.inl ⟨_, rfl⟩) ⟨rfl, va', ⟨cap', b1, b2, b3, b4, b5, by rw [List.length_append]; exact hcap, b7, by rw [i2]; simpa [upd] using b8, by rw [i2, List.length_append]; simp [upd], fun j y hj => ?_, fun j => ?_⟩, zKeep_tr hk (zKeep_I (fun q q1 q2 => (if_neg q2).trans (if_neg q1)))⟩
  · rw [i1]
    rcases Nat.lt_or_ge j t.length with hjl | hjl
    · rw [if_neg (by omega)]
      rw [List.getElem?_append_left hjl] at hj
      exact b10 j y hj
    · rw [List.getElem?_append_right hjl] at hj
      have hj0 : j - t.length = 0 := by
        have := (List.getElem?_eq_some_iff.mp hj).1
        simp at this
        omega
      rw [hj0] at hj
      cases hj
      rw [if_pos (by omega)]
      exact ⟨rfl, h0, h1⟩
  · rw [i1]
    split
    · exact hx.2.2
    · exact b11 j
theorem zj_205 {x : Int32} (hb : zBd n K P I b va t) (hl : t.length ≤ 60) (h0 : 0 ≤ x) (h1 : x < 128) : zC l X (d + 5) 1 200 205 [.ref b, .int x] n K P I L (zPB n K P I L b va (some (.ref b)) (t ++ [x])) := by
  obtain ⟨cap, hb⟩ := zBd_c hb
  unfold zC
  refine zV_ls (ls' := [(0, .ref b), (1, .int x)]) rfl ?_
  refine zV_aload_n rfl rfl ?_
  refine zV_iload_n rfl rfl ?_
  refine zV_bud (bc := 1 + 0) (bs := 200 + 0) (by omega) (by omega) (zV_csu (av := [.int x]) (rest := []) rfl rfl (by decide) hb.1 rfl (Nat.le_of_ble_eq_true rfl) (Nat.le_of_ble_eq_true rfl) (zj_186 (d := d) hb hl h0 h1) ?_ (by rintro x n K P I L - ⟨hv, -⟩; cases hv))
  rintro v n' K' P' I' L' ⟨hv, h⟩
  cases hv
  refine zV_pop rfl rfl ?_
  refine zV_aload_n rfl rfl ?_
  exact zV_aret rfl rfl (Or.inl ⟨_, rfl⟩) ⟨rfl, h⟩
end ZJF
