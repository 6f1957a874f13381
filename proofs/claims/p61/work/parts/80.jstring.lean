/-! append(String) -/
section ZJS
variable {l : Launch} {X : zX} {d n : Nat} {K : zKT} {P : zPT} {I : zIT} {L : zLT} {b va cap a s2 k1 k2 m1 : Nat} {t u : List Int32}
/-- the builder has the text t and room for c bytes -/
def zPA (n : Nat) (K : zKT) (P : zPT) (I : zIT) (L : zLT) (b va c : Nat) (v : Option Value) (t : List Int32) : zPost := fun r n' K' P' I' L' => r = .inl v ∧ ∃ va', zBc c n' K' P' I' b va' t ∧ zKeep n K P I L b va va' n' K' P' I' L'
/-- a String and its bytes -/
def zSg (K : zKT) (P : zPT) (I : zIT) (a s2 : Nat) (u : List Int32) : Prop := ∃ k1 m1 k2 : Nat, K a = some (k1, m1) ∧ (k1 = 120 ∨ k1 = 0) ∧ P a 0 = some s2 ∧ K s2 = some (k2, u.length) ∧ (k2 = 113 ∨ k2 = 103) ∧ I a 1 = 0 ∧ ∀ (j : Nat) (x : Int32), u[j]? = some x → I s2 j = x ∧ 0 ≤ x ∧ x < 128
theorem zSg_fit (h : zSg K P I a s2 u) : ∀ i, i < u.length → fits .byte (.int (I s2 i)) = true := fun i hi => by
  obtain ⟨k1, m1, k2, hK, hk, hP, hK2, hk2, hI, hch⟩ := h
  obtain ⟨q1, q2, q3⟩ := hch i u[i] (List.getElem?_eq_getElem hi)
  rw [q1]
  exact (z128b q2 q3).2.2
theorem zj_198 {beg : Nat} (hs : zSg K P I a s2 u) (hKv : K va = some (103, cap)) (hcap : beg + u.length ≤ cap) (h200 : cap ≤ 200) : zC l X (d + 1) 0 0 198 [.ref a, .ref va, .int (Int32.ofNat beg), .int 0] n K P I L (fun r n' K' P' I' L' => r = .inl none ∧ n' = n ∧ K' = K ∧ P' = P ∧ I' = zuB I s2 va beg u.length ∧ L' = L) := by
  have hfit := zSg_fit hs
  obtain ⟨k1, m1, k2, hK, hk, hP, hK2, hk2, hI, hch⟩ := hs
  unfold zC
  refine zV_ls (ls' := [(0, .ref a), (1, .ref va), (2, .int (Int32.ofNat beg)), (3, .int 0)]) rfl ?_
  refine zV_aload_n rfl rfl ?_
  refine zV_cSq (av := []) (rest := []) rfl hK hk rfl rfl (Nat.le_of_ble_eq_true rfl) (Nat.le_of_ble_eq_true rfl) (zj_200 (d := d) hK hk hI) ?_
  refine zV_iload_n rfl rfl ?_
  refine zV_icmp_ne 28 rfl rfl (fun h => absurd rfl h) (fun h => ?_)
  refine zV_aload_n rfl rfl ?_
  refine zV_gSR rfl hK hk hP ?_
  refine zV_iconst (v := 0) rfl rfl ?_
  refine zV_aload_n rfl rfl ?_
  refine zV_iload_n rfl rfl ?_
  refine zV_iload_n rfl rfl ?_
  refine zV_ishl rfl ?_
  rw [zshl0]
  refine zV_aload_n rfl rfl ?_
  refine zV_gSR rfl hK hk hP ?_
  refine zV_alen rfl hK2 (by omega) rfl ?_
  refine zV_copyB rfl hK2 (by omega) hKv (fun q => absurd ((zql (b := 0) (by omega) (by omega)).mp q) (by omega)) (fun q => absurd ((zql (b := 0) (by omega) (by omega)).mp q) (by omega)) (by rw [zqn (by omega)]; omega) (by rw [zqn (by omega), zqn (by omega)]; omega) (fun i hi => hfit i (by rw [zqn (by omega)] at hi; exact hi)) (Nat.le_of_ble_eq_true rfl) ?_
  rw [zqn (a := u.length) (by omega), zqn (a := beg) (by omega)]
  refine zV_goto 43 rfl rfl ?_
  exact zV_vret rfl rfl ⟨rfl, rfl, rfl, rfl, rfl, rfl⟩
theorem zj_190 (hb : zBc cap n K P I b va t) (hs : zSg K P I a s2 u) : zC l X (d + 1) 0 0 190 [.ref b, .ref a] n K P I L (zSam0 n K P I L) := by
  obtain ⟨b1, b2, b3, b4, b5, b6, b7, b8, b9, b10, b11⟩ := id hb
  obtain ⟨k1, m1, k2, hK, hk, hP, hK2, hk2, hI, hch⟩ := hs
  unfold zC
  refine zV_ls (ls' := [(0, .ref b), (1, .ref a)]) rfl ?_
  refine zV_gets0 rfl ?_
  refine zV_if_eq 21 rfl rfl (fun h => absurd h (by decide)) (fun h => ?_)
  refine zV_aload_n rfl rfl ?_
  refine zV_getI rfl b1 (by decide) rfl ?_
  rw [b8]
  refine zV_aload_n rfl rfl ?_
  refine zV_cSq (av := []) (rest := [.int 0]) rfl hK hk rfl rfl (Nat.le_of_ble_eq_true rfl) (Nat.le_of_ble_eq_true rfl) (zj_200 (d := d) hK hk hI) ?_
  refine zV_icmp_eq 21 rfl rfl (fun _ => ?_) (fun h => absurd rfl h)
  exact zV_vret rfl rfl ⟨rfl, rfl, rfl, rfl, rfl, rfl⟩
theorem zj_191 {beg : Nat} (hb : zBc cap n K P I b va t) (hs : zSg K P I a s2 u) (hcap : beg + u.length ≤ cap) : zC l X (d + 2) 0 0 191 [.ref b, .int (Int32.ofNat beg), .ref a] n K P I L (fun r n' K' P' I' L' => r = .inl none ∧ n' = n ∧ K' = K ∧ P' = P ∧ I' = zuB I s2 va beg u.length ∧ L' = L) := by
  obtain ⟨b1, b2, b3, b4, b5, b6, b7, b8, b9, b10, b11⟩ := id hb
  obtain ⟨k1, m1, k2, hK, hk, hP, hK2, hk2, hI, hch⟩ := id hs
  unfold zC
  refine zV_ls (ls' := [(0, .ref b), (1, .int (Int32.ofNat beg)), (2, .ref a)]) rfl ?_
  refine zV_aload_n rfl rfl ?_
  refine zV_aload_n rfl rfl ?_
  refine zV_bud (bc := 0 + 0) (bs := 0 + 0) (by omega) (by omega) (zV_cu (av := [.ref a]) (rest := []) rfl (Or.inr rfl) (by decide) b1 rfl (Nat.le_of_ble_eq_true rfl) (Nat.le_of_ble_eq_true rfl) (zj_190 (d := d) hb hs) ?_ (by rintro x n K P I L - ⟨hv, -⟩; cases hv))
  rintro v n' K' P' I' L' ⟨hv, e1, e2, e3, e4, e5⟩
  cases hv
  rw [e1, e2, e3, e4, e5]
  refine zV_aload_n rfl rfl ?_
  refine zV_aload_n rfl rfl ?_
  refine zV_getR rfl b1 (by decide) rfl b2 ?_
  refine zV_iload_n rfl rfl ?_
  refine zV_aload_n rfl rfl ?_
  refine zV_getI rfl b1 (by decide) rfl ?_
  rw [b8]
  refine zV_bud (bc := 0 + 0) (bs := 0 + 0) (by omega) (by omega) (zV_cvS (av := [.ref va, .int (Int32.ofNat beg), .int 0]) (rest := []) rfl hK hk rfl rfl (Nat.le_of_ble_eq_true rfl) (Nat.le_of_ble_eq_true rfl) (zj_198 (d := d) hs b3 hcap b7) ?_ (by rintro x n K P I L - ⟨hv, -⟩; cases hv))
  rintro v n2 K2 P2 I2 L2 ⟨hv, h⟩
  cases hv
  exact zV_vret rfl rfl ⟨rfl, h⟩
theorem zj_185 {B : Nat} (hB : t.length + u.length ≤ cap ∨ zgrw cap (t.length + u.length) ≤ B) (hb : zBc cap n K P I b va t) (hs : zSg K P I a s2 u) (hl : t.length + u.length ≤ 64) (ha : a < n ∧ a ≠ b ∧ a ≠ va) (h2 : s2 < n ∧ s2 ≠ b ∧ s2 ≠ va) : zC l X (d + 4) 1 B 185 [.ref b, .ref a] n K P I L (zPA n K P I L b va (zgrw cap (t.length + u.length)) (some (.ref b)) (t ++ u)) := by
  obtain ⟨b1, b2, b3, b4, b5, b6, b7, b8, b9, b10, b11⟩ := id hb
  obtain ⟨k1, m1, k2, hK, hk, hP, hK2, hk2, hI, hch⟩ := id hs
  unfold zC
  refine zV_ls (ls' := [(0, .ref b), (1, .ref a)]) rfl ?_
  refine zV_aload_n rfl rfl ?_
  refine zV_ifnonnull 9 rfl rfl ?_
  refine zV_aload_n rfl rfl ?_
  refine zV_cSq (av := []) (rest := []) rfl hK hk rfl rfl (Nat.le_of_ble_eq_true rfl) (Nat.le_of_ble_eq_true rfl) (zj_196 (d := d + 2) ⟨s2, k1, m1, k2, trivial, trivial, hK, hk, hP, hK2, hk2, hI, hch⟩) ?_
  refine zV_istore_n rfl (by decide) rfl ?_
  refine zV_aload_n rfl rfl ?_
  refine zV_aload_n rfl rfl ?_
  refine zV_getI rfl b1 (by decide) rfl ?_
  rw [b9]
  refine zV_iload_n rfl rfl ?_
  refine zV_iadd rfl ?_
  rw [zqa]
  refine zV_bud (bc := 1 + 0) (bs := B + 0) (by omega) (by omega) (zV_cu (av := [.int (Int32.ofNat (t.length + u.length))]) (rest := []) rfl (Or.inr rfl) (by decide) b1 rfl (Nat.le_of_ble_eq_true rfl) (Nat.le_of_ble_eq_true rfl) (zj_181 (d := d) (m := t.length + u.length) hB hb hl) ?_ (by rintro x n K P I L - ⟨hv, -⟩; cases hv))
  rintro v n' K' P' I' L' ⟨hv, va', cap', hb', rfl, hkp⟩
  have hcap := zgrw_le cap (t.length + u.length)
  cases hv
  have hs' : zSg K' P' I' a s2 u := by
    obtain ⟨c1, c2, c3, c4⟩ := hkp.2.2 a ha.1 ha.2.1 ha.2.2
    obtain ⟨f1, f2, f3, f4⟩ := hkp.2.2 s2 h2.1 h2.2.1 h2.2.2
    exact ⟨k1, m1, k2, by rw [c1]; exact hK, hk, by rw [c2]; exact hP, by rw [f1]; exact hK2, hk2, by rw [c3]; exact hI, fun j x hj => by rw [f3]; exact hch j x hj⟩
  have h2v : s2 ≠ va' := by
    rcases hkp.2.1 with rfl | h
    · exact h2.2.2
    · have := h2.1
      omega
  clear b1 b2 b3 b4 b5 b6 b7 b8 b9 b10 b11
  obtain ⟨b1, b2, b3, b4, b5, b6, b7, b8, b9, b10, b11⟩ := id hb'
  have hvb : va' ≠ b := by omega
  refine zV_aload_n rfl rfl ?_
  refine zV_aload_n rfl rfl ?_
  refine zV_getI rfl b1 (by decide) rfl ?_
  rw [b9]
  refine zV_aload_n rfl rfl ?_
  refine zV_bud (bc := 0 + 0) (bs := 0 + 0) (by omega) (by omega) (zV_cu (av := [.int (Int32.ofNat t.length), .ref a]) (rest := []) rfl (Or.inr rfl) (by decide) b1 rfl (Nat.le_of_ble_eq_true rfl) (Nat.le_of_ble_eq_true rfl) (zj_191 (d := d + 1) (beg := t.length) hb' hs' hcap) ?_ (by rintro x n K P I L - ⟨hv, -⟩; cases hv))
  rintro v n2 K2' P2 I2 L2 ⟨hv, e1, e2, e3, e4, e5⟩
  cases hv
  rw [e1, e2, e3, e4, e5]
  have i0 : zuB I' s2 va' t.length u.length b = I' b := if_neg (Ne.symm hvb)
  have g9 : zuB I' s2 va' t.length u.length b 3 = Int32.ofNat t.length := by rw [i0]; exact b9
  refine zV_aload_n rfl rfl ?_
  refine zV_dup rfl rfl ?_
  refine zV_getI rfl b1 (by decide) rfl ?_
  rw [g9]
  refine zV_iload_n rfl rfl ?_
  refine zV_iadd rfl ?_
  rw [zqa]
  refine zV_putI rfl b1 (by decide) rfl rfl rfl ?_
  refine zV_aload_n rfl rfl ?_
  have i1 : ∀ j, zuI (zuB I' s2 va' t.length u.length) b 3 (Int32.ofNat (t.length + u.length)) va' j = if t.length ≤ j ∧ j < t.length + u.length then I' s2 (0 + (j - t.length)) else I' va' j := fun j => by
    have e : zuI (zuB I' s2 va' t.length u.length) b 3 (Int32.ofNat (t.length + u.length)) va' = va_cpy (I' s2) (I' va') 0 t.length u.length := (if_neg hvb).trans (if_pos rfl)
    rw [e]
    rfl
  have i2 : zuI (zuB I' s2 va' t.length u.length) b 3 (Int32.ofNat (t.length + u.length)) b = upd (I' b) 3 (Int32.ofNat (t.length + u.length)) := by
    show (if b = b then upd (zuB I' s2 va' t.length u.length b) 3 _ else _) = _
    rw [if_pos rfl, i0]
  obtain ⟨-, -, -, -, -, -, -, -, -, hch'⟩ := id hs'
  refine zV_aret rfl rfl (Or.inl ⟨_, rfl⟩) ⟨rfl, va', ⟨b1, b2, b3, b4, b5, by rw [List.length_append]; exact hcap, b7, by rw [i2]; simpa [upd] using b8, by rw [i2, List.length_append]; simp [upd], fun j y hj => ?_, fun j => ?_⟩, zKeep_tr hkp (zKeep_I (fun q q1 q2 => (if_neg q1).trans (if_neg q2)))⟩
  · rw [i1]
    rcases Nat.lt_or_ge j t.length with hjl | hjl
    · rw [if_neg (by omega)]
      rw [List.getElem?_append_left hjl] at hj
      exact b10 j y hj
    · rw [List.getElem?_append_right hjl] at hj
      have hjn := (List.getElem?_eq_some_iff.mp hj).1
      rw [if_pos (by omega), Nat.zero_add]
      exact hch' _ y hj
  · rw [i1]
    split
    · rename_i h
      rw [Nat.zero_add]
      exact zSg_fit hs' _ (by omega)
    · exact b11 j
theorem zj_204 {B : Nat} (hB : t.length + u.length ≤ cap ∨ zgrw cap (t.length + u.length) ≤ B) (hb : zBc cap n K P I b va t) (hs : zSg K P I a s2 u) (hl : t.length + u.length ≤ 64) (ha : a < n ∧ a ≠ b ∧ a ≠ va) (h2 : s2 < n ∧ s2 ≠ b ∧ s2 ≠ va) : zC l X (d + 5) 1 B 204 [.ref b, .ref a] n K P I L (zPA n K P I L b va (zgrw cap (t.length + u.length)) (some (.ref b)) (t ++ u)) := by
  unfold zC
  refine zV_ls (ls' := [(0, .ref b), (1, .ref a)]) rfl ?_
  refine zV_aload_n rfl rfl ?_
  refine zV_aload_n rfl rfl ?_
  refine zV_bud (bc := 1 + 0) (bs := B + 0) (by omega) (by omega) (zV_csu (av := [.ref a]) (rest := []) rfl rfl (by decide) hb.1 rfl (Nat.le_of_ble_eq_true rfl) (Nat.le_of_ble_eq_true rfl) (zj_185 (d := d) hB hb hs hl ha h2) ?_ (by rintro x n K P I L - ⟨hv, -⟩; cases hv))
  rintro v n' K' P' I' L' ⟨hv, h⟩
  cases hv
  refine zV_pop rfl rfl ?_
  refine zV_aload_n rfl rfl ?_
  exact zV_aret rfl rfl (Or.inl ⟨_, rfl⟩) ⟨rfl, h⟩
end ZJS
