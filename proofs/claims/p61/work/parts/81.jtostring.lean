/-! toString() -/
theorem zsub0 (x : Int32) : x - 0 = x := by simp
section ZJT
variable {l : Launch} {X : zX} {d n : Nat} {K : zKT} {P : zPT} {I : zIT} {L : zLT} {b va cap s m1 : Nat} {t : List Int32}
theorem zj_218 {m : Nat} (hm : m ≤ 200) : zC l X d 0 0 218 [.int 0, .int (Int32.ofNat m)] n K P I L (zSam0 n K P I L) := by
  unfold zC
  refine zV_ls (ls' := [(0, .int 0), (1, .int (Int32.ofNat m))]) rfl ?_
  refine zV_iload_n rfl rfl ?_
  refine zV_iload_n rfl rfl ?_
  refine zV_icmp_ge 37 rfl rfl (fun _ => ?_) (fun h => absurd ((zqL (a := 0) (by omega) (by omega)).mpr (Nat.zero_le _)) h)
  exact zV_vret rfl rfl ⟨rfl, rfl, rfl, rfl, rfl, rfl⟩
/-- a new row with the first m bytes of va -/
def zPR (n : Nat) (K : zKT) (P : zPT) (I : zIT) (L : zLT) (va m : Nat) : zPost := fun r n' K' P' I' L' => r = .inl (some (.ref n)) ∧ n' = n + 1 ∧ K' = zuK K n (103, m) ∧ P' = z0P P n ∧ I' = zuB (z0I I n) va n 0 m ∧ L' = z0L L n
theorem zj_220 {m : Nat} (hK : K va = some (103, cap)) (hva : va < n) (hf : ∀ j : Nat, fits .byte (.int (I va j)) = true) (hm : m ≤ cap) (hc : cap ≤ 200) : zC l X (d + 1) 1 200 220 [.ref va, .int 0, .int (Int32.ofNat m)] n K P I L (zPR n K P I L va m) := by
  have hne : va ≠ n := by omega
  have k1 : zuK K n (103, m) va = some (103, cap) := (if_neg hne).trans hK
  have k2 : zuK K n (103, m) n = some (103, m) := if_pos rfl
  have i1 : z0I I n va = I va := if_neg hne
  unfold zC
  refine zV_ls (ls' := [(0, .ref va), (1, .int 0), (2, .int (Int32.ofNat m))]) rfl ?_
  refine zV_iload_n rfl rfl ?_
  refine zV_iload_n rfl rfl ?_
  refine zV_bud (bc := 0 + 1) (bs := 0 + 200) (by omega) (by omega) (zV_cs (av := [.int 0, .int (Int32.ofNat m)]) (rest := []) rfl rfl (Nat.le_of_ble_eq_true rfl) (Nat.le_of_ble_eq_true rfl) (zj_218 (d := d) (by omega)) ?_ (by rintro x n K P I L - ⟨hv, -⟩; cases hv))
  rintro v n' K' P' I' L' ⟨hv, e1, e2, e3, e4, e5⟩
  cases hv
  rw [e1, e2, e3, e4, e5]
  refine zV_iload_n rfl rfl ?_
  refine zV_iload_n rfl rfl ?_
  refine zV_isub rfl ?_
  rw [zsub0]
  refine zV_istore_n rfl (by decide) rfl ?_
  refine zV_iload_n rfl rfl ?_
  refine zV_bud (bc := 0 + 1) (bs := 0 + m) (by omega) (by omega) (zV_newa rfl (by omega) rfl (fun q => absurd ((zql (b := 0) (by omega) (by omega)).mp q) (by omega)) (zqn (by omega)) (by show m * 1 ≤ _; omega) ?_)
  refine zV_astore rfl (by decide) rfl ?_
  refine zV_aload_n rfl rfl ?_
  refine zV_iload_n rfl rfl ?_
  refine zV_aload rfl rfl ?_
  refine zV_iconst (v := 0) rfl rfl ?_
  refine zV_aload_n rfl rfl ?_
  refine zV_alen rfl k1 (by omega) rfl ?_
  refine zV_iload_n rfl rfl ?_
  refine zV_isub rfl ?_
  rw [zsub0]
  refine zV_iload_n rfl rfl ?_
  refine zV_mmin rfl (Nat.le_of_ble_eq_true rfl) ?_
  rw [zqm (by omega) (by omega), Nat.min_eq_right hm]
  refine zV_copyB rfl k1 (Or.inl rfl) k2 (fun q => absurd ((zql (b := 0) (by omega) (by omega)).mp q) (by omega)) (by decide) (by rw [zqn (by omega)]; omega) (by rw [zqn (by omega)]; show 0 + m ≤ m; omega) (fun i _ => by rw [i1]; exact hf i) (Nat.le_of_ble_eq_true rfl) ?_
  rw [zqn (a := m) (by omega)]
  refine zV_aload rfl rfl ?_
  exact zV_aret rfl rfl (Or.inr ⟨_, rfl⟩) ⟨rfl, rfl, rfl, rfl, rfl, rfl⟩
theorem zj_219 {m : Nat} (hK : K va = some (103, cap)) (hva : va < n) (hf : ∀ j : Nat, fits .byte (.int (I va j)) = true) (hm : m < cap) (hc : cap ≤ 200) : zC l X (d + 2) 1 200 219 [.ref va, .int 0, .int (Int32.ofNat m)] n K P I L (zPR n K P I L va m) := by
  unfold zC
  refine zV_ls (ls' := [(0, .ref va), (1, .int 0), (2, .int (Int32.ofNat m))]) rfl ?_
  refine zV_iload_n rfl rfl ?_
  refine zV_if_ne 10 rfl rfl (fun h => absurd rfl h) (fun _ => ?_)
  refine zV_iload_n rfl rfl ?_
  refine zV_aload_n rfl rfl ?_
  refine zV_alen rfl hK (by omega) rfl ?_
  refine zV_icmp_eq 17 rfl rfl (fun h => absurd ((zqe (by omega) (by omega)).mp h) (by omega)) (fun _ => ?_)
  refine zV_aload_n rfl rfl ?_
  refine zV_iload_n rfl rfl ?_
  refine zV_iload_n rfl rfl ?_
  refine zV_bud (bc := 1 + 0) (bs := 200 + 0) (by omega) (by omega) (zV_cs (av := [.ref va, .int 0, .int (Int32.ofNat m)]) (rest := []) rfl rfl (Nat.le_of_ble_eq_true rfl) (Nat.le_of_ble_eq_true rfl) (zj_220 (d := d) hK hva hf (Nat.le_of_lt hm) hc) ?_ (by rintro x n K P I L - ⟨hv, -⟩; cases hv))
  rintro v n' K' P' I' L' ⟨hv, h⟩
  cases hv
  exact zV_aret rfl rfl (Or.inr ⟨_, rfl⟩) ⟨rfl, h⟩
/-- the new String s takes its bytes -/
def zPS (n : Nat) (K : zKT) (P : zPT) (I : zIT) (L : zLT) (s : Nat) (t : List Int32) : zPost := fun r n' K' P' I' L' => r = .inl none ∧ n' = n + 1 ∧ zSg K' P' I' s n t ∧ ∀ q, q < n → q ≠ s → K' q = K q ∧ P' q = P q ∧ I' q = I q ∧ L' q = L q
theorem zj_199 (hb : zBc cap n K P I b va t) (hs : K s = some (0, 4)) (h1 : s < n) (hsb : s ≠ b) (hsv : s ≠ va) (hl : t.length < cap) : zC l X (d + 3) 1 200 199 [.ref s, .ref b, .null] n K P I L (zPS n K P I L s t) := by
  obtain ⟨b1, b2, b3, b4, b5, b6, b7, b8, b9, b10, b11⟩ := id hb
  unfold zC
  refine zV_ls (ls' := [(0, .ref s), (1, .ref b), (2, .null)]) rfl ?_
  refine zV_aload_n rfl rfl ?_
  refine zV_obj rfl (by decide) ?_
  refine zV_aload_n rfl rfl ?_
  refine zV_cuq (av := []) (rest := []) rfl (Or.inl rfl) (by decide) b1 rfl (Nat.le_of_ble_eq_true rfl) (Nat.le_of_ble_eq_true rfl) (zj_188 (d := d + 2) ⟨cap, hb⟩) ?_
  refine zV_astore_n rfl (by decide) rfl ?_
  refine zV_aload_n rfl rfl ?_
  refine zV_cuq (av := []) (rest := []) rfl (Or.inl rfl) (by decide) b1 rfl (Nat.le_of_ble_eq_true rfl) (Nat.le_of_ble_eq_true rfl) (zj_210 (d := d + 1) ⟨cap, hb⟩) ?_
  refine zV_istore rfl (by decide) rfl ?_
  refine zV_aload_n rfl rfl ?_
  refine zV_cuq (av := []) (rest := []) rfl (Or.inl rfl) (by decide) b1 rfl (Nat.le_of_ble_eq_true rfl) (Nat.le_of_ble_eq_true rfl) (zj_189 (d := d + 2) ⟨cap, hb⟩) ?_
  refine zV_if_eq 41 rfl rfl (fun h => absurd h (by decide)) (fun _ => ?_)
  refine zV_aload_n rfl rfl ?_
  refine zV_iconst (v := 0) rfl rfl ?_
  refine zV_putI rfl hs (by decide) rfl rfl rfl ?_
  have i1 : zuI I s 1 0 va = I va := if_neg (Ne.symm hsv)
  refine zV_aload_n rfl rfl ?_
  refine zV_aload_n rfl rfl ?_
  refine zV_iconst (v := 0) rfl rfl ?_
  refine zV_iload rfl rfl ?_
  refine zV_bud (bc := 1 + 0) (bs := 200 + 0) (by omega) (by omega) (zV_cs (av := [.ref va, .int 0, .int (Int32.ofNat t.length)]) (rest := [.ref s]) rfl rfl (Nat.le_of_ble_eq_true rfl) (Nat.le_of_ble_eq_true rfl) (zj_219 (d := d) b3 b5 (fun j => by rw [i1]; exact b11 j) hl b7) ?_ (by rintro x n K P I L - ⟨hv, -⟩; cases hv))
  rintro v n' K' P' I' L' ⟨hv, e1, e2, e3, e4, e5⟩
  cases hv
  rw [e1, e2, e3, e4, e5]
  have hsn : s ≠ n := by omega
  have hvn : va ≠ n := by omega
  have k1 : zuK K n (103, t.length) s = some (0, 4) := (if_neg hsn).trans hs
  refine zV_putR rfl k1 (by decide) rfl rfl rfl ?_
  refine zV_goto 97 rfl rfl ?_
  have i2 : ∀ j, j < t.length → zuB (z0I (zuI I s 1 0) n) va n 0 t.length n j = I va j := fun j hj => by
    have e : zuB (z0I (zuI I s 1 0) n) va n 0 t.length n = va_cpy (z0I (zuI I s 1 0) n va) (z0I (zuI I s 1 0) n n) 0 0 t.length := if_pos rfl
    have e2 : z0I (zuI I s 1 0) n va = I va := (if_neg hvn).trans i1
    rw [e, e2]
    unfold va_cpy
    rw [if_pos ⟨Nat.zero_le _, by omega⟩, show 0 + (j - 0) = j by omega]
  have i3 : zuB (z0I (zuI I s 1 0) n) va n 0 t.length s 1 = 0 := by
    have e : zuB (z0I (zuI I s 1 0) n) va n 0 t.length s = zuI I s 1 0 s := (if_neg hsn).trans (if_neg hsn)
    rw [e]
    simp [zuI, upd]
  refine zV_vret rfl rfl ⟨rfl, rfl, ⟨0, 4, 103, k1, Or.inr rfl, by simp [zuP, va_up], if_pos rfl, Or.inr rfl, i3, fun j x hj => ?_⟩, fun q q1 q2 => ?_⟩
  · obtain ⟨g1, g2, g3⟩ := b10 j x hj
    rw [i2 j (List.getElem?_eq_some_iff.mp hj).1]
    exact ⟨g1, g2, g3⟩
  · have hqn : q ≠ n := by omega
    have e1 : zuK K n (103, t.length) q = K q := if_neg hqn
    have e2 : zuP (z0P P n) s 0 (some n) q = P q := (if_neg q2).trans (if_neg hqn)
    have e3 : zuB (z0I (zuI I s 1 0) n) va n 0 t.length q = I q := (if_neg hqn).trans ((if_neg hqn).trans (if_neg q2))
    have e4 : z0L L n q = L q := if_neg hqn
    exact ⟨e1, e2, e3, e4⟩
theorem zj_195 (hb : zBc cap n K P I b va t) (hs : K s = some (0, 4)) (h1 : s < n) (hsb : s ≠ b) (hsv : s ≠ va) (hl : t.length < cap) : zC l X (d + 4) 1 200 195 [.ref s, .ref b] n K P I L (zPS n K P I L s t) := by
  unfold zC
  refine zV_ls (ls' := [(0, .ref s), (1, .ref b)]) rfl ?_
  refine zV_aload_n rfl rfl ?_
  refine zV_aload_n rfl rfl ?_
  refine zV_aconst_null rfl ?_
  refine zV_bud (bc := 1 + 0) (bs := 200 + 0) (by omega) (by omega) (zV_ci (av := [.ref b, .null]) (rest := []) rfl rfl (Nat.le_of_ble_eq_true rfl) (Nat.le_of_ble_eq_true rfl) (zj_199 (d := d) hb hs h1 hsb hsv hl) ?_ (by rintro x n K P I L - ⟨hv, -⟩; cases hv))
  rintro v n' K' P' I' L' ⟨hv, h⟩
  cases hv
  exact zV_vret rfl rfl ⟨rfl, h⟩
theorem zj_207 (hb : zBc cap n K P I b va t) (hl : t.length < cap) : zC l X (d + 5) 2 204 207 [.ref b] n K P I L (fun r n' K' P' I' L' => r = .inl (some (.ref n)) ∧ zMade n K P I L n' K' P' I' L' n t) := by
  obtain ⟨b1, b2, b3, b4, b5, b6, b7, b8, b9, b10, b11⟩ := id hb
  unfold zC
  refine zV_ls (ls' := [(0, .ref b)]) rfl ?_
  refine zV_bud (bc := 1 + 1) (bs := 200 + zN 0) (by omega) (by show _ + 4 ≤ _; omega) (zV_new rfl (by decide) ?_)
  refine zV_dup rfl rfl ?_
  refine zV_aload_n rfl rfl ?_
  have hbn : b ≠ n := by omega
  have hvn : va ≠ n := by omega
  have hb2 : zBc cap (n + 1) (zuK K n (0, zN 0)) (z0P P n) (z0I I n) b va t := by
    have e1 : zuK K n (0, zN 0) b = K b := if_neg hbn
    have e2 : z0P P n b = P b := if_neg hbn
    have e3 : z0I I n b = I b := if_neg hbn
    have e4 : zuK K n (0, zN 0) va = K va := if_neg hvn
    have e5 : z0I I n va = I va := if_neg hvn
    exact ⟨by rw [e1]; exact b1, by rw [e2]; exact b2, by rw [e4]; exact b3, b4, by omega, b6, b7, by rw [e3]; exact b8, by rw [e3]; exact b9, fun j x hj => by rw [e5]; exact b10 j x hj, fun j => by rw [e5]; exact b11 j⟩
  refine zV_bud (bc := 1 + 0) (bs := 200 + 0) (by omega) (by omega) (zV_ci (av := [.ref b]) (rest := [.ref n]) rfl rfl (Nat.le_of_ble_eq_true rfl) (Nat.le_of_ble_eq_true rfl) (zj_195 (d := d) hb2 (if_pos rfl) (by omega) (Ne.symm hbn) (Ne.symm hvn) hl) ?_ (by rintro x n K P I L - ⟨hv, -⟩; cases hv))
  rintro v n' K' P' I' L' ⟨hv, hn, ⟨k1, m1, k2, s1, s2, s3, s4, s5, s6, s7⟩, hk⟩
  cases hv
  refine zV_aret rfl rfl (Or.inl ⟨_, rfl⟩) ⟨rfl, by omega, ⟨n + 1, k1, m1, k2, by omega, by omega, s1, s2, s3, s4, s5, s6, s7⟩, fun q hq => ?_⟩
  have hqn : q ≠ n := by omega
  obtain ⟨g1, g2, g3, g4⟩ := hk q (by omega) hqn
  exact ⟨g1.trans (if_neg hqn), g2.trans (if_neg hqn), g3.trans (if_neg hqn), g4.trans (if_neg hqn)⟩
end ZJT
