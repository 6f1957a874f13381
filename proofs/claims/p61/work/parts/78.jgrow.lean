/-! HOW A BUILDER GROWS -/
theorem zqi {a : Nat} (h : a < 2147483648) : (Int32.ofNat a).toInt = (a : Int) := Int32.toInt_ofNat_of_lt (by omega)
theorem zqn {a : Nat} (h : a < 2147483648) : (Int32.ofNat a).toNatClampNeg = a := by
  show (Int32.ofNat a).toInt.toNat = a
  rw [zqi h]
  rfl
theorem zqa (a b : Nat) : Int32.ofNat a + Int32.ofNat b = Int32.ofNat (a + b) := (Int32.ofNat_add a b).symm
theorem zqs {a b : Nat} (h : b ≤ a) : Int32.ofNat a - Int32.ofNat b = Int32.ofNat (a - b) := by
  have e : Int32.ofNat a = Int32.ofNat (a - b) + Int32.ofNat b := by rw [zqa, Nat.sub_add_cancel h]
  rw [e]
  exact Int32.add_sub_cancel _ _
theorem zql {a b : Nat} (ha : a < 2147483648) (hb : b < 2147483648) : Int32.ofNat a < Int32.ofNat b ↔ a < b := by
  rw [Int32.lt_iff_toInt_lt, zqi ha, zqi hb]
  omega
theorem zqL {a b : Nat} (ha : a < 2147483648) (hb : b < 2147483648) : Int32.ofNat a ≤ Int32.ofNat b ↔ a ≤ b := by
  rw [Int32.le_iff_toInt_le, zqi ha, zqi hb]
  omega
theorem zqe {a b : Nat} (ha : a < 2147483648) (hb : b < 2147483648) : Int32.ofNat a = Int32.ofNat b ↔ a = b := by
  refine ⟨fun h => ?_, fun h => by rw [h]⟩
  have h2 := congrArg Int32.toInt h
  rw [zqi ha, zqi hb] at h2
  omega
theorem zqM {a b : Nat} (ha : a < 2147483648) (hb : b < 2147483648) : (if Int32.ofNat a < Int32.ofNat b then Int32.ofNat b else Int32.ofNat a) = Int32.ofNat (max a b) := by
  by_cases h : a < b
  · rw [if_pos ((zql ha hb).mpr h), Nat.max_eq_right (by omega)]
  · rw [if_neg (fun q => h ((zql ha hb).mp q)), Nat.max_eq_left (by omega)]
theorem zqm {a b : Nat} (ha : a < 2147483648) (hb : b < 2147483648) : (if Int32.ofNat b < Int32.ofNat a then Int32.ofNat b else Int32.ofNat a) = Int32.ofNat (min a b) := by
  by_cases h : b < a
  · rw [if_pos ((zql hb ha).mpr h), Nat.min_eq_right (by omega)]
  · rw [if_neg (fun q => h ((zql hb ha).mp q)), Nat.min_eq_left (by omega)]
theorem zsub_le0 {m cap : Nat} (h : m ≤ cap) (hc : cap ≤ 1000) : Int32.ofNat m - Int32.ofNat cap ≤ 0 := by
  rw [Int32.le_iff_toInt_le]
  have h3 : (Int32.ofNat m - Int32.ofNat cap).toInt = (m : Int) - (cap : Int) := by
    rw [Int32.toInt_sub, zqi (by omega), zqi (by omega)]
    exact Int.bmod_eq_of_le (by omega) (by omega)
  rw [h3]
  show (m : Int) - cap ≤ 0
  omega
theorem zshl0 (x : Int32) : x <<< ((0 : Int32) &&& 31) = x := by
  have e : (0 : Int32) &&& 31 = 0 := by decide
  rw [e]
  simp
/-- a StringBuilder with room for cap bytes -/
def zBc (cap n : Nat) (K : zKT) (P : zPT) (I : zIT) (b va : Nat) (t : List Int32) : Prop :=
  K b = some (1, 4) ∧ P b 0 = some va ∧ K va = some (103, cap) ∧ b < va ∧ va < n ∧ t.length ≤ cap ∧ cap ≤ 200 ∧ I b 1 = 0 ∧ I b 3 = Int32.ofNat t.length ∧ (∀ (j : Nat) (x : Int32), t[j]? = some x → I va j = x ∧ 0 ≤ x ∧ x < 128) ∧ ∀ j : Nat, fits .byte (.int (I va j)) = true
theorem zBd_c {n : Nat} {K : zKT} {P : zPT} {I : zIT} {b va : Nat} {t : List Int32} (h : zBd n K P I b va t) : ∃ cap, zBc cap n K P I b va t := h
section ZJE
variable {l : Launch} {X : zX} {d n : Nat} {K : zKT} {P : zPT} {I : zIT} {L : zLT} {b va cap : Nat} {t : List Int32}
theorem zj_221 {a c e : Nat} (ha : a ≤ 1000) (hc : c ≤ 1000) (he : e ≤ 1000) (h0 : 0 < max c e) : zC l X (d + 1) 0 0 221 [.int (Int32.ofNat a), .int (Int32.ofNat c), .int (Int32.ofNat e)] n K P I L (zSame n K P I L (.int (Int32.ofNat (a + max c e)))) := by
  have hm : max c e ≤ 1000 := Nat.max_le.mpr ⟨hc, he⟩
  unfold zC
  refine zV_ls (ls' := [(0, .int (Int32.ofNat a)), (1, .int (Int32.ofNat c)), (2, .int (Int32.ofNat e))]) rfl ?_
  refine zV_iload_n rfl rfl ?_
  refine zV_iload_n rfl rfl ?_
  refine zV_iload_n rfl rfl ?_
  refine zV_mmax rfl (Nat.le_of_ble_eq_true rfl) ?_
  rw [zqM (by omega) (by omega)]
  refine zV_iadd rfl ?_
  rw [zqa]
  refine zV_istore_n rfl (by decide) rfl ?_
  refine zV_iconst (v := 0) rfl rfl ?_
  refine zV_iload_n rfl rfl ?_
  refine zV_icmp_ge 21 rfl rfl (fun h => absurd ((zqL (a := a + max c e) (b := 0) (by omega) (by omega)).mp h) (by omega)) (fun h => ?_)
  refine zV_iload_n rfl rfl ?_
  refine zV_ldcI rfl ?_
  refine zV_icmp_gt 21 rfl rfl (fun h => absurd ((zql (a := 2147483639) (by omega) (by omega)).mp h) (by omega)) (fun h => ?_)
  refine zV_iload_n rfl rfl ?_
  exact zV_ret rfl rfl rfl zsq
theorem zj_182 {m : Nat} (hb : zBc cap n K P I b va t) (hm : cap < m) (hm2 : m ≤ 64) : zC l X (d + 2) 0 0 182 [.ref b, .int (Int32.ofNat m)] n K P I L (zSame n K P I L (.int (Int32.ofNat (cap + max (m - cap) (cap + 2))))) := by
  obtain ⟨b1, b2, b3, b4, b5, b6, b7, b8, b9, b10, b11⟩ := id hb
  have hx : max (m - cap) (cap + 2) ≤ 66 := Nat.max_le.mpr ⟨by omega, by omega⟩
  unfold zC
  refine zV_ls (ls' := [(0, .ref b), (1, .int (Int32.ofNat m))]) rfl ?_
  refine zV_aload_n rfl rfl ?_
  refine zV_getR rfl b1 (by decide) rfl b2 ?_
  refine zV_alen rfl b3 (by omega) rfl ?_
  refine zV_istore_n rfl (by decide) rfl ?_
  refine zV_iload_n rfl rfl ?_
  refine zV_aload_n rfl rfl ?_
  refine zV_getI rfl b1 (by decide) rfl ?_
  rw [b8]
  refine zV_ishl rfl ?_
  rw [zshl0]
  refine zV_istore_n rfl (by decide) rfl ?_
  refine zV_iload_n rfl rfl ?_
  refine zV_iload_n rfl rfl ?_
  refine zV_isub rfl ?_
  rw [zqs (Nat.le_of_lt hm)]
  refine zV_istore rfl (by decide) rfl ?_
  refine zV_iload_n rfl rfl ?_
  refine zV_iload rfl rfl ?_
  refine zV_iload_n rfl rfl ?_
  refine zV_iconst (v := Int32.ofNat 2) rfl rfl ?_
  refine zV_aload_n rfl rfl ?_
  refine zV_getI rfl b1 (by decide) rfl ?_
  rw [b8]
  refine zV_ishl rfl ?_
  rw [zshl0]
  refine zV_iadd rfl ?_
  rw [zqa]
  refine zV_csq (av := [.int (Int32.ofNat cap), .int (Int32.ofNat (m - cap)), .int (Int32.ofNat (cap + 2))]) (rest := []) rfl rfl (Nat.le_of_ble_eq_true rfl) (Nat.le_of_ble_eq_true rfl) (zj_221 (d := d) (by omega) (by omega) (by omega) (by have := Nat.le_max_right (m - cap) (cap + 2); omega)) ?_
  refine zV_istore rfl (by decide) rfl ?_
  refine zV_iload rfl rfl ?_
  refine zV_ldcI rfl ?_
  refine zV_icmp_ne 51 rfl rfl (fun h => ?_) (fun h => absurd ((zqe (b := 2147483647) (by omega) (by omega)).mp h) (by omega))
  refine zV_iload rfl rfl ?_
  refine zV_aload_n rfl rfl ?_
  refine zV_getI rfl b1 (by decide) rfl ?_
  rw [b8]
  refine zV_ishr rfl ?_
  rw [zshr0]
  exact zV_ret rfl rfl rfl zsq
theorem zj_217 {N : Nat} (hK : K va = some (103, cap)) (hva : va < n) (hf : ∀ j : Nat, fits .byte (.int (I va j)) = true) (hc : cap < N) (hN : N ≤ 200) : zC l X (d + 1) 1 N 217 [.ref va, .int (Int32.ofNat N)] n K P I L (fun r n' K' P' I' L' => r = .inl (some (.ref n)) ∧ n' = n + 1 ∧ K' = zuK K n (103, N) ∧ P' = z0P P n ∧ I' = zuB (z0I I n) va n 0 cap ∧ L' = z0L L n) := by
  have hne : va ≠ n := by omega
  have k1 : zuK K n (103, N) va = some (103, cap) := (if_neg hne).trans hK
  have k2 : zuK K n (103, N) n = some (103, N) := if_pos rfl
  have i1 : z0I I n va = I va := if_neg hne
  unfold zC
  refine zV_ls (ls' := [(0, .ref va), (1, .int (Int32.ofNat N))]) rfl ?_
  refine zV_iload_n rfl rfl ?_
  refine zV_aload_n rfl rfl ?_
  refine zV_alen rfl hK (by omega) rfl ?_
  refine zV_icmp_ne 14 rfl rfl (fun h => ?_) (fun h => absurd ((zqe (by omega) (by omega)).mp h) (by omega))
  refine zV_iload_n rfl rfl ?_
  refine zV_bud (bc := 0 + 1) (bs := 0 + N) (by omega) (by omega) (zV_newa rfl (by omega) rfl (fun q => absurd ((zql (b := 0) (by omega) (by omega)).mp q) (by omega)) (zqn (by omega)) (by show N * 1 ≤ _; omega) ?_)
  refine zV_astore_n rfl (by decide) rfl ?_
  refine zV_aload_n rfl rfl ?_
  refine zV_iconst (v := 0) rfl rfl ?_
  refine zV_aload_n rfl rfl ?_
  refine zV_iconst (v := 0) rfl rfl ?_
  refine zV_aload_n rfl rfl ?_
  refine zV_alen rfl k1 (by omega) rfl ?_
  refine zV_iload_n rfl rfl ?_
  refine zV_mmin rfl (Nat.le_of_ble_eq_true rfl) ?_
  rw [zqm (by omega) (by omega), Nat.min_eq_left (Nat.le_of_lt hc)]
  refine zV_copyB rfl k1 (Or.inl rfl) k2 (fun q => absurd ((zql (b := 0) (by omega) (by omega)).mp q) (by omega)) (by decide) (by rw [zqn (by omega)]; omega) (by rw [zqn (by omega)]; show 0 + cap ≤ N; omega) (fun i _ => by rw [i1]; exact hf i) (Nat.le_of_ble_eq_true rfl) ?_
  rw [zqn (a := cap) (by omega)]
  refine zV_aload_n rfl rfl ?_
  exact zV_aret rfl rfl (Or.inr ⟨_, rfl⟩) ⟨rfl, rfl, rfl, rfl, rfl, rfl⟩
def zgrw (cap m : Nat) : Nat := if m ≤ cap then cap else cap + max (m - cap) (cap + 2)
theorem zgrw_le (cap m : Nat) : m ≤ zgrw cap m := by
  unfold zgrw
  split
  · assumption
  · have := Nat.le_max_left (m - cap) (cap + 2)
    omega
theorem zgrw_200 {cap m : Nat} (hc : cap ≤ 200) (hm : m ≤ 64) : zgrw cap m ≤ 200 := by
  unfold zgrw
  split
  · exact hc
  · have hx : max (m - cap) (cap + 2) ≤ 66 := Nat.max_le.mpr ⟨by omega, by omega⟩
    omega
def zPE (cap n : Nat) (K : zKT) (P : zPT) (I : zIT) (L : zLT) (b va : Nat) (t : List Int32) (m : Nat) : zPost := fun r n' K' P' I' L' => r = .inl none ∧ ∃ va' cap', zBc cap' n' K' P' I' b va' t ∧ cap' = zgrw cap m ∧ zKeep n K P I L b va va' n' K' P' I' L'
theorem zKeep_0 : zKeep n K P I L b va va n K P I L := ⟨Nat.le_refl _, Or.inl rfl, fun _ _ _ _ => ⟨rfl, rfl, rfl, rfl⟩⟩
theorem zj_181 {m B : Nat} (hB : m ≤ cap ∨ zgrw cap m ≤ B) (hb : zBc cap n K P I b va t) (hm2 : m ≤ 64) : zC l X (d + 3) 1 B 181 [.ref b, .int (Int32.ofNat m)] n K P I L (zPE cap n K P I L b va t m) := by
  obtain ⟨b1, b2, b3, b4, b5, b6, b7, b8, b9, b10, b11⟩ := id hb
  unfold zC
  refine zV_ls (ls' := [(0, .ref b), (1, .int (Int32.ofNat m))]) rfl ?_
  refine zV_aload_n rfl rfl ?_
  refine zV_getR rfl b1 (by decide) rfl b2 ?_
  refine zV_alen rfl b3 (by omega) rfl ?_
  refine zV_aload_n rfl rfl ?_
  refine zV_getI rfl b1 (by decide) rfl ?_
  rw [b8]
  refine zV_ishr rfl ?_
  rw [zshr0]
  refine zV_istore_n rfl (by decide) rfl ?_
  refine zV_iload_n rfl rfl ?_
  refine zV_iload_n rfl rfl ?_
  refine zV_isub rfl ?_
  refine zV_if_le 38 rfl rfl (fun h => ?_) (fun h => ?_)
  · refine zV_vret rfl rfl ⟨rfl, va, cap, hb, (if_pos ?_).symm, zKeep_0⟩
    rcases Nat.lt_or_ge cap m with hlt | hge
    · rw [zqs (Nat.le_of_lt hlt)] at h
      have := (zqL (b := 0) (by omega) (by omega)).mp h
      omega
    · exact hge
  · have hlt : cap < m := by
      rcases Nat.lt_or_ge cap m with hlt | hge
      · exact hlt
      · exact absurd (zsub_le0 hge (by omega)) h
    have hx : max (m - cap) (cap + 2) ≤ 66 := Nat.max_le.mpr ⟨by omega, by omega⟩
    have hy := Nat.le_max_left (m - cap) (cap + 2)
    have hz := Nat.le_max_right (m - cap) (cap + 2)
    obtain ⟨N, hN⟩ : ∃ N, cap + max (m - cap) (cap + 2) = N := ⟨_, rfl⟩
    have hNB : N ≤ B := by
      have e : zgrw cap m = N := (if_neg (by omega)).trans hN
      rw [e] at hB
      omega
    refine zV_aload_n rfl rfl ?_
    refine zV_aload_n rfl rfl ?_
    refine zV_getR rfl b1 (by decide) rfl b2 ?_
    refine zV_aload_n rfl rfl ?_
    refine zV_iload_n rfl rfl ?_
    refine zV_cuq (av := [.int (Int32.ofNat m)]) (rest := [.ref va, .ref b]) rfl (Or.inr rfl) (by decide) b1 rfl (Nat.le_of_ble_eq_true rfl) (Nat.le_of_ble_eq_true rfl) (zj_182 (d := d) hb hlt hm2) ?_
    rw [hN]
    refine zV_aload_n rfl rfl ?_
    refine zV_getI rfl b1 (by decide) rfl ?_
    rw [b8]
    refine zV_ishl rfl ?_
    rw [zshl0]
    refine zV_bud (bc := 1 + 0) (bs := N + 0) (by omega) (by omega) (zV_cs (av := [.ref va, .int (Int32.ofNat N)]) (rest := [.ref b]) rfl rfl (Nat.le_of_ble_eq_true rfl) (Nat.le_of_ble_eq_true rfl) (zj_217 (d := d + 1) (N := N) b3 b5 b11 (by omega) (by omega)) ?_ (by rintro x n K P I L - ⟨hv, -⟩; cases hv))
    rintro v n' K' P' I' L' ⟨hv, rfl, rfl, rfl, rfl, rfl⟩
    cases hv
    have hbn : b ≠ n := by omega
    have hvn : va ≠ n := by omega
    have k1 : zuK K n (103, N) b = some (1, 4) := (if_neg hbn).trans b1
    refine zV_putR rfl k1 (by decide) rfl rfl rfl ?_
    have p1 : zuP (z0P P n) b 0 (some n) b 0 = some n := by simp [zuP, va_up]
    have i1 : zuB (z0I I n) va n 0 cap b = I b := (if_neg hbn).trans (if_neg hbn)
    have i2 : zuB (z0I I n) va n 0 cap n = va_cpy (I va) (fun _ => 0) 0 0 cap := by
      show (if n = n then va_cpy (z0I I n va) (z0I I n n) 0 0 cap else _) = _
      rw [if_pos rfl]
      congr 1
      · exact if_neg hvn
      · exact if_pos rfl
    refine zV_vret rfl rfl ⟨rfl, n, N, ⟨k1, p1, if_pos rfl, by omega, by omega, by omega, by omega, by rw [i1]; exact b8, by rw [i1]; exact b9, fun j x hj => ?_, fun j => ?_⟩, hN.symm.trans (if_neg (by omega)).symm, ⟨by omega, Or.inr (Nat.le_refl _), fun q h1 h2 h3 => ?_⟩⟩
    · have hjl := (List.getElem?_eq_some_iff.mp hj).1
      obtain ⟨g1, g2, g3⟩ := b10 j x hj
      refine ⟨?_, g2, g3⟩
      rw [i2]
      unfold va_cpy
      rw [if_pos ⟨Nat.zero_le _, by omega⟩, show 0 + (j - 0) = j by omega]
      exact g1
    · rw [i2]
      unfold va_cpy
      split
      · exact b11 _
      · rfl
    · have hqn : q ≠ n := by omega
      have e1 : zuK K n (103, N) q = K q := if_neg hqn
      have e2 : zuP (z0P P n) b 0 (some n) q = P q := (if_neg h2).trans (if_neg hqn)
      have e3 : zuB (z0I I n) va n 0 cap q = I q := (if_neg hqn).trans (if_neg hqn)
      have e4 : z0L L n q = L q := if_neg hqn
      exact ⟨e1, e2, e3, e4⟩
theorem zj_181z {m : Nat} (hb : zBc cap n K P I b va t) (hm : m ≤ cap) : zC l X d 0 0 181 [.ref b, .int (Int32.ofNat m)] n K P I L (zSam0 n K P I L) := by
  obtain ⟨b1, b2, b3, b4, b5, b6, b7, b8, b9, b10, b11⟩ := id hb
  unfold zC
  refine zV_ls (ls' := [(0, .ref b), (1, .int (Int32.ofNat m))]) rfl ?_
  refine zV_aload_n rfl rfl ?_
  refine zV_getR rfl b1 (by decide) rfl b2 ?_
  refine zV_alen rfl b3 (by omega) rfl ?_
  refine zV_aload_n rfl rfl ?_
  refine zV_getI rfl b1 (by decide) rfl ?_
  rw [b8]
  refine zV_ishr rfl ?_
  rw [zshr0]
  refine zV_istore_n rfl (by decide) rfl ?_
  refine zV_iload_n rfl rfl ?_
  refine zV_iload_n rfl rfl ?_
  refine zV_isub rfl ?_
  refine zV_if_le 38 rfl rfl (fun _ => ?_) (fun h => absurd (zsub_le0 hm (by omega)) h)
  exact zV_vret rfl rfl ⟨rfl, rfl, rfl, rfl, rfl, rfl⟩
end ZJE
