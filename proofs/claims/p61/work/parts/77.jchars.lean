/-! THE JDK'S charAt AND length -/
theorem z128 {x : Int32} (h0 : 0 ≤ x) (h1 : x < 128) : ((x &&& 255).toUInt32 % 65536).toInt32 = x := by
  have hall : ∀ k, k < 128 → ((Int32.ofNat k &&& 255).toUInt32 % 65536).toInt32 = Int32.ofNat k := by decide +kernel
  have g0 := Int32.le_iff_toInt_le.mp h0
  have g1 := Int32.lt_iff_toInt_lt.mp h1
  have z0 : (0 : Int32).toInt = 0 := rfl
  have z1 : (128 : Int32).toInt = 128 := rfl
  have e : Int32.ofNat x.toInt.toNat = x := by
    apply Int32.toInt.inj
    rw [Int32.toInt_ofNat_of_lt (by omega)]
    omega
  rw [← e]
  exact hall _ (by omega)
theorem znchar {x : Int32} (h0 : 0 ≤ x) (h1 : x < 128) : narrow .char (.int x) = .int x := by
  have hall : ∀ k, k < 128 → narrow .char (.int (Int32.ofNat k)) = .int (Int32.ofNat k) := by decide +kernel
  have g0 := Int32.le_iff_toInt_le.mp h0
  have g1 := Int32.lt_iff_toInt_lt.mp h1
  have z0 : (0 : Int32).toInt = 0 := rfl
  have z1 : (128 : Int32).toInt = 128 := rfl
  have e : Int32.ofNat x.toInt.toNat = x := by
    apply Int32.toInt.inj
    rw [Int32.toInt_ofNat_of_lt (by omega)]
    omega
  rw [← e]
  exact hall _ (by omega)
theorem zshr0 (x : Int32) : x >>> ((0 : Int32) &&& 31) = x := by
  have e : (0 : Int32) &&& 31 = 0 := by decide
  rw [e]
  simp
theorem zltN {i : Int32} {m : Nat} (h0 : 0 ≤ i) (h : i.toNatClampNeg < m) (hm : m < 2147483648) : i < Int32.ofNat m := by
  have g0 := Int32.le_iff_toInt_le.mp h0
  have z0 : (0 : Int32).toInt = 0 := rfl
  have h2 : i.toNatClampNeg = i.toInt.toNat := rfl
  rw [Int32.lt_iff_toInt_lt, Int32.toInt_ofNat_of_lt (by omega)]
  omega
theorem zvpN {i : Int32} {m : Nat} (h0 : 0 ≤ i) (h : i.toNatClampNeg < m) : vp_in i m := by
  have g0 := Int32.le_iff_toInt_le.mp h0
  have z0 : (0 : Int32).toInt = 0 := rfl
  rintro (q | q)
  · have := Int32.lt_iff_toInt_lt.mp q
    omega
  · omega
theorem zofle {a b : Nat} (h : a ≤ b) (hb : b < 2147483648) : Int32.ofNat a ≤ Int32.ofNat b := by
  rw [Int32.le_iff_toInt_le, Int32.toInt_ofNat_of_lt (by omega), Int32.toInt_ofNat_of_lt (by omega)]
  omega
section ZJR
variable {l : Launch} {X : zX} {d n : Nat} {K : zKT} {P : zPT} {I : zIT} {L : zLT} {b va : Nat} {t : List Int32}
theorem zj_184 {i x : Int32} (hb : zBd n K P I b va t) (h0 : 0 ≤ i) (hx : t[i.toNatClampNeg]? = some x) : zC l X (d + 2) 0 0 184 [.ref b, .int i] n K P I L (zSame n K P I L (.int x)) := by
  obtain ⟨cap, b1, b2, b3, b4, b5, b6, b7, b8, b9, b10, b11⟩ := hb
  have hlt := (List.getElem?_eq_some_iff.mp hx).1
  obtain ⟨q1, q2, q3⟩ := b10 _ _ hx
  unfold zC
  refine zV_ls (ls' := [(0, .ref b), (1, .int i)]) rfl ?_
  refine zV_aload_n rfl rfl ?_
  refine zV_getI rfl b1 (by decide) rfl ?_
  rw [b8]
  refine zV_istore_n rfl (by decide) rfl ?_
  refine zV_aload_n rfl rfl ?_
  refine zV_getR rfl b1 (by decide) rfl b2 ?_
  refine zV_astore_n rfl (by decide) rfl ?_
  refine zV_aload_n rfl rfl ?_
  refine zV_getI rfl b1 (by decide) rfl ?_
  rw [b9]
  refine zV_aload_n rfl rfl ?_
  refine zV_alen rfl b3 (by omega) rfl ?_
  refine zV_iload_n rfl rfl ?_
  refine zV_ishr rfl ?_
  rw [zshr0]
  refine zV_mmin rfl (Nat.le_of_ble_eq_true rfl) ?_
  rw [if_neg (Int32.not_lt.mpr (zofle b6 (by omega)))]
  refine zV_istore rfl (by decide) rfl ?_
  refine zV_iload_n rfl rfl ?_
  refine zV_iload rfl rfl ?_
  refine zV_bud (bc := 0 + 0) (bs := 0 + 0) (by omega) (by omega) (zV_cs (av := [.int i, .int (Int32.ofNat t.length)]) (rest := []) rfl rfl (Nat.le_of_ble_eq_true rfl) (Nat.le_of_ble_eq_true rfl) (zj_202 (d := d) h0 (zltN h0 hlt (by omega))) ?_ (by rintro x n K P I L - ⟨hv, -⟩; cases hv))
  rintro v n' K' P' I' L' ⟨hv, rfl, rfl, rfl, rfl, rfl⟩
  cases hv
  refine zV_iload_n rfl rfl ?_
  refine zV_if_ne 42 rfl rfl (fun h => absurd rfl h) (fun h => ?_)
  refine zV_aload_n rfl rfl ?_
  refine zV_iload_n rfl rfl ?_
  refine zV_bald rfl b3 (Or.inl rfl) (zvpN h0 (by omega)) ?_
  rw [q1]
  refine zV_sipush (v := 255) rfl rfl ?_
  refine zV_iand rfl ?_
  refine zV_i2c rfl (z128 q2 q3) ?_
  exact zV_ret rfl rfl (znchar q2 q3) zsq
theorem zj_208 {i x : Int32} (hb : zBd n K P I b va t) (h0 : 0 ≤ i) (hx : t[i.toNatClampNeg]? = some x) : zC l X (d + 3) 0 0 208 [.ref b, .int i] n K P I L (zSame n K P I L (.int x)) := by
  have hb0 := hb
  obtain ⟨cap, b1, b2, b3, b4, b5, b6, b7, b8, b9, b10, b11⟩ := hb
  obtain ⟨q1, q2, q3⟩ := b10 _ _ hx
  unfold zC
  refine zV_ls (ls' := [(0, .ref b), (1, .int i)]) rfl ?_
  refine zV_aload_n rfl rfl ?_
  refine zV_iload_n rfl rfl ?_
  refine zV_csuq (av := [.int i]) (rest := []) rfl rfl (by decide) b1 rfl (Nat.le_of_ble_eq_true rfl) (Nat.le_of_ble_eq_true rfl) (zj_184 (d := d) hb0 h0 hx) ?_
  exact zV_ret rfl rfl (znchar q2 q3) zsq
theorem zj_211 {i x : Int32} {a k2 : Nat} (hK : K a = some (k2, t.length)) (hk : k2 = 113 ∨ k2 = 103) (hl : t.length ≤ 1000) (h0 : 0 ≤ i) (hx : t[i.toNatClampNeg]? = some x) (q1 : I a i.toNatClampNeg = x) (q2 : 0 ≤ x) (q3 : x < 128) : zC l X (d + 2) 0 0 211 [.ref a, .int i] n K P I L (zSame n K P I L (.int x)) := by
  have hlt := (List.getElem?_eq_some_iff.mp hx).1
  unfold zC
  refine zV_ls (ls' := [(0, .ref a), (1, .int i)]) rfl ?_
  refine zV_iload_n rfl rfl ?_
  refine zV_aload_n rfl rfl ?_
  refine zV_alen rfl hK (by omega) rfl ?_
  refine zV_bud (bc := 0 + 0) (bs := 0 + 0) (by omega) (by omega) (zV_cs (av := [.int i, .int (Int32.ofNat t.length)]) (rest := []) rfl rfl (Nat.le_of_ble_eq_true rfl) (Nat.le_of_ble_eq_true rfl) (zj_202 (d := d) h0 (zltN h0 hlt (by omega))) ?_ (by rintro x n K P I L - ⟨hv, -⟩; cases hv))
  rintro v n' K' P' I' L' ⟨hv, rfl, rfl, rfl, rfl, rfl⟩
  cases hv
  refine zV_aload_n rfl rfl ?_
  refine zV_iload_n rfl rfl ?_
  refine zV_bald rfl hK (by omega) (zvpN h0 hlt) ?_
  rw [q1]
  refine zV_sipush (v := 255) rfl rfl ?_
  refine zV_iand rfl ?_
  refine zV_i2c rfl (z128 q2 q3) ?_
  exact zV_ret rfl rfl (znchar q2 q3) zsq
theorem zj_196 {a : Nat} (hs : zStr (fun _ => True) K P I a t) : zC l X (d + 1) 0 0 196 [.ref a] n K P I L (zSame n K P I L (.int (Int32.ofNat t.length))) := by
  obtain ⟨s2, k1, m1, k2, -, -, hK, hk, hP, hK2, hk2, hI, hch⟩ := hs
  unfold zC
  refine zV_ls (ls' := [(0, .ref a)]) rfl ?_
  refine zV_aload_n rfl rfl ?_
  refine zV_gSR rfl hK hk hP ?_
  refine zV_alen rfl hK2 (by omega) rfl ?_
  refine zV_aload_n rfl rfl ?_
  refine zV_cSq (av := []) (rest := [.int (Int32.ofNat t.length)]) rfl hK hk rfl rfl (Nat.le_of_ble_eq_true rfl) (Nat.le_of_ble_eq_true rfl) (zj_200 (d := d) hK hk hI) ?_
  refine zV_ishr rfl ?_
  rw [zshr0]
  exact zV_ret rfl rfl rfl zsq
theorem zj_197 {a : Nat} {i x : Int32} (hs : zStr (fun _ => True) K P I a t) (hl : t.length ≤ 1000) (h0 : 0 ≤ i) (hx : t[i.toNatClampNeg]? = some x) : zC l X (d + 3) 0 0 197 [.ref a, .int i] n K P I L (zSame n K P I L (.int x)) := by
  obtain ⟨s2, k1, m1, k2, -, -, hK, hk, hP, hK2, hk2, hI, hch⟩ := hs
  obtain ⟨q1, q2, q3⟩ := hch _ _ hx
  unfold zC
  refine zV_ls (ls' := [(0, .ref a), (1, .int i)]) rfl ?_
  refine zV_aload_n rfl rfl ?_
  refine zV_cSq (av := []) (rest := []) rfl hK hk rfl rfl (Nat.le_of_ble_eq_true rfl) (Nat.le_of_ble_eq_true rfl) (zj_201 (d := d + 2) hK hk hI) ?_
  refine zV_if_eq 16 rfl rfl (fun h => absurd h (by decide)) (fun h => ?_)
  refine zV_aload_n rfl rfl ?_
  refine zV_gSR rfl hK hk hP ?_
  refine zV_iload_n rfl rfl ?_
  refine zV_csq (av := [.ref s2, .int i]) (rest := []) rfl rfl (Nat.le_of_ble_eq_true rfl) (Nat.le_of_ble_eq_true rfl) (zj_211 (d := d) hK2 hk2 hl h0 hx q1 q2 q3) ?_
  exact zV_ret rfl rfl (znchar q2 q3) zsq
end ZJR
