/-! THE JDK'S METHODS ON TEXTS THAT CHANGE NOTHING -/
section ZJQ
variable {l : Launch} {X : zX} {d n : Nat} {K : zKT} {P : zPT} {I : zIT} {L : zLT} {b va : Nat} {t : List Int32}
theorem zsq {v : Value} : zSame n K P I L v (.inl (some v)) n K P I L := ⟨rfl, rfl, rfl, rfl, rfl, rfl⟩
theorem zj_180 (hb : zBd n K P I b va t) : zC l X (d) 0 0 180 [.ref b] n K P I L (zSame n K P I L (.int (Int32.ofNat t.length))) := by
  obtain ⟨cap, b1, b2, b3, b4, b5, b6, b7, b8, b9, b10, b11⟩ := hb
  unfold zC
  refine zV_ls (ls' := [(0, .ref b)]) rfl ?_
  refine zV_aload_n rfl rfl ?_
  refine zV_getI rfl b1 (by decide) rfl ?_
  rw [b9]
  exact zV_ret rfl rfl rfl zsq
theorem zj_188 (hb : zBd n K P I b va t) : zC l X (d) 0 0 188 [.ref b] n K P I L (zSame n K P I L (.ref va)) := by
  obtain ⟨cap, b1, b2, b3, b4, b5, b6, b7, b8, b9, b10, b11⟩ := hb
  unfold zC
  refine zV_ls (ls' := [(0, .ref b)]) rfl ?_
  refine zV_aload_n rfl rfl ?_
  refine zV_getR rfl b1 (by decide) rfl b2 ?_
  exact zV_aret rfl rfl (Or.inr ⟨_, rfl⟩) zsq
theorem zj_189 (hb : zBd n K P I b va t) : zC l X (d) 0 0 189 [.ref b] n K P I L (zSame n K P I L (.int 1)) := by
  obtain ⟨cap, b1, b2, b3, b4, b5, b6, b7, b8, b9, b10, b11⟩ := hb
  unfold zC
  refine zV_ls (ls' := [(0, .ref b)]) rfl ?_
  refine zV_gets0 rfl ?_
  refine zV_if_eq 17 rfl rfl (fun h => absurd h (by decide)) (fun h => ?_)
  refine zV_aload_n rfl rfl ?_
  refine zV_getI rfl b1 (by decide) rfl ?_
  rw [b8]
  refine zV_if_ne 17 rfl rfl (fun h => absurd rfl h) (fun h => ?_)
  refine zV_iconst (v := 1) rfl rfl ?_
  refine zV_goto 18 rfl rfl ?_
  exact zV_ret rfl rfl rfl zsq
theorem zj_210 (hb : zBd n K P I b va t) : zC l X (d + 1) 0 0 210 [.ref b] n K P I L (zSame n K P I L (.int (Int32.ofNat t.length))) := by
  have hb0 := hb
  obtain ⟨cap, b1, b2, b3, b4, b5, b6, b7, b8, b9, b10, b11⟩ := hb
  unfold zC
  refine zV_ls (ls' := [(0, .ref b)]) rfl ?_
  refine zV_aload_n rfl rfl ?_
  refine zV_csuq (av := []) (rest := []) rfl rfl (by decide) b1 rfl (Nat.le_of_ble_eq_true rfl) (Nat.le_of_ble_eq_true rfl) (zj_180 (d := d) hb0) ?_
  exact zV_ret rfl rfl rfl zsq
theorem zj_222n {i len : Int32} (h0 : 0 ≤ i) (h1 : i < len) : zC l X (d) 0 0 222 [.int i, .int len, .null] n K P I L (zSame n K P I L (.int i)) := by
  unfold zC
  refine zV_ls (ls' := [(0, .int i), (1, .int len), (2, .null)]) rfl ?_
  refine zV_iload_n rfl rfl ?_
  refine zV_if_lt 9 rfl rfl (fun h => absurd h (Int32.not_lt.mpr h0)) (fun h => ?_)
  refine zV_iload_n rfl rfl ?_
  refine zV_iload_n rfl rfl ?_
  refine zV_icmp_lt 16 rfl rfl (fun h => ?_) (fun h => absurd h1 h)
  refine zV_iload_n rfl rfl ?_
  exact zV_ret rfl rfl rfl zsq
theorem zj_222r {i len : Int32} {q : Nat} (h0 : 0 ≤ i) (h1 : i < len) : zC l X (d) 0 0 222 [.int i, .int len, .ref q] n K P I L (zSame n K P I L (.int i)) := by
  unfold zC
  refine zV_ls (ls' := [(0, .int i), (1, .int len), (2, .ref q)]) rfl ?_
  refine zV_iload_n rfl rfl ?_
  refine zV_if_lt 9 rfl rfl (fun h => absurd h (Int32.not_lt.mpr h0)) (fun h => ?_)
  refine zV_iload_n rfl rfl ?_
  refine zV_iload_n rfl rfl ?_
  refine zV_icmp_lt 16 rfl rfl (fun h => ?_) (fun h => absurd h1 h)
  refine zV_iload_n rfl rfl ?_
  exact zV_ret rfl rfl rfl zsq
/-- nothing is given back and nothing changes -/
def zSam0 (n : Nat) (K : zKT) (P : zPT) (I : zIT) (L : zLT) : zPost := fun r n' K' P' I' L' => r = .inl none ∧ n' = n ∧ K' = K ∧ P' = P ∧ I' = I ∧ L' = L
theorem zj_202 {i len : Int32} (h0 : 0 ≤ i) (h1 : i < len) : zC l X (d + 1) 0 0 202 [.int i, .int len] n K P I L (zSam0 n K P I L) := by
  unfold zC
  refine zV_ls (ls' := [(0, .int i), (1, .int len)]) rfl ?_
  refine zV_iload_n rfl rfl ?_
  refine zV_iload_n rfl rfl ?_
  refine zV_gets3 rfl ?_ (fun q => ?_)
  · refine zV_csq (av := [.int i, .int len, .null]) (rest := []) rfl rfl (Nat.le_of_ble_eq_true rfl) (Nat.le_of_ble_eq_true rfl) (zj_222n (d := d) h0 h1) ?_
    refine zV_pop rfl rfl ?_
    exact zV_vret rfl rfl ⟨rfl, rfl, rfl, rfl, rfl, rfl⟩
  · refine zV_csq (av := [.int i, .int len, .ref q]) (rest := []) rfl rfl (Nat.le_of_ble_eq_true rfl) (Nat.le_of_ble_eq_true rfl) (zj_222r (d := d) h0 h1) ?_
    refine zV_pop rfl rfl ?_
    exact zV_vret rfl rfl ⟨rfl, rfl, rfl, rfl, rfl, rfl⟩
theorem zj_200 {a k1 m1 : Nat} (hK : K a = some (k1, m1)) (hk : k1 = 120 ∨ k1 = 0) (hI : I a 1 = 0) : zC l X (d) 0 0 200 [.ref a] n K P I L (zSame n K P I L (.int 0)) := by
  unfold zC
  refine zV_ls (ls' := [(0, .ref a)]) rfl ?_
  refine zV_gets0 rfl ?_
  refine zV_if_eq 13 rfl rfl (fun h => absurd h (by decide)) (fun h => ?_)
  refine zV_aload_n rfl rfl ?_
  refine zV_gSI rfl hK hk ?_
  rw [hI]
  refine zV_goto 14 rfl rfl ?_
  exact zV_ret rfl rfl rfl zsq
theorem zj_201 {a k1 m1 : Nat} (hK : K a = some (k1, m1)) (hk : k1 = 120 ∨ k1 = 0) (hI : I a 1 = 0) : zC l X (d) 0 0 201 [.ref a] n K P I L (zSame n K P I L (.int 1)) := by
  unfold zC
  refine zV_ls (ls' := [(0, .ref a)]) rfl ?_
  refine zV_gets0 rfl ?_
  refine zV_if_eq 17 rfl rfl (fun h => absurd h (by decide)) (fun h => ?_)
  refine zV_aload_n rfl rfl ?_
  refine zV_gSI rfl hK hk ?_
  rw [hI]
  refine zV_if_ne 17 rfl rfl (fun h => absurd rfl h) (fun h => ?_)
  refine zV_iconst (v := 1) rfl rfl ?_
  refine zV_goto 18 rfl rfl ?_
  exact zV_ret rfl rfl rfl zsq
end ZJQ
