/-! CONTRACTS: typing -/
theorem znarc {x : Int32} (h0 : 0 ≤ x.toInt) (h1 : x.toInt < 128) : vp_nar .char x = x := by
  have h : (List.range 128).all (fun k => decide (vp_nar .char (Int32.ofNat k) = Int32.ofNat k)) = true := by decide +kernel
  have h2 := of_decide_eq_true (List.all_eq_true.mp h x.toInt.toNat (List.mem_range.mpr (by omega)))
  rw [zofi h0] at h2
  exact h2
section ZWR10
variable {sl D dy mi pc : Nat} {ls : zLs} {st : List Value} {I : zM} {b : Nat} {R : Nat → Option Value → zM → Prop}
theorem zcis {len r1 r2 r3 a n : Nat} {i x : Int32} (h : zl mi pc = some (.castore, len, r1, r2, r3)) (ha : zkd sl a = some (102, n)) (hi : zin i n = true) (hx : vp_nar .char x = x) (kk : zW sl D dy mi (pc + len) ls st (zup I a i.toNatClampNeg x) (zRg b R)) : zW sl D dy mi pc ls (.int x :: .int i :: .ref a :: st) I (zRg b R) :=
  zW_n h (by simp only [zstep, ha, hi, hx]; rfl) kk
theorem zstl {idx len r3 a : Nat} {t : List Int32} (h : zl mi pc = some (.invokevirtual idx, len, 196, 3, r3)) (hm : zsm (.ref a :: st) = true) (ht : ztx dy a = some t)
    (k : zW sl D dy mi (pc + len) ls (.int (Int32.ofNat t.length) :: st) I (zRg b R)) : zW sl D dy mi pc ls (.ref a :: st) I (zRg b R) := by
  refine zinv (b2 := b) (u := 0) h rfl hm ?_ k (Nat.le_refl _)
  simp only [zprim, ht]
  rfl
theorem zstc {idx len r3 a : Nat} {i x : Int32} {t : List Int32} (h : zl mi pc = some (.invokevirtual idx, len, 197, 3, r3)) (hm : zsm (.int i :: .ref a :: st) = true) (ht : ztx dy a = some t) (h0 : 0 ≤ i.toInt) (hx : t[i.toNatClampNeg]? = some x)
    (k : zW sl D dy mi (pc + len) ls (.int x :: st) I (zRg b R)) : zW sl D dy mi pc ls (.int i :: .ref a :: st) I (zRg b R) := by
  refine zinv (b2 := b) (u := 0) h rfl hm ?_ k (Nat.le_refl _)
  have e1 : decide (0 ≤ i) = true := decide_eq_true (Int32.le_iff_toInt_le.mpr h0)
  simp only [zprim, ht, hx, e1]
  rfl
end ZWR10
/-- scratch, the script's objects, the two notes of the last script -/
def zsc2 (a k : Nat) : Bool := zscr a || (Nat.ble 144 a && Nat.ble a 147) || (Nat.beq a 0 && (Nat.beq k 9 || Nat.beq k 10))
def zfs (I J : zM) : Prop := ∀ a k, zsc2 a k = false → J a k = I a k
theorem zfs_refl (I : zM) : zfs I I := fun _ _ _ => rfl
theorem zfs_trans {I J K : zM} (h : zfs I J) (h2 : zfs J K) : zfs I K := fun a k ha => (h2 a k ha).trans (h a k ha)
theorem zfs_fr {I J : zM} (h : zfr I J) : zfs I J := fun a k ha => h a k (by
  unfold zsc2 at ha
  cases hq : zscr a with
  | false => rfl
  | true => rw [hq] at ha; simp at ha)
theorem zfs_up {I J : zM} (h : zfs I J) {a k : Nat} {x : Int32} (ha : zsc2 a k = true) : zfs I (zup J a k x) := fun b j hb => by
  rw [zup_at, if_neg (fun e => by rw [e.1, e.2, ha] at hb; cases hb)]
  exact h b j hb
theorem zSB_fs {S : Nat → Nat → Int32} {I J : zM} (hB : zSB 1 S I) (h : zfs I J) : zSB 1 S J := fun o k hc => by
  have ho : o ≤ 10 := by
    unfold zcell at hc
    split at hc <;> first | omega | (simp only [Bool.and_eq_true] at hc; exact Nat.le_of_ble_eq_true hc.1)
  have : zsc2 (o + 1) k = false := by
    have hq : o = 0 ∨ o = 1 ∨ o = 2 ∨ o = 3 ∨ o = 4 ∨ o = 5 ∨ o = 6 ∨ o = 7 ∨ o = 8 ∨ o = 9 ∨ o = 10 := by omega
    rcases hq with rfl | rfl | rfl | rfl | rfl | rfl | rfl | rfl | rfl | rfl | rfl <;> rfl
  rw [h _ _ this]
  exact hB o k hc
/-- so much of a text is typed -/
def zTy (I0 I : zM) (t : List Int32) (i : Int32) : Prop := I 144 3 = some i ∧ (∀ j : Nat, (j : Int) < i.toInt → I 145 j = t[j]?) ∧ ∀ a k, (a ≠ 144 ∨ k ≠ 3) → a ≠ 145 → I a k = I0 a k
theorem zTy_up {I0 I : zM} {t : List Int32} {i x : Int32} (h : zTy I0 I t i) (h0 : 0 ≤ i.toInt) (h1 : i.toInt < 60) (hx : t[i.toNatClampNeg]? = some x) : zTy I0 (zup (zup I 145 i.toNatClampNeg x) 144 3 (i + 1)) t (i + 1) := by
  have ha := zadd1 h0 (by omega)
  have hc : i.toNatClampNeg = i.toInt.toNat := rfl
  refine ⟨by rw [zup_at, if_pos ⟨rfl, rfl⟩], fun j hj => ?_, fun a k ha hb => by rw [zup_at, if_neg (by omega), zup_at, if_neg (by omega)]; exact h.2.2 a k ha hb⟩
  rw [zup_at, if_neg (by simp), zup_at]
  by_cases hjn : j = i.toNatClampNeg
  · rw [if_pos ⟨rfl, hjn⟩, hjn, hx]
  · rw [if_neg (by simp [hjn])]
    exact h.2.1 j (by omega)
theorem zt_append {sl D dy : Nat} {I : zM} (n c : Int32) (hn : I 144 3 = some n) (h0 : 0 ≤ n.toInt) (h1 : n.toInt < 60) (c0 : 32 ≤ c.toInt) (c1 : c.toInt ≤ 126) : zW sl (D) dy 24 0 [(0, .ref 144), (1, .int c)] [] I (zRg 0 (zQf (zup (zup I 145 n.toNatClampNeg c) 144 3 (n + 1)) (some (.int (n + 1))))) := by
  refine zg 3 (pc' := 5) (ls' := [(0, .ref 144), (1, .int c)]) (st' := [.ref 144, .ref 145]) (I' := I) rfl ?_
  refine zgf rfl rfl rfl hn ?_
  refine zg 1 (pc' := 9) (ls' := [(0, .ref 144), (1, .int c)]) (st' := [.int c, .int n, .ref 145]) (I' := I) rfl ?_
  refine zcis rfl rfl (zin_ok (n := 60) h0 h1) (znarc (by omega) (by omega)) ?_
  refine zg 2 (pc' := 12) (ls' := [(0, .ref 144), (1, .int c)]) (st' := [.ref 144, .ref 144]) (I' := (zup I 145 n.toNatClampNeg c)) rfl ?_
  refine zgf rfl rfl rfl (by rw [zup_at, if_neg (by simp)]; exact hn) ?_
  refine zg 2 (pc' := 17) (ls' := [(0, .ref 144), (1, .int c)]) (st' := [.int (n + 1), .ref 144]) (I' := (zup I 145 n.toNatClampNeg c)) rfl ?_
  refine zpf rfl rfl rfl rfl rfl ?_
  refine zg 1 (pc' := 21) (ls' := [(0, .ref 144), (1, .int c)]) (st' := [.ref 144]) (I' := (zup (zup I 145 n.toNatClampNeg c) 144 3 (n + 1))) rfl ?_
  refine zgf rfl rfl rfl (by rw [zup_at, if_pos ⟨rfl, rfl⟩]) ?_
  refine ziret rfl rfl rfl ?_
  exact zf1
theorem zt_isFull0 {sl D dy : Nat} {I : zM} (n : Int32) (hn : I 144 3 = some n) (h1 : n.toInt < 60) : zW sl (D) dy 23 0 [(0, .ref 144)] [] I (zRg 0 (zQf I (some (.int 0)))) := by
  have z60 : (60 : Int32).toInt = 60 := rfl
  have hh1 := h1
  refine zg 1 (pc' := 1) (ls' := [(0, .ref 144)]) (st' := [.ref 144]) (I' := I) rfl ?_
  refine zgf rfl rfl rfl hn ?_
  refine zg 1 (pc' := 6) (ls' := [(0, .ref 144)]) (st' := [.int 60, .int n]) (I' := I) rfl ?_
  refine zicmp rfl rfl (fun h1 => ?_) (fun h1 => ?_)
  · have h1 := zc_lt.1.mp h1
    refine zg 1 (pc' := 14) (ls' := [(0, .ref 144)]) (st' := [.int 0]) (I' := I) rfl ?_
    refine ziret rfl rfl rfl ?_
    exact zf1
  · have h1 := zc_lt.2.mp h1
    exfalso; omega
theorem zt_isFull1 {sl D dy : Nat} {I : zM} (n : Int32) (hn : I 144 3 = some n) (h1 : 60 ≤ n.toInt) : zW sl (D) dy 23 0 [(0, .ref 144)] [] I (zRg 0 (zQf I (some (.int 1)))) := by
  have z60 : (60 : Int32).toInt = 60 := rfl
  have hh1 := h1
  refine zg 1 (pc' := 1) (ls' := [(0, .ref 144)]) (st' := [.ref 144]) (I' := I) rfl ?_
  refine zgf rfl rfl rfl hn ?_
  refine zg 1 (pc' := 6) (ls' := [(0, .ref 144)]) (st' := [.int 60, .int n]) (I' := I) rfl ?_
  refine zicmp rfl rfl (fun h1 => ?_) (fun h1 => ?_)
  · have h1 := zc_lt.1.mp h1
    exfalso; omega
  · have h1 := zc_lt.2.mp h1
    refine zg 2 (pc' := 14) (ls' := [(0, .ref 144)]) (st' := [.int 1]) (I' := I) rfl ?_
    refine ziret rfl rfl rfl ?_
    exact zf1
theorem zt_type {sl D dy : Nat} {I : zM} (n c : Int32) (hn : I 144 3 = some n) (h0 : 0 ≤ n.toInt) (h1 : n.toInt < 60) (c0 : 32 ≤ c.toInt) (c1 : c.toInt ≤ 126) : zW sl (D + 1) dy 119 0 [(0, .ref 0), (1, .int c)] [] I (zRg 0 (zQf (zup (zup I 145 n.toNatClampNeg c) 144 3 (n + 1)) (some (.int (n + 1))))) := by
  have z32 : (32 : Int32).toInt = 32 := rfl
  have z126 : (126 : Int32).toInt = 126 := rfl
  have g0 := h0
  have g1 := h1
  refine zg 2 (pc' := 3) (ls' := [(0, .ref 0), (1, .int c)]) (st' := [.int 32, .int c]) (I' := I) rfl ?_
  refine zicmp rfl rfl (fun h1 => ?_) (fun h1 => ?_)
  · have h1 := zc_lt.1.mp h1
    exfalso; omega
  · have h1 := zc_lt.2.mp h1
    refine zg 2 (pc' := 9) (ls' := [(0, .ref 0), (1, .int c)]) (st' := [.int 126, .int c]) (I' := I) rfl ?_
    refine zicmp rfl rfl (fun h2 => ?_) (fun h2 => ?_)
    · have h2 := zc_le.1.mp h2
      refine zg 2 (pc' := 27) (ls' := [(0, .ref 0), (1, .int c)]) (st' := [.ref 144]) (I' := I) rfl ?_
      refine zcf rfl rfl (zt_isFull0 n hn g1) ?_
      refine zg 4 (pc' := 49) (ls' := [(0, .ref 0), (1, .int c)]) (st' := [.int c, .ref 144]) (I' := I) rfl ?_
      refine zcm rfl rfl (zt_append n c hn g0 g1 c0 c1) ?_
      refine ziret rfl rfl rfl ?_
      exact zf1
    · have h2 := zc_le.2.mp h2
      exfalso; omega
theorem zl_type {sl D dy : Nat} {I : zM} (n c : Int32) (hn : I 144 3 = some n) (h0 : 0 ≤ n.toInt) (h1 : n.toInt < 60) (c0 : 32 ≤ c.toInt) (c1 : c.toInt ≤ 126) : zW sl (D + 2) dy 167 0 [(0, .ref 0), (1, .int c)] [] I (zRg 0 (zQf (zup (zup I 145 n.toNatClampNeg c) 144 3 (n + 1)) (some (.int (n + 1))))) := by
  refine zg 2 (pc' := 2) (ls' := [(0, .ref 0), (1, .int c)]) (st' := [.int c, .ref 0]) (I' := I) rfl ?_
  refine zcm rfl rfl (zt_type n c hn h0 h1 c0 c1) ?_
  refine ziret rfl rfl rfl ?_
  exact zf1
theorem zt_type2 {sl D dy : Nat} {I : zM} (n c : Int32) (hn : I 144 3 = some n) (h1 : 60 ≤ n.toInt) (c0 : 32 ≤ c.toInt) (c1 : c.toInt ≤ 126) : zW sl (D + 1) dy 119 0 [(0, .ref 0), (1, .int c)] [] I (zRg 1 (zQx I 2)) := by
  have z32 : (32 : Int32).toInt = 32 := rfl
  have z126 : (126 : Int32).toInt = 126 := rfl
  have g1 := h1
  refine zg 2 (pc' := 3) (ls' := [(0, .ref 0), (1, .int c)]) (st' := [.int 32, .int c]) (I' := I) rfl ?_
  refine zicmp rfl rfl (fun h1 => ?_) (fun h1 => ?_)
  · have h1 := zc_lt.1.mp h1
    exfalso; omega
  · have h1 := zc_lt.2.mp h1
    refine zg 2 (pc' := 9) (ls' := [(0, .ref 0), (1, .int c)]) (st' := [.int 126, .int c]) (I' := I) rfl ?_
    refine zicmp rfl rfl (fun h2 => ?_) (fun h2 => ?_)
    · have h2 := zc_le.1.mp h2
      refine zg 2 (pc' := 27) (ls' := [(0, .ref 0), (1, .int c)]) (st' := [.ref 144]) (I' := I) rfl ?_
      refine zcf rfl rfl (zt_isFull1 n hn g1) ?_
      refine zg 1 (pc' := 33) (ls' := [(0, .ref 0), (1, .int c)]) (st' := []) (I' := I) rfl ?_
      exact zthrow rfl rfl zx1
    · have h2 := zc_le.2.mp h2
      exfalso; omega
theorem zl_type2 {sl D dy : Nat} {I : zM} (n c : Int32) (hn : I 144 3 = some n) (h1 : 60 ≤ n.toInt) (c0 : 32 ≤ c.toInt) (c1 : c.toInt ≤ 126) : zW sl (D + 2) dy 167 0 [(0, .ref 0), (1, .int c)] [] I (zRg 1 (zQf I (some (.int (-1002))))) := by
  refine zg 2 (pc' := 2) (ls' := [(0, .ref 0), (1, .int c)]) (st' := [.int c, .ref 0]) (I' := I) rfl ?_
  refine zcct (b2 := 0) (pc2 := 12) (ls2 := [(0, .ref 0), (1, .int c)]) rfl rfl (zt_type2 n c hn h1 c0 c1) rfl ?_
  refine zg 1 (pc' := 15) (ls' := [(0, .ref 0), (1, .int c)]) (st' := [.int (-1002)]) (I' := I) rfl ?_
  refine ziret rfl rfl rfl ?_
  exact zf1
theorem zt_runl {sl D dy : Nat} {I0 : zM} {b a : Nat} {R : Nat → Option Value → zM → Prop} (t : List Int32) (ht : ztx dy a = some t) (hl : t.length ≤ 60) (hc : ∀ x ∈ t, 32 ≤ x.toInt ∧ x.toInt ≤ 126) (kk : ∀ (i : Int32) (J : zM), zTy I0 J t (Int32.ofNat t.length) → zW sl (D + 3) dy 173 35 [(0, .ref 0), (1, .ref a), (2, .int i)] [] J (zRg b R)) : ∀ (k : Nat) (i : Int32) (I : zM) (hI : zTy I0 I t i) (h0 : 0 ≤ i.toInt) (hk : i.toInt + (k : Int) = t.length), zW sl (D + 3) dy 173 2 [(0, .ref 0), (1, .ref a), (2, .int i)] [] I (zRg b (R)) := by
  intro k
  induction k with
  | zero =>
    intro i I hI h0 hk
    have hof := zofn (n := t.length) (by omega)
    refine zg 2 (pc' := 4) (ls' := [(0, .ref 0), (1, .ref a), (2, .int i)]) (st' := [.ref a, .int i]) (I' := I) rfl ?_
    refine zstl rfl rfl ht ?_
    refine zicmp rfl rfl (fun h1 => ?_) (fun h1 => ?_)
    · have h1 := zc_ge.1.mp h1
      exact kk _ _ (by have : i = Int32.ofNat t.length := Int32.toInt_inj.mp (by omega); rw [← this]; exact hI)
    · have h1 := zc_ge.2.mp h1
      exfalso; omega
  | succ k ih =>
    intro i I hI h0 hk
    have hof := zofn (n := t.length) (by omega)
    refine zg 2 (pc' := 4) (ls' := [(0, .ref 0), (1, .ref a), (2, .int i)]) (st' := [.ref a, .int i]) (I' := I) rfl ?_
    refine zstl rfl rfl ht ?_
    refine zicmp rfl rfl (fun h1 => ?_) (fun h1 => ?_)
    · have h1 := zc_ge.1.mp h1
      exfalso; omega
    · have h1 := zc_ge.2.mp h1
      refine zg 3 (pc' := 13) (ls' := [(0, .ref 0), (1, .ref a), (2, .int i)]) (st' := [.int i, .ref a, .ref 0]) (I' := I) rfl ?_
      obtain ⟨x, hx⟩ : ∃ x, t[i.toNatClampNeg]? = some x := ⟨_, List.getElem?_eq_getElem (by have : i.toNatClampNeg = i.toInt.toNat := rfl; omega)⟩
      have hxc := hc x (List.mem_of_getElem? hx)
      refine zstc rfl rfl ht h0 hx ?_
      refine zcm rfl rfl (zl_type i x hI.1 h0 (by omega) hxc.1 hxc.2) ?_
      have hJ := zTy_up hI h0 (by omega) hx
      generalize zup (zup I 145 i.toNatClampNeg x) 144 3 (i + 1) = J at hJ ⊢
      refine zg 3 (pc' := 22) (ls' := [(0, .ref 0), (1, .ref a), (2, .int i)]) (st' := [.int (i + 1), .int (i + 1)]) (I' := J) rfl ?_
      refine zicmp rfl rfl (fun h2 => ?_) (fun h2 => ?_)
      · have h2 := zc_eq.1.mp h2
        refine zg 2 (pc' := 2) (ls' := [(2, .int (i + 1)), (0, .ref 0), (1, .ref a)]) (st' := []) (I' := J) rfl ?_
        refine zLp (List.Perm.trans (List.Perm.cons _ (List.Perm.swap _ _ _)) (List.Perm.swap _ _ _)) rfl ?_
        exact ih (i + 1) J hJ (by rw [zadd1 h0 (by omega)]; omega) (by rw [zadd1 h0 (by omega)]; omega)
      · have h2 := zc_eq.2.mp h2
        exact absurd rfl h2
