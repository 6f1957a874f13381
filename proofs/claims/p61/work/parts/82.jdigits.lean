/-! append(int) -/
def zdn (k : Nat) : Nat := if k < 10 then 1 else if k < 100 then 2 else 3
def zdl (k : Nat) : List Int32 := if k < 10 then [zdgO k] else if k < 100 then [zdgT k, zdgO k] else [zdgO (k / 100), zdgT (k % 100), zdgO (k % 100)]
set_option maxRecDepth 200000 in
theorem zdf : ∀ k, k < 1000 → zdg (Int32.ofNat k) = zdl k ∧ (k < 10 → ¬ -(Int32.ofNat k) ≤ -10) ∧ (10 ≤ k → -(Int32.ofNat k) ≤ -10) ∧ (k < 100 → ¬ -(Int32.ofNat k) ≤ -100) ∧ (100 ≤ k → -(Int32.ofNat k) ≤ -100) ∧ ¬ -(Int32.ofNat k) ≤ -1000 := by decide +kernel
set_option maxRecDepth 200000 in
theorem zdf2 : ∀ k, k < 1000 → (k < 100 → (-100 : Int32) < -(Int32.ofNat k)) ∧ (100 ≤ k → ¬ (-100 : Int32) < -(Int32.ofNat k)) ∧ (k < 10 → (-9 : Int32) ≤ -(Int32.ofNat k)) ∧ (10 ≤ k → ¬ (-9 : Int32) ≤ -(Int32.ofNat k)) ∧ -(-(Int32.ofNat k)) = Int32.ofNat k ∧ -(Int32.ofNat k) / 100 = -(Int32.ofNat (k / 100)) ∧ -(Int32.ofNat (k / 100)) * 100 - -(Int32.ofNat k) = Int32.ofNat (k % 100) := by decide +kernel
theorem zdO8 (k : Nat) : 0 ≤ zdgO k ∧ zdgO k < 128 := ⟨(zqL (a := 0) (by omega) (by omega)).mpr (by omega), (zql (b := 128) (by omega) (by omega)).mpr (by omega)⟩
theorem zdT8 {k : Nat} (hk : k < 100) : 0 ≤ zdgT k ∧ zdgT k < 128 := ⟨(zqL (a := 0) (by omega) (by omega)).mpr (by omega), (zql (b := 128) (by omega) (by omega)).mpr (by omega)⟩
theorem zqd {m : Nat} (h : 1 ≤ m) : Int32.ofNat m + Int32.ofInt (-1) = Int32.ofNat (m - 1) := by
  have e : Int32.ofNat m = Int32.ofNat (m - 1) + Int32.ofNat 1 := by rw [zqa, Nat.sub_add_cancel h]
  rw [e, Int32.add_assoc]
  exact Int32.add_zero _
theorem zdn_3 (k : Nat) : zdn k ≤ 3 := by
  unfold zdn
  split
  · decide
  · split <;> decide
section ZJD
variable {l : Launch} {X : zX} {d bc bs mi pc n r1 r2 r3 : Nat} {ls : List (Nat × Value)} {st : List Value} {K : zKT} {P : zPT} {I : zIT} {L : zLT} {Post : zPost} {b va cap : Nat} {t : List Int32}
theorem zV_digO {j v : Int32} (h : zl mi pc = some (.baload, 1, r1, r2, r3)) (hj : vp_in j 100) (hv : zdgO j.toNatClampNeg = v) (k : zV l X d bc bs mi (pc + 1) ls (.int v :: st) n K P I L Post) : zV l X d bc bs mi pc ls (.int j :: .ref (X.2.2.2 100) :: st) n K P I L Post := by
  intro p e R s m args below meth c H locs cells slots mc ms lsr S D hl
  obtain ⟨hxx, hb, hml, hown, hts, hrt, hlk, htab, hnm, hdf, hdl, hKs, hst⟩ := id S
  obtain ⟨d1, d2, d3, d4, hS, hpic⟩ := id D
  exact va_tb hxx hb hKs.2.2.1.2.2.2.1.2.1 hS hj (congrArg Value.int hv) (zl_dec h) (k p e R s m args below meth c H locs cells slots mc ms lsr S D hl)
theorem zV_digT {j v : Int32} (h : zl mi pc = some (.baload, 1, r1, r2, r3)) (hj : vp_in j 100) (hv : zdgT j.toNatClampNeg = v) (k : zV l X d bc bs mi (pc + 1) ls (.int v :: st) n K P I L Post) : zV l X d bc bs mi pc ls (.int j :: .ref (X.2.2.2 101) :: st) n K P I L Post := by
  intro p e R s m args below meth c H locs cells slots mc ms lsr S D hl
  obtain ⟨hxx, hb, hml, hown, hts, hrt, hlk, htab, hnm, hdf, hdl, hKs, hst⟩ := id S
  obtain ⟨d1, d2, d3, d4, hS, hpic⟩ := id D
  exact va_tb hxx hb hKs.2.2.1.2.2.2.1.2.2 hS hj (congrArg Value.int hv) (zl_dec h) (k p e R s m args below meth c H locs cells slots mc ms lsr S D hl)
theorem zV_sub {l1 l2 : List (Nat × Value)} (h : ∀ q ∈ l1, q ∈ l2) (k : zV l X d bc bs mi pc l1 st n K P I L Post) : zV l X d bc bs mi pc l2 st n K P I L Post := fun p e R s m args below meth c H locs cells slots mc ms lsr S D hl =>
  k p e R s m args below meth c H locs cells slots mc ms lsr S D ⟨hl.1, hl.2.1, fun q hq => hl.2.2 q (h q hq)⟩
theorem zj_193 {k : Nat} (hk : k < 1000) : zC l X d 0 0 193 [.int (Int32.ofNat k)] n K P I L (zSame n K P I L (.int (Int32.ofNat (zdn k)))) := by
  obtain ⟨-, f1, f2, f3, f4, f5⟩ := zdf k hk
  unfold zC
  refine zV_ls (ls' := [(0, .int (Int32.ofNat k))]) rfl ?_
  refine zV_iconst (v := 1) rfl rfl ?_
  refine zV_istore_n rfl (by decide) rfl ?_
  refine zV_iload_n rfl rfl ?_
  refine zV_if_lt 11 rfl rfl (fun h => absurd h (Int32.not_lt.mpr ((zqL (a := 0) (by omega) (by omega)).mpr (Nat.zero_le _)))) (fun h => ?_)
  refine zV_iconst (v := 0) rfl rfl ?_
  refine zV_istore_n rfl (by decide) rfl ?_
  refine zV_iload_n rfl rfl ?_
  refine zV_ineg rfl ?_
  refine zV_istore_n rfl (by decide) rfl ?_
  refine zV_bipush (v := (-10)) rfl rfl ?_
  refine zV_istore_n rfl (by decide) rfl ?_
  refine zV_iconst (v := 1) rfl rfl ?_
  refine zV_istore_n rfl (by decide) rfl ?_
  refine zV_iload_n rfl rfl ?_
  refine zV_bipush (v := 10) rfl rfl ?_
  refine zV_icmp_ge 42 rfl rfl (fun h => absurd h (by decide)) (fun h => ?_)
  refine zV_iload_n rfl rfl ?_
  refine zV_iload_n rfl rfl ?_
  refine zV_icmp_le 31 rfl rfl (fun h => ?_) (fun h => ?_)
  · have h10 : 10 ≤ k := Nat.not_lt.mp fun q => f1 q h
    refine zV_bipush (v := 10) rfl rfl ?_
    refine zV_iload_n rfl rfl ?_
    refine zV_imul rfl ?_
    rw [show (10 : Int32) * (-10) = -100 from rfl]
    refine zV_istore_n rfl (by decide) rfl ?_
    refine zV_iinc (v := 2) rfl rfl rfl (by decide) rfl ?_
    refine zV_goto 16 rfl rfl ?_
    refine zV_iload_n rfl rfl ?_
    refine zV_bipush (v := 10) rfl rfl ?_
    refine zV_icmp_ge 42 rfl rfl (fun h => absurd h (by decide)) (fun h => ?_)
    refine zV_iload_n rfl rfl ?_
    refine zV_iload_n rfl rfl ?_
    refine zV_icmp_le 31 rfl rfl (fun h => ?_) (fun h => ?_)
    · have h100 : 100 ≤ k := Nat.not_lt.mp fun q => f3 q h
      refine zV_bipush (v := 10) rfl rfl ?_
      refine zV_iload_n rfl rfl ?_
      refine zV_imul rfl ?_
      rw [show (10 : Int32) * (-100) = -1000 from rfl]
      refine zV_istore_n rfl (by decide) rfl ?_
      refine zV_iinc (v := 3) rfl rfl rfl (by decide) rfl ?_
      refine zV_goto 16 rfl rfl ?_
      refine zV_iload_n rfl rfl ?_
      refine zV_bipush (v := 10) rfl rfl ?_
      refine zV_icmp_ge 42 rfl rfl (fun h => absurd h (by decide)) (fun h => ?_)
      refine zV_iload_n rfl rfl ?_
      refine zV_iload_n rfl rfl ?_
      refine zV_icmp_le 31 rfl rfl (fun h => absurd h f5) (fun _ => ?_)
      have e : (3 : Int32) + 0 = Int32.ofNat (zdn k) := by unfold zdn; rw [if_neg (by omega), if_neg (by omega)]; rfl
      refine zV_iload_n rfl rfl ?_
      refine zV_iload_n rfl rfl ?_
      refine zV_iadd rfl ?_
      rw [e]
      exact zV_ret rfl rfl rfl zsq
    · have h100 : k < 100 := Nat.not_le.mp fun q => h (f4 q)
      have e : (2 : Int32) + 0 = Int32.ofNat (zdn k) := by unfold zdn; rw [if_neg (by omega), if_pos h100]; rfl
      refine zV_iload_n rfl rfl ?_
      refine zV_iload_n rfl rfl ?_
      refine zV_iadd rfl ?_
      rw [e]
      exact zV_ret rfl rfl rfl zsq
  · have h10 : k < 10 := Nat.not_le.mp fun q => h (f2 q)
    have e : (1 : Int32) + 0 = Int32.ofNat (zdn k) := by unfold zdn; rw [if_pos h10]; rfl
    refine zV_iload_n rfl rfl ?_
    refine zV_iload_n rfl rfl ?_
    refine zV_iadd rfl ?_
    rw [e]
    exact zV_ret rfl rfl rfl zsq
/-- the digits of k < 100 before the place m of va -/
def zdI (I : zIT) (va m k : Nat) : zIT := if k < 10 then zuI I va (m - 1) (zdgO k) else zuI (zuI I va (m - 1) (zdgO k)) va (m - 2) (zdgT k)
def zPD (n : Nat) (K : zKT) (P : zPT) (I : zIT) (L : zLT) : zPost := fun r n' K' P' I' L' => (∃ v : Int32, r = .inl (some (.int v))) ∧ n' = n ∧ K' = K ∧ P' = P ∧ I' = I ∧ L' = L
theorem zj_192t {k m : Nat} (hk : k < 100) (hm : zdn k ≤ m) (hmc : m ≤ cap) (hc : cap ≤ 200) (hK : K va = some (103, cap)) : zV l X d 0 0 192 22 [(0, .int (-(Int32.ofNat k))), (2, .ref va), (5, .int (Int32.ofNat m)), (6, .int 0)] [] n K P I L (zPD n K P (zdI I va m k) L) := by
  obtain ⟨g1, -, g3, g4, g5, -, -⟩ := zdf2 k (by omega)
  have hm1 : 1 ≤ m := by unfold zdn at hm; split at hm <;> (try split at hm) <;> omega
  have hO := z128b (zdO8 k).1 (zdO8 k).2
  have hT := z128b (zdT8 hk).1 (zdT8 hk).2
  refine zV_iload_n rfl rfl ?_
  refine zV_bipush (v := (-100)) rfl rfl ?_
  refine zV_icmp_gt 72 rfl rfl (fun _ => ?_) (fun h => absurd (g1 hk) h)
  refine zV_aload_n rfl rfl ?_
  refine zV_iinc (v := Int32.ofNat (m - 1)) rfl rfl (zqd hm1) (by decide) rfl ?_
  refine zV_iload rfl rfl ?_
  refine zV_gets1 rfl ?_
  refine zV_iload_n rfl rfl ?_
  refine zV_ineg rfl ?_
  rw [g5]
  refine zV_digO rfl (zvpN ((zqL (a := 0) (by omega) (by omega)).mpr (Nat.zero_le _)) (by rw [zqn (by omega)]; omega)) (by rw [zqn (by omega)]) ?_
  refine zV_bast rfl hK (zvpN ((zqL (a := 0) (by omega) (by omega)).mpr (Nat.zero_le _)) (by rw [zqn (by omega)]; omega)) ?_
  rw [hO.1, zqn (by omega)]
  refine zV_iload_n rfl rfl ?_
  refine zV_bipush (v := (-9)) rfl rfl ?_
  have fin : ∀ (I2 : zIT) (v : Int32), I2 = zdI I va m k → zV l X d 0 0 192 104 [(5, .int v), (0, .int (-(Int32.ofNat k))), (2, .ref va), (6, .int 0)] [] n K P I2 L (zPD n K P (zdI I va m k) L) := fun I2 v e => by
    refine zV_iload rfl rfl ?_
    refine zV_if_eq 118 rfl rfl (fun _ => ?_) (fun h => absurd rfl h)
    refine zV_iload rfl rfl ?_
    exact zV_ret rfl rfl rfl ⟨⟨v, rfl⟩, rfl, rfl, rfl, e, rfl⟩
  refine zV_icmp_ge 104 rfl rfl (fun h => ?_) (fun h => ?_)
  · have h10 : k < 10 := Nat.not_le.mp fun q => g4 q h
    exact fin _ _ (if_pos h10).symm
  · have h10 : 10 ≤ k := Nat.not_lt.mp fun q => h (g3 q)
    have hm2 : 2 ≤ m := by unfold zdn at hm; rw [if_neg (by omega)] at hm; split at hm <;> omega
    refine zV_aload_n rfl rfl ?_
    refine zV_iinc (v := Int32.ofNat (m - 2)) rfl rfl (zqd (m := m - 1) (by omega)) (by decide) rfl ?_
    refine zV_iload rfl rfl ?_
    refine zV_gets2 rfl ?_
    refine zV_iload_n rfl rfl ?_
    refine zV_ineg rfl ?_
    rw [g5]
    refine zV_digT rfl (zvpN ((zqL (a := 0) (by omega) (by omega)).mpr (Nat.zero_le _)) (by rw [zqn (by omega)]; omega)) (by rw [zqn (by omega)]) ?_
    refine zV_bast rfl hK (zvpN ((zqL (a := 0) (by omega) (by omega)).mpr (Nat.zero_le _)) (by rw [zqn (by omega)]; omega)) ?_
    rw [hT.1, zqn (by omega)]
    exact fin _ _ (if_neg (by omega)).symm
/-- the digits of k < 1000 before the place m of va -/
def zdJ (I : zIT) (va m k : Nat) : zIT := if k < 100 then zdI I va m k else zdI (zuI (zuI I va (m - 1) (zdgO (k % 100))) va (m - 2) (zdgT (k % 100))) va (m - 2) (k / 100)
theorem zj_192 {k m : Nat} (hk : k < 1000) (hm : zdn k ≤ m) (hmc : m ≤ cap) (hc : cap ≤ 200) (hK : K va = some (103, cap)) : zC l X d 0 0 192 [.int (Int32.ofNat k), .int (Int32.ofNat m), .ref va] n K P I L (zPD n K P (zdJ I va m k) L) := by
  obtain ⟨g1, g2, -, -, -, g6, g7⟩ := zdf2 k hk
  unfold zC
  refine zV_ls (ls' := [(0, .int (Int32.ofNat k)), (1, .int (Int32.ofNat m)), (2, .ref va)]) rfl ?_
  refine zV_iload_n rfl rfl ?_
  refine zV_istore rfl (by decide) rfl ?_
  refine zV_iload_n rfl rfl ?_
  refine zV_if_ge 11 rfl rfl (fun _ => ?_) (fun h => absurd ((zqL (a := 0) (by omega) (by omega)).mpr (Nat.zero_le _)) h)
  refine zV_iconst (v := 0) rfl rfl ?_
  refine zV_istore rfl (by decide) rfl ?_
  refine zV_iload rfl rfl ?_
  refine zV_if_ne 22 rfl rfl (fun h => absurd rfl h) (fun _ => ?_)
  refine zV_iload_n rfl rfl ?_
  refine zV_ineg rfl ?_
  refine zV_istore_n rfl (by decide) rfl ?_
  rcases Nat.lt_or_ge k 100 with h100 | h100
  · have e : zdJ I va m k = zdI I va m k := if_pos h100
    rw [e]
    exact zV_sub (List.forall_mem_cons.mpr ⟨List.mem_cons_self, (List.forall_mem_cons.mpr ⟨(List.mem_cons_of_mem _ (List.mem_cons_of_mem _ (List.mem_cons_of_mem _ (List.mem_cons_of_mem _ List.mem_cons_self)))), (List.forall_mem_cons.mpr ⟨(List.mem_cons_of_mem _ (List.mem_cons_of_mem _ List.mem_cons_self)), (List.forall_mem_cons.mpr ⟨(List.mem_cons_of_mem _ List.mem_cons_self), (by intro q hq; cases hq)⟩)⟩)⟩)⟩) (zj_192t h100 hm hmc hc hK)
  · have e : zdJ I va m k = zdI (zuI (zuI I va (m - 1) (zdgO (k % 100))) va (m - 2) (zdgT (k % 100))) va (m - 2) (k / 100) := if_neg (by omega)
    rw [e]
    have hm3 : 3 ≤ m := by unfold zdn at hm; rw [if_neg (by omega), if_neg (by omega)] at hm; exact hm
    have hr : k % 100 < 100 := Nat.mod_lt _ (by decide)
    have hO := z128b (zdO8 (k % 100)).1 (zdO8 (k % 100)).2
    have hT := z128b (zdT8 hr).1 (zdT8 hr).2
    refine zV_iload_n rfl rfl ?_
    refine zV_bipush (v := (-100)) rfl rfl ?_
    refine zV_icmp_gt 72 rfl rfl (fun h => absurd h (g2 h100)) (fun _ => ?_)
    refine zV_iload_n rfl rfl ?_
    refine zV_bipush (v := 100) rfl rfl ?_
    refine zV_idiv rfl (by decide) ?_
    rw [g6]
    refine zV_istore_n rfl (by decide) rfl ?_
    refine zV_iload_n rfl rfl ?_
    refine zV_bipush (v := 100) rfl rfl ?_
    refine zV_imul rfl ?_
    refine zV_iload_n rfl rfl ?_
    refine zV_isub rfl ?_
    rw [g7]
    refine zV_istore rfl (by decide) rfl ?_
    refine zV_iload_n rfl rfl ?_
    refine zV_istore_n rfl (by decide) rfl ?_
    refine zV_aload_n rfl rfl ?_
    refine zV_iinc (v := Int32.ofNat (m - 1)) rfl rfl (zqd (by omega)) (by decide) rfl ?_
    refine zV_iload rfl rfl ?_
    refine zV_gets1 rfl ?_
    refine zV_iload rfl rfl ?_
    refine zV_digO rfl (zvpN ((zqL (a := 0) (by omega) (by omega)).mpr (Nat.zero_le _)) (by rw [zqn (by omega)]; omega)) (by rw [zqn (by omega)]) ?_
    refine zV_bast rfl hK (zvpN ((zqL (a := 0) (by omega) (by omega)).mpr (Nat.zero_le _)) (by rw [zqn (by omega)]; omega)) ?_
    rw [hO.1, zqn (by omega)]
    refine zV_aload_n rfl rfl ?_
    refine zV_iinc (v := Int32.ofNat (m - 2)) rfl rfl (zqd (m := m - 1) (by omega)) (by decide) rfl ?_
    refine zV_iload rfl rfl ?_
    refine zV_gets2 rfl ?_
    refine zV_iload rfl rfl ?_
    refine zV_digT rfl (zvpN ((zqL (a := 0) (by omega) (by omega)).mpr (Nat.zero_le _)) (by rw [zqn (by omega)]; omega)) (by rw [zqn (by omega)]) ?_
    refine zV_bast rfl hK (zvpN ((zqL (a := 0) (by omega) (by omega)).mpr (Nat.zero_le _)) (by rw [zqn (by omega)]; omega)) ?_
    rw [hT.1, zqn (by omega)]
    refine zV_goto 22 rfl rfl ?_
    have h10 : k / 100 < 10 := by omega
    exact zV_sub (List.forall_mem_cons.mpr ⟨(List.mem_cons_of_mem _ List.mem_cons_self), (List.forall_mem_cons.mpr ⟨(List.mem_cons_of_mem _ (List.mem_cons_of_mem _ (List.mem_cons_of_mem _ (List.mem_cons_of_mem _ (List.mem_cons_of_mem _ (List.mem_cons_of_mem _ List.mem_cons_self)))))), (List.forall_mem_cons.mpr ⟨List.mem_cons_self, (List.forall_mem_cons.mpr ⟨(List.mem_cons_of_mem _ (List.mem_cons_of_mem _ (List.mem_cons_of_mem _ (List.mem_cons_of_mem _ List.mem_cons_self)))), (by intro q hq; cases hq)⟩)⟩)⟩)⟩) (zj_192t (by omega) (by unfold zdn; rw [if_pos h10]; omega) (by omega) hc hK)
theorem zdJ_no {m k q : Nat} (h : q ≠ va) : zdJ I va m k q = I q := by
  unfold zdJ zdI
  split <;> split <;> simp [zuI, h]
theorem zdJ_lo {m k j : Nat} (hk : k < 1000) (hm : zdn k ≤ m) (h : j + zdn k < m + 0 ∨ j + zdn k < m) : zdJ I va m k va j = I va j := by
  unfold zdn at hm h
  unfold zdJ zdI
  split <;> split <;> (simp only [zuI, upd, if_true]; repeat' rw [if_neg (by repeat' split at hm; all_goals (repeat' split at h; all_goals omega))])
theorem zdl_len (k : Nat) : (zdl k).length = zdn k := by
  unfold zdl zdn
  split
  · rfl
  · split <;> rfl
theorem zdJ_hi {m k i : Nat} (hk : k < 1000) (hm : zdn k ≤ m) (hi : i < zdn k) : some (zdJ I va m k va (m - zdn k + i)) = (zdl k)[i]? := by
  unfold zdn at hm hi ⊢
  unfold zdJ zdI zdl
  by_cases h1 : k < 10
  · rw [if_pos h1] at hm hi ⊢
    have : i = 0 := by omega
    subst this
    rw [if_pos (by omega), if_pos h1, if_pos h1]
    simp [zuI, upd]
  · by_cases h2 : k < 100
    · rw [if_neg h1, if_pos h2] at hm hi ⊢
      rw [if_pos h2, if_neg h1, if_neg h1, if_pos h2]
      rcases (show i = 0 ∨ i = 1 by omega) with rfl | rfl
      · simp [zuI, upd]
      · simp [zuI, upd, h1, h2, show m - 2 + 1 ≠ m - 2 by omega, show m - 2 + 1 = m - 1 by omega, show m - 1 ≠ m - 2 by omega]
    · rw [if_neg h1, if_neg h2] at hm hi ⊢
      rw [if_neg h2, if_pos (by omega), if_neg h1, if_neg h2]
      rcases (show i = 0 ∨ i = 1 ∨ i = 2 by omega) with rfl | rfl | rfl
      · simp [zuI, upd, h1, h2, show m - 2 - 1 = m - 3 by omega]
      · simp [zuI, upd, h1, h2, show m - 3 + 1 = m - 2 by omega, show m - 2 ≠ m - 2 - 1 by omega]
      · simp [zuI, upd, h1, h2, show m - 3 + 2 = m - 1 by omega, show m - 1 ≠ m - 2 - 1 by omega, show m - 1 ≠ m - 2 by omega]
theorem zuI_fit {k : Nat} {x : Int32} (hf : ∀ j : Nat, fits .byte (.int (I va j)) = true) (hx : fits .byte (.int x) = true) : ∀ j : Nat, fits .byte (.int (zuI I va k x va j)) = true := fun j => by
  have e : zuI I va k x va = upd (I va) k x := if_pos rfl
  rw [e]
  unfold upd
  split
  · exact hx
  · exact hf j
theorem zdI_fit {m k : Nat} (hk : k < 100) (hf : ∀ j : Nat, fits .byte (.int (I va j)) = true) : ∀ j : Nat, fits .byte (.int (zdI I va m k va j)) = true := by
  have hO := (z128b (zdO8 k).1 (zdO8 k).2).2.2
  have hT := (z128b (zdT8 hk).1 (zdT8 hk).2).2.2
  unfold zdI
  split
  · exact zuI_fit hf hO
  · exact zuI_fit (zuI_fit hf hO) hT
theorem zdJ_fit {m k : Nat} (hk : k < 1000) (hf : ∀ j : Nat, fits .byte (.int (I va j)) = true) : ∀ j : Nat, fits .byte (.int (zdJ I va m k va j)) = true := by
  have hr : k % 100 < 100 := Nat.mod_lt _ (by decide)
  have hO := (z128b (zdO8 (k % 100)).1 (zdO8 (k % 100)).2).2.2
  have hT := (z128b (zdT8 hr).1 (zdT8 hr).2).2.2
  unfold zdJ
  split
  · exact zdI_fit (by assumption) hf
  · exact zdI_fit (by omega) (zuI_fit (zuI_fit hf hO) hT)
theorem zj_187 {k B : Nat} (hB : t.length + zdn k ≤ cap ∨ zgrw cap (t.length + zdn k) ≤ B) (hb : zBc cap n K P I b va t) (hk : k < 1000) (hl : t.length ≤ 60) : zC l X (d + 4) 1 B 187 [.ref b, .int (Int32.ofNat k)] n K P I L (zPA n K P I L b va (zgrw cap (t.length + zdn k)) (some (.ref b)) (t ++ zdl k)) := by
  obtain ⟨b1, b2, b3, b4, b5, b6, b7, b8, b9, b10, b11⟩ := id hb
  have h3 := zdn_3 k
  unfold zC
  refine zV_ls (ls' := [(0, .ref b), (1, .int (Int32.ofNat k))]) rfl ?_
  refine zV_aload_n rfl rfl ?_
  refine zV_getI rfl b1 (by decide) rfl ?_
  rw [b9]
  refine zV_istore_n rfl (by decide) rfl ?_
  refine zV_iload_n rfl rfl ?_
  refine zV_iload_n rfl rfl ?_
  refine zV_csq (av := [.int (Int32.ofNat k)]) (rest := [.int (Int32.ofNat t.length)]) rfl rfl (Nat.le_of_ble_eq_true rfl) (Nat.le_of_ble_eq_true rfl) (zj_193 (d := d + 3) hk) ?_
  refine zV_iadd rfl ?_
  rw [zqa]
  refine zV_istore_n rfl (by decide) rfl ?_
  refine zV_aload_n rfl rfl ?_
  refine zV_iload_n rfl rfl ?_
  refine zV_bud (bc := 1 + 0) (bs := B + 0) (by omega) (by omega) (zV_cu (av := [.int (Int32.ofNat (t.length + zdn k))]) (rest := []) rfl (Or.inr rfl) (by decide) b1 rfl (Nat.le_of_ble_eq_true rfl) (Nat.le_of_ble_eq_true rfl) (zj_181 (d := d) (m := t.length + zdn k) hB hb (by omega)) ?_ (by rintro x n K P I L - ⟨hv, -⟩; cases hv))
  rintro v n' K' P' I' L' ⟨hv, va', cap', hb', rfl, hkp⟩
  cases hv
  have hcap := zgrw_le cap (t.length + zdn k)
  clear b1 b2 b3 b4 b5 b6 b7 b8 b9 b10 b11
  obtain ⟨b1, b2, b3, b4, b5, b6, b7, b8, b9, b10, b11⟩ := id hb'
  have hvb : va' ≠ b := by omega
  refine zV_aload_n rfl rfl ?_
  refine zV_cuq (av := []) (rest := []) rfl (Or.inl rfl) (by decide) b1 rfl (Nat.le_of_ble_eq_true rfl) (Nat.le_of_ble_eq_true rfl) (zj_189 (d := d + 3) ⟨_, hb'⟩) ?_
  refine zV_if_eq 37 rfl rfl (fun h => absurd h (by decide)) (fun _ => ?_)
  refine zV_iload_n rfl rfl ?_
  refine zV_iload_n rfl rfl ?_
  refine zV_aload_n rfl rfl ?_
  refine zV_getR rfl b1 (by decide) rfl b2 ?_
  refine zV_bud (bc := 0 + 0) (bs := 0 + 0) (by omega) (by omega) (zV_cs (av := [.int (Int32.ofNat k), .int (Int32.ofNat (t.length + zdn k)), .ref va']) (rest := []) rfl rfl (Nat.le_of_ble_eq_true rfl) (Nat.le_of_ble_eq_true rfl) (zj_192 (d := d + 3) hk (by omega) hcap b7 b3) ?_ (by rintro x n K P I L - ⟨⟨w, hv⟩, -⟩; cases hv))
  rintro v n2 K2' P2 I2 L2 ⟨⟨w, hv⟩, e1, e2, e3, e4, e5⟩
  cases hv
  rw [e1, e2, e3, e4, e5]
  refine zV_pop rfl rfl ?_
  refine zV_goto 48 rfl rfl ?_
  refine zV_aload_n rfl rfl ?_
  refine zV_iload_n rfl rfl ?_
  refine zV_putI rfl b1 (by decide) rfl rfl rfl ?_
  refine zV_aload_n rfl rfl ?_
  have i0 : ∀ q, q ≠ va' → zdJ I' va' (t.length + zdn k) k q = I' q := fun q hq => zdJ_no hq
  have i1 : zuI (zdJ I' va' (t.length + zdn k) k) b 3 (Int32.ofNat (t.length + zdn k)) va' = zdJ I' va' (t.length + zdn k) k va' := if_neg hvb
  have i2 : zuI (zdJ I' va' (t.length + zdn k) k) b 3 (Int32.ofNat (t.length + zdn k)) b = upd (I' b) 3 (Int32.ofNat (t.length + zdn k)) := by
    show (if b = b then upd (zdJ I' va' (t.length + zdn k) k b) 3 _ else _) = _
    rw [if_pos rfl, i0 b (Ne.symm hvb)]
  have hz8 : ∀ (i : Nat) (y : Int32), (zdl k)[i]? = some y → 0 ≤ y ∧ y < 128 := fun i y hy => by
    have hm := List.mem_of_getElem? hy
    unfold zdl at hm
    split at hm
    · simp at hm; rw [hm]; exact zdO8 k
    · split at hm
      · simp at hm
        rcases hm with rfl | rfl
        · exact zdT8 (by assumption)
        · exact zdO8 k
      · simp at hm
        rcases hm with rfl | rfl | rfl
        · exact zdO8 _
        · exact zdT8 (Nat.mod_lt _ (by decide))
        · exact zdO8 _
  refine zV_aret rfl rfl (Or.inl ⟨_, rfl⟩) ⟨rfl, va', ⟨b1, b2, b3, b4, b5, by rw [List.length_append, zdl_len]; exact hcap, b7, by rw [i2]; simpa [upd] using b8, by rw [i2, List.length_append, zdl_len]; simp [upd], fun j y hj => ?_, fun j => ?_⟩, zKeep_tr hkp (zKeep_I (fun q q1 q2 => (if_neg q1).trans (i0 q q2)))⟩
  · rw [i1]
    rcases Nat.lt_or_ge j t.length with hjl | hjl
    · rw [zdJ_lo hk (by omega) (Or.inr (by omega))]
      rw [List.getElem?_append_left hjl] at hj
      exact b10 j y hj
    · rw [List.getElem?_append_right hjl] at hj
      have hjn := (List.getElem?_eq_some_iff.mp hj).1
      rw [zdl_len] at hjn
      have e := zdJ_hi (I := I') (va := va') (m := t.length + zdn k) hk (by omega) hjn
      rw [hj, show t.length + zdn k - zdn k + (j - t.length) = j by omega] at e
      exact ⟨Option.some.inj e, hz8 _ y hj⟩
  · rw [i1]
    exact zdJ_fit hk b11 j
end ZJD
