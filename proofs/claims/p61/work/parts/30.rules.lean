/-! RULES FOR WALKING THE INTERPRETER -/
/-- an outcome: code, value and memory as R says, at most b made -/
def zRg (b : Nat) (R : Nat → Option Value → zM → Prop) : zO4 → Prop := fun o => R o.1 o.2.1 o.2.2.1 ∧ o.2.2.2 ≤ b
/-- a method that answers true or false and leaves the memory as it is -/
def zQb (I : zM) (P : Prop) : Nat → Option Value → zM → Prop := fun c v J => c = 0 ∧ J = I ∧ ((v = some (.int 1) ∧ P) ∨ (v = some (.int 0) ∧ ¬ P))
/-- one value, the memory as it is -/
def zQf (I : zM) (w : Option Value) : Nat → Option Value → zM → Prop := fun c v J => c = 0 ∧ v = w ∧ J = I
/-- thrown, the memory as it is -/
def zQx (I : zM) (c : Nat) : Nat → Option Value → zM → Prop := fun d _ J => d = c + 1 ∧ J = I
section ZWR
variable {sl D dy mi pc : Nat} {ls : zLs} {st : List Value} {I : zM} {b : Nat} {R : Nat → Option Value → zM → Prop}
theorem zRg_add {u b1 b2 : Nat} {o : zO4} (h : zRg b2 R o) (hu : u ≤ b1) : zRg (b1 + b2) R (zadd u o) := ⟨h.1, by have := h.2; show o.2.2.2 + u ≤ _; omega⟩
theorem zwp {b' : Nat} {Q : Nat → Option Value → zM → Prop} (k : zW sl D dy mi pc ls st I (zRg b Q)) (h : ∀ c v J, Q c v J → R c v J) (hb : b ≤ b' := by omega) : zW sl D dy mi pc ls st I (zRg b' R) :=
  zW_post k fun o ho => ⟨h _ _ _ ho.1, Nat.le_trans ho.2 hb⟩
/-- several instructions that touch no memory that isn't known -/
theorem zg (n : Nat) {pc' : Nat} {ls' : zLs} {st' : List Value} {I' : zM} (h : zgo sl dy mi n (pc, ls, st, I, 0) = some (pc', ls', st', I', 0)) (k : zW sl D dy mi pc' ls' st' I' (zRg b R)) : zW sl D dy mi pc ls st I (zRg b R) := zW_g n h k
theorem zret {e : Instr × Nat × Nat × Nat × Nat} {v : Option Value} (h : zl mi pc = some e) (hs : zstep sl dy mi pc e ls st I = some (.inr (.inl v))) (hp : R 0 v I) : zW sl D dy mi pc ls st I (zRg b R) := zW_r h hs ⟨hp, Nat.zero_le _⟩
theorem zthrow {e : Instr × Nat × Nat × Nat × Nat} {c : Nat} (h : zl mi pc = some e) (hs : zstep sl dy mi pc e ls st I = some (.inr (.inr (.inl c)))) (hp : R (c + 1) none I) (hb : 1 ≤ b := by omega) : zW sl D dy mi pc ls st I (zRg b R) := zW_x h hs ⟨hp, hb⟩
/-- an int is returned of whose type nothing is lost -/
theorem ziret {len r1 r2 r3 : Nat} {x : Int32} {ty : FieldType} (h : zl mi pc = some (.ireturn, len, r1, r2, r3)) (hr : zRt mi = some ty) (hn : narrow ty (.int x) = .int x) (hp : R 0 (some (.int x)) I) : zW sl D dy mi pc ls [.int x] I (zRg b R) := by
  refine zret h ?_ hp
  simp only [zstep, hr, hn, decide_true]
/-- a call -/
theorem zcal {e : Instr × Nat × Nat × Nat × Nat} {m pc' b1 b2 : Nat} {la : zLs} {st' : List Value} {Q : Nat → Option Value → zM → Prop} (h : zl mi pc = some e) (hs : zstep sl dy mi pc e ls st I = some (.inr (.inr (.inr (m, pc', la, st', 0)))))
    (hc : zW sl D dy m 0 la [] I (zRg b1 Q))
    (kr : ∀ (v : Option Value) (J : zM), Q 0 v J → zW sl (D + 1) dy mi pc' ls (zpush v st') J (zRg b2 R))
    (kx : ∀ (c : Nat) (v : Option Value) (J : zM), Q (c + 1) v J → (zhd c pc (zH mi) = none ∧ zany pc (zH mi) = false ∧ R (c + 1) none J) ∨ ∃ (pc2 : Nat) (ls2 : zLs), zcat3 mi pc c ls = some (pc2, ls2) ∧ zW sl (D + 1) dy mi pc2 ls2 [] J (zRg b2 R))
    (hb : b1 + b2 ≤ b := by omega) : zW sl (D + 1) dy mi pc ls st I (zRg b R) := by
  refine zW_cu h hs (Q := zRg b1 Q) hc (fun v J u hq => ⟨rfl, zW_post (kr v J hq.1) fun o ho => ⟨ho.1, ?_⟩⟩) (fun c v J u hq => ?_)
  · have h1 := ho.2; have h2 : u ≤ b1 := hq.2
    show o.2.2.2 + (u + 0) ≤ b
    omega
  · have h2 : u ≤ b1 := hq.2
    rcases kx c v J hq.1 with ⟨g1, g2, g3⟩ | ⟨pc2, ls2, g1, g2⟩
    · exact Or.inl ⟨g1, g2, g3, by show u + 0 ≤ b; omega⟩
    · exact Or.inr ⟨pc2, ls2, g1, zW_post g2 fun o ho => ⟨ho.1, by have h1 := ho.2; show o.2.2.2 + (u + 0) ≤ b; omega⟩⟩
/-- a call that returns one value and leaves the memory as it is -/
theorem zcf {e : Instr × Nat × Nat × Nat × Nat} {m pc' : Nat} {la : zLs} {st' : List Value} {v : Option Value} (h : zl mi pc = some e) (hs : zstep sl dy mi pc e ls st I = some (.inr (.inr (.inr (m, pc', la, st', 0)))))
    (hc : zW sl D dy m 0 la [] I (zRg 0 (zQf I v)))
    (kr : zW sl (D + 1) dy mi pc' ls (zpush v st') I (zRg b R)) : zW sl (D + 1) dy mi pc ls st I (zRg b R) :=
  zcal (b1 := 0) (b2 := b) h hs hc (fun w J ⟨_, h2, h3⟩ => by rw [h2, h3]; exact kr) (fun c w J ⟨h1, _⟩ => by cases h1)
/-- a call that throws, and nothing catches it here -/
theorem zcx {e : Instr × Nat × Nat × Nat × Nat} {m pc' b1 c : Nat} {la : zLs} {st' : List Value} (h : zl mi pc = some e) (hs : zstep sl dy mi pc e ls st I = some (.inr (.inr (.inr (m, pc', la, st', 0)))))
    (hc : zW sl D dy m 0 la [] I (zRg b1 (zQx I c))) (hh : zH mi = []) (hp : R (c + 1) none I) (hb : b1 ≤ b := by omega) : zW sl (D + 1) dy mi pc ls st I (zRg b R) :=
  zcal (b1 := b1) (b2 := 0) h hs hc (fun w J ⟨h1, _⟩ => by cases h1) (fun d w J ⟨h1, h2⟩ => by
    cases h1
    subst h2
    exact Or.inl ⟨by rw [hh]; rfl, by rw [hh]; rfl, hp⟩)
theorem zif {len r1 r2 r3 t : Nat} {c : ClassFile.Cond} {off : Int} {x : Int32} (h : zl mi pc = some (.ifCond c off, len, r1, r2, r3)) (ht : ztg pc off = some t)
    (kt : zc1 c x 0 = true → zW sl D dy mi t ls st I (zRg b R)) (kf : zc1 c x 0 = false → zW sl D dy mi (pc + len) ls st I (zRg b R)) : zW sl D dy mi pc ls (.int x :: st) I (zRg b R) := by
  cases hc : zc1 c x 0 with
  | true => exact zW_n h (by simp only [zstep, ht, hc]; rfl) (kt hc)
  | false => exact zW_n h (by simp only [zstep, ht, hc]; rfl) (kf hc)
theorem zicmp {len r1 r2 r3 t : Nat} {c : ClassFile.Cond} {off : Int} {x y : Int32} (h : zl mi pc = some (.if_icmp c off, len, r1, r2, r3)) (ht : ztg pc off = some t)
    (kt : zc1 c x y = true → zW sl D dy mi t ls st I (zRg b R)) (kf : zc1 c x y = false → zW sl D dy mi (pc + len) ls st I (zRg b R)) : zW sl D dy mi pc ls (.int y :: .int x :: st) I (zRg b R) := by
  cases hc : zc1 c x y with
  | true => exact zW_n h (by simp only [zstep, ht, hc]; rfl) (kt hc)
  | false => exact zW_n h (by simp only [zstep, ht, hc]; rfl) (kf hc)
/-- memory -/
def zgk (sl a ci k : Nat) : Bool := match zkd sl a with
  | some (q, _) => Nat.beq q ci && Nat.ble (k + 1) (zN ci) && Nat.ble (q + 1) 100
  | none => false
theorem zgf {idx ci k len r3 a : Nat} {x : Int32} (h : zl mi pc = some (.getfield idx, len, ci, k, r3)) (ha : zgk sl a ci k = true) (hf : zrf ci k = false) (hx : I a k = some x) (kk : zW sl D dy mi (pc + len) ls (.int x :: st) I (zRg b R)) : zW sl D dy mi pc ls (.ref a :: st) I (zRg b R) := by
  unfold zgk at ha
  split at ha
  · rename_i q m hk
    exact zW_n h (by simp only [zstep, hk, ha, hf, hx]; rfl) kk
  · cases ha
theorem zgr {idx ci k len r3 a q : Nat} (h : zl mi pc = some (.getfield idx, len, ci, k, r3)) (ha : zgk sl a ci k = true) (hf : zrf ci k = true) (hx : zpd a k = some q) (kk : zW sl D dy mi (pc + len) ls (.ref q :: st) I (zRg b R)) : zW sl D dy mi pc ls (.ref a :: st) I (zRg b R) := by
  unfold zgk at ha
  split at ha
  · rename_i q m hk
    exact zW_n h (by simp only [zstep, hk, ha, hf, hx]; rfl) kk
  · cases ha
theorem zpf {idx ci k len r3 a : Nat} {x : Int32} (h : zl mi pc = some (.putfield idx, len, ci, k, r3)) (ha : zgk sl a ci k = true) (hf : zrf ci k = false) (hn : narrow (zty ci k) (.int x) = .int x) (hft : fits (zty ci k) (.int x) = true) (kk : zW sl D dy mi (pc + len) ls st (zup I a k x) (zRg b R)) : zW sl D dy mi pc ls (.int x :: .ref a :: st) I (zRg b R) := by
  unfold zgk at ha
  split at ha
  · rename_i q m hk
    refine zW_n h ?_ kk
    simp only [zstep, hk, ha, hf, hn, hft]
    rfl
  · cases ha
theorem zia {len r1 r2 r3 a n : Nat} {i x : Int32} (h : zl mi pc = some (.iaload, len, r1, r2, r3)) (ha : zkd sl a = some (100, n)) (hi : zin i n = true) (hx : I a i.toNatClampNeg = some x) (kk : zW sl D dy mi (pc + len) ls (.int x :: st) I (zRg b R)) : zW sl D dy mi pc ls (.int i :: .ref a :: st) I (zRg b R) :=
  zW_n h (by simp only [zstep, ha, hi, hx]; rfl) kk
theorem zis {len r1 r2 r3 a n : Nat} {i x : Int32} (h : zl mi pc = some (.iastore, len, r1, r2, r3)) (ha : zkd sl a = some (100, n)) (hi : zin i n = true) (kk : zW sl D dy mi (pc + len) ls st (zup I a i.toNatClampNeg x) (zRg b R)) : zW sl D dy mi pc ls (.int x :: .int i :: .ref a :: st) I (zRg b R) :=
  zW_n h (by simp only [zstep, ha, hi]; rfl) kk
/-- what is not 0 may be divided by -/
theorem zdivr {len r1 r2 r3 : Nat} {x y : Int32} (h : zl mi pc = some (.idiv, len, r1, r2, r3)) (hy : y ≠ 0) (kk : zW sl D dy mi (pc + len) ls (.int (x / y) :: st) I (zRg b R)) : zW sl D dy mi pc ls (.int y :: .int x :: st) I (zRg b R) :=
  zW_n h (by simp only [zstep, hy, decide_false]; rfl) kk
theorem zremr {len r1 r2 r3 : Nat} {x y : Int32} (h : zl mi pc = some (.irem, len, r1, r2, r3)) (hy : y ≠ 0) (kk : zW sl D dy mi (pc + len) ls (.int (x - x / y * y) :: st) I (zRg b R)) : zW sl D dy mi pc ls (.int y :: .int x :: st) I (zRg b R) :=
  zW_n h (by simp only [zstep, hy, decide_false]; rfl) kk
end ZWR
/-- conditions, as propositions -/
theorem zc_eq {x y : Int32} : (zc1 .eq x y = true ↔ x = y) ∧ (zc1 .eq x y = false ↔ ¬ x = y) := ⟨by simp [zc1], by simp [zc1]⟩
theorem zc_ne {x y : Int32} : (zc1 .ne x y = true ↔ ¬ x = y) ∧ (zc1 .ne x y = false ↔ x = y) := ⟨by simp [zc1], by simp [zc1]⟩
theorem zc_lt {x y : Int32} : (zc1 .lt x y = true ↔ x.toInt < y.toInt) ∧ (zc1 .lt x y = false ↔ ¬ x.toInt < y.toInt) := ⟨by simp [zc1, Int32.lt_iff_toInt_lt], by simp [zc1, Int32.lt_iff_toInt_lt, Int32.le_iff_toInt_le]⟩
theorem zc_ge {x y : Int32} : (zc1 .ge x y = true ↔ y.toInt ≤ x.toInt) ∧ (zc1 .ge x y = false ↔ ¬ y.toInt ≤ x.toInt) := ⟨by simp [zc1, Int32.le_iff_toInt_le], by simp [zc1, Int32.lt_iff_toInt_lt, Int32.le_iff_toInt_le]⟩
theorem zc_gt {x y : Int32} : (zc1 .gt x y = true ↔ y.toInt < x.toInt) ∧ (zc1 .gt x y = false ↔ ¬ y.toInt < x.toInt) := ⟨by simp [zc1, Int32.lt_iff_toInt_lt], by simp [zc1, Int32.lt_iff_toInt_lt, Int32.le_iff_toInt_le]⟩
theorem zc_le {x y : Int32} : (zc1 .le x y = true ↔ x.toInt ≤ y.toInt) ∧ (zc1 .le x y = false ↔ ¬ x.toInt ≤ y.toInt) := ⟨by simp [zc1, Int32.le_iff_toInt_le], by simp [zc1, Int32.lt_iff_toInt_lt, Int32.le_iff_toInt_le]⟩
theorem zin_ok {i : Int32} {n : Nat} (h0 : 0 ≤ i.toInt) (h1 : i.toInt < (n : Int)) : zin i n = true := by
  unfold zin
  have h2 : i.toNatClampNeg = i.toInt.toNat := rfl
  simp only [Bool.and_eq_true, decide_eq_true_eq]
  exact ⟨Int32.le_iff_toInt_le.mpr h0, Nat.ble_eq_true_of_le (by omega)⟩
section ZWR2
variable {sl D dy mi pc : Nat} {ls : zLs} {st : List Value} {I : zM} {b : Nat} {R : Nat → Option Value → zM → Prop}
theorem zcb {e : Instr × Nat × Nat × Nat × Nat} {m pc' : Nat} {la : zLs} {st' : List Value} {P : Prop} (h : zl mi pc = some e) (hs : zstep sl dy mi pc e ls st I = some (.inr (.inr (.inr (m, pc', la, st', 0)))))
    (hc : zW sl D dy m 0 la [] I (zRg 0 (zQb I P))) (k1 : P → zW sl (D + 1) dy mi pc' ls (.int 1 :: st') I (zRg b R)) (k0 : ¬ P → zW sl (D + 1) dy mi pc' ls (.int 0 :: st') I (zRg b R)) : zW sl (D + 1) dy mi pc ls st I (zRg b R) :=
  zcal (b1 := 0) (b2 := b) h hs hc (fun w J ⟨_, h3, h2⟩ => by
    rw [h3]
    rcases h2 with ⟨rfl, hp⟩ | ⟨rfl, hp⟩
    · exact k1 hp
    · exact k0 hp) (fun c w J ⟨h1, _⟩ => by cases h1)
theorem zb1 {P : Prop} (h : P) : zQb I P 0 (some (.int 1)) I := ⟨rfl, rfl, Or.inl ⟨rfl, h⟩⟩
theorem zb0 {P : Prop} (h : ¬ P) : zQb I P 0 (some (.int 0)) I := ⟨rfl, rfl, Or.inr ⟨rfl, h⟩⟩
theorem zf1 {w : Option Value} : zQf I w 0 w I := ⟨rfl, rfl, rfl⟩
theorem zx1 {c : Nat} : zQx I c (c + 1) none I := ⟨rfl, rfl⟩
end ZWR2
/-- the state's cells, by the place of the object that holds them -/
def zcell (o k : Nat) : Bool := match o with
  | 0 => Nat.ble 10 k && Nat.ble k 15
  | 1 => Nat.ble k 7
  | 2 => Nat.ble k 7
  | 3 => Nat.ble k 7
  | _ => Nat.ble o 10 && Nat.ble k 11
def zSB (p : Nat) (S : Nat → Nat → Int32) (I : zM) : Prop := ∀ o k, zcell o k = true → I (o + p) k = some (S o k)
theorem zcell_8 {o : Nat} {i : Int32} (ho : 1 ≤ o ∧ o ≤ 3) (h0 : 0 ≤ i.toInt) (h : i.toInt < 8) : zcell o i.toNatClampNeg = true := by
  have h2 : i.toNatClampNeg = i.toInt.toNat := rfl
  have h3 : Nat.ble i.toNatClampNeg 7 = true := Nat.ble_eq_true_of_le (by omega)
  rcases (show o = 1 ∨ o = 2 ∨ o = 3 by omega) with rfl | rfl | rfl <;> exact h3
theorem zcell_12 {o : Nat} {i : Int32} (ho : 4 ≤ o ∧ o ≤ 10) (h0 : 0 ≤ i.toInt) (h : i.toInt < 12) : zcell o i.toNatClampNeg = true := by
  have h2 : i.toNatClampNeg = i.toInt.toNat := rfl
  have h3 : Nat.ble i.toNatClampNeg 11 = true := Nat.ble_eq_true_of_le (by omega)
  have h4 : Nat.ble o 10 = true := Nat.ble_eq_true_of_le ho.2
  unfold zcell
  split <;> first | omega | simp [h3, h4]
/-- a state as the class keeps it -/
def zOK (S : Nat → Nat → Int32) : Prop :=
  (0 ≤ (S 0 10).toInt ∧ (S 0 10).toInt ≤ 8) ∧ (0 ≤ (S 0 11).toInt ∧ (S 0 11).toInt ≤ 12) ∧
  (∀ k : Nat, (k : Int) < (S 0 10).toInt → (10 ≤ (S 1 k).toInt ∧ (S 1 k).toInt ≤ 999) ∧ (0 ≤ (S 2 k).toInt ∧ (S 2 k).toInt ≤ (S 1 k).toInt) ∧ (0 ≤ (S 3 k).toInt ∧ (S 3 k).toInt ≤ 255)) ∧
  (∀ k : Nat, k < 8 → (S 0 10).toInt ≤ k → S 2 k = 0 ∧ S 3 k = 0) ∧
  (∀ k : Nat, (k : Int) < (S 0 11).toInt → (0 ≤ (S 4 k).toInt ∧ (S 4 k).toInt < (S 0 10).toInt) ∧ (0 ≤ (S 5 k).toInt ∧ (S 5 k).toInt < (S 0 10).toInt) ∧ (0 ≤ (S 6 k).toInt ∧ (S 6 k).toInt ≤ 255) ∧ (0 ≤ (S 7 k).toInt ∧ (S 7 k).toInt ≤ 4) ∧ (0 ≤ (S 8 k).toInt ∧ (S 8 k).toInt ≤ 9) ∧ (0 ≤ (S 9 k).toInt ∧ (S 9 k).toInt ≤ 20)) ∧
  (∀ k : Nat, k < 12 → (S 0 11).toInt ≤ k → S 7 k = 0 ∧ S 8 k = 0 ∧ S 9 k = 0 ∧ S 10 k = 0)
theorem zix {x n : Int32} (h0 : 0 ≤ x.toInt) (h1 : x.toInt < n.toInt) : ((x.toNatClampNeg : Nat) : Int) < n.toInt := by
  have h2 : x.toNatClampNeg = x.toInt.toNat := rfl
  omega
theorem zOK_tank {S : Nat → Nat → Int32} (h : zOK S) {t : Int32} (h0 : 0 ≤ t.toInt) (h1 : t.toInt < (S 0 10).toInt) : (10 ≤ (S 1 t.toNatClampNeg).toInt ∧ (S 1 t.toNatClampNeg).toInt ≤ 999) ∧ (0 ≤ (S 2 t.toNatClampNeg).toInt ∧ (S 2 t.toNatClampNeg).toInt ≤ (S 1 t.toNatClampNeg).toInt) ∧ (0 ≤ (S 3 t.toNatClampNeg).toInt ∧ (S 3 t.toNatClampNeg).toInt ≤ 255) := h.2.2.1 _ (zix h0 h1)
theorem zOK_pipe {S : Nat → Nat → Int32} (h : zOK S) {t : Int32} (h0 : 0 ≤ t.toInt) (h1 : t.toInt < (S 0 11).toInt) : (0 ≤ (S 4 t.toNatClampNeg).toInt ∧ (S 4 t.toNatClampNeg).toInt < (S 0 10).toInt) ∧ (0 ≤ (S 5 t.toNatClampNeg).toInt ∧ (S 5 t.toNatClampNeg).toInt < (S 0 10).toInt) ∧ (0 ≤ (S 6 t.toNatClampNeg).toInt ∧ (S 6 t.toNatClampNeg).toInt ≤ 255) ∧ (0 ≤ (S 7 t.toNatClampNeg).toInt ∧ (S 7 t.toNatClampNeg).toInt ≤ 4) ∧ (0 ≤ (S 8 t.toNatClampNeg).toInt ∧ (S 8 t.toNatClampNeg).toInt ≤ 9) ∧ (0 ≤ (S 9 t.toNatClampNeg).toInt ∧ (S 9 t.toNatClampNeg).toInt ≤ 20) := h.2.2.2.2.1 _ (zix h0 h1)
theorem zi0 : (0 : Int32).toInt = 0 := rfl
theorem zi8 : (8 : Int32).toInt = 8 := rfl
theorem zi20 : (20 : Int32).toInt = 20 := rfl
theorem zLp {sl D dy mi pc : Nat} {l1 l2 : zLs} {st : List Value} {I : zM} {Post : zO4 → Prop} (h : l1.Perm l2) (hn : decide ((l1.map (fun q => q.1)).Nodup) = true) (k : zW sl D dy mi pc l1 st I Post) : zW sl D dy mi pc l2 st I Post := by
  obtain ⟨N, o, h1, h2⟩ := k
  exact ⟨N, o, zrun_L N (zPm_of (ex := []) (by rw [List.append_nil]; exact h) (by rw [List.append_nil]; exact of_decide_eq_true hn)) h1, h2⟩
/-- fewer locals, in any order -/
theorem zfew {sl D dy mi pc : Nat} {l1 l2 : zLs} (ex : zLs) {st : List Value} {I : zM} {Post : zO4 → Prop} (h : (l1 ++ ex).Perm l2) (hn : decide (((l1 ++ ex).map (fun q => q.1)).Nodup) = true) (k : zW sl D dy mi pc l1 st I Post) : zW sl D dy mi pc l2 st I Post := by
  obtain ⟨N, o, h1, h2⟩ := k
  exact ⟨N, o, zrun_L N (zPm_of h (of_decide_eq_true hn)) h1, h2⟩
/-- a method that returns some int and leaves the memory as it is -/
def zQi (I : zM) : Nat → Option Value → zM → Prop := fun c v J => c = 0 ∧ (∃ x, v = some (.int x)) ∧ J = I
def zQl (I : zM) : Nat → Option Value → zM → Prop := fun c v J => c = 0 ∧ (∃ x, v = some (.long x)) ∧ J = I
theorem zi1 {I : zM} {x : Int32} : zQi I 0 (some (.int x)) I := ⟨rfl, ⟨x, rfl⟩, rfl⟩
theorem zl1' {I : zM} {x : Int64} : zQl I 0 (some (.long x)) I := ⟨rfl, ⟨x, rfl⟩, rfl⟩
section ZWR3
variable {sl D dy mi pc : Nat} {ls : zLs} {st : List Value} {I : zM} {b : Nat} {R : Nat → Option Value → zM → Prop}
theorem zci {e : Instr × Nat × Nat × Nat × Nat} {m pc' : Nat} {la : zLs} {st' : List Value} (h : zl mi pc = some e) (hs : zstep sl dy mi pc e ls st I = some (.inr (.inr (.inr (m, pc', la, st', 0)))))
    (hc : zW sl D dy m 0 la [] I (zRg 0 (zQi I))) (kr : ∀ x : Int32, zW sl (D + 1) dy mi pc' ls (.int x :: st') I (zRg b R)) : zW sl (D + 1) dy mi pc ls st I (zRg b R) :=
  zcal (b1 := 0) (b2 := b) h hs hc (fun w J ⟨_, ⟨x, h2⟩, h3⟩ => by rw [h2, h3]; exact kr x) (fun c w J ⟨h1, _⟩ => by cases h1)
theorem zcl {e : Instr × Nat × Nat × Nat × Nat} {m pc' : Nat} {la : zLs} {st' : List Value} (h : zl mi pc = some e) (hs : zstep sl dy mi pc e ls st I = some (.inr (.inr (.inr (m, pc', la, st', 0)))))
    (hc : zW sl D dy m 0 la [] I (zRg 0 (zQl I))) (kr : ∀ x : Int64, zW sl (D + 1) dy mi pc' ls (.long x :: st') I (zRg b R)) : zW sl (D + 1) dy mi pc ls st I (zRg b R) :=
  zcal (b1 := 0) (b2 := b) h hs hc (fun w J ⟨_, ⟨x, h2⟩, h3⟩ => by rw [h2, h3]; exact kr x) (fun c w J ⟨h1, _⟩ => by cases h1)
end ZWR3
section ZWR4
variable {sl D dy mi pc : Nat} {ls : zLs} {st : List Value} {I : zM} {b : Nat} {R : Nat → Option Value → zM → Prop}
/-- a call that throws what is caught here -/
theorem zcct {e : Instr × Nat × Nat × Nat × Nat} {m pc' b1 b2 c pc2 : Nat} {la ls2 : zLs} {st' : List Value} (h : zl mi pc = some e) (hs : zstep sl dy mi pc e ls st I = some (.inr (.inr (.inr (m, pc', la, st', 0)))))
    (hc : zW sl D dy m 0 la [] I (zRg b1 (zQx I c))) (hz : zcat3 mi pc c ls = some (pc2, ls2)) (k : zW sl (D + 1) dy mi pc2 ls2 [] I (zRg b2 R)) (hb : b1 + b2 ≤ b := by omega) : zW sl (D + 1) dy mi pc ls st I (zRg b R) :=
  zcal (b1 := b1) (b2 := b2) h hs hc (fun w J ⟨h1, _⟩ => by cases h1) (fun d w J ⟨h1, h2⟩ => by
    cases h1
    subst h2
    exact Or.inr ⟨pc2, ls2, hz, k⟩) hb
/-- a method without an answer that leaves the memory as it is -/
theorem zcv {e : Instr × Nat × Nat × Nat × Nat} {m pc' : Nat} {la : zLs} {st' : List Value} (h : zl mi pc = some e) (hs : zstep sl dy mi pc e ls st I = some (.inr (.inr (.inr (m, pc', la, st', 0)))))
    (hc : zW sl D dy m 0 la [] I (zRg 0 (zQf I none))) (kr : zW sl (D + 1) dy mi pc' ls st' I (zRg b R)) : zW sl (D + 1) dy mi pc ls st I (zRg b R) := zcf h hs hc kr
end ZWR4
/-- some int, or c thrown; the memory as it is -/
def zQt (I : zM) (c : Nat) : Nat → Option Value → zM → Prop := fun d v J => J = I ∧ ((d = 0 ∧ ∃ x, v = some (.int x)) ∨ d = c + 1)
section ZWR5
variable {sl D dy mi pc : Nat} {ls : zLs} {st : List Value} {I : zM} {b : Nat} {R : Nat → Option Value → zM → Prop}
theorem zt1 {c : Nat} {x : Int32} : zQt I c 0 (some (.int x)) I := ⟨rfl, Or.inl ⟨rfl, x, rfl⟩⟩
theorem zt2 {c : Nat} : zQt I c (c + 1) none I := ⟨rfl, Or.inr rfl⟩
/-- a call that answers some int or throws what is caught here -/
theorem zcit {e : Instr × Nat × Nat × Nat × Nat} {m pc' b1 b2 c pc2 : Nat} {la ls2 : zLs} {st' : List Value} (h : zl mi pc = some e) (hs : zstep sl dy mi pc e ls st I = some (.inr (.inr (.inr (m, pc', la, st', 0)))))
    (hc : zW sl D dy m 0 la [] I (zRg b1 (zQt I c))) (hz : zcat3 mi pc c ls = some (pc2, ls2)) (kr : ∀ x : Int32, zW sl (D + 1) dy mi pc' ls (.int x :: st') I (zRg b2 R)) (k : zW sl (D + 1) dy mi pc2 ls2 [] I (zRg b2 R)) (hb : b1 + b2 ≤ b := by omega) : zW sl (D + 1) dy mi pc ls st I (zRg b R) :=
  zcal (b1 := b1) (b2 := b2) h hs hc (fun w J ⟨h2, h1⟩ => by
    subst h2
    rcases h1 with ⟨-, x, rfl⟩ | h1
    · exact kr x
    · cases h1) (fun d w J ⟨h2, h1⟩ => by
    subst h2
    rcases h1 with ⟨h1, -⟩ | h1
    · cases h1
    · cases h1
      exact Or.inr ⟨pc2, ls2, hz, k⟩) hb
end ZWR5
