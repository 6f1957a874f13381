/-! CONTRACTS: reaching is mutual -/
theorem zbt_bit (x j : Int32) (k : Nat) (hk : k < 32) (hs : ((j &&& 31).toBitVec.smod 32).toNat = k) : zbt x j = x.toBitVec.getLsbD k := by
  have e : ((x >>> (j &&& 31)) &&& 1).toBitVec = BitVec.setWidth 32 (BitVec.ofBool ((x.toBitVec.sshiftRight k).getLsbD 0)) := by
    show (x.toBitVec.sshiftRight ((j &&& 31).toBitVec.smod 32).toNat) &&& 1#32 = _
    rw [hs, BitVec.and_one_eq_setWidth_ofBool_getLsbD]
  have e2 : (x.toBitVec.sshiftRight k).getLsbD 0 = x.toBitVec.getLsbD k := by
    rw [BitVec.getLsbD_sshiftRight]
    simp [hk]
  rw [e2] at e
  unfold zbt
  cases hb : x.toBitVec.getLsbD k with
  | true =>
    have h1 : ¬ (x >>> (j &&& 31)) &&& 1 = 0 := fun h => by
      rw [h, hb] at e
      exact absurd e (by decide)
    rw [decide_eq_false h1]
    rfl
  | false =>
    have h1 : (x >>> (j &&& 31)) &&& 1 = 0 := Int32.toBitVec_inj.mp (by rw [e, hb]; rfl)
    rw [decide_eq_true h1]
    rfl
/-- a tank's number -/
def zIn (j : Int32) : Prop := 0 ≤ j.toInt ∧ j.toInt < 8
theorem zIn_lit {j : Int32} (h : zIn j) : j = 0 ∨ j = 1 ∨ j = 2 ∨ j = 3 ∨ j = 4 ∨ j = 5 ∨ j = 6 ∨ j = 7 := by
  have h2 := zlit24 (v := j) h.1 (by have := h.2; omega)
  rcases h2 with rfl | rfl | rfl | rfl | rfl | rfl | rfl | rfl | rfl | rfl | rfl | rfl | rfl | rfl | rfl | rfl | rfl | rfl | rfl | rfl | rfl | rfl | rfl | rfl <;> first | decide | exact absurd h.2 (by decide)
theorem zbt_of (x : Int32) {j : Int32} (h : zIn j) : ∃ k, k < 32 ∧ (∀ y, zbt y j = y.toBitVec.getLsbD k) ∧ (-1 : Int32).toBitVec.getLsbD k = true := by
  rcases zIn_lit h with rfl | rfl | rfl | rfl | rfl | rfl | rfl | rfl
  · exact ⟨0, by decide, fun y => zbt_bit y 0 0 (by decide) (by decide), by decide⟩
  · exact ⟨1, by decide, fun y => zbt_bit y 1 1 (by decide) (by decide), by decide⟩
  · exact ⟨2, by decide, fun y => zbt_bit y 2 2 (by decide) (by decide), by decide⟩
  · exact ⟨3, by decide, fun y => zbt_bit y 3 3 (by decide) (by decide), by decide⟩
  · exact ⟨4, by decide, fun y => zbt_bit y 4 4 (by decide) (by decide), by decide⟩
  · exact ⟨5, by decide, fun y => zbt_bit y 5 5 (by decide) (by decide), by decide⟩
  · exact ⟨6, by decide, fun y => zbt_bit y 6 6 (by decide) (by decide), by decide⟩
  · exact ⟨7, by decide, fun y => zbt_bit y 7 7 (by decide) (by decide), by decide⟩
theorem zbt_or (x y : Int32) {j : Int32} (h : zIn j) : zbt (x ||| y) j = (zbt x j || zbt y j) := by
  obtain ⟨k, -, hk, -⟩ := zbt_of x h
  rw [hk, hk, hk, Int32.toBitVec_or, BitVec.getLsbD_or]
theorem zbt_and (x y : Int32) {j : Int32} (h : zIn j) : zbt (x &&& y) j = (zbt x j && zbt y j) := by
  obtain ⟨k, -, hk, -⟩ := zbt_of x h
  rw [hk, hk, hk, Int32.toBitVec_and, BitVec.getLsbD_and]
theorem zbt_not (x : Int32) {j : Int32} (h : zIn j) : zbt (x ^^^ (-1)) j = !(zbt x j) := by
  obtain ⟨k, -, hk, h1⟩ := zbt_of x h
  rw [hk, hk, Int32.toBitVec_xor, BitVec.getLsbD_xor, h1, Bool.xor_true]
theorem zbt_0 {j : Int32} (h : zIn j) : zbt 0 j = false := by
  rcases zIn_lit h with rfl | rfl | rfl | rfl | rfl | rfl | rfl | rfl <;> decide
theorem zbt_1 {f j : Int32} (hf : zIn f) (hj : zIn j) : zbt (1 <<< (f &&& 31)) j = decide (f = j) := by
  rcases zIn_lit hf with rfl | rfl | rfl | rfl | rfl | rfl | rfl | rfl <;> rcases zIn_lit hj with rfl | rfl | rfl | rfl | rfl | rfl | rfl | rfl <;> decide
/-- an open pipe between two tanks -/
def zEd (S : Nat → Nat → Int32) (a b : Int32) : Prop := ∃ p : Nat, (p : Int) < (S 0 11).toInt ∧ zop S p = true ∧ ((S 4 p = a ∧ S 5 p = b) ∨ (S 5 p = a ∧ S 4 p = b))
theorem zEd_sym {S : Nat → Nat → Int32} {a b : Int32} (h : zEd S a b) : zEd S b a := by
  obtain ⟨p, h1, h2, h3⟩ := h
  refine ⟨p, h1, h2, ?_⟩
  rcases h3 with ⟨h3, h4⟩ | ⟨h3, h4⟩
  · exact Or.inr ⟨h4, h3⟩
  · exact Or.inl ⟨h4, h3⟩
theorem zEd_in {S : Nat → Nat → Int32} (hV : zOK S) {a b : Int32} (h : zEd S a b) : zIn b := by
  obtain ⟨p, h1, h2, h3⟩ := h
  have hF := hV.2.2.2.2.1 p h1
  have hT := hV.1
  unfold zIn
  rcases h3 with ⟨-, rfl⟩ | ⟨-, rfl⟩ <;> omega
/-- reached in at most so many steps -/
def zRk (S : Nat → Nat → Int32) : Nat → Int32 → Int32 → Prop
  | 0, i, j => i = j
  | k + 1, i, j => zRk S k i j ∨ ∃ m, zRk S k i m ∧ zEd S m j
theorem zRk_front {S : Nat → Nat → Int32} {i m : Int32} (h : zEd S i m) : ∀ {k : Nat} {j : Int32}, zRk S k m j → zRk S (k + 1) i j
  | 0, j, hk => Or.inr ⟨i, rfl, (show m = j from hk) ▸ h⟩
  | k + 1, j, hk => by
    rcases hk with hk | ⟨q, hk, hq⟩
    · exact Or.inl (zRk_front h hk)
    · exact Or.inr ⟨q, zRk_front h hk, hq⟩
theorem zRk_sym {S : Nat → Nat → Int32} : ∀ {k : Nat} {i j : Int32}, zRk S k i j → zRk S k j i
  | 0, i, j, h => (show i = j from h).symm
  | k + 1, i, j, h => by
    rcases h with h | ⟨m, h, hm⟩
    · exact Or.inl (zRk_sym h)
    · exact zRk_front (zEd_sym hm) (zRk_sym h)
theorem zRk_in {S : Nat → Nat → Int32} (hV : zOK S) {i : Int32} (hi : zIn i) : ∀ {k : Nat} {j : Int32}, zRk S k i j → zIn j
  | 0, j, h => (show i = j from h) ▸ hi
  | k + 1, j, h => by
    rcases h with h | ⟨m, h, hm⟩
    · exact zRk_in hV hi h
    · exact zEd_in hV hm
section ZBL
variable {S : Nat → Nat → Int32}
/-- what one pipe adds -/
def zAd (S : Nat → Nat → Int32) (ts : Int32) (p : Nat) (j : Int32) : Prop := zop S p = true ∧ ((zbt ts (S 4 p) = true ∧ S 5 p = j) ∨ (zbt ts (S 5 p) = true ∧ S 4 p = j))
theorem znst_bit (hV : zOK S) (ts f : Int32) {p j : Int32} (h0 : 0 ≤ p.toInt) (hp : p.toInt < (S 0 11).toInt) (hj : zIn j) : zbt (znst S ts 1 (-1) p f) j = true ↔ zbt f j = true ∨ zAd S ts p.toNatClampNeg j := by
  have hF := zOK_pipe hV h0 hp
  have hT := hV.1
  have i4 : zIn (S 4 p.toNatClampNeg) := ⟨hF.1.1, by omega⟩
  have i5 : zIn (S 5 p.toNatClampNeg) := ⟨hF.2.1.1, by omega⟩
  have hne : p ≠ -1 := fun e => by rw [e] at h0; exact absurd h0 (by decide)
  have z1 : (1 : Int32).toInt = 1 := rfl
  unfold znst zAd
  rw [if_neg hne]
  by_cases ho : zop S p.toNatClampNeg = true
  · have h7 : (1 : Int32).toInt ≤ (S 7 p.toNatClampNeg).toInt := by
      have h8 := (zop_iff.mp ho).1
      have h9 : (S 7 p.toNatClampNeg).toInt ≠ 0 := fun e => h8 (Int32.toInt_inj.mp e)
      omega
    rw [if_pos ho, if_pos h7]
    by_cases a5 : zbt ts (S 5 p.toNatClampNeg) = true
    · by_cases a4 : zbt ts (S 4 p.toNatClampNeg) = true
      · rw [if_pos a5, if_pos a4]
        simp only [zbt_or _ _ hj, zbt_1 i4 hj, zbt_1 i5 hj, Bool.or_eq_true, decide_eq_true_eq, ho, a4, a5, true_and]
        constructor
        · rintro ((h | h) | h) <;> simp [h]
        · rintro (h | h | h) <;> simp [h]
      · rw [if_pos a5, if_neg a4]
        simp only [zbt_or _ _ hj, zbt_1 i4 hj, Bool.or_eq_true, decide_eq_true_eq, ho, a5, true_and]
        constructor
        · rintro (h | h) <;> simp [h]
        · rintro (h | ⟨h, -⟩ | h)
          · exact Or.inl h
          · exact absurd h a4
          · exact Or.inr h
    · by_cases a4 : zbt ts (S 4 p.toNatClampNeg) = true
      · rw [if_neg a5, if_pos a4]
        simp only [zbt_or _ _ hj, zbt_1 i5 hj, Bool.or_eq_true, decide_eq_true_eq, ho, a4, true_and]
        constructor
        · rintro (h | h) <;> simp [h]
        · rintro (h | h | ⟨h, -⟩)
          · exact Or.inl h
          · exact Or.inr h
          · exact absurd h a5
      · rw [if_neg a5, if_neg a4]
        constructor
        · exact Or.inl
        · rintro (h | ⟨-, ⟨h, -⟩ | ⟨h, -⟩⟩)
          · exact h
          · exact absurd h a4
          · exact absurd h a5
  · rw [if_neg ho]
    constructor
    · exact Or.inl
    · rintro (h | ⟨h, -⟩)
      · exact h
      · exact absurd h ho
theorem znbl_bit (hV : zOK S) (ts : Int32) {j : Int32} (hj : zIn j) : ∀ (k : Nat) (p f : Int32), 0 ≤ p.toInt → p.toInt + (k : Int) = (S 0 11).toInt → (zbt (znbl S ts 1 (-1) k p f) j = true ↔ zbt f j = true ∨ ∃ q : Nat, p.toInt ≤ (q : Int) ∧ (q : Int) < (S 0 11).toInt ∧ zAd S ts q j)
  | 0, p, f, h0, hk => by
    constructor
    · exact Or.inl
    · rintro (h | ⟨q, h1, h2, -⟩)
      · exact h
      · omega
  | k + 1, p, f, h0, hk => by
    have hP := hV.2.1
    have ha := zadd1 h0 (by omega)
    have hc : p.toNatClampNeg = p.toInt.toNat := rfl
    show zbt (znbl S ts 1 (-1) k (p + 1) (znst S ts 1 (-1) p f)) j = true ↔ _
    rw [znbl_bit hV ts hj k (p + 1) _ (by omega) (by omega), znst_bit hV ts f h0 (by omega) hj, ha]
    constructor
    · rintro ((h | h) | ⟨q, h1, h2, h3⟩)
      · exact Or.inl h
      · exact Or.inr ⟨p.toNatClampNeg, by omega, by omega, h⟩
      · exact Or.inr ⟨q, by omega, h2, h3⟩
    · rintro (h | ⟨q, h1, h2, h3⟩)
      · exact Or.inl (Or.inl h)
      · by_cases e : (q : Int) = p.toInt
        · have : q = p.toNatClampNeg := by omega
          exact Or.inl (Or.inr (this ▸ h3))
        · exact Or.inr ⟨q, by omega, h2, h3⟩
theorem zng_bit (hV : zOK S) (ts : Int32) {j : Int32} (hj : zIn j) : zbt (zng S ts 1 (-1)) j = true ↔ ∃ i, zIn i ∧ zbt ts i = true ∧ zEd S i j := by
  have hP := hV.2.1
  have hT := hV.1
  have z0 := zi0
  unfold zng
  rw [znbl_bit hV ts hj _ 0 0 (by decide) (by rw [z0]; omega), zbt_0 hj]
  constructor
  · rintro (h | ⟨q, h1, h2, h3, h4⟩)
    · cases h
    · have hF := hV.2.2.2.2.1 q h2
      rcases h4 with ⟨h4, h5⟩ | ⟨h4, h5⟩
      · exact ⟨S 4 q, ⟨hF.1.1, by omega⟩, h4, q, h2, h3, Or.inl ⟨rfl, h5⟩⟩
      · exact ⟨S 5 q, ⟨hF.2.1.1, by omega⟩, h4, q, h2, h3, Or.inr ⟨rfl, h5⟩⟩
  · rintro ⟨i, -, h, q, h2, h3, h4⟩
    refine Or.inr ⟨q, by rw [z0]; omega, h2, h3, ?_⟩
    rcases h4 with ⟨rfl, h5⟩ | ⟨rfl, h5⟩
    · exact Or.inl ⟨h, h5⟩
    · exact Or.inr ⟨h, h5⟩
theorem zrcl_ball (hV : zOK S) {f : Int32} (hf : zIn f) : ∀ (k m : Nat) (l r : Int32), (∀ j, zIn j → (zbt r j = true ↔ zRk S m f j)) → (∀ j, zIn j → zbt l j = true → zbt r j = true) → (∀ i j, zIn i → zbt r i = true → ¬ zbt l i = true → zEd S i j → zbt r j = true) → ∀ j, zIn j → (zbt (zrcl S 1 (-1) k l r) j = true ↔ zRk S (m + k) f j)
  | 0, m, l, r, h1, _, _, j, hj => h1 j hj
  | k + 1, m, l, r, h1, h2, h3, j, hj => by
    by_cases hl : l = 0
    · have e : zrcl S 1 (-1) (k + 1) l r = r := by
        show (if l = 0 then r else _) = r
        rw [if_pos hl]
      rw [e, h1 j hj]
      have key : ∀ (q : Nat) (j : Int32), zRk S (m + q) f j → zRk S m f j := by
        intro q
        induction q with
        | zero => intro j h; exact h
        | succ q ih =>
          intro j h
          rcases h with h | ⟨i, h, he⟩
          · exact ih j h
          · have hi := ih i h
            have hin := zRk_in hV hf hi
            have hjn := zEd_in hV he
            exact (h1 j hjn).mp (h3 i j hin ((h1 i hin).mpr hi) (by rw [hl, zbt_0 hin]; decide) he)
      refine ⟨fun h => ?_, key (k + 1) j⟩
      have up : ∀ q : Nat, zRk S m f j → zRk S (m + q) f j := by
        intro q
        induction q with
        | zero => exact fun h => h
        | succ q ih => exact fun h => Or.inl (ih h)
      exact up (k + 1) h
    · have e : zrcl S 1 (-1) (k + 1) l r = zrcl S 1 (-1) k (zng S l 1 (-1) &&& (r ^^^ (-1))) (r ||| (zng S l 1 (-1) &&& (r ^^^ (-1)))) := by
        show (if l = 0 then r else _) = _
        rw [if_neg hl]
      have b1 : ∀ j, zIn j → (zbt (zng S l 1 (-1) &&& (r ^^^ (-1))) j = true ↔ zbt (zng S l 1 (-1)) j = true ∧ ¬ zbt r j = true) := fun j hj => by
        rw [zbt_and _ _ hj, zbt_not _ hj]
        cases zbt (zng S l 1 (-1)) j <;> cases zbt r j <;> simp
      have b2 : ∀ j, zIn j → (zbt (r ||| (zng S l 1 (-1) &&& (r ^^^ (-1)))) j = true ↔ zbt r j = true ∨ zbt (zng S l 1 (-1)) j = true) := fun j hj => by
        rw [zbt_or _ _ hj, zbt_and _ _ hj, zbt_not _ hj]
        cases zbt (zng S l 1 (-1)) j <;> cases zbt r j <;> simp
      rw [e, show m + (k + 1) = (m + 1) + k by omega]
      refine zrcl_ball hV hf k (m + 1) _ _ (fun j hj => ?_) (fun j hj h => ?_) (fun i j hi hr hn he => ?_) j hj
      · rw [b2 j hj]
        constructor
        · rintro (h | h)
          · exact Or.inl ((h1 j hj).mp h)
          · obtain ⟨i, hi, hil, he⟩ := (zng_bit hV l hj).mp h
            exact Or.inr ⟨i, (h1 i hi).mp (h2 i hi hil), he⟩
        · rintro (h | ⟨i, h, he⟩)
          · exact Or.inl ((h1 j hj).mpr h)
          · have hi := zRk_in hV hf h
            by_cases hil : zbt l i = true
            · exact Or.inr ((zng_bit hV l hj).mpr ⟨i, hi, hil, he⟩)
            · exact Or.inl (h3 i j hi ((h1 i hi).mpr h) hil he)
      · exact (b2 j hj).mpr (Or.inr ((b1 j hj).mp h).1)
      · have hjn := zEd_in hV he
        rw [b2 j hjn]
        rw [b1 i hi] at hn
        rw [b2 i hi] at hr
        have hri : zbt r i = true := by
          rcases hr with h | h
          · exact h
          · cases hb : zbt r i with
            | true => rfl
            | false => exact absurd ⟨h, by rw [hb]; decide⟩ hn
        by_cases hil : zbt l i = true
        · exact Or.inr ((zng_bit hV l hjn).mpr ⟨i, hi, hil, he⟩)
        · exact Or.inl (h3 i j hi hri hil he)
theorem zrch_ball (hV : zOK S) {f j : Int32} (hf : zIn f) (hj : zIn j) : zbt (zrch S f 1 (-1)) j = true ↔ zRk S 8 f j := by
  have h := zrcl_ball hV hf 8 0 (1 <<< (f &&& 31)) (1 <<< (f &&& 31)) (fun j hj => by rw [zbt_1 hf hj]; exact decide_eq_true_iff) (fun j hj h => h) (fun i j hi h hn he => absurd h hn) j hj
  rw [Nat.zero_add] at h
  exact h
theorem zrch_sym (hV : zOK S) {f j : Int32} (hf : zIn f) (hj : zIn j) (h : zbt (zrch S f 1 (-1)) j = true) : zbt (zrch S j 1 (-1)) f = true :=
  (zrch_ball hV hj hf).mpr (zRk_sym ((zrch_ball hV hf hj).mp h))
end ZBL
