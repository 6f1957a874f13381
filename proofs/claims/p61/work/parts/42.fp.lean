/-! FLOATS AND DOUBLES THAT ARE NO NaN -/
def zfin (f : FP.Core.Fmt) : FP.Core.Datum → Prop
  | .nan => False
  | .inf _ => True
  | .fin _ c q => c < 2 ^ f.p ∧ q ≤ f.qmax ∧ (c < f.tails ∨ f.qmin ≤ q)
theorem zfin_ratio (f : FP.Core.Fmt) (hp : 1 ≤ f.p) (s : Bool) (a b : Nat) (e : Int) (hq : f.qmin ≤ f.qmax) : zfin f (FP.Core.roundRatio f s a b e) := by
  have h2 : 0 < 2 ^ f.p := Nat.two_pow_pos _
  unfold FP.Core.roundRatio
  split
  · exact ⟨h2, hq, Or.inr (Int.le_refl _)⟩
  · unfold FP.Core.roundAt FP.Core.settle
    have hqm : f.qmin ≤ FP.Core.quantum f a b e := by
      unfold FP.Core.quantum
      exact Int.le_max_left _ _
    split
    · rename_i hc
      unfold FP.Core.bound
      split
      · rename_i hb
        exact ⟨hc, hb, Or.inr hqm⟩
      · trivial
    · unfold FP.Core.bound
      split
      · rename_i hb
        refine ⟨?_, hb, Or.inr (by omega)⟩
        show 2 ^ (f.p - 1) < 2 ^ f.p
        exact Nat.pow_lt_pow_right (by decide) (by omega)
      · trivial
theorem zfin_round (f : FP.Core.Fmt) (hp : 1 ≤ f.p) (hq : f.qmin ≤ f.qmax) {d : FP.Core.Datum} (h : d ≠ .nan) : zfin f (FP.Core.round f d) := by
  cases d with
  | nan => exact absurd rfl h
  | inf s => trivial
  | fin s c q => exact zfin_ratio f hp s c 1 q hq
theorem zmod_of {n k m : Nat} (h : n < m) : (k * m + n) % m = n := by rw [Nat.mul_add_mod_self_right]; exact Nat.mod_eq_of_lt h
theorem zenc32 {d : FP.Core.Datum} (h : zfin FP.Core.b32 d) : FP.Core.encode FP.Core.b32 d % 2147483648 ≤ 2139095040 := by
  have e1 : FP.Core.b32.tails = 8388608 := rfl
  have e2 : FP.Core.b32.exps = 256 := rfl
  have e3 : FP.Core.b32.qmin = -149 := rfl
  have e4 : FP.Core.b32.qmax = 104 := rfl
  cases d with
  | nan => exact h.elim
  | inf s => cases s <;> decide
  | fin s c q =>
    obtain ⟨h1, h2, h3⟩ := h
    have h1 : c < 16777216 := h1
    rw [e4] at h2
    show (if c < FP.Core.b32.tails then FP.Core.assemble FP.Core.b32 s 0 c else FP.Core.assemble FP.Core.b32 s ((q - FP.Core.b32.qmin).toNat + 1) (c - FP.Core.b32.tails)) % 2147483648 ≤ 2139095040
    split
    · rename_i hc
      rw [e1] at hc
      unfold FP.Core.assemble
      rw [e1, e2]
      cases s <;> simp only [Bool.toNat_false, Bool.toNat_true] <;> omega
    · rename_i hc
      rw [e1] at hc
      have h3 : FP.Core.b32.qmin ≤ q := by
        rcases h3 with h3 | h3
        · rw [e1] at h3; exact absurd h3 hc
        · exact h3
      rw [e3] at h3
      unfold FP.Core.assemble
      rw [e1, e2, e3]
      cases s <;> simp only [Bool.toNat_false, Bool.toNat_true] <;> omega
theorem zenc64 {d : FP.Core.Datum} (h : zfin FP.Core.b64 d) : FP.Core.encode FP.Core.b64 d % 9223372036854775808 ≤ 9218868437227405312 := by
  have e1 : FP.Core.b64.tails = 4503599627370496 := rfl
  have e2 : FP.Core.b64.exps = 2048 := rfl
  have e3 : FP.Core.b64.qmin = -1074 := rfl
  have e4 : FP.Core.b64.qmax = 971 := rfl
  cases d with
  | nan => exact h.elim
  | inf s => cases s <;> decide
  | fin s c q =>
    obtain ⟨h1, h2, h3⟩ := h
    have h1 : c < 9007199254740992 := h1
    rw [e4] at h2
    show (if c < FP.Core.b64.tails then FP.Core.assemble FP.Core.b64 s 0 c else FP.Core.assemble FP.Core.b64 s ((q - FP.Core.b64.qmin).toNat + 1) (c - FP.Core.b64.tails)) % 9223372036854775808 ≤ 9218868437227405312
    split
    · rename_i hc
      rw [e1] at hc
      unfold FP.Core.assemble
      rw [e1, e2]
      cases s <;> simp only [Bool.toNat_false, Bool.toNat_true] <;> omega
    · rename_i hc
      rw [e1] at hc
      have h3 : FP.Core.b64.qmin ≤ q := by
        rcases h3 with h3 | h3
        · rw [e1] at h3; exact absurd h3 hc
        · exact h3
      rw [e3] at h3
      unfold FP.Core.assemble
      rw [e1, e2, e3]
      cases s <;> simp only [Bool.toNat_false, Bool.toNat_true] <;> omega
theorem zmask32 (n : Nat) : (UInt32.ofNat n &&& 0x7fffffff).toNat = n % 2147483648 := by
  rw [UInt32.toNat_and]
  have h1 : (0x7fffffff : UInt32).toNat = 2 ^ 31 - 1 := rfl
  rw [h1, Nat.and_two_pow_sub_one_eq_mod, UInt32.toNat_ofNat']
  omega
theorem zmask64 (n : Nat) : (UInt64.ofNat n &&& 0x7fffffffffffffff).toNat = n % 9223372036854775808 := by
  rw [UInt64.toNat_and]
  have h1 : (0x7fffffffffffffff : UInt64).toNat = 2 ^ 63 - 1 := rfl
  rw [h1, Nat.and_two_pow_sub_one_eq_mod, UInt64.toNat_ofNat']
  omega
theorem zv32 {d : FP.Core.Datum} (h : zfin FP.Core.b32 d) : vf_n32 (UInt32.ofNat (FP.Core.encode FP.Core.b32 d)) := by
  unfold vf_n32
  rw [UInt32.le_iff_toNat_le, zmask32]
  exact zenc32 h
theorem zv64 {d : FP.Core.Datum} (h : zfin FP.Core.b64 d) : vf_n64 (UInt64.ofNat (FP.Core.encode FP.Core.b64 d)) := by
  unfold vf_n64
  rw [UInt64.le_iff_toNat_le, zmask64]
  exact zenc64 h
/-- what is no NaN is no NaN's datum -/
theorem znn32 {x : UInt32} (h : vf_n32 x) : FP.Core.decode FP.Core.b32 x.toNat ≠ .nan := by
  unfold vf_n32 at h
  rw [UInt32.le_iff_toNat_le, UInt32.toNat_and] at h
  have h1 : (0x7fffffff : UInt32).toNat = 2 ^ 31 - 1 := rfl
  have h2 : (0x7f800000 : UInt32).toNat = 2139095040 := rfl
  rw [h1, h2, Nat.and_two_pow_sub_one_eq_mod] at h
  have e1 : FP.Core.b32.tails = 8388608 := rfl
  have e2 : FP.Core.b32.exps = 256 := rfl
  unfold FP.Core.decode FP.Core.fieldE FP.Core.fieldT
  rw [e1, e2]
  split
  · rename_i q
    split
    · intro e; cases e
    · rename_i q2
      exfalso
      have q1 : x.toNat / 8388608 % 256 = 255 := q
      omega
  · split <;> (intro e; cases e)
theorem znn64 {x : UInt64} (h : vf_n64 x) : FP.Core.decode FP.Core.b64 x.toNat ≠ .nan := by
  unfold vf_n64 at h
  rw [UInt64.le_iff_toNat_le, UInt64.toNat_and] at h
  have h1 : (0x7fffffffffffffff : UInt64).toNat = 2 ^ 63 - 1 := rfl
  have h2 : (0x7ff0000000000000 : UInt64).toNat = 9218868437227405312 := rfl
  rw [h1, h2, Nat.and_two_pow_sub_one_eq_mod] at h
  have e1 : FP.Core.b64.tails = 4503599627370496 := rfl
  have e2 : FP.Core.b64.exps = 2048 := rfl
  unfold FP.Core.decode FP.Core.fieldE FP.Core.fieldT
  rw [e1, e2]
  split
  · rename_i q
    split
    · intro e; cases e
    · rename_i q2
      exfalso
      have q1 : x.toNat / 4503599627370496 % 2048 = 2047 := q
      omega
  · split <;> (intro e; cases e)
/-- a number that is not 0 -/
def znz : FP.Core.Datum → Bool
  | .fin _ c _ => !(decide (c = 0))
  | _ => false
def zisf : FP.Core.Datum → Bool
  | .fin .. => true
  | _ => false
theorem zprod_nn {d e : FP.Core.Datum} (h : d ≠ .nan) (he : znz e = true) : FP.Core.exactProduct d e ≠ .nan := by
  cases e with
  | nan => cases he
  | inf s => cases he
  | fin t c r =>
    cases d with
    | nan => exact absurd rfl h
    | inf s =>
      show (if c = 0 then FP.Core.Datum.nan else .inf (s != t)) ≠ .nan
      have : ¬ c = 0 := by simpa [znz] using he
      rw [if_neg this]
      intro e; cases e
    | fin s a q => intro e; cases e
theorem zsum_nn {d e : FP.Core.Datum} (h : d ≠ .nan) (he : zisf e = true) : FP.Core.exactSum d e ≠ .nan := by
  cases e with
  | nan => cases he
  | inf s => cases he
  | fin t c r =>
    cases d with
    | nan => exact absurd rfl h
    | inf s => intro e; cases e
    | fin s a q => intro e; cases e
theorem zquo_fin {f : FP.Core.Fmt} (hp : 1 ≤ f.p) (hq : f.qmin ≤ f.qmax) {d e : FP.Core.Datum} (h : d ≠ .nan) (he : znz e = true) : zfin f (FP.Core.quotient f d e) := by
  cases e with
  | nan => cases he
  | inf s => cases he
  | fin t c r =>
    cases d with
    | nan => exact absurd rfl h
    | inf s => trivial
    | fin s a q =>
      show zfin f (if c = 0 then (if a = 0 then .nan else .inf (s != t)) else FP.Core.roundRatio f (s != t) a c (q - r))
      have : ¬ c = 0 := by simpa [znz] using he
      rw [if_neg this]
      exact zfin_ratio f hp _ _ _ _ hq
theorem zfmul {x y : UInt32} (h : vf_n32 x) (hy : znz (FP.Core.decode FP.Core.b32 y.toNat) = true) : vf_n32 (FP.fmul x y) := zv32 (zfin_round _ (by decide) (by decide) (zprod_nn (znn32 h) hy))
theorem zfsub {x y : UInt32} (h : vf_n32 x) (hy : zisf (FP.Core.negate (FP.Core.decode FP.Core.b32 y.toNat)) = true) : vf_n32 (FP.fsub x y) := zv32 (zfin_round _ (by decide) (by decide) (zsum_nn (znn32 h) hy))
theorem zfdiv {x y : UInt32} (h : vf_n32 x) (hy : znz (FP.Core.decode FP.Core.b32 y.toNat) = true) : vf_n32 (FP.fdiv x y) := zv32 (zquo_fin (by decide) (by decide) (znn32 h) hy)
theorem zdmul {x y : UInt64} (h : vf_n64 x) (hy : znz (FP.Core.decode FP.Core.b64 y.toNat) = true) : vf_n64 (FP.dmul x y) := zv64 (zfin_round _ (by decide) (by decide) (zprod_nn (znn64 h) hy))
theorem zdsub {x y : UInt64} (h : vf_n64 x) (hy : zisf (FP.Core.negate (FP.Core.decode FP.Core.b64 y.toNat)) = true) : vf_n64 (FP.dsub x y) := zv64 (zfin_round _ (by decide) (by decide) (zsum_nn (znn64 h) hy))
theorem zddiv {x y : UInt64} (h : vf_n64 x) (hy : znz (FP.Core.decode FP.Core.b64 y.toNat) = true) : vf_n64 (FP.ddiv x y) := zv64 (zquo_fin (by decide) (by decide) (znn64 h) hy)
theorem zi2f_nn (x : Int32) : vf_n32 (FP.i2f x) := zv32 (zfin_round _ (by decide) (by decide) (by intro e; cases e))
theorem zi2d_nn (x : Int32) : vf_n64 (FP.i2d x) := zv64 (zfin_round _ (by decide) (by decide) (by intro e; cases e))
set_option maxRecDepth 100000 in
theorem zi2f_nz : (List.range 1000).all (fun n => Nat.beq n 0 || znz (FP.Core.decode FP.Core.b32 (FP.i2f (Int32.ofNat n)).toNat)) = true := by decide +kernel
theorem zi2d_nz : (List.range 9).all (fun n => Nat.beq n 0 || znz (FP.Core.decode FP.Core.b64 (FP.i2d (Int32.ofNat n)).toNat)) = true := by decide +kernel
theorem zofi {x : Int32} (h : 0 ≤ x.toInt) : Int32.ofNat x.toInt.toNat = x := by
  have h1 := Int32.toInt_lt x
  rw [← Int32.toInt_inj, Int32.toInt_ofNat_of_lt (by omega)]
  omega
theorem zcap_nz {x : Int32} (h0 : 1 ≤ x.toInt) (h1 : x.toInt ≤ 999) : znz (FP.Core.decode FP.Core.b32 (FP.i2f x).toNat) = true := by
  have h := List.all_eq_true.mp zi2f_nz x.toInt.toNat (List.mem_range.mpr (by omega))
  simp only [Bool.or_eq_true] at h
  rw [zofi (by omega)] at h
  rcases h with h | h
  · have := Nat.eq_of_beq_eq_true h
    omega
  · exact h
theorem ztnk_nz {x : Int32} (h0 : 1 ≤ x.toInt) (h1 : x.toInt ≤ 8) : znz (FP.Core.decode FP.Core.b64 (FP.i2d x).toNat) = true := by
  have h := List.all_eq_true.mp zi2d_nz x.toInt.toNat (List.mem_range.mpr (by omega))
  simp only [Bool.or_eq_true] at h
  rw [zofi (by omega)] at h
  rcases h with h | h
  · have := Nat.eq_of_beq_eq_true h
    omega
  · exact h
section ZWR7
variable {sl D dy mi pc : Nat} {ls : zLs} {st : List Value} {I : zM} {b : Nat} {R : Nat → Option Value → zM → Prop}
theorem zfpf {e : Instr × Nat × Nat × Nat × Nat} {f : UInt32 → UInt32 → UInt32} {x y : UInt32} {pc' : Nat} (h : zl mi pc = some e) (hs : zstep sl dy mi pc e ls (.float y :: .float x :: st) I = zf2 f pc' ls (.float y :: .float x :: st) I) (hn : vf_n32 (f x y)) (kk : zW sl D dy mi pc' ls (.float (f x y) :: st) I (zRg b R)) : zW sl D dy mi pc ls (.float y :: .float x :: st) I (zRg b R) := by
  refine zW_n h ?_ kk
  rw [hs]
  unfold zf2
  have : decide (f x y &&& 0x7fffffff ≤ 0x7f800000) = true := decide_eq_true hn
  simp only [this]
  rfl
theorem zfpd {e : Instr × Nat × Nat × Nat × Nat} {f : UInt64 → UInt64 → UInt64} {x y : UInt64} {pc' : Nat} (h : zl mi pc = some e) (hs : zstep sl dy mi pc e ls (.double y :: .double x :: st) I = zd2 f pc' ls (.double y :: .double x :: st) I) (hn : vf_n64 (f x y)) (kk : zW sl D dy mi pc' ls (.double (f x y) :: st) I (zRg b R)) : zW sl D dy mi pc ls (.double y :: .double x :: st) I (zRg b R) := by
  refine zW_n h ?_ kk
  rw [hs]
  unfold zd2
  have : decide (f x y &&& 0x7fffffffffffffff ≤ 0x7ff0000000000000) = true := decide_eq_true hn
  simp only [this]
  rfl
end ZWR7
