/-! CONTRACTS: the rows that searches use up -/
def zscr (a : Nat) : Bool := (Nat.ble 135 a && Nat.ble a 143) || (Nat.ble 148 a && Nat.ble a 149)
/-- nothing but such rows has changed -/
def zfr (I J : zM) : Prop := ∀ a k, zscr a = false → J a k = I a k
theorem zfr_refl (I : zM) : zfr I I := fun _ _ _ => rfl
theorem zfr_trans {I J K : zM} (h : zfr I J) (h2 : zfr J K) : zfr I K := fun a k ha => (h2 a k ha).trans (h a k ha)
theorem zfr_up {I J : zM} (h : zfr I J) {a k : Nat} {x : Int32} (ha : zscr a = true) : zfr I (zup J a k x) := fun b j hb => by
  rw [zup_at, if_neg (fun e => by rw [e.1, ha] at hb; cases hb)]
  exact h b j hb
theorem zSB_fr {S : Nat → Nat → Int32} {I J : zM} (hB : zSB 1 S I) (h : zfr I J) : zSB 1 S J := fun o k hc => by
  have ho : o ≤ 10 := by
    unfold zcell at hc
    split at hc <;> first | omega | (simp only [Bool.and_eq_true] at hc; exact Nat.le_of_ble_eq_true hc.1)
  have : zscr (o + 1) = false := by
    rcases (show o = 0 ∨ o = 1 ∨ o = 2 ∨ o = 3 ∨ o = 4 ∨ o = 5 ∨ o = 6 ∨ o = 7 ∨ o = 8 ∨ o = 9 ∨ o = 10 by omega) with rfl | rfl | rfl | rfl | rfl | rfl | rfl | rfl | rfl | rfl | rfl <;> rfl
  rw [h _ _ this]
  exact hB o k hc
/-- a row filled -/
def zfl (I : zM) (a n : Nat) (v : Int32) : zM := fun b j => if b = a ∧ j < n then some v else I b j
theorem zfl_fr {I J : zM} (h : zfr I J) {a n : Nat} {v : Int32} (ha : zscr a = true) : zfr I (zfl J a n v) := fun b j hb => by
  unfold zfl
  rw [if_neg (fun e => by rw [e.1, ha] at hb; cases hb)]
  exact h b j hb
theorem zfl_0 (I : zM) (a : Nat) (v : Int32) : zfl I a 0 v = I := by
  funext b j
  unfold zfl
  rw [if_neg (by omega)]
theorem zfl_s (I : zM) (a n : Nat) (v : Int32) : zup (zfl I a n v) a n v = zfl I a (n + 1) v := by
  funext b j
  rw [zup_at]
  unfold zfl
  by_cases hb : b = a
  · by_cases hj : j = n
    · rw [if_pos ⟨hb, hj⟩, if_pos ⟨hb, by omega⟩]
    · rw [if_neg (by simp [hj])]
      by_cases hl : j < n
      · rw [if_pos ⟨hb, hl⟩, if_pos ⟨hb, by omega⟩]
      · rw [if_neg (by simp [hl]), if_neg (by omega)]
  · rw [if_neg (by simp [hb]), if_neg (by simp [hb]), if_neg (by simp [hb])]
theorem zal {sl D dy mi pc : Nat} {ls : zLs} {st : List Value} {I : zM} {b : Nat} {R : Nat → Option Value → zM → Prop} {len r1 r2 r3 a n : Nat} (h : zl mi pc = some (.arraylength, len, r1, r2, r3)) (ha : zkd sl a = some (100, n)) (hn : n ≤ 2147483647) (kk : zW sl D dy mi (pc + len) ls (.int (Int32.ofNat n) :: st) I (zRg b R)) : zW sl D dy mi pc ls (.ref a :: st) I (zRg b R) :=
  zW_n h (by simp only [zstep, ha, Nat.ble_eq_true_of_le hn]; rfl) kk
theorem zofn {n : Nat} (h : n ≤ 100000) : (Int32.ofNat n).toInt = (n : Int) := Int32.toInt_ofNat_of_lt (by omega)
theorem zt_fill {sl D dy : Nat} {I : zM} {a n : Nat} {v : Int32} (ha : zkd sl a = some (100, n)) (hn : n ≤ 5000) : zW sl D dy 215 0 [(0, .ref a), (1, .int v)] [] I (zRg 0 (zQf (zfl I a n v) none)) := by
  have key : ∀ (k : Nat) (i : Nat), i + k = n → zW sl D dy 215 5 [(0, .ref a), (1, .int v), (2, .int (Int32.ofNat i)), (3, .int (Int32.ofNat n))] [] (zfl I a i v) (zRg 0 (zQf (zfl I a n v) none)) := by
    intro k
    induction k with
    | zero =>
      intro i hi
      obtain rfl : i = n := by omega
      refine zg 2 (pc' := 7) (ls' := [(0, .ref a), (1, .int v), (2, .int (Int32.ofNat i)), (3, .int (Int32.ofNat i))]) (st' := [.int (Int32.ofNat i), .int (Int32.ofNat i)]) (I' := zfl I a i v) rfl ?_
      refine zicmp rfl rfl (fun h1 => ?_) (fun h1 => ?_)
      · refine zret rfl rfl ?_
        exact ⟨rfl, rfl, rfl⟩
      · have h1 := zc_ge.2.mp h1
        omega
    | succ k ih =>
      intro i hi
      refine zg 2 (pc' := 7) (ls' := [(0, .ref a), (1, .int v), (2, .int (Int32.ofNat i)), (3, .int (Int32.ofNat n))]) (st' := [.int (Int32.ofNat n), .int (Int32.ofNat i)]) (I' := zfl I a i v) rfl ?_
      refine zicmp rfl rfl (fun h1 => ?_) (fun h1 => ?_)
      · have h1 := zc_ge.1.mp h1
        rw [zofn (by omega), zofn (by omega)] at h1
        omega
      · refine zg 3 (pc' := 13) (ls' := [(0, .ref a), (1, .int v), (2, .int (Int32.ofNat i)), (3, .int (Int32.ofNat n))]) (st' := [.int v, .int (Int32.ofNat i), .ref a]) (I' := zfl I a i v) rfl ?_
        have hin : zin (Int32.ofNat i) n = true := zin_ok (by rw [zofn (by omega)]; omega) (by rw [zofn (by omega)]; omega)
        refine zis rfl ha hin ?_
        have hi1 : (Int32.ofNat i).toNatClampNeg = i := by
          unfold Int32.toNatClampNeg
          rw [zofn (by omega)]
          rfl
        rw [hi1, zfl_s]
        have hadd : Int32.ofNat i + 1 = Int32.ofNat (i + 1) := by rw [Int32.ofNat_add]; rfl
        refine zg 2 (pc' := 5) (ls' := [(2, .int (Int32.ofNat i + 1)), (0, .ref a), (1, .int v), (3, .int (Int32.ofNat n))]) (st' := []) (I' := zfl I a (i + 1) v) rfl ?_
        rw [hadd]
        refine zLp (l1 := [(0, .ref a), (1, .int v), (2, .int (Int32.ofNat (i + 1))), (3, .int (Int32.ofNat n))]) (List.Perm.trans (List.Perm.cons _ (List.Perm.swap _ _ _)) (List.Perm.swap _ _ _)) rfl ?_
        exact ih (i + 1) (by omega)
  refine zg 3 (pc' := 3) (ls' := [(2, .int 0), (0, .ref a), (1, .int v)]) (st' := [.ref a]) (I' := I) rfl ?_
  refine zal rfl ha (by omega) ?_
  refine zg 1 (pc' := 5) (ls' := [(3, .int (Int32.ofNat n)), (2, .int (Int32.ofNat 0)), (0, .ref a), (1, .int v)]) (st' := []) (I' := I) rfl ?_
  refine zLp (l1 := [(0, .ref a), (1, .int v), (2, .int (Int32.ofNat 0)), (3, .int (Int32.ofNat n))]) ?_ rfl ?_
  · exact (List.reverse_perm [(3, Value.int (Int32.ofNat n)), (2, .int (Int32.ofNat 0)), (1, .int v), (0, .ref a)]).trans (List.Perm.cons _ (List.Perm.cons _ (List.Perm.swap _ _ _)))
  · have := key n 0 (by omega)
    rw [zfl_0] at this
    exact this
