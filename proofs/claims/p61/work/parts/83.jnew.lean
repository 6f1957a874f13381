/-! a new StringBuilder; append(int) as a whole -/
section ZJN
variable {l : Launch} {X : zX} {d n : Nat} {K : zKT} {P : zPT} {I : zIT} {L : zLT} {b va cap : Nat} {t : List Int32}
/-- the builder b is new and empty, its bytes lie at n -/
def zPN (n : Nat) (K : zKT) (P : zPT) (I : zIT) (L : zLT) (b : Nat) : zPost := fun r n' K' P' I' L' => r = .inl none ∧ n' = n + 1 ∧ zBc 16 n' K' P' I' b n [] ∧ ∀ q, q < n → q ≠ b → K' q = K q ∧ P' q = P q ∧ I' q = I q ∧ L' q = L q
theorem zj_179 (hK : K b = some (1, 4)) (hb : b < n) (h0 : ∀ k, I b k = 0) : zC l X (d + 1) 1 16 179 [.ref b, .int 16] n K P I L (zPN n K P I L b) := by
  unfold zC
  refine zV_ls (ls' := [(0, .ref b), (1, .int 16)]) rfl ?_
  refine zV_aload_n rfl rfl ?_
  refine zV_obj rfl (by decide) ?_
  refine zV_gets0 rfl ?_
  refine zV_if_eq 25 rfl rfl (fun h => absurd h (by decide)) (fun _ => ?_)
  have hbn : b ≠ n := by omega
  have k1 : zuK K n (103, 16) b = some (1, 4) := (if_neg hbn).trans hK
  refine zV_aload_n rfl rfl ?_
  refine zV_iload_n rfl rfl ?_
  refine zV_bud (bc := 0 + 1) (bs := 0 + 16) (by decide) (by decide) (zV_newa (N := 16) rfl (by decide) rfl (by decide) (by decide) (by decide) ?_)
  refine zV_putR rfl k1 (by decide) rfl rfl rfl ?_
  refine zV_aload_n rfl rfl ?_
  refine zV_iconst (v := 0) rfl rfl ?_
  refine zV_putI rfl k1 (by decide) rfl rfl rfl ?_
  refine zV_goto 38 rfl rfl ?_
  have i1 : ∀ k, zuI (z0I I n) b 1 0 b k = 0 := fun k => by
    have e : z0I I n b = I b := if_neg hbn
    show (if b = b then upd (z0I I n b) 1 0 else _) k = 0
    rw [if_pos rfl, e]
    unfold upd
    split
    · rfl
    · exact h0 k
  have i2 : ∀ j, zuI (z0I I n) b 1 0 n j = 0 := fun j => by
    have e : zuI (z0I I n) b 1 0 n = fun _ => 0 := (if_neg (Ne.symm hbn)).trans (if_pos rfl)
    rw [e]
  refine zV_vret rfl rfl ⟨rfl, rfl, ⟨k1, by simp [zuP, va_up], if_pos rfl, hb, by omega, Nat.zero_le _, by decide, i1 1, i1 3, fun j x hj => by simp at hj, fun j => by rw [i2]; rfl⟩, fun q q1 q2 => ?_⟩
  have hqn : q ≠ n := by omega
  have e1 : zuK K n (103, 16) q = K q := if_neg hqn
  have e2 : zuP (z0P P n) b 0 (some n) q = P q := (if_neg q2).trans (if_neg hqn)
  have e3 : zuI (z0I I n) b 1 0 q = I q := (if_neg q2).trans (if_neg hqn)
  have e4 : z0L L n q = L q := if_neg hqn
  exact ⟨e1, e2, e3, e4⟩
theorem zj_203 (hK : K b = some (1, 4)) (hb : b < n) (h0 : ∀ k, I b k = 0) : zC l X (d + 2) 1 16 203 [.ref b] n K P I L (zPN n K P I L b) := by
  unfold zC
  refine zV_ls (ls' := [(0, .ref b)]) rfl ?_
  refine zV_aload_n rfl rfl ?_
  refine zV_bipush (v := 16) rfl rfl ?_
  refine zV_bud (bc := 1 + 0) (bs := 16 + 0) (by decide) (by decide) (zV_ci (av := [.int 16]) (rest := []) rfl rfl (Nat.le_of_ble_eq_true rfl) (Nat.le_of_ble_eq_true rfl) (zj_179 (d := d) hK hb h0) ?_ (by rintro x n K P I L - ⟨hv, -⟩; cases hv))
  rintro v n' K' P' I' L' ⟨hv, h⟩
  cases hv
  exact zV_vret rfl rfl ⟨rfl, h⟩
theorem zj_206 {k B : Nat} (hB : t.length + zdn k ≤ cap ∨ zgrw cap (t.length + zdn k) ≤ B) (hb : zBc cap n K P I b va t) (hk : k < 1000) (hl : t.length ≤ 60) : zC l X (d + 5) 1 B 206 [.ref b, .int (Int32.ofNat k)] n K P I L (zPA n K P I L b va (zgrw cap (t.length + zdn k)) (some (.ref b)) (t ++ zdl k)) := by
  unfold zC
  refine zV_ls (ls' := [(0, .ref b), (1, .int (Int32.ofNat k))]) rfl ?_
  refine zV_aload_n rfl rfl ?_
  refine zV_iload_n rfl rfl ?_
  refine zV_bud (bc := 1 + 0) (bs := B + 0) (by omega) (by omega) (zV_csu (av := [.int (Int32.ofNat k)]) (rest := []) rfl rfl (by decide) hb.1 rfl (Nat.le_of_ble_eq_true rfl) (Nat.le_of_ble_eq_true rfl) (zj_187 (d := d) hB hb hk hl) ?_ (by rintro x n K P I L - ⟨hv, -⟩; cases hv))
  rintro v n' K' P' I' L' ⟨hv, h⟩
  cases hv
  refine zV_pop rfl rfl ?_
  refine zV_aload_n rfl rfl ?_
  exact zV_aret rfl rfl (Or.inl ⟨_, rfl⟩) ⟨rfl, h⟩
end ZJN
