/-! THE CONSTRUCTORS, each from its first instruction to its end -/
section ZCON
variable {l : Launch} {X : zX} {d n : Nat} {K : zKT} {P : zPT} {I : zIT} {L : zLT} {B m : Nat} {R : List (Nat × Nat)} {K0 : zKT} {P0 : zPT} {I0 : zIT} {L0 : zLT}
/-- what a constructor leaves -/
def zGq (B : Nat) (K0 : zKT) (P0 : zPT) (I0 : zIT) (L0 : zLT) (m : Nat) (R : List (Nat × Nat)) : zPost := fun r n K P I L => r = .inl none ∧ zGa B K0 P0 I0 L0 m R n K P I L
theorem zc_X3 {o : Nat} (hof : ∀ k, k < 10 → zGk (o + 1 + k) = some (100, if k < 3 then 8 else 12) ∧ zGp o k = some (o + 1 + k) ∧ zrk o k = k) (ho : zGk o = some (7, 16)) (hg : zGa B K0 P0 I0 L0 (o + 1) R n K P I L) (hR : ∀ e ∈ R, e.1 ≠ o) : zC l X (d + 1) 10 108 38 [.ref (B + o)] n K P I L (zGq B K0 P0 I0 L0 (o + 11) ((o, 10) :: R)) := by
  unfold zC
  refine zV_ls (ls' := [(0, .ref (B + o))]) rfl ?_
  refine zV_aload_n rfl rfl ?_
  refine zV_obj rfl (by decide) ?_
  have g0 := zGa_add hg (Nat.lt_succ_self o)
  refine zgq (bc := 9) (bs := 100) (w := 2) (N := 8) g0 hR rfl rfl (fun n K P I L h => zV_bipush rfl rfl h) rfl (.inl rfl) rfl (by decide) (by decide) (by decide) rfl ho (by decide) rfl (fun _ => rfl) (fun _ => rfl) (hof 0 (by decide)).1 (hof 0 (by decide)).2.1 (hof 0 (by decide)).2.2 (fun n K P I L g1 => ?_)
  refine zgq (bc := 8) (bs := 92) (w := 2) (N := 8) g1 hR rfl rfl (fun n K P I L h => zV_bipush rfl rfl h) rfl (.inl rfl) rfl (by decide) (by decide) (by decide) rfl ho (by decide) rfl (fun _ => rfl) (fun _ => rfl) (hof 1 (by decide)).1 (hof 1 (by decide)).2.1 (hof 1 (by decide)).2.2 (fun n K P I L g2 => ?_)
  refine zgq (bc := 7) (bs := 84) (w := 2) (N := 8) g2 hR rfl rfl (fun n K P I L h => zV_bipush rfl rfl h) rfl (.inl rfl) rfl (by decide) (by decide) (by decide) rfl ho (by decide) rfl (fun _ => rfl) (fun _ => rfl) (hof 2 (by decide)).1 (hof 2 (by decide)).2.1 (hof 2 (by decide)).2.2 (fun n K P I L g3 => ?_)
  refine zgq (bc := 6) (bs := 72) (w := 2) (N := 12) g3 hR rfl rfl (fun n K P I L h => zV_bipush rfl rfl h) rfl (.inl rfl) rfl (by decide) (by decide) (by decide) rfl ho (by decide) rfl (fun _ => rfl) (fun _ => rfl) (hof 3 (by decide)).1 (hof 3 (by decide)).2.1 (hof 3 (by decide)).2.2 (fun n K P I L g4 => ?_)
  refine zgq (bc := 5) (bs := 60) (w := 2) (N := 12) g4 hR rfl rfl (fun n K P I L h => zV_bipush rfl rfl h) rfl (.inl rfl) rfl (by decide) (by decide) (by decide) rfl ho (by decide) rfl (fun _ => rfl) (fun _ => rfl) (hof 4 (by decide)).1 (hof 4 (by decide)).2.1 (hof 4 (by decide)).2.2 (fun n K P I L g5 => ?_)
  refine zgq (bc := 4) (bs := 48) (w := 2) (N := 12) g5 hR rfl rfl (fun n K P I L h => zV_bipush rfl rfl h) rfl (.inl rfl) rfl (by decide) (by decide) (by decide) rfl ho (by decide) rfl (fun _ => rfl) (fun _ => rfl) (hof 5 (by decide)).1 (hof 5 (by decide)).2.1 (hof 5 (by decide)).2.2 (fun n K P I L g6 => ?_)
  refine zgq (bc := 3) (bs := 36) (w := 2) (N := 12) g6 hR rfl rfl (fun n K P I L h => zV_bipush rfl rfl h) rfl (.inl rfl) rfl (by decide) (by decide) (by decide) rfl ho (by decide) rfl (fun _ => rfl) (fun _ => rfl) (hof 6 (by decide)).1 (hof 6 (by decide)).2.1 (hof 6 (by decide)).2.2 (fun n K P I L g7 => ?_)
  refine zgq (bc := 2) (bs := 24) (w := 2) (N := 12) g7 hR rfl rfl (fun n K P I L h => zV_bipush rfl rfl h) rfl (.inl rfl) rfl (by decide) (by decide) (by decide) rfl ho (by decide) rfl (fun _ => rfl) (fun _ => rfl) (hof 7 (by decide)).1 (hof 7 (by decide)).2.1 (hof 7 (by decide)).2.2 (fun n K P I L g8 => ?_)
  refine zgq (bc := 1) (bs := 12) (w := 2) (N := 12) g8 hR rfl rfl (fun n K P I L h => zV_bipush rfl rfl h) rfl (.inl rfl) rfl (by decide) (by decide) (by decide) rfl ho (by decide) rfl (fun _ => rfl) (fun _ => rfl) (hof 8 (by decide)).1 (hof 8 (by decide)).2.1 (hof 8 (by decide)).2.2 (fun n K P I L g9 => ?_)
  refine zgq (bc := 0) (bs := 0) (w := 2) (N := 12) g9 hR rfl rfl (fun n K P I L h => zV_bipush rfl rfl h) rfl (.inl rfl) rfl (by decide) (by decide) (by decide) rfl ho (by decide) rfl (fun _ => rfl) (fun _ => rfl) (hof 9 (by decide)).1 (hof 9 (by decide)).2.1 (hof 9 (by decide)).2.2 (fun n K P I L g10 => ?_)
  exact zV_vret rfl rfl ⟨rfl, g10⟩
theorem zc_X0 (hg : zGa B K0 P0 I0 L0 136 R n K P I L) (hR : ∀ e ∈ R, e.1 ≠ 135) : zC l X (d + 1) 8 2352 0 [.ref (B + 135), .ref (B + 1)] n K P I L (zGq B K0 P0 I0 L0 144 ((135, 9) :: R)) := by
  unfold zC
  refine zV_ls (ls' := [(0, .ref (B + 135)), (1, .ref (B + 1))]) rfl ?_
  refine zV_aload_n rfl rfl ?_
  refine zV_obj rfl (by decide) ?_
  have g0 := zGa_add hg (show 135 < 136 by decide)
  refine zgq (bc := 7) (bs := 2344) (w := 2) (N := 8) g0 hR rfl rfl (fun n K P I L h => zV_bipush rfl rfl h) rfl (.inl rfl) rfl (by decide) (by decide) (by decide) rfl rfl (by decide) rfl (fun _ => rfl) (fun _ => rfl) rfl rfl rfl (fun n K P I L g1 => ?_)
  refine zgq (bc := 6) (bs := 2336) (w := 2) (N := 8) g1 hR rfl rfl (fun n K P I L h => zV_bipush rfl rfl h) rfl (.inl rfl) rfl (by decide) (by decide) (by decide) rfl rfl (by decide) rfl (fun _ => rfl) (fun _ => rfl) rfl rfl rfl (fun n K P I L g2 => ?_)
  refine zgq (bc := 5) (bs := 2328) (w := 2) (N := 8) g2 hR rfl rfl (fun n K P I L h => zV_bipush rfl rfl h) rfl (.inl rfl) rfl (by decide) (by decide) (by decide) rfl rfl (by decide) rfl (fun _ => rfl) (fun _ => rfl) rfl rfl rfl (fun n K P I L g3 => ?_)
  refine zgq (bc := 4) (bs := 2320) (w := 2) (N := 8) g3 hR rfl rfl (fun n K P I L h => zV_bipush rfl rfl h) rfl (.inl rfl) rfl (by decide) (by decide) (by decide) rfl rfl (by decide) rfl (fun _ => rfl) (fun _ => rfl) rfl rfl rfl (fun n K P I L g4 => ?_)
  refine zgq (bc := 3) (bs := 2312) (w := 2) (N := 8) g4 hR rfl rfl (fun n K P I L h => zV_bipush rfl rfl h) rfl (.inl rfl) rfl (by decide) (by decide) (by decide) rfl rfl (by decide) rfl (fun _ => rfl) (fun _ => rfl) rfl rfl rfl (fun n K P I L g5 => ?_)
  refine zgq (bc := 2) (bs := 2304) (w := 2) (N := 8) g5 hR rfl rfl (fun n K P I L h => zV_bipush rfl rfl h) rfl (.inl rfl) rfl (by decide) (by decide) (by decide) rfl rfl (by decide) rfl (fun _ => rfl) (fun _ => rfl) rfl rfl rfl (fun n K P I L g6 => ?_)
  refine zgq (bc := 1) (bs := 2048) (w := 3) (N := 256) g6 hR rfl rfl (fun n K P I L h => zV_sipush rfl rfl h) rfl (.inl rfl) rfl (by decide) (by decide) (by decide) rfl rfl (by decide) rfl (fun _ => rfl) (fun _ => rfl) rfl rfl rfl (fun n K P I L g7 => ?_)
  refine zgq (bc := 0) (bs := 0) (w := 3) (N := 2048) g7 hR rfl rfl (fun n K P I L h => zV_sipush rfl rfl h) rfl (.inl rfl) rfl (by decide) (by decide) (by decide) rfl rfl (by decide) rfl (fun _ => rfl) (fun _ => rfl) rfl rfl rfl (fun n K P I L g8 => ?_)
  refine zV_aload_n rfl rfl ?_
  refine zV_aload_n rfl rfl ?_
  refine zV_putR rfl (zGa_K g8 (show 135 < 144 by decide) rfl) (by decide) rfl rfl rfl ?_
  exact zV_vret rfl rfl ⟨rfl, zGa_put (o := 135) (k := 0) (q := 1) g8 hR rfl rfl⟩
theorem zc_X2 (hg : zGa B K0 P0 I0 L0 145 R n K P I L) (hR : ∀ e ∈ R, e.1 ≠ 144) : zC l X (d + 1) 3 108 22 [.ref (B + 144)] n K P I L (zGq B K0 P0 I0 L0 148 ((144, 3) :: R)) := by
  unfold zC
  refine zV_ls (ls' := [(0, .ref (B + 144))]) rfl ?_
  refine zV_aload_n rfl rfl ?_
  refine zV_obj rfl (by decide) ?_
  have g0 := zGa_add hg (show 144 < 145 by decide)
  refine zgq (bc := 2) (bs := 48) (w := 2) (N := 60) g0 hR rfl rfl (fun n K P I L h => zV_bipush rfl rfl h) rfl (.inr (.inr (.inl rfl))) rfl (by decide) (by decide) (by decide) rfl rfl (by decide) rfl (fun _ => rfl) (fun _ => rfl) rfl rfl rfl (fun n K P I L g1 => ?_)
  refine zgq (bc := 1) (bs := 36) (w := 2) (N := 12) g1 hR rfl rfl (fun n K P I L h => zV_bipush rfl rfl h) rfl (.inl rfl) rfl (by decide) (by decide) (by decide) rfl rfl (by decide) rfl (fun _ => rfl) (fun _ => rfl) rfl rfl rfl (fun n K P I L g2 => ?_)
  refine zgq (bc := 0) (bs := 0) (w := 2) (N := 36) g2 hR rfl rfl (fun n K P I L h => zV_bipush rfl rfl h) rfl (.inl rfl) rfl (by decide) (by decide) (by decide) rfl rfl (by decide) rfl (fun _ => rfl) (fun _ => rfl) rfl rfl rfl (fun n K P I L g3 => ?_)
  exact zV_vret rfl rfl ⟨rfl, g3⟩
theorem zc_J5 (hg : zGa B K0 P0 I0 L0 149 R n K P I L) (hR : ∀ e ∈ R, e.1 ≠ 148) : zC l X (d + 1) 1 16 179 [.ref (B + 148), .int 16] n K P I L (zGq B K0 P0 I0 L0 150 ((148, 1) :: R)) := by
  unfold zC
  refine zV_ls (ls' := [(0, .ref (B + 148)), (1, .int 16)]) rfl ?_
  refine zV_aload_n rfl rfl ?_
  refine zV_obj rfl (by decide) ?_
  refine zV_gets0 rfl ?_
  refine zV_if_eq 25 rfl rfl (fun h => absurd h (by decide)) (fun _ => ?_)
  have g0 := zGa_add hg (show 148 < 149 by decide)
  refine zgq (bc := 0) (bs := 0) (w := 1) (N := 16) g0 hR rfl rfl (fun n K P I L h => zV_iload_n rfl rfl h) rfl (.inr (.inr (.inr rfl))) rfl (by decide) (by decide) (by decide) rfl rfl (by decide) rfl (fun _ => rfl) (fun _ => rfl) rfl rfl rfl (fun n K P I L g1 => ?_)
  refine zV_aload_n rfl rfl ?_
  refine zV_iconst rfl rfl ?_
  refine zV_putI rfl (zGa_K g1 (show 148 < 150 by decide) rfl) (by decide) rfl rfl rfl ?_
  refine zV_goto 38 rfl rfl ?_
  refine zV_vret rfl rfl ⟨rfl, g1.1, fun q hq => ?_, fun i hi => ⟨(g1.2.2.1 i hi).1, fun k => ?_⟩, g1.2.2.2⟩
  · have e1 : zuI I (B + 148) 1 (Int32.ofInt 0) q = I q := if_neg (by omega)
    rw [e1]
    exact g1.2.1 q hq
  · have h0 := (g1.2.2.1 i hi).2 k
    unfold zuI
    split
    · rename_i he
      unfold upd
      split
      · rfl
      · rw [← he]; exact h0
    · exact h0
theorem zc_J4 (hg : zGa B K0 P0 I0 L0 149 R n K P I L) (hR : ∀ e ∈ R, e.1 ≠ 148) : zC l X (d + 2) 1 16 203 [.ref (B + 148)] n K P I L (zGq B K0 P0 I0 L0 150 ((148, 1) :: R)) := by
  unfold zC
  refine zV_ls (ls' := [(0, .ref (B + 148))]) rfl ?_
  refine zV_aload_n rfl rfl ?_
  refine zV_bipush rfl rfl ?_
  refine zV_ci (av := [.int 16]) (rest := []) (bc1 := 1) (bc2 := 0) (bs1 := 16) (bs2 := 0) rfl rfl (Nat.le_of_ble_eq_true rfl) (Nat.le_of_ble_eq_true rfl) (zc_J5 (d := d) hg hR) ?_ ?_
  · rintro v n K P I L ⟨hv, g⟩
    cases hv
    exact zV_vret rfl rfl ⟨rfl, g⟩
  · rintro x n K P I L - ⟨hv, -⟩
    cases hv
theorem zGa_swap {x y : Nat × Nat} (g : zGa B K0 P0 I0 L0 m (x :: y :: R) n K P I L) : zGa B K0 P0 I0 L0 m (y :: x :: R) n K P I L := zGa_sub (fun e he => by
  rcases List.mem_cons.mp he with h | h
  · exact List.mem_cons_of_mem _ (List.mem_cons.mpr (Or.inl h))
  · rcases List.mem_cons.mp h with h | h
    · exact List.mem_cons.mpr (Or.inl h)
    · exact List.mem_cons_of_mem _ (List.mem_cons_of_mem _ h)) g
theorem zhR {c x : Nat} (hc : c ≠ 46) (h : ∀ e ∈ R, e.1 ≠ 46) : ∀ e ∈ (c, x) :: R, e.1 ≠ 46 := fun e he => by
  rcases List.mem_cons.mp he with rfl | he
  · exact hc
  · exact h e he
theorem zX1p {i c bc bs : Nat} {Post : zPost} (hi : i < 8) (hc : c = 47 + 11 * i) (hg : zGa B K0 P0 I0 L0 c ((46, i) :: R) n K P I L) (hR : ∀ e ∈ R, e.1 ≠ 46) (h45 : (45, 1) ∈ R)
    (kk : ∀ n K P I L, zGa B K0 P0 I0 L0 (c + 11) ((46, i + 1) :: (c, 10) :: R) n K P I L → zV l X (d + 2) bc bs 19 15 [(1, .int (Int32.ofNat (i + 1))), (0, .ref (B + 45))] [] n K P I L Post) : zV l X (d + 2) (bc + 11) (bs + 124) 19 15 [(1, .int (Int32.ofNat i)), (0, .ref (B + 45))] [] n K P I L Post := by
  subst hc
  have hof : ∀ i, i < 8 → zGk (47 + 11 * i) = some (7, 16) ∧ zGp 46 i = some (47 + 11 * i) ∧ (Int32.ofNat i).toNatClampNeg = i ∧ ¬ (8 : Int32) ≤ Int32.ofNat i ∧ ¬ (Int32.ofNat i < 0 ∨ 8 ≤ (Int32.ofNat i).toNatClampNeg) ∧ Int32.ofNat i + 1 = Int32.ofNat (i + 1) ∧ ∀ k, k < 10 → zGk (47 + 11 * i + 1 + k) = some (100, if k < 3 then 8 else 12) ∧ zGp (47 + 11 * i) k = some (47 + 11 * i + 1 + k) ∧ zrk (47 + 11 * i) k = k := by decide +kernel
  obtain ⟨f1, f2, f3, f4, f5, f6, f7⟩ := hof i hi
  refine zV_iload_n rfl rfl ?_
  refine zV_bipush (v := 8) rfl rfl ?_
  refine zV_icmp_ge 40 rfl rfl (fun h => absurd h f4) (fun _ => ?_)
  refine zV_aload_n rfl rfl ?_
  have h45m := (hg.2.2.2 _ (List.mem_cons_of_mem _ h45)).1
  have h46m := (hg.2.2.2 _ List.mem_cons_self).1
  refine zV_getR rfl (zGa_K hg h45m rfl) (by decide) rfl (zGa_get hg (List.mem_cons_of_mem _ h45) (k := 0) (q := 46) (by decide) rfl) ?_
  refine zV_iload_n rfl rfl ?_
  refine zV_bud (bc := bc + 10 + 1) (bs := bs + 108 + zN 7) (by omega) (by show _ + 16 ≤ _; omega) (zV_new rfl (by decide) ?_)
  have g1 := zGa_new hg f1
  have hn : n = B + (47 + 11 * i) := hg.1
  refine zV_dup rfl rfl ?_
  have g2 : ∀ e ∈ (46, i) :: R, e.1 ≠ 47 + 11 * i := fun e he => Nat.ne_of_lt (hg.2.2.2 e he).1
  rw [hn]
  rw [hn] at g1
  refine zV_bud (bc := 10 + bc) (bs := 108 + bs) (by omega) (by omega) (zV_cin (av := []) (d := d + 1) (bc1 := 10) (bc2 := bc) (bs1 := 108) (bs2 := bs) rfl rfl (Nat.le_of_ble_eq_true rfl) (Nat.le_of_ble_eq_true rfl) (zc_X3 (d := d) f7 f1 g1 g2) ?_ ?_)
  · rintro v n K P I L ⟨hv, g⟩
    cases hv
    refine zV_aast rfl (zGa_K g (by omega) rfl) (zGa_K g (by omega) f1) f5 ?_
    rw [f3]
    have g3 := zGa_swap g
    have g4 := zGa_put (k := i) g3 (fun e he => by
      rcases List.mem_cons.mp he with rfl | he
      · show 47 + 11 * i ≠ 46; omega
      · exact hR e he) f2 rfl
    refine zV_iinc (v := Int32.ofNat (i + 1)) rfl rfl f6 (by decide) rfl ?_
    refine zV_goto 15 rfl rfl ?_
    exact kk _ _ _ _ _ g4
  · rintro x n K P I L - ⟨hv, -⟩
    cases hv
theorem zc_X1 (hg : zGa B K0 P0 I0 L0 46 R n K P I L) (hR : ∀ e ∈ R, e.1 ≠ 45) : zC l X (d + 2) 89 1000 19 [.ref (B + 45)] n K P I L (zGq B K0 P0 I0 L0 135 ((46, 8) :: (124, 10) :: (113, 10) :: (102, 10) :: (91, 10) :: (80, 10) :: (69, 10) :: (58, 10) :: (47, 10) :: (45, 1) :: R)) := by
  unfold zC
  refine zV_ls (ls' := [(0, .ref (B + 45))]) rfl ?_
  refine zV_aload_n rfl rfl ?_
  refine zV_obj rfl (by decide) ?_
  have g0 := zGa_add hg (show 45 < 46 by decide)
  refine zV_aload_n rfl rfl ?_
  refine zV_bipush (v := 8) rfl rfl ?_
  refine zV_bud (bc := 88 + 1) (bs := 992 + 8) (by decide) (by decide) (zV_anew rfl (by decide) (by decide) (by decide) ?_)
  have g1 := zGa_new g0 (e := (104, 8)) rfl
  refine zV_putR rfl (zGa_K g1 (show 45 < 47 by decide) rfl) (by decide) rfl rfl rfl ?_
  have g2 := zGa_put (k := 0) (q := 46) g1 hR rfl rfl
  have hn : n = B + 46 := hg.1
  rw [hn]
  rw [hn] at g2
  refine zV_iconst rfl rfl ?_
  refine zV_istore_n rfl (by decide) rfl ?_
  have g3 := zGa_add g2 (show 46 < 47 by decide)
  have hR0 : ∀ e ∈ (45, 1) :: R, e.1 ≠ 46 := fun e he => by
    rcases List.mem_cons.mp he with rfl | he
    · decide
    · exact Nat.ne_of_lt (hg.2.2.2 e he).1
  have h45 : (45, 1) ∈ (45, 1) :: R := List.mem_cons_self
  refine zX1p (i := 0) (c := 47) (bc := 77) (bs := 868) (by decide) rfl g3 hR0 h45 (fun n K P I L g4 => ?_)
  have hR1 := zhR (x := 10) (show 47 ≠ 46 by decide) hR0
  refine zX1p (i := 1) (c := 58) (bc := 66) (bs := 744) (by decide) rfl g4 hR1 (List.mem_cons_of_mem _ h45) (fun n K P I L g5 => ?_)
  have hR2 := zhR (x := 10) (show 58 ≠ 46 by decide) hR1
  refine zX1p (i := 2) (c := 69) (bc := 55) (bs := 620) (by decide) rfl g5 hR2 (List.mem_cons_of_mem _ (List.mem_cons_of_mem _ h45)) (fun n K P I L g6 => ?_)
  have hR3 := zhR (x := 10) (show 69 ≠ 46 by decide) hR2
  refine zX1p (i := 3) (c := 80) (bc := 44) (bs := 496) (by decide) rfl g6 hR3 (List.mem_cons_of_mem _ (List.mem_cons_of_mem _ (List.mem_cons_of_mem _ h45))) (fun n K P I L g7 => ?_)
  have hR4 := zhR (x := 10) (show 80 ≠ 46 by decide) hR3
  refine zX1p (i := 4) (c := 91) (bc := 33) (bs := 372) (by decide) rfl g7 hR4 (List.mem_cons_of_mem _ (List.mem_cons_of_mem _ (List.mem_cons_of_mem _ (List.mem_cons_of_mem _ h45)))) (fun n K P I L g8 => ?_)
  have hR5 := zhR (x := 10) (show 91 ≠ 46 by decide) hR4
  refine zX1p (i := 5) (c := 102) (bc := 22) (bs := 248) (by decide) rfl g8 hR5 (List.mem_cons_of_mem _ (List.mem_cons_of_mem _ (List.mem_cons_of_mem _ (List.mem_cons_of_mem _ (List.mem_cons_of_mem _ h45))))) (fun n K P I L g9 => ?_)
  have hR6 := zhR (x := 10) (show 102 ≠ 46 by decide) hR5
  refine zX1p (i := 6) (c := 113) (bc := 11) (bs := 124) (by decide) rfl g9 hR6 (List.mem_cons_of_mem _ (List.mem_cons_of_mem _ (List.mem_cons_of_mem _ (List.mem_cons_of_mem _ (List.mem_cons_of_mem _ (List.mem_cons_of_mem _ h45)))))) (fun n K P I L g10 => ?_)
  have hR7 := zhR (x := 10) (show 113 ≠ 46 by decide) hR6
  refine zX1p (i := 7) (c := 124) (bc := 0) (bs := 0) (by decide) rfl g10 hR7 (List.mem_cons_of_mem _ (List.mem_cons_of_mem _ (List.mem_cons_of_mem _ (List.mem_cons_of_mem _ (List.mem_cons_of_mem _ (List.mem_cons_of_mem _ (List.mem_cons_of_mem _ h45))))))) (fun n K P I L g11 => ?_)
  refine zV_iload_n rfl rfl ?_
  refine zV_bipush (v := 8) rfl rfl ?_
  refine zV_icmp_ge 40 rfl rfl (fun _ => ?_) (fun h => absurd (by decide) h)
  exact zV_vret rfl rfl ⟨rfl, g11⟩
end ZCON
