/-! THE LAW, from its first instruction -/
theorem z0M_0 {a k : Nat} (h1 : 1 ≤ a) (h2 : a ≤ 147) : z0M a k = some 0 := by
  unfold z0M
  split
  · omega
  · omega
  · rw [Nat.ble_eq_true_of_le h2]
theorem zIv_0 : zIv (fun _ _ => 0) [] z0M := by
  refine ⟨fun o k hc => ?_, ⟨⟨by decide, by decide⟩, ⟨by decide, by decide⟩, fun k hk => ?_, fun _ _ _ => ⟨rfl, rfl⟩, fun k hk => ?_, fun _ _ _ => ⟨rfl, rfl, rfl, rfl⟩⟩, ⟨0, 0, fun _ _ _ => 0, ⟨z0M_0 (by decide) (by decide), z0M_0 (by decide) (by decide), ⟨by decide, by decide⟩, fun r hr o k hc => ?_⟩, rfl, by decide, fun j hj => absurd hj (Nat.not_lt_zero _)⟩, z0M_0 (by decide) (by decide), fun k _ => ⟨0, z0M_0 (by decide) (by decide)⟩⟩
  · have := (zcell_lt hc).1
    exact z0M_0 (by omega) (by omega)
  · have h0 : (0 : Int32).toInt = 0 := rfl
    have hk' : (k : Int) < (0 : Int32).toInt := hk
    omega
  · have h0 : (0 : Int32).toInt = 0 := rfl
    have hk' : (k : Int) < (0 : Int32).toInt := hk
    omega
  · have := (zcell_lt hc).1
    exact z0M_0 (by omega) (by omega)
/-- the law's own view: the object from B on, the row of ints, what was there before n0 -/
def zE0 (X : zX) (B n0 arr b1 : Nat) (K : zKT) (P : zPT) (I : zIT) (L : zLT) : zEnv := (B, fun i => if i < 150 then B + i else if i = 1000 ∨ i = 1002 then arr else if i = 1003 then b1 else X.2.2.2 (i - 2000), fun a => a < n0, K, P, I, L)
/-- what the law's start gives -/
def zIni (X : zX) (sl n arr : Nat) (K : zKT) (P : zPT) (I : zIT) : Prop := arr < n ∧ K arr = some (110, sl) ∧ ∀ (k : Nat) (q : String × Nat × String), zstr[k]? = some q → zStr (fun a => a < n) K P I (X.2.2.2 k) (zch q.2.2)
theorem zE0_ok {X : zX} {B n0 arr b1 sl : Nat} {K : zKT} {P : zPT} {I : zIT} {L : zLT} (hB : n0 ≤ B) (h : zIni X sl n0 arr K P I) : zEok X sl 0 (zE0 X B n0 arr b1 K P I L) := by
  refine ⟨fun i hi => if_pos hi, ⟨?_, ?_⟩, fun i t ht => ?_, fun k hk => ?_, fun a ha => ?_⟩
  · exact h.1
  · exact h.2.1
  · unfold ztx at ht
    cases h5 : Nat.ble 5000 i with
    | true =>
      rw [h5] at ht
      cases h0 : Nat.beq i 0 with
      | true => have := Nat.eq_of_beq_eq_true h0; have := Nat.le_of_ble_eq_true h5; omega
      | false => rw [h0] at ht; cases ht
    | false =>
      rw [h5] at ht
      cases h2 : Nat.ble 2000 i with
      | false => rw [h2] at ht; cases ht
      | true =>
        rw [h2] at ht
        have h2 := Nat.le_of_ble_eq_true h2
        obtain ⟨q, hq, rfl⟩ := Option.map_eq_some_iff.mp ht
        have he : zEr (zE0 X B n0 arr b1 K P I L) i = X.2.2.2 (i - 2000) := by
          show (if i < 150 then B + i else if i = 1000 ∨ i = 1002 then arr else if i = 1003 then b1 else X.2.2.2 (i - 2000)) = _
          rw [if_neg (by omega), if_neg (by omega), if_neg (by omega)]
        rw [he]
        exact h.2.2 _ q hq
  · show (if 2000 + k < 150 then B + (2000 + k) else if 2000 + k = 1000 ∨ 2000 + k = 1002 then arr else if 2000 + k = 1003 then b1 else X.2.2.2 (2000 + k - 2000)) = _
    rw [if_neg (by omega), if_neg (by omega), if_neg (by omega), Nat.add_sub_cancel_left]
  · have ha : a < n0 := ha
    rintro ⟨h1, -⟩
    have h1 : B ≤ a := h1
    omega
theorem zlaw_new {l : Launch} {X : zX} {bc bs pc n r1 r2 r3 : Nat} {ls : List (Nat × Value)} {K : zKT} {P : zPT} {I : zIT} {L : zLT} {Post : zPost} (h0 : zl 178 pc = some (.new 8, 3, 8, 0, 65)) (h1 : zl 178 (pc + 3) = some (.dup, 1, r1, r2, r3)) (h2 : zl 178 (pc + 4) = some (.invokespecial 344, 3, 65, 5, 67))
    (k : ∀ (n' : Nat) (K' : zKT) (P' : zPT) (I' : zIT) (L' : zLT), zNw n K P I L n' K' P' I' L' → zV l X 26 bc bs 178 (pc + 7) ls [.ref n] n' K' P' I' L' Post) : zV l X 26 (bc + 150) (bs + 4008) 178 pc ls [] n K P I L Post := by
  refine zV_bud (bc := bc + 149 + 1) (bs := bs + 3997 + zN 8) (by omega) (by show _ + 11 ≤ _; omega) (zV_new h0 (by decide) ?_)
  have g0 : zGa n K P I L 0 [] n K P I L := ⟨rfl, fun _ _ => ⟨rfl, rfl, rfl, rfl⟩, fun i hi => absurd hi (Nat.not_lt_zero _), fun e he => absurd he List.not_mem_nil⟩
  have g1 := zGa_new g0 (e := (8, 11)) rfl
  refine zV_dup h1 rfl ?_
  refine zV_bud (bc := 149 + bc) (bs := 3997 + bs) (by omega) (by omega) (zV_ci (av := []) (a := n) (rest := [.ref n]) (d := 25) (bc1 := 149) (bc2 := bc) (bs1 := 3997) (bs2 := bs) h2 rfl (Nat.le_of_ble_eq_true rfl) (Nat.le_of_ble_eq_true rfl) (zc_X4 (d := 22) g1) ?_ (by rintro x n K P I L - ⟨hv, -⟩; cases hv))
  rintro v n' K' P' I' L' ⟨hv, g⟩
  cases hv
  exact k n' K' P' I' L' g
theorem zRn_a {x : Int32} : zRlN [(2, .int x), (1, .ref 0), (0, .ref 1002)] := by
  intro q hq
  simp only [List.mem_cons, List.not_mem_nil, or_false] at hq
  rcases hq with rfl | rfl | rfl <;> rfl
theorem zRn_b : zRlN [(1, .ref 0), (0, .ref 1002)] := fun q hq => zRn_a (x := 0) q (List.mem_cons_of_mem _ hq)
set_option maxRecDepth 8000 in
theorem zlaw_all {l : Launch} {X : zX} {sl n arr : Nat} {K : zKT} {P : zPT} {I : zIT} {L : zLT} {Post : zPost} (J : zJDK l X) (hsl : sl ≤ 2147483647) (hp : ∀ n K P I L, Post (.inl (some (.int 1))) n K P I L) (hin : zIni X sl n arr K P I) : zV l X 26 123734 6183208 178 0 [(0, .ref arr)] [] n K P I L Post := by
  refine zV_bud (bc := 123584 + 150) (bs := 6179200 + 4008) (by decide) (by decide) (zlaw_new rfl rfl rfl (fun n1 K1 P1 I1 L1 hN1 => ?_))
  refine zV_astore_n rfl (by decide) rfl ?_
  have hE1 : zEok X sl 0 (zE0 X n n arr n K P I L) := zE0_ok (Nat.le_refl _) hin
  have hR1 : zRel (zE0 X n n arr n K P I L) n1 K1 P1 I1 L1 z0M := zNw_rel hN1 rfl (fun a ha => ⟨ha, rfl, rfl, rfl, rfl⟩)
  refine (zU_mem (b := 15448) (T := zlkT zTb0) zTb0_le (zseg_14 (b := 15443) zsg0 J hE1 zRn_b (zseg_14 (b := 15438) zsg1 J hE1 zRn_b (zseg_14 (b := 15433) zsg2 J hE1 zRn_a (zseg_14 (b := 15428) zsg3 J hE1 zRn_a (zseg_14 (b := 15423) zsg4 J hE1 zRn_a (zseg_14 (b := 15418) zsg5 J hE1 zRn_a (zseg_14 (b := 15413) zsg6 J hE1 zRn_a (zseg_14 (b := 15408) zsg7 J hE1 zRn_a ?_)))))))) : zU l X 14 15448 178 8 [(1, .ref 0), (0, .ref 1002)] [] (zE0 X n n arr n K P I L) z0M Post) n1 K1 P1 I1 L1 hR1
  intro n2 K2 P2 I2 L2 hR2
  refine zV_bud (bc := 123112 + 150) (bs := 6155600 + 4008) (by decide) (by decide) (zlaw_new rfl rfl rfl (fun n3 K3 P3 I3 L3 hN3 => ?_))
  refine zV_astore_n rfl (by decide) rfl ?_
  have hb2 : n + 150 ≤ n2 := hR2.1
  have hE3 : zEok X sl 0 (zE0 X n2 n arr n K P I L) := zE0_ok (by omega) hin
  obtain ⟨-, -, -, -, -, va, t, -, -, -, -, -, hF⟩ := hR2
  have hR3 : zRel (zE0 X n2 n arr n K P I L) n3 K3 P3 I3 L3 z0M := zNw_rel hN3 rfl (fun a ha => by
    obtain ⟨f1, -, f3, f4, f5, f6⟩ := hF a ha
    exact ⟨f1, f3.symm, f4.symm, f5.symm, f6.symm⟩)
  exact (zU_sub (l2 := [(2, .ref 0), (1, .ref 1003), (0, .ref 1000)]) (by intro q hq; simp only [List.mem_cons, List.not_mem_nil, or_false] at hq ⊢; rcases hq with rfl | rfl <;> simp) (zo_556 J hsl hp hE3 zIv_0 rfl rfl) : zU l X 14 15389 178 556 [(2, .ref 0), (1, .ref 1003), (0, .ref 1000)] [] (zE0 X n2 n arr n K P I L) z0M Post) n3 K3 P3 I3 L3 hR3
