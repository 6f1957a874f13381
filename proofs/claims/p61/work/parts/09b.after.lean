/-! WHAT FOLLOWS BEHIND A CALL -/
section ZB
variable {l : Launch} {X : zX} {d bc1 bc2 bs1 bs2 mi pc : Nat} {ls : List (Nat × Value)} {n : Nat} {K : zKT} {P : zPT} {I : zIT} {L : zLT} {Post Q : zPost}
theorem zinf_at {mi : Nat} {q : Nat × Nat × Nat × Nat} (h : q ∈ zH mi) : zO mi = zO 178 ∧ ∃ c, c < 6 ∧ q.2.2.2 = zcc c := by
  have hz : zhc (zi mi) = true := by
    unfold zi
    rw [List.getD_eq_getElem?_getD]
    cases hg : zinf[mi]? with
    | none => rfl
    | some w => exact List.all_eq_true.mp zhc_all w (List.mem_of_getElem? hg)
  unfold zhc at hz
  unfold zH at h
  have hne : (zi mi).2.2.2.2.1.isEmpty = false := by
    cases hc : (zi mi).2.2.2.2.1 with
    | nil => rw [hc] at h; cases h
    | cons a t => rfl
  rw [hne] at hz
  simp only [Bool.false_or, Bool.and_eq_true, decide_eq_true_eq] at hz
  refine ⟨hz.1, ?_⟩
  have h2 := List.all_eq_true.mp hz.2 q h
  obtain ⟨c, hc, hb⟩ := List.any_eq_true.mp h2
  exact ⟨c, List.mem_range.mp hc, Nat.eq_of_beq_eq_true hb⟩
theorem zcc_inj {a b : Nat} (ha : a < 6) (hb : b < 6) (h : zcc a = zcc b) : a = b := by
  rcases (show a = 0 ∨ a = 1 ∨ a = 2 ∨ a = 3 ∨ a = 4 ∨ a = 5 by omega) with rfl | rfl | rfl | rfl | rfl | rfl <;>
  rcases (show b = 0 ∨ b = 1 ∨ b = 2 ∨ b = 3 ∨ b = 4 ∨ b = 5 by omega) with rfl | rfl | rfl | rfl | rfl | rfl <;> first | rfl | (simp [zcc] at h; done)
theorem zcc_pos (a : Nat) : zcc a ≠ 0 := by
  unfold zcc
  split <;> decide
theorem zcl_w {c : Nat} (h : c < 6) : Cond.classLink (zO 178) (zcc c) (zEx c) ∈ zTs ∧ Cond.castable (zEx c) (zEx c) ∈ lw_tbl := by
  have h1 := List.all_eq_true.mp zcl_in c (List.mem_range.mpr h)
  simp only [Bool.and_eq_true, decide_eq_true_eq] at h1
  exact ⟨List.mem_filter.mpr ⟨h1.1, rfl⟩, h1.2⟩
/-- behind a call that returns or throws -/
theorem zV_after {p : Program} {e : Env} {R : Room} {s : State} {m : MethodId} {args args' : Array Value} {below : List Frame} {meth : Method} {c : Code} {H : Heap} {locs : List Loc} {cells slots mc ms : Nat} {lsr : Array Slot} {rest st0 : List Value}
    (S : zS p l e R s m args below meth c X d mi) (D : zD X s R H locs cells slots (bc1 + bc2) (bs1 + bs2) mc ms n K P I L) (hl : lv_has lsr (zL mi) ls)
    (hr : vx_Run p l e R s m args below meth c H locs cells slots bc1 bs1 (F0 m pc lsr st0) rest (zQ X Q args') (zXC X Q) (zA X))
    (kk : ∀ (v : Option Value) (n' : Nat) (K' : zKT) (P' : zPT) (I' : zIT) (L' : zLT), Q (.inl v) n' K' P' I' L' → zV l X d bc2 bs2 mi (pc + 3) ls (v.toList ++ rest) n' K' P' I' L' Post)
    (kx : ∀ (x n' : Nat) (K' : zKT) (P' : zPT) (I' : zIT) (L' : zLT), x < 6 → Q (.inr x) n' K' P' I' L' → zXh l X d bc2 bs2 mi pc ls x n' K' P' I' L' Post) :
    W p l e R s m args below meth c H locs cells slots (vx_MQ below (zQ X Post) (zXC X Post) args s mc ms (zA X)) (F0 m pc lsr st0) := by
  intro T hT Xs
  obtain ⟨d1, d2, d3, d4, hS, hpic⟩ := id D
  rcases hr T hT Xs with ⟨v, st₀, t, T', LL, h0, X', hL, e1, e2, ⟨⟨w, n', K', P', I', L', hv, hQ, hp⟩, hF⟩, st⟩ | ⟨q, st₀, t, T', LL, E, ce, h0, X', hL, e1, e2, ⟨⟨x, n', K', P', I', L', hx, hx6, hQ, hp⟩, hF⟩, hce, hcv, hcl, st⟩
  · cases hv
    obtain ⟨k1, k2, k3⟩ := vx_keep h0 e1 hS (fun q _ h => h) (fun q h => h) hL hF
    have hal : s.vm.Alike t.vm := by rw [← e2]; exact X'.warmed.alike
    have D' : zD X s R T'.heap (locs ++ LL) (cells + bc1) (slots + bs1) bc2 bs2 mc ms n' K' P' I' L' := ⟨by omega, by omega, d3, d4, k3, by rw [e1]; exact zPic_moved hal.symm hp⟩
    obtain ⟨t2, a1, b1⟩ := kk v n' K' P' I' L' hQ p e R s m args below meth c T'.heap (locs ++ LL) (cells + bc1) (slots + bs1) mc ms lsr S D' hl T' rfl X'
    exact ⟨t2, st t2 a1, b1⟩
  · obtain ⟨k1, k2, k3⟩ := vx_keep h0 e1 hS (fun q _ h => h) (fun q h => h) hL hF
    have hal : s.vm.Alike t.vm := by rw [← e2]; exact X'.warmed.alike
    have D' : zD X s R T'.heap (locs ++ LL) (cells + bc1) (slots + bs1) bc2 bs2 mc ms n' K' P' I' L' := ⟨by omega, by omega, d3, d4, k3, by rw [e1]; exact zPic_moved hal.symm hp⟩
    have hce' : T'.heap[q]? = some ce := by rw [e1]; exact hce
    subst hx
    obtain ⟨hxx, hb, hml, hown, hts, hrt, hlk, htab, hnm, hdf, hdl, hKs, hst⟩ := id S
    have key : vx_W p l e R s m args below meth c T'.heap (locs ++ LL) (cells + bc1) (slots + bs1) (vx_MQ below (zQ X Post) (zXC X Post) args s mc ms (zA X)) (F0 m pc lsr rest) q := by
      rcases kx x n' K' P' I' L' hx6 hQ with ⟨hno, hp2⟩ | ⟨pre, suf, z, hz, hcov, hzc, hpre, hk⟩
      · refine vx_out (fun y hy => ?_) hlk hce' hcv hcl (fun u hu hau => ?_) k3.2.2 (by omega) (by omega)
        · rw [htab] at hy
          obtain ⟨z, hz, rfl⟩ := List.mem_map.mp hy
          have h1 := hno z hz
          show (decide (z.1 ≤ pc) && decide (pc < z.2.1)) = false
          cases hd : (decide (z.1 ≤ pc) && decide (pc < z.2.1)) with
          | false => rfl
          | true =>
            simp only [Bool.and_eq_true, decide_eq_true_eq] at hd
            exact absurd hd h1
        · refine ⟨⟨x, n', K', P', I', L', rfl, hx6, hp2, ?_⟩, ?_⟩
          · rw [hu, e1]
            exact zPic_moved (hal.symm.trans hau) hp
          · exact ⟨by rw [hu]; exact k3.1, fun q q1 q2 => by rw [hu]; exact k3.2.1 q q1 q2⟩
      · obtain ⟨ho, -⟩ := zinf_at (mi := mi) (q := z) (by rw [hz]; exact List.mem_append_right _ List.mem_cons_self)
        obtain ⟨w1, w2⟩ := zcl_w hx6
        refine vx_catch (own := zO mi) (name := zEx x) hown (pre.map fun q => ⟨q.1, q.2.1, q.2.2.1, q.2.2.2⟩) ⟨z.1, z.2.1, z.2.2.1, z.2.2.2⟩ (suf.map fun q => ⟨q.1, q.2.1, q.2.2.1, q.2.2.2⟩) ?_ ?_ ?_ ?_ ?_ ?_ hce' hcv hcl ?_
        · rw [htab, hz]
          simp [tableOf]
        · intro y hy
          obtain ⟨w, hw, rfl⟩ := List.mem_map.mp hy
          obtain ⟨ho2, c2, hc2, hcc⟩ := zinf_at (mi := mi) (q := w) (by rw [hz]; exact List.mem_append_left _ hw)
          rcases hpre w hw with h1 | h1
          · left
            show (decide (w.1 ≤ pc) && decide (pc < w.2.1)) = false
            cases hd : (decide (w.1 ≤ pc) && decide (pc < w.2.1)) with
            | false => rfl
            | true =>
              simp only [Bool.and_eq_true, decide_eq_true_eq] at hd
              exact absurd hd h1
          · right
            refine ⟨by show w.2.2.2 ≠ 0; rw [hcc]; exact zcc_pos c2, zEx c2, ?_, hKs.2.2.2.2.1 x c2 hx6 hc2 (fun h => h1 (by rw [hcc, h]))⟩
            show (Cond.classLink (zO mi) w.2.2.2 (zEx c2)).before args s = true
            rw [hcc, ho2]
            exact hts _ (zcl_w hc2).1
        · show (decide (z.1 ≤ pc) && decide (pc < z.2.1)) = true
          simp only [Bool.and_eq_true, decide_eq_true_eq]
          exact hcov
        · show z.2.2.2 ≠ 0
          rw [hzc]
          exact zcc_pos x
        · show (Cond.classLink (zO mi) z.2.2.2 (zEx x)).before args s = true
          rw [hzc, ho]
          exact hts _ w1
        · by_cases hg : goodWord (Cond.castable (zEx x) (zEx x)) = true
          · exact hts _ (List.mem_filter.mpr ⟨w2, hg⟩)
          · exact va_Nw.use (zface_on (by rfl)) (hKs.2.2.2.1 _ (List.mem_filter.mpr ⟨w2, by rfl⟩))
        · exact hk q p e R s m args below meth c T'.heap (locs ++ LL) (cells + bc1) (slots + bs1) mc ms lsr S D' hl
    obtain ⟨t2, a1, b1⟩ := key T' rfl X'
    exact ⟨t2, st.trans a1, b1⟩
end ZB
