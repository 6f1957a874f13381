/-! MEMORY, ENDS, CALLS -/
theorem zNw_moved {w : Cond} {s U : State} (hw : (w.faceAtom || zisN w) = true) (hW : s.WarmedH U.vm) (h : va_Nw w s) : va_Nw w U := by
  by_cases hf : w.faceAtom = true
  · have h1 : w.before #[] (s.setVm U.vm) = true := Cond.faceAtom_setVm hW.alike w hf h
    refine va_tabs (u := s.setVm U.vm) ?_ rfl h1
    cases w <;> first | rfl | (simp [Cond.faceAtom] at hf; done)
  · have hn : zisN w = true := by
      cases hz : zisN w with
      | true => rfl
      | false => rw [hz] at hw; simp only [Bool.or_false] at hw; exact absurd hw hf
    cases w <;> first | exact va_Nw.warmM hW h | (simp [zisN] at hn; done) | (rename_i t; cases t <;> first | exact va_AO.moved hW.alike h | (simp [zisN] at hn; done))
theorem zK_moved {X : zX} {s U : State} {H : Heap} {locs : List Loc} (h : zK X s s.heap) (hW : s.WarmedH U.vm) (hS : va_S (zA X) s.heap H locs) (hU : U.heap = H) : zK X U U.heap := by
  obtain ⟨h1, h2, ⟨s1, s2, s3, ⟨s4, s7, s8⟩, s5, s6⟩, h4, h5, h6⟩ := h
  have hvm : s.vm.Alike U.vm := hW.alike
  subst hU
  refine ⟨Nat.le_trans h1 hS.1, va_K.moved hvm h2, ⟨va_Z.moved hvm (s1.kept hS.2.1), va_Z.moved hvm (s2.kept hS.2.1), va_Z.moved hvm (s3.kept hS.2.1), ⟨va_Zq.moved hvm (s4.kept hS.2.1), va_T.moved hvm (s7.kept hS.2.1), va_T.moved hvm (s8.kept hS.2.1)⟩, vx_Zq.moved hvm (s5.kept hS.2.1), vx_Zq.moved hvm (s6.kept hS.2.1)⟩,
    fun w hw => zNw_moved (List.mem_filter.mp hw).2 hW (h4 w hw), fun i j hi hj hne => (h5 i j hi hj hne).moved hvm, fun i q hq => vk_R.warm hW (h6 i q hq)⟩
theorem zAt_moved {X : zX} {U U' : State} {H : Heap} {P : zPT} {I : zIT} {L : zLT} {a k n : Nat} (hvm : U.vm.Alike U'.vm) (h : zAt X U H P I L a k n) : zAt X U' H P I L a k n := by
  obtain ⟨h1, h2, h3, h4⟩ := h
  refine ⟨h1, h2, fun g1 g2 => ?_, fun g => ?_⟩
  · obtain ⟨x, cell, c1, c2, c3⟩ := h3 g1 g2
    exact ⟨x, cell, c1, State.isArrayOf_alike hvm c2, c3⟩
  · obtain ⟨x, cell, c1, c2, c3, c4, c5⟩ := h4 g
    exact ⟨x, cell, c1, c2, c3, by rw [hvm.findClass]; exact c4, c5⟩
theorem zPic_moved {X : zX} {U U' : State} {H : Heap} {n : Nat} {K : zKT} {P : zPT} {I : zIT} {L : zLT} (hvm : U.vm.Alike U'.vm) (h : zPic X U H n K P I L) : zPic X U' H n K P I L :=
  ⟨h.1, fun a k m hk => zAt_moved hvm (h.2 a k m hk)⟩
theorem zfv_eq {ci k a : Nat} {P P' : zPT} {I I' : zIT} (hP : P' a = P a) (hI : I' a = I a) : zfv ci k P' I' a = zfv ci k P I a := by
  unfold zfv; rw [hP, hI]
theorem zel_eq {k a j : Nat} {P P' : zPT} {I I' : zIT} {L L' : zLT} (hP : P' a = P a) (hI : I' a = I a) (hL : L' a = L a) : zel k P' I' L' a j = zel k P I L a j := by
  unfold zel; rw [hP, hI, hL]
theorem zAt_kept {X : zX} {U : State} {H H' : Heap} {P P' : zPT} {I I' : zIT} {L L' : zLT} {a k n : Nat} (h : zAt X U H P I L a k n) (hq : H'[a]? = H[a]?) (hP : P' a = P a) (hI : I' a = I a) (hL : L' a = L a) : zAt X U H' P' I' L' a k n := by
  obtain ⟨h1, h2, h3, h4⟩ := h
  refine ⟨fun g => ?_, fun g1 g2 => ?_, fun g1 g2 => ?_, fun g => ?_⟩
  · obtain ⟨x, r, r1, r2, r3⟩ := h1 g
    exact ⟨x, r, r1, r2, (r3.kept hq).to (fun j _ => (zfv_eq hP hI).symm)⟩
  · obtain ⟨x, x2⟩ := h2 g1 g2
    refine ⟨x, ?_⟩
    rw [hq, x2, show zel k P' I' L' a = zel k P I L a from funext fun j => zel_eq hP hI hL]
  · obtain ⟨x, cell, c1, c2, c3, c4, c5⟩ := h3 g1 g2
    exact ⟨x, cell, by rw [hq]; exact c1, c2, c3, c4, fun j hj => by rw [hI]; exact c5 j hj⟩
  · obtain ⟨x, cell, c1, c2, c3, c4, c5⟩ := h4 g
    exact ⟨x, cell, by rw [hq]; exact c1, c2, c3, c4, fun j hj => by rw [zfv_eq hP hI]; exact c5 j hj⟩
theorem zAt_lt {X : zX} {U : State} {H : Heap} {P : zPT} {I : zIT} {L : zLT} {a k n : Nat} (h : zAt X U H P I L a k n) : a < H.size := by
  obtain ⟨h1, h2, h3, h4⟩ := h
  have key : ∀ {cell : Cell}, H[a]? = some cell → a < H.size := fun h => (Array.getElem?_eq_some_iff.mp h).1
  rcases Nat.lt_or_ge k 100 with g | g
  · obtain ⟨-, r, -, -, cell, c1, -⟩ := h1 g
    exact key c1
  · rcases Nat.lt_or_ge k 110 with g2 | g2
    · exact key (h2 g g2).2
    · rcases Nat.lt_or_ge k 120 with g3 | g3
      · obtain ⟨-, cell, c1, -⟩ := h3 g2 g3
        exact key c1
      · obtain ⟨-, cell, c1, -⟩ := h4 g3
        exact key c1
theorem zPic_lt {X : zX} {U : State} {H : Heap} {n : Nat} {K : zKT} {P : zPT} {I : zIT} {L : zLT} (h : zPic X U H n K P I L) {a : Nat} {e : Nat × Nat} (hk : K a = some e) : a < n := by
  rw [← h.1]; exact zAt_lt (h.2 a e.1 e.2 hk)
/-- the heap has grown, nothing tracked has changed -/
theorem zPic_grown {X : zX} {U : State} {H H' : Heap} {n : Nat} {K : zKT} {P : zPT} {I : zIT} {L : zLT} (h : zPic X U H n K P I L) (hq : ∀ q : Nat, q < H.size → H'[q]? = H[q]?) : zPic X U H' H'.size K P I L :=
  ⟨rfl, fun a k m hk => zAt_kept (h.2 a k m hk) (hq a (zAt_lt (h.2 a k m hk))) rfl rfl rfl⟩
def zuI (I : zIT) (a k : Nat) (x : Int32) : zIT := fun q => if q = a then upd (I a) k x else I q
def zuP (P : zPT) (a k : Nat) (x : Option Nat) : zPT := fun q => if q = a then va_up (P a) k x else P q
def zuL (L : zLT) (a k : Nat) (x : Int64) : zLT := fun q => if q = a then vp_updL (L a) k x else L q
def zuK (K : zKT) (a : Nat) (e : Nat × Nat) : zKT := fun q => if q = a then some e else K q
def z0I (I : zIT) (a : Nat) : zIT := fun q => if q = a then fun _ => 0 else I q
def z0P (P : zPT) (a : Nat) : zPT := fun q => if q = a then fun _ => none else P q
def z0L (L : zLT) (a : Nat) : zLT := fun q => if q = a then fun _ => 0 else L q
/-- one tracked cell is written -/
theorem zPic_put {X : zX} {U : State} {H H' : Heap} {n : Nat} {K : zKT} {P P' : zPT} {I I' : zIT} {L L' : zLT} {a k m : Nat} (h : zPic X U H n K P I L) (ha : K a = some (k, m)) (hn : zAt X U H' P' I' L' a k m) (hz : H'.size = H.size) (hq : ∀ q : Nat, q ≠ a → H'[q]? = H[q]?)
    (hP : ∀ q, q ≠ a → P' q = P q) (hI : ∀ q, q ≠ a → I' q = I q) (hL : ∀ q, q ≠ a → L' q = L q) : zPic X U H' n K P' I' L' := by
  refine ⟨hz.trans h.1, fun b k2 m2 hk => ?_⟩
  by_cases hb : b = a
  · subst hb
    cases ha.symm.trans hk
    exact hn
  · exact zAt_kept (h.2 b k2 m2 hk) (hq b hb) (hP b hb) (hI b hb) (hL b hb)
/-- a tracked cell is made -/
theorem zPic_new {X : zX} {U : State} {H H' : Heap} {n : Nat} {K : zKT} {P : zPT} {I : zIT} {L : zLT} {k m : Nat} (h : zPic X U H n K P I L) (hn : zAt X U H' (z0P P n) (z0I I n) (z0L L n) n k m) (hz : H'.size = n + 1) (hq : ∀ q : Nat, q < n → H'[q]? = H[q]?) : zPic X U H' (n + 1) (zuK K n (k, m)) (z0P P n) (z0I I n) (z0L L n) := by
  refine ⟨hz, fun b k2 m2 hk => ?_⟩
  unfold zuK at hk
  by_cases hb : b = n
  · subst hb
    rw [if_pos rfl] at hk
    cases hk
    exact hn
  · rw [if_neg hb] at hk
    have hl := zPic_lt h hk
    exact zAt_kept (h.2 b k2 m2 hk) (hq b hl) (if_neg hb) (if_neg hb) (if_neg hb)
theorem zcl_ok {ci k : Nat} (h : k < zN ci) : vwCl[ci]? = some (zcn ci, zT ci, zN ci) ∧ ci < 100 := by
  match ci, h with
  | 0, _ => exact ⟨rfl, by decide⟩
  | 1, _ => exact ⟨rfl, by decide⟩
  | 4, _ => exact ⟨rfl, by decide⟩
  | 5, _ => exact ⟨rfl, by decide⟩
  | 6, _ => exact ⟨rfl, by decide⟩
  | 7, _ => exact ⟨rfl, by decide⟩
  | 8, _ => exact ⟨rfl, by decide⟩
  | 2, h => exact absurd h (by simp [zN])
  | 3, h => exact absurd h (by simp [zN])
  | n + 9, h => exact absurd h (by simp [zN])
set_option maxRecDepth 200000 in
theorem zu_0 : ((u_ws (zcn 0) (zT 0) (zN 0)).all (fun w => decide (w ∈ lw_tbl) && goodWord w)) = true := by decide +kernel
set_option maxRecDepth 200000 in
theorem zu_1 : ((u_ws (zcn 1) (zT 1) (zN 1)).all (fun w => decide (w ∈ lw_tbl) && goodWord w)) = true := by decide +kernel
set_option maxRecDepth 200000 in
theorem zu_4 : ((u_ws (zcn 4) (zT 4) (zN 4)).all (fun w => decide (w ∈ lw_tbl) && goodWord w)) = true := by decide +kernel
set_option maxRecDepth 200000 in
theorem zu_5 : ((u_ws (zcn 5) (zT 5) (zN 5)).all (fun w => decide (w ∈ lw_tbl) && goodWord w)) = true := by decide +kernel
set_option maxRecDepth 200000 in
theorem zu_6 : ((u_ws (zcn 6) (zT 6) (zN 6)).all (fun w => decide (w ∈ lw_tbl) && goodWord w)) = true := by decide +kernel
set_option maxRecDepth 200000 in
theorem zu_7 : ((u_ws (zcn 7) (zT 7) (zN 7)).all (fun w => decide (w ∈ lw_tbl) && goodWord w)) = true := by decide +kernel
set_option maxRecDepth 200000 in
theorem zu_8 : ((u_ws (zcn 8) (zT 8) (zN 8)).all (fun w => decide (w ∈ lw_tbl) && goodWord w)) = true := by decide +kernel
theorem zu_of {t : List Cond} (h : (t.all (fun w => decide (w ∈ lw_tbl) && goodWord w)) = true) : ∀ w ∈ t, w ∈ zTs := fun w hw => by
  have h1 := List.all_eq_true.mp h w hw
  simp only [Bool.and_eq_true, decide_eq_true_eq] at h1
  exact List.mem_filter.mpr h1
theorem zu_in {ci k : Nat} (h : k < zN ci) : ∀ w ∈ u_ws (zcn ci) (zT ci) (zN ci), w ∈ zTs := by
  match ci, h with
  | 0, _ => exact zu_of zu_0
  | 1, _ => exact zu_of zu_1
  | 4, _ => exact zu_of zu_4
  | 5, _ => exact zu_of zu_5
  | 6, _ => exact zu_of zu_6
  | 7, _ => exact zu_of zu_7
  | 8, _ => exact zu_of zu_8
  | 2, h => exact absurd h (by simp [zN])
  | 3, h => exact absurd h (by simp [zN])
  | n + 9, h => exact absurd h (by simp [zN])
theorem zty_ok {ci k0 : Nat} (h : k0 < zN ci) : ∀ k, k < zN ci → parseFieldDescriptor (zT ci k).2.2.1 = some (zty ci k) := by
  match ci, h with
  | 0, _ => exact tyJ0_ok
  | 1, _ => exact tyJ4_ok
  | 4, _ => exact tyX0_ok
  | 5, _ => exact tyX1_ok
  | 6, _ => exact tyX2_ok
  | 7, _ => exact tyX3_ok
  | 8, _ => exact tyX4_ok
  | 2, h => exact absurd h (by simp [zN])
  | 3, h => exact absurd h (by simp [zN])
  | n + 9, h => exact absurd h (by simp [zN])
theorem znm_ok {ci k0 : Nat} (h : k0 < zN ci) : ∀ a, a < zN ci → ∀ b, b < zN ci → a ≠ b → (zT ci a).2.1 ≠ (zT ci b).2.1 := by
  match ci, h with
  | 0, _ => exact nmJ0
  | 1, _ => exact nmJ4
  | 4, _ => exact nmX0
  | 5, _ => exact nmX1
  | 6, _ => exact nmX2
  | 7, _ => exact nmX3
  | 8, _ => exact nmX4
  | 2, h => exact absurd h (by simp [zN])
  | 3, h => exact absurd h (by simp [zN])
  | n + 9, h => exact absurd h (by simp [zN])
