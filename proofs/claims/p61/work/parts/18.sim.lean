/-! THE MAIN THEOREM OF THE SIMULATION -/
theorem zhd_split {c pc h : Nat} : ∀ {l : List (Nat × Nat × Nat × Nat)}, zhd c pc l = some h → ∃ (pre suf : List (Nat × Nat × Nat × Nat)) (z : Nat × Nat × Nat × Nat), l = pre ++ z :: suf ∧ (z.1 ≤ pc ∧ pc < z.2.1) ∧ z.2.2.2 = zcc c ∧ z.2.2.1 = h ∧ ∀ w ∈ pre, ¬ (w.1 ≤ pc ∧ pc < w.2.1) ∨ w.2.2.2 ≠ zcc c
  | [], e => by cases e
  | (a, b, g, t) :: r, e => by
    unfold zhd at e
    cases hb : Nat.ble a pc && Nat.ble (pc + 1) b && Nat.beq t (zcc c) with
    | true =>
      rw [hb] at e
      simp only [Bool.and_eq_true] at hb
      exact ⟨[], r, (a, b, g, t), rfl, ⟨Nat.le_of_ble_eq_true hb.1.1, Nat.le_of_ble_eq_true hb.1.2⟩, Nat.eq_of_beq_eq_true hb.2, Option.some.inj e, fun w hw => nomatch hw⟩
    | false =>
      rw [hb] at e
      obtain ⟨pre, suf, z, h1, h2, h3, h4, h5⟩ := zhd_split e
      refine ⟨(a, b, g, t) :: pre, suf, z, by rw [h1]; rfl, h2, h3, h4, fun w hw => ?_⟩
      rcases List.mem_cons.mp hw with rfl | hw
      · by_cases hc : a ≤ pc ∧ pc < b
        · right
          intro ht
          have : (Nat.ble a pc && Nat.ble (pc + 1) b && Nat.beq t (zcc c)) = true := by
            rw [Nat.ble_eq_true_of_le hc.1, Nat.ble_eq_true_of_le hc.2, show t = zcc c from ht]
            simp
          rw [this] at hb
          cases hb
        · exact Or.inl hc
      · exact h5 w hw
theorem zany_false {pc : Nat} {l : List (Nat × Nat × Nat × Nat)} (h : zany pc l = false) : ∀ z ∈ l, ¬ (z.1 ≤ pc ∧ pc < z.2.1) := by
  intro z hz hc
  have h1 : (Nat.ble z.1 pc && Nat.ble (pc + 1) z.2.1) = true := by
    rw [Nat.ble_eq_true_of_le hc.1, Nat.ble_eq_true_of_le hc.2]
    rfl
  have h2 : zany pc l = true := List.any_eq_true.mpr ⟨z, hz, h1⟩
  rw [h] at h2
  cases h2
/-- what an outcome says of the machine -/
def zro (ρ : Nat → Nat) (o : zO4) : zR := match o.1 with
  | 0 => .inl (o.2.1.map (zmv ρ))
  | c + 1 => .inr c
def zPo (E : zEnv) (o : zO4) : zPost := fun r n' K' P' I' L' => r = zro (zEr E) o ∧ zRel E n' K' P' I' L' o.2.2.1
section ZSIM2
variable {l : Launch} {X : zX} {sl dy d bc bs mi pc : Nat} {E : zEnv} {n : Nat} {K : zKT} {P : zPT} {Ir : zIT} {L : zLT} {Post : zPost}
theorem zV_fewer {ls ls' : List (Nat × Value)} {st : List Value} (h : ∀ q ∈ ls', q ∈ ls) (k : zV l X d bc bs mi pc ls' st n K P Ir L Post) : zV l X d bc bs mi pc ls st n K P Ir L Post :=
  fun p e R s m args below meth c H locs cells slots mc ms lsr S D hl => k p e R s m args below meth c H locs cells slots mc ms lsr S D ⟨hl.1, hl.2.1, fun q hq => hl.2.2 q (h q hq)⟩
theorem zsl_len (av : List Value) : (lg_sl av).length = zcat av := by
  unfold lg_sl zcat
  induction av with
  | nil => rfl
  | cons v r ih =>
    simp only [List.flatMap_cons, List.length_append, List.map_cons, List.sum_cons, ih]
    congr 1
    cases v <;> rfl
theorem zstk (ρ : Nat → Nat) (k : Nat) (st : List Value) : zmS ρ st = (zmS ρ (st.take k).reverse).reverse ++ zmS ρ (st.drop k) := by
  conv => lhs; rw [← List.take_append_drop k st]
  simp only [List.map_append, List.map_reverse, List.reverse_reverse]
theorem zcat_rev (st : List Value) : zcat st.reverse = zcat st := by
  unfold zcat
  rw [List.map_reverse, List.sum_reverse]
theorem zpush_map (ρ : Nat → Nat) (v : Option Value) (st : List Value) : (v.map (zmv ρ)).toList ++ zmS ρ st = zmS ρ (zpush v st) := by cases v <;> rfl
/-- what is thrown on here: caught, or not at all -/
theorem zq_caught {c : Nat} {ls : zLs} {I' : zM} {o : zO4} {u : Nat}
    (h : (zhd c pc (zH mi) = none ∧ zany pc (zH mi) = false ∧ o = (c + 1, none, I', u)) ∨ ∃ (pc2 : Nat) (ls2 : zLs), zcat3 mi pc c ls = some (pc2, ls2) ∧ zV l X d bc bs mi pc2 (zmL (zEr E) ls2) [] n K P Ir L (zPo E o)) (hR : zRel E n K P Ir L I') : zXh l X d bc bs mi pc (zmL (zEr E) ls) c n K P Ir L (zPo E o) := by
  rcases h with ⟨-, h2, rfl⟩ | ⟨pc2, ls2, h1, h2⟩
  · exact Or.inl ⟨zany_false h2, rfl, hR⟩
  · right
    unfold zcat3 at h1
    cases hh : zhd c pc (zH mi) with
    | none => rw [hh] at h1; cases h1
    | some g =>
      rw [hh] at h1
      obtain ⟨pre, suf, z, g1, g2, g3, g4, g5⟩ := zhd_split hh
      refine ⟨pre, suf, z, g1, g2, g3, g5, fun q => ?_⟩
      rw [g4]
      simp only at h1
      split at h1
      · rename_i i e1 e2 e3 hz
        split at h1
        · rename_i hb
          cases h1
          refine zV_astore_n hz (Nat.le_of_ble_eq_true hb) rfl (zV_fewer (fun y hy => ?_) h2)
          unfold zs1
          refine List.mem_cons_of_mem _ ?_
          rw [zfilter_map (zEr E) _ (fun y => by simp only [zmv_cat])]
          exact hy
        · cases h1
      · rename_i i e1 e2 e3 hz
        split at h1
        · rename_i hb
          cases h1
          refine zV_astore hz (Nat.le_of_ble_eq_true hb) rfl (zV_fewer (fun y hy => ?_) h2)
          unfold zs1
          refine List.mem_cons_of_mem _ ?_
          rw [zfilter_map (zEr E) _ (fun y => by simp only [zmv_cat])]
          exact hy
        · cases h1
      · cases h1
end ZSIM2
