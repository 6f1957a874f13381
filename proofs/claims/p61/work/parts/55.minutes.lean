/-! CONTRACTS: water flows -/
theorem zmin_c (x y : Int32) : ((if y < x then y else x) = y ∧ y.toInt < x.toInt) ∨ ((if y < x then y else x) = x ∧ x.toInt ≤ y.toInt) := by
  by_cases h : y < x
  · exact Or.inl ⟨if_pos h, Int32.lt_iff_toInt_lt.mp h⟩
  · exact Or.inr ⟨if_neg h, by have := mt Int32.lt_iff_toInt_lt.mpr h; omega⟩
theorem zabs_c (x : Int32) (h : -1000000 ≤ x.toInt) : (0 ≤ x.toInt ∧ (if 0 ≤ x then x else 0 - x).toInt = x.toInt) ∨ (x.toInt < 0 ∧ (if 0 ≤ x then x else 0 - x).toInt = -x.toInt) := by
  have z0 := zi0
  have hx := Int32.toInt_lt x
  by_cases h0 : 0 ≤ x
  · exact Or.inl ⟨Int32.le_iff_toInt_le.mp h0, by rw [if_pos h0]⟩
  · have h1 := mt Int32.le_iff_toInt_le.mpr h0
    refine Or.inr ⟨by omega, ?_⟩
    rw [if_neg h0, zti_sub (by omega) (by omega)]
    omega
theorem zldf_eq {S : Nat → Nat → Int32} (hV : zOK S) {p : Int32} (h0 : 0 ≤ p.toInt) (hp : p.toInt < (S 0 11).toInt) : (zldf S p.toNatClampNeg).toInt = (S 2 (S 4 p.toNatClampNeg).toNatClampNeg).toInt - (S 2 (S 5 p.toNatClampNeg).toNatClampNeg).toInt := by
  have hF := zOK_pipe hV h0 hp
  have h1 := zOK_tank hV hF.1.1 hF.1.2
  have h2 := zOK_tank hV hF.2.1.1 hF.2.1.2
  exact zti_sub (by omega) (by omega)
theorem zlq_in {S : Nat → Nat → Int32} (hV : zOK S) {p : Int32} (h0 : 0 ≤ p.toInt) (hp : p.toInt < (S 0 11).toInt) {t : Int32} (ht0 : 0 ≤ t.toInt) (ht1 : t.toInt < (S 0 10).toInt) :
    0 ≤ (zlq S p.toNatClampNeg t).toInt ∧ (zlq S p.toNatClampNeg t).toInt ≤ 20 ∧ (zlq S p.toNatClampNeg t).toInt ≤ (S 1 t.toNatClampNeg).toInt - (S 2 t.toNatClampNeg).toInt ∧ ((zldf S p.toNatClampNeg).toInt ≤ 0 → 2 * (zlq S p.toNatClampNeg t).toInt ≤ -(zldf S p.toNatClampNeg).toInt) ∧ (0 < (zldf S p.toNatClampNeg).toInt → 2 * (zlq S p.toNatClampNeg t).toInt ≤ (zldf S p.toNatClampNeg).toInt) := by
  have hF := zOK_pipe hV h0 hp
  have h1 := zOK_tank hV hF.1.1 hF.1.2
  have h2 := zOK_tank hV hF.2.1.1 hF.2.1.2
  have h3 := zOK_tank hV ht0 ht1
  have hd := zldf_eq hV h0 hp
  unfold zlq
  generalize zldf S p.toNatClampNeg = d at hd ⊢
  have ha := zabs_c d (by omega)
  generalize (if 0 ≤ d then d else 0 - d) = a at ha ⊢
  have z2 : (2 : Int32).toInt = 2 := rfl
  have z5 : (5 : Int32).toInt = 5 := rfl
  have hq : (a / 2).toInt = a.toInt / 2 := zti_div (by omega) (by omega)
  generalize a / 2 = q at hq ⊢
  have hr : (S 1 t.toNatClampNeg - S 2 t.toNatClampNeg).toInt = (S 1 t.toNatClampNeg).toInt - (S 2 t.toNatClampNeg).toInt := zti_sub (by omega) (by omega)
  generalize S 1 t.toNatClampNeg - S 2 t.toNatClampNeg = r at hr ⊢
  have hu : (5 * S 7 p.toNatClampNeg).toInt = 5 * (S 7 p.toNatClampNeg).toInt := by rw [zti_mul (by rw [z5]; omega) (by rw [z5]; omega), z5]
  generalize 5 * S 7 p.toNatClampNeg = u at hu ⊢
  have hm := zmin_c q r
  generalize (if r < q then r else q) = m at hm ⊢
  have hn := zmin_c u m
  generalize (if m < u then m else u) = n at hn ⊢
  have e1 : m = r ∧ r.toInt < q.toInt ∨ m = q ∧ q.toInt ≤ r.toInt := hm
  have e2 : n = m ∧ m.toInt < u.toInt ∨ n = u ∧ u.toInt ≤ m.toInt := hn
  rcases e1 with ⟨rfl, e1⟩ | ⟨rfl, e1⟩ <;> rcases e2 with ⟨rfl, e2⟩ | ⟨rfl, e2⟩ <;> omega
/-- water that flows fits -/
def zfits (S : Nat → Nat → Int32) (l f t : Int32) : Prop := (0 ≤ f.toInt ∧ f.toInt < (S 0 10).toInt) ∧ (0 ≤ t.toInt ∧ t.toInt < (S 0 10).toInt) ∧ f ≠ t ∧ (0 < l.toInt ∧ l.toInt ≤ 20) ∧ l.toInt ≤ (S 2 f.toNatClampNeg).toInt ∧ (S 2 t.toNatClampNeg).toInt + l.toInt ≤ (S 1 t.toNatClampNeg).toInt
theorem zlit_pos {S : Nat → Nat → Int32} (hV : zOK S) {p : Int32} (h0 : 0 ≤ p.toInt) (hp : p.toInt < (S 0 11).toInt) (h : 0 < (zlit S p.toNatClampNeg).toInt) : zfits S (zlit S p.toNatClampNeg) (S 4 p.toNatClampNeg) (S 5 p.toNatClampNeg) := by
  have hF := zOK_pipe hV h0 hp
  have h1 := zOK_tank hV hF.1.1 hF.1.2
  have h2 := zOK_tank hV hF.2.1.1 hF.2.1.2
  have hd := zldf_eq hV h0 hp
  have q1 := zlq_in hV h0 hp hF.1.1 hF.1.2
  have q2 := zlq_in hV h0 hp hF.2.1.1 hF.2.1.2
  have z0 := zi0
  unfold zlit at h ⊢
  split at h
  · split at h
    · exfalso
      rw [zti_neg (by omega) (by omega)] at h
      omega
    · rename_i ho hc
      rw [if_pos ho, if_neg hc]
      refine ⟨hF.1, hF.2.1, fun e => ?_, by omega, by omega, by omega⟩
      rw [e] at hd
      omega
  · exfalso; omega
theorem zlit_neg {S : Nat → Nat → Int32} (hV : zOK S) {p : Int32} (h0 : 0 ≤ p.toInt) (hp : p.toInt < (S 0 11).toInt) (h : (zlit S p.toNatClampNeg).toInt < 0) : zfits S (-(zlit S p.toNatClampNeg)) (S 5 p.toNatClampNeg) (S 4 p.toNatClampNeg) := by
  have hF := zOK_pipe hV h0 hp
  have h1 := zOK_tank hV hF.1.1 hF.1.2
  have h2 := zOK_tank hV hF.2.1.1 hF.2.1.2
  have hd := zldf_eq hV h0 hp
  have q1 := zlq_in hV h0 hp hF.1.1 hF.1.2
  have q2 := zlq_in hV h0 hp hF.2.1.1 hF.2.1.2
  have z0 := zi0
  unfold zlit at h ⊢
  split at h
  · split at h
    · rename_i ho hc
      rw [if_pos ho, if_pos hc]
      rw [zti_neg (by omega) (by omega)] at h
      rw [Int32.neg_neg]
      refine ⟨hF.2.1, hF.1, fun e => ?_, by omega, by omega, by omega⟩
      rw [e] at hd
      omega
    · exfalso; omega
  · exfalso; omega
/-- while minutes pass -/
def zEv (m n s0 : Int32) (I0 : zM) (b : Int) (S : Nat → Nat → Int32) (J : zM) : Prop := zSB 1 S J ∧ zOK S ∧ zfb I0 J ∧ S 0 10 = m ∧ S 0 11 = n ∧ ∃ d : Int32, S 0 15 = s0 + d ∧ 0 ≤ d.toInt ∧ d.toInt ≤ b
theorem zEv_le {m n s0 : Int32} {I0 : zM} {b b' : Int} {S : Nat → Nat → Int32} {J : zM} (h : zEv m n s0 I0 b S J) (hb : b ≤ b') : zEv m n s0 I0 b' S J := by
  obtain ⟨h1, h2, h3, h4, h5, d, h6, h7, h8⟩ := h
  exact ⟨h1, h2, h3, h4, h5, d, h6, h7, by omega⟩
theorem zt_let {sl D dy : Nat} {I : zM} {m n s0 : Int32} {I0 : zM} {b : Int} {S : Nat → Nat → Int32} (hE : zEv m n s0 I0 b S I) (hb9 : b ≤ 100000) (l p f t : Int32) (h0 : 0 ≤ p.toInt) (hp : p.toInt < (S 0 11).toInt) (hx : zfits S l f t) : zW sl (D + 1) dy 57 0 [(0, .ref 1), (1, .int l), (2, .int p), (3, .int f), (4, .int t)] [] I (zRg 0 (zQj (fun J => ∃ S2, zEv m n s0 I0 (b + 9) S2 J))) := by
  obtain ⟨hB, hV, hF, hm, hn, d, hd, hd0, hd1⟩ := id hE
  have hT := hV.1
  have hP := hV.2.1
  have z0 := zi0
  obtain ⟨⟨hf0, hf1⟩, ⟨ht0, ht1⟩, hft, hl, hl2, hl3⟩ := hx
  have hQ := zOK_pipe hV h0 hp
  have hTf := zOK_tank hV hf0 hf1
  have hTt := zOK_tank hV ht0 ht1
  have k10_ : S 0 10 = S 0 10 := rfl
  have k11_ : S 0 11 = S 0 11 := rfl
  have k15_ : S 0 15 = S 0 15 := rfl
  refine zg 3 (pc' := 5) (ls' := [(0, .ref 1), (1, .int l), (2, .int p), (3, .int f), (4, .int t)]) (st' := [.int p, .ref 9]) (I' := I) rfl ?_
  refine zia rfl rfl (zin_ok (n := 12) (by omega) (by omega)) (hB 8 _ (zcell_12 (by decide) (by omega) (by omega))) ?_
  refine zg 3 (pc' := 12) (ls' := [(5, .int ((if l < (S 8 p.toNatClampNeg) then l else (S 8 p.toNatClampNeg)))), (0, .ref 1), (1, .int l), (2, .int p), (3, .int f), (4, .int t)]) (st' := []) (I' := I) rfl ?_
  have hlo := zmin_c (S 8 p.toNatClampNeg) l
  generalize hlq : (if l < (S 8 p.toNatClampNeg) then l else (S 8 p.toNatClampNeg)) = lo at hlo ⊢
  have hlo2 : lo = l ∧ l.toInt < (S 8 p.toNatClampNeg).toInt ∨ lo = S 8 p.toNatClampNeg ∧ (S 8 p.toNatClampNeg).toInt ≤ l.toInt := hlo
  have hlo3 : 0 ≤ lo.toInt ∧ lo.toInt ≤ 9 ∧ lo.toInt ≤ l.toInt := by rcases hlo2 with ⟨q, q2⟩ | ⟨q, q2⟩ <;> rw [q] <;> omega
  refine zg 3 (pc' := 17) (ls' := [(5, .int lo), (0, .ref 1), (1, .int l), (2, .int p), (3, .int f), (4, .int t)]) (st' := [.int f, .ref 4]) (I' := I) rfl ?_
  refine zia rfl rfl (zin_ok (n := 8) (by omega) (by omega)) (hB 3 _ (zcell_8 (by decide) (by omega) (by omega))) ?_
  refine zg 3 (pc' := 23) (ls' := [(5, .int lo), (0, .ref 1), (1, .int l), (2, .int p), (3, .int f), (4, .int t)]) (st' := [.int p, .ref 7, .int (S 3 f.toNatClampNeg)]) (I' := I) rfl ?_
  refine zia rfl rfl (zin_ok (n := 12) (by omega) (by omega)) (hB 6 _ (zcell_12 (by decide) (by omega) (by omega))) ?_
  refine zg 2 (pc' := 27) (ls' := [(6, .int (((S 3 f.toNatClampNeg) &&& (S 6 p.toNatClampNeg)))), (5, .int lo), (0, .ref 1), (1, .int l), (2, .int p), (3, .int f), (4, .int t)]) (st' := []) (I' := I) rfl ?_
  generalize ((S 3 f.toNatClampNeg) &&& (S 6 p.toNatClampNeg)) = hb
  refine zg 4 (pc' := 33) (ls' := [(6, .int hb), (5, .int lo), (0, .ref 1), (1, .int l), (2, .int p), (3, .int f), (4, .int t)]) (st' := [.int f, .ref 3, .int f, .ref 3]) (I' := I) rfl ?_
  refine zia rfl rfl (zin_ok (n := 8) (by omega) (by omega)) (hB 2 _ (zcell_8 (by decide) (by omega) (by omega))) ?_
  refine zg 2 (pc' := 36) (ls' := [(6, .int hb), (5, .int lo), (0, .ref 1), (1, .int l), (2, .int p), (3, .int f), (4, .int t)]) (st' := [.int (((S 2 f.toNatClampNeg) - l)), .int f, .ref 3]) (I' := I) rfl ?_
  refine zis rfl rfl (zin_ok (n := 8) (by omega) (by omega)) ?_
  have zB1 : zSB 1 (zsu S 2 (f.toNatClampNeg) (((S 2 f.toNatClampNeg) - l))) (zup I 3 f.toNatClampNeg (((S 2 f.toNatClampNeg) - l))) := zSB_up hB 2 _ _
  have zF1 : zfb I0 (zup I 3 f.toNatClampNeg (((S 2 f.toNatClampNeg) - l))) := zfb_up hF 3 _ _ (by decide)
  obtain ⟨zS1, zE1⟩ : ∃ T, T = zsu S 2 (f.toNatClampNeg) (((S 2 f.toNatClampNeg) - l)) := ⟨_, rfl⟩
  rw [← zE1] at zB1
  generalize (zup I 3 f.toNatClampNeg (((S 2 f.toNatClampNeg) - l))) = zM1 at zB1 zF1 ⊢
  have k10_1 : zS1 0 10 = S 0 10 := by rw [zE1]; exact k10_
  have k11_1 : zS1 0 11 = S 0 11 := by rw [zE1]; exact k11_
  have k15_1 : zS1 0 15 = S 0 15 := by rw [zE1]; exact k15_
  have hs1 := zti_sub (x := S 2 f.toNatClampNeg) (y := l) (by omega) (by omega)
  have hV1 : zOK zS1 := by rw [zE1]; exact zOK_2 hV (zix hf0 hf1) (by omega)
  have g1 : zS1 2 t.toNatClampNeg = S 2 t.toNatClampNeg := by rw [zE1]; exact zsu_ne _ _ _ (zixne ht0 hf0 (fun q => hft q.symm))
  have c1 : zS1 1 t.toNatClampNeg = S 1 t.toNatClampNeg := by rw [zE1]; rfl
  refine zg 4 (pc' := 44) (ls' := [(6, .int hb), (5, .int lo), (0, .ref 1), (1, .int l), (2, .int p), (3, .int f), (4, .int t)]) (st' := [.int t, .ref 3, .int t, .ref 3]) (I' := zM1) rfl ?_
  refine zia rfl rfl (zin_ok (n := 8) (by omega) (by omega)) (zB1 2 _ (zcell_8 (by decide) (by omega) (by omega))) ?_
  refine zg 4 (pc' := 50) (ls' := [(6, .int hb), (5, .int lo), (0, .ref 1), (1, .int l), (2, .int p), (3, .int f), (4, .int t)]) (st' := [.int (((zS1 2 t.toNatClampNeg) + (l - lo))), .int t, .ref 3]) (I' := zM1) rfl ?_
  refine zis rfl rfl (zin_ok (n := 8) (by omega) (by omega)) ?_
  have zB2 : zSB 1 (zsu zS1 2 (t.toNatClampNeg) (((zS1 2 t.toNatClampNeg) + (l - lo)))) (zup zM1 3 t.toNatClampNeg (((zS1 2 t.toNatClampNeg) + (l - lo)))) := zSB_up zB1 2 _ _
  have zF2 : zfb I0 (zup zM1 3 t.toNatClampNeg (((zS1 2 t.toNatClampNeg) + (l - lo)))) := zfb_up zF1 3 _ _ (by decide)
  obtain ⟨zS2, zE2⟩ : ∃ T, T = zsu zS1 2 (t.toNatClampNeg) (((zS1 2 t.toNatClampNeg) + (l - lo))) := ⟨_, rfl⟩
  rw [← zE2] at zB2
  generalize (zup zM1 3 t.toNatClampNeg (((zS1 2 t.toNatClampNeg) + (l - lo)))) = zM2 at zB2 zF2 ⊢
  have k10_2 : zS2 0 10 = S 0 10 := by rw [zE2]; exact k10_1
  have k11_2 : zS2 0 11 = S 0 11 := by rw [zE2]; exact k11_1
  have k15_2 : zS2 0 15 = S 0 15 := by rw [zE2]; exact k15_1
  have hs2 := zti_sub (x := l) (y := lo) (by omega) (by omega)
  have hs3 := zti_add (x := zS1 2 t.toNatClampNeg) (y := l - lo) (by rw [g1]; omega) (by rw [g1]; omega)
  rw [g1] at hs3
  have hV2 : zOK zS2 := by rw [zE2]; exact zOK_2 hV1 (by rw [k10_1]; exact zix ht0 ht1) (by rw [c1, g1]; omega)
  refine zg 2 (pc' := 54) (ls' := [(6, .int hb), (5, .int lo), (0, .ref 1), (1, .int l), (2, .int p), (3, .int f), (4, .int t)]) (st' := [.int lo, .int l]) (I' := zM2) rfl ?_
  refine zicmp rfl rfl (fun h1 => ?_) (fun h1 => ?_)
  · have h1 := zc_le.1.mp h1
    refine zg 7 (pc' := 94) (ls' := [(6, .int hb), (5, .int lo), (0, .ref 1), (1, .int l), (2, .int p), (3, .int f), (4, .int t)]) (st' := [.int p, .ref 10, .int 20, .int p, .ref 10]) (I' := zM2) rfl ?_
    refine zia rfl rfl (zin_ok (n := 12) (by omega) (by omega)) (zB2 9 _ (zcell_12 (by decide) (by omega) (by omega))) ?_
    refine zg 1 (pc' := 97) (ls' := [(6, .int hb), (5, .int lo), (0, .ref 1), (1, .int l), (2, .int p), (3, .int f), (4, .int t)]) (st' := [.int hb, .int (zS2 9 p.toNatClampNeg), .int 20, .int p, .ref 10]) (I' := zM2) rfl ?_
    refine zcf rfl rfl (zt_bc0 hb) ?_
    refine zg 2 (pc' := 104) (ls' := [(6, .int hb), (5, .int lo), (0, .ref 1), (1, .int l), (2, .int p), (3, .int f), (4, .int t)]) (st' := [.int ((if ((zS2 9 p.toNatClampNeg) + (zbc hb)) < 20 then ((zS2 9 p.toNatClampNeg) + (zbc hb)) else 20)), .int p, .ref 10]) (I' := zM2) rfl ?_
    refine zis rfl rfl (zin_ok (n := 12) (by omega) (by omega)) ?_
    have zB3 : zSB 1 (zsu zS2 9 (p.toNatClampNeg) ((if ((zS2 9 p.toNatClampNeg) + (zbc hb)) < 20 then ((zS2 9 p.toNatClampNeg) + (zbc hb)) else 20))) (zup zM2 10 p.toNatClampNeg ((if ((zS2 9 p.toNatClampNeg) + (zbc hb)) < 20 then ((zS2 9 p.toNatClampNeg) + (zbc hb)) else 20))) := zSB_up zB2 9 _ _
    have zF3 : zfb I0 (zup zM2 10 p.toNatClampNeg ((if ((zS2 9 p.toNatClampNeg) + (zbc hb)) < 20 then ((zS2 9 p.toNatClampNeg) + (zbc hb)) else 20))) := zfb_up zF2 10 _ _ (by decide)
    obtain ⟨zS3, zE3⟩ : ∃ T, T = zsu zS2 9 (p.toNatClampNeg) ((if ((zS2 9 p.toNatClampNeg) + (zbc hb)) < 20 then ((zS2 9 p.toNatClampNeg) + (zbc hb)) else 20)) := ⟨_, rfl⟩
    rw [← zE3] at zB3
    generalize (zup zM2 10 p.toNatClampNeg ((if ((zS2 9 p.toNatClampNeg) + (zbc hb)) < 20 then ((zS2 9 p.toNatClampNeg) + (zbc hb)) else 20))) = zM3 at zB3 zF3 ⊢
    have k10_3 : zS3 0 10 = S 0 10 := by rw [zE3]; exact k10_2
    have k11_3 : zS3 0 11 = S 0 11 := by rw [zE3]; exact k11_2
    have k15_3 : zS3 0 15 = S 0 15 := by rw [zE3]; exact k15_2
    have u4 := (zOK_pipe hV2 h0 (by rw [k11_2]; exact hp)).2.2.2.2.2
    have u5 := zbc_in hb
    have u6 := zti_add (x := zS2 9 p.toNatClampNeg) (y := zbc hb) (by omega) (by omega)
    have z20 := zi20
    have hV3 : zOK zS3 := by
      rw [zE3]
      refine zOK_9 hV2 (by rw [k11_2]; exact zix h0 hp) ?_
      rcases zmin_c 20 (zS2 9 p.toNatClampNeg + zbc hb) with ⟨g, g2⟩ | ⟨g, g2⟩ <;> rw [g] <;> omega
    refine zg 4 (pc' := 111) (ls' := [(6, .int hb), (5, .int lo), (0, .ref 1), (1, .int l), (2, .int p), (3, .int f), (4, .int t)]) (st' := [.int p, .ref 11, .int p, .ref 11]) (I' := zM3) rfl ?_
    refine zia rfl rfl (zin_ok (n := 12) (by omega) (by omega)) (zB3 10 _ (zcell_12 (by decide) (by omega) (by omega))) ?_
    refine zg 2 (pc' := 114) (ls' := [(6, .int hb), (5, .int lo), (0, .ref 1), (1, .int l), (2, .int p), (3, .int f), (4, .int t)]) (st' := [.int (((zS3 10 p.toNatClampNeg) + l)), .int p, .ref 11]) (I' := zM3) rfl ?_
    refine zis rfl rfl (zin_ok (n := 12) (by omega) (by omega)) ?_
    have zB4 : zSB 1 (zsu zS3 10 (p.toNatClampNeg) (((zS3 10 p.toNatClampNeg) + l))) (zup zM3 11 p.toNatClampNeg (((zS3 10 p.toNatClampNeg) + l))) := zSB_up zB3 10 _ _
    have zF4 : zfb I0 (zup zM3 11 p.toNatClampNeg (((zS3 10 p.toNatClampNeg) + l))) := zfb_up zF3 11 _ _ (by decide)
    obtain ⟨zS4, zE4⟩ : ∃ T, T = zsu zS3 10 (p.toNatClampNeg) (((zS3 10 p.toNatClampNeg) + l)) := ⟨_, rfl⟩
    rw [← zE4] at zB4
    generalize (zup zM3 11 p.toNatClampNeg (((zS3 10 p.toNatClampNeg) + l))) = zM4 at zB4 zF4 ⊢
    have k10_4 : zS4 0 10 = S 0 10 := by rw [zE4]; exact k10_3
    have k11_4 : zS4 0 11 = S 0 11 := by rw [zE4]; exact k11_3
    have k15_4 : zS4 0 15 = S 0 15 := by rw [zE4]; exact k15_3
    have hV4 : zOK zS4 := by rw [zE4]; exact zOK_10 hV3 (by rw [k11_3]; exact zix h0 hp) _
    refine zg 2 (pc' := 117) (ls' := [(6, .int hb), (5, .int lo), (0, .ref 1), (1, .int l), (2, .int p), (3, .int f), (4, .int t)]) (st' := [.ref 1, .ref 1]) (I' := zM4) rfl ?_
    refine zgf rfl rfl rfl (zB4 0 15 rfl) ?_
    refine zg 2 (pc' := 123) (ls' := [(6, .int hb), (5, .int lo), (0, .ref 1), (1, .int l), (2, .int p), (3, .int f), (4, .int t)]) (st' := [.int (((zS4 0 15) + lo)), .ref 1]) (I' := zM4) rfl ?_
    refine zpf rfl rfl rfl rfl rfl ?_
    have zB5 : zSB 1 (zsu zS4 0 15 (((zS4 0 15) + lo))) (zup zM4 1 15 (((zS4 0 15) + lo))) := zSB_up zB4 0 _ _
    have zF5 : zfb I0 (zup zM4 1 15 (((zS4 0 15) + lo))) := zfb_up zF4 1 _ _ (by decide)
    obtain ⟨zS5, zE5⟩ : ∃ T, T = zsu zS4 0 15 (((zS4 0 15) + lo)) := ⟨_, rfl⟩
    rw [← zE5] at zB5
    generalize (zup zM4 1 15 (((zS4 0 15) + lo))) = zM5 at zB5 zF5 ⊢
    have k10_5 : zS5 0 10 = S 0 10 := by rw [zE5]; exact k10_4
    have k11_5 : zS5 0 11 = S 0 11 := by rw [zE5]; exact k11_4
    have hV5 : zOK zS5 := by rw [zE5]; exact zOK_0 hV4 3 _
    refine zret rfl rfl ?_
    have ha := zti_add (x := d) (y := lo) (by omega) (by omega)
    refine ⟨rfl, rfl, zS5, zB5, hV5, zF5, k10_5.trans hm, k11_5.trans hn, d + lo, ?_, by omega, by omega⟩
    rw [zE5, zsu_eq, k15_4, hd, Int32.add_assoc]
  · have h1 := zc_le.2.mp h1
    refine zg 4 (pc' := 64) (ls' := [(6, .int hb), (5, .int lo), (0, .ref 1), (1, .int l), (2, .int p), (3, .int f), (4, .int t)]) (st' := [.int t, .ref 4, .int t, .ref 4]) (I' := zM2) rfl ?_
    refine zia rfl rfl (zin_ok (n := 8) (by omega) (by omega)) (zB2 3 _ (zcell_8 (by decide) (by omega) (by omega))) ?_
    refine zg 3 (pc' := 70) (ls' := [(6, .int hb), (5, .int lo), (0, .ref 1), (1, .int l), (2, .int p), (3, .int f), (4, .int t)]) (st' := [.int f, .ref 4, .int (zS2 3 t.toNatClampNeg), .int t, .ref 4]) (I' := zM2) rfl ?_
    refine zia rfl rfl (zin_ok (n := 8) (by omega) (by omega)) (zB2 3 _ (zcell_8 (by decide) (by omega) (by omega))) ?_
    refine zg 3 (pc' := 76) (ls' := [(6, .int hb), (5, .int lo), (0, .ref 1), (1, .int l), (2, .int p), (3, .int f), (4, .int t)]) (st' := [.int p, .ref 7, .int (zS2 3 f.toNatClampNeg), .int (zS2 3 t.toNatClampNeg), .int t, .ref 4]) (I' := zM2) rfl ?_
    refine zia rfl rfl (zin_ok (n := 12) (by omega) (by omega)) (zB2 6 _ (zcell_12 (by decide) (by omega) (by omega))) ?_
    refine zg 4 (pc' := 81) (ls' := [(6, .int hb), (5, .int lo), (0, .ref 1), (1, .int l), (2, .int p), (3, .int f), (4, .int t)]) (st' := [.int (((zS2 3 t.toNatClampNeg) ||| ((zS2 3 f.toNatClampNeg) &&& ((zS2 6 p.toNatClampNeg) ^^^ (-1))))), .int t, .ref 4]) (I' := zM2) rfl ?_
    refine zis rfl rfl (zin_ok (n := 8) (by omega) (by omega)) ?_
    have zB3 : zSB 1 (zsu zS2 3 (t.toNatClampNeg) (((zS2 3 t.toNatClampNeg) ||| ((zS2 3 f.toNatClampNeg) &&& ((zS2 6 p.toNatClampNeg) ^^^ (-1)))))) (zup zM2 4 t.toNatClampNeg (((zS2 3 t.toNatClampNeg) ||| ((zS2 3 f.toNatClampNeg) &&& ((zS2 6 p.toNatClampNeg) ^^^ (-1)))))) := zSB_up zB2 3 _ _
    have zF3 : zfb I0 (zup zM2 4 t.toNatClampNeg (((zS2 3 t.toNatClampNeg) ||| ((zS2 3 f.toNatClampNeg) &&& ((zS2 6 p.toNatClampNeg) ^^^ (-1)))))) := zfb_up zF2 4 _ _ (by decide)
    obtain ⟨zS3, zE3⟩ : ∃ T, T = zsu zS2 3 (t.toNatClampNeg) (((zS2 3 t.toNatClampNeg) ||| ((zS2 3 f.toNatClampNeg) &&& ((zS2 6 p.toNatClampNeg) ^^^ (-1))))) := ⟨_, rfl⟩
    rw [← zE3] at zB3
    generalize (zup zM2 4 t.toNatClampNeg (((zS2 3 t.toNatClampNeg) ||| ((zS2 3 f.toNatClampNeg) &&& ((zS2 6 p.toNatClampNeg) ^^^ (-1)))))) = zM3 at zB3 zF3 ⊢
    have k10_3 : zS3 0 10 = S 0 10 := by rw [zE3]; exact k10_2
    have k11_3 : zS3 0 11 = S 0 11 := by rw [zE3]; exact k11_2
    have k15_3 : zS3 0 15 = S 0 15 := by rw [zE3]; exact k15_2
    have u1 := zOK_tank hV2 ht0 (by rw [k10_2]; exact ht1)
    have u2 := zOK_tank hV2 hf0 (by rw [k10_2]; exact hf1)
    have u3 := zand_in (x := zS2 3 f.toNatClampNeg) (zS2 6 p.toNatClampNeg ^^^ (-1)) u2.2.2.1
    have hV3 : zOK zS3 := by rw [zE3]; exact zOK_3 hV2 (by rw [k10_2]; exact zix ht0 ht1) (zor_255 u1.2.2 ⟨u3.1, by omega⟩)
    refine zg 7 (pc' := 94) (ls' := [(6, .int hb), (5, .int lo), (0, .ref 1), (1, .int l), (2, .int p), (3, .int f), (4, .int t)]) (st' := [.int p, .ref 10, .int 20, .int p, .ref 10]) (I' := zM3) rfl ?_
    refine zia rfl rfl (zin_ok (n := 12) (by omega) (by omega)) (zB3 9 _ (zcell_12 (by decide) (by omega) (by omega))) ?_
    refine zg 1 (pc' := 97) (ls' := [(6, .int hb), (5, .int lo), (0, .ref 1), (1, .int l), (2, .int p), (3, .int f), (4, .int t)]) (st' := [.int hb, .int (zS3 9 p.toNatClampNeg), .int 20, .int p, .ref 10]) (I' := zM3) rfl ?_
    refine zcf rfl rfl (zt_bc0 hb) ?_
    refine zg 2 (pc' := 104) (ls' := [(6, .int hb), (5, .int lo), (0, .ref 1), (1, .int l), (2, .int p), (3, .int f), (4, .int t)]) (st' := [.int ((if ((zS3 9 p.toNatClampNeg) + (zbc hb)) < 20 then ((zS3 9 p.toNatClampNeg) + (zbc hb)) else 20)), .int p, .ref 10]) (I' := zM3) rfl ?_
    refine zis rfl rfl (zin_ok (n := 12) (by omega) (by omega)) ?_
    have zB4 : zSB 1 (zsu zS3 9 (p.toNatClampNeg) ((if ((zS3 9 p.toNatClampNeg) + (zbc hb)) < 20 then ((zS3 9 p.toNatClampNeg) + (zbc hb)) else 20))) (zup zM3 10 p.toNatClampNeg ((if ((zS3 9 p.toNatClampNeg) + (zbc hb)) < 20 then ((zS3 9 p.toNatClampNeg) + (zbc hb)) else 20))) := zSB_up zB3 9 _ _
    have zF4 : zfb I0 (zup zM3 10 p.toNatClampNeg ((if ((zS3 9 p.toNatClampNeg) + (zbc hb)) < 20 then ((zS3 9 p.toNatClampNeg) + (zbc hb)) else 20))) := zfb_up zF3 10 _ _ (by decide)
    obtain ⟨zS4, zE4⟩ : ∃ T, T = zsu zS3 9 (p.toNatClampNeg) ((if ((zS3 9 p.toNatClampNeg) + (zbc hb)) < 20 then ((zS3 9 p.toNatClampNeg) + (zbc hb)) else 20)) := ⟨_, rfl⟩
    rw [← zE4] at zB4
    generalize (zup zM3 10 p.toNatClampNeg ((if ((zS3 9 p.toNatClampNeg) + (zbc hb)) < 20 then ((zS3 9 p.toNatClampNeg) + (zbc hb)) else 20))) = zM4 at zB4 zF4 ⊢
    have k10_4 : zS4 0 10 = S 0 10 := by rw [zE4]; exact k10_3
    have k11_4 : zS4 0 11 = S 0 11 := by rw [zE4]; exact k11_3
    have k15_4 : zS4 0 15 = S 0 15 := by rw [zE4]; exact k15_3
    have u4 := (zOK_pipe hV3 h0 (by rw [k11_3]; exact hp)).2.2.2.2.2
    have u5 := zbc_in hb
    have u6 := zti_add (x := zS3 9 p.toNatClampNeg) (y := zbc hb) (by omega) (by omega)
    have z20 := zi20
    have hV4 : zOK zS4 := by
      rw [zE4]
      refine zOK_9 hV3 (by rw [k11_3]; exact zix h0 hp) ?_
      rcases zmin_c 20 (zS3 9 p.toNatClampNeg + zbc hb) with ⟨g, g2⟩ | ⟨g, g2⟩ <;> rw [g] <;> omega
    refine zg 4 (pc' := 111) (ls' := [(6, .int hb), (5, .int lo), (0, .ref 1), (1, .int l), (2, .int p), (3, .int f), (4, .int t)]) (st' := [.int p, .ref 11, .int p, .ref 11]) (I' := zM4) rfl ?_
    refine zia rfl rfl (zin_ok (n := 12) (by omega) (by omega)) (zB4 10 _ (zcell_12 (by decide) (by omega) (by omega))) ?_
    refine zg 2 (pc' := 114) (ls' := [(6, .int hb), (5, .int lo), (0, .ref 1), (1, .int l), (2, .int p), (3, .int f), (4, .int t)]) (st' := [.int (((zS4 10 p.toNatClampNeg) + l)), .int p, .ref 11]) (I' := zM4) rfl ?_
    refine zis rfl rfl (zin_ok (n := 12) (by omega) (by omega)) ?_
    have zB5 : zSB 1 (zsu zS4 10 (p.toNatClampNeg) (((zS4 10 p.toNatClampNeg) + l))) (zup zM4 11 p.toNatClampNeg (((zS4 10 p.toNatClampNeg) + l))) := zSB_up zB4 10 _ _
    have zF5 : zfb I0 (zup zM4 11 p.toNatClampNeg (((zS4 10 p.toNatClampNeg) + l))) := zfb_up zF4 11 _ _ (by decide)
    obtain ⟨zS5, zE5⟩ : ∃ T, T = zsu zS4 10 (p.toNatClampNeg) (((zS4 10 p.toNatClampNeg) + l)) := ⟨_, rfl⟩
    rw [← zE5] at zB5
    generalize (zup zM4 11 p.toNatClampNeg (((zS4 10 p.toNatClampNeg) + l))) = zM5 at zB5 zF5 ⊢
    have k10_5 : zS5 0 10 = S 0 10 := by rw [zE5]; exact k10_4
    have k11_5 : zS5 0 11 = S 0 11 := by rw [zE5]; exact k11_4
    have k15_5 : zS5 0 15 = S 0 15 := by rw [zE5]; exact k15_4
    have hV5 : zOK zS5 := by rw [zE5]; exact zOK_10 hV4 (by rw [k11_4]; exact zix h0 hp) _
    refine zg 2 (pc' := 117) (ls' := [(6, .int hb), (5, .int lo), (0, .ref 1), (1, .int l), (2, .int p), (3, .int f), (4, .int t)]) (st' := [.ref 1, .ref 1]) (I' := zM5) rfl ?_
    refine zgf rfl rfl rfl (zB5 0 15 rfl) ?_
    refine zg 2 (pc' := 123) (ls' := [(6, .int hb), (5, .int lo), (0, .ref 1), (1, .int l), (2, .int p), (3, .int f), (4, .int t)]) (st' := [.int (((zS5 0 15) + lo)), .ref 1]) (I' := zM5) rfl ?_
    refine zpf rfl rfl rfl rfl rfl ?_
    have zB6 : zSB 1 (zsu zS5 0 15 (((zS5 0 15) + lo))) (zup zM5 1 15 (((zS5 0 15) + lo))) := zSB_up zB5 0 _ _
    have zF6 : zfb I0 (zup zM5 1 15 (((zS5 0 15) + lo))) := zfb_up zF5 1 _ _ (by decide)
    obtain ⟨zS6, zE6⟩ : ∃ T, T = zsu zS5 0 15 (((zS5 0 15) + lo)) := ⟨_, rfl⟩
    rw [← zE6] at zB6
    generalize (zup zM5 1 15 (((zS5 0 15) + lo))) = zM6 at zB6 zF6 ⊢
    have k10_6 : zS6 0 10 = S 0 10 := by rw [zE6]; exact k10_5
    have k11_6 : zS6 0 11 = S 0 11 := by rw [zE6]; exact k11_5
    have hV6 : zOK zS6 := by rw [zE6]; exact zOK_0 hV5 3 _
    refine zret rfl rfl ?_
    have ha := zti_add (x := d) (y := lo) (by omega) (by omega)
    refine ⟨rfl, rfl, zS6, zB6, hV6, zF6, k10_6.trans hm, k11_6.trans hn, d + lo, ?_, by omega, by omega⟩
    rw [zE6, zsu_eq, k15_5, hd, Int32.add_assoc]
theorem zt_minl {sl D dy : Nat} {m n s0 : Int32} {I0 : zM} : ∀ (k : Nat) (p : Int32) (I : zM) (S : Nat → Nat → Int32) (b : Int) (hE : zEv m n s0 I0 b S I) (h0 : 0 ≤ p.toInt) (hk : p.toInt + (k : Int) = n.toInt) (hb9 : b + 9 * (k : Int) ≤ 100000), zW sl (D + 2) dy 56 12 [(0, .ref 1), (1, .int p)] [] I (zRg 0 (zQj (fun J => ∃ S2, zEv m n s0 I0 (b + 9 * (k : Int)) S2 J))) := by
  intro k
  induction k with
  | zero =>
    intro p I S b hE h0 hk hb9
    obtain ⟨hB, hV, hF, hm, hn, d, hd, hd0, hd1⟩ := id hE
    have hT := hV.1
    have hP := hV.2.1
    have z0 := zi0
    have hnn : n.toInt = (S 0 11).toInt := by rw [hn]
    refine zg 2 (pc' := 14) (ls' := [(0, .ref 1), (1, .int p)]) (st' := [.ref 1, .int p]) (I' := I) rfl ?_
    refine zgf rfl rfl rfl (hB 0 11 rfl) ?_
    refine zicmp rfl rfl (fun h1 => ?_) (fun h1 => ?_)
    · have h1 := zc_ge.1.mp h1
      exact zret rfl rfl ⟨rfl, rfl, S, zEv_le hE (by omega)⟩
    · have h1 := zc_ge.2.mp h1
      exfalso; omega
  | succ k ih =>
    intro p I S b hE h0 hk hb9
    obtain ⟨hB, hV, hF, hm, hn, d, hd, hd0, hd1⟩ := id hE
    have hT := hV.1
    have hP := hV.2.1
    have z0 := zi0
    have hnn : n.toInt = (S 0 11).toInt := by rw [hn]
    refine zg 2 (pc' := 14) (ls' := [(0, .ref 1), (1, .int p)]) (st' := [.ref 1, .int p]) (I' := I) rfl ?_
    refine zgf rfl rfl rfl (hB 0 11 rfl) ?_
    refine zicmp rfl rfl (fun h1 => ?_) (fun h1 => ?_)
    · have h1 := zc_ge.1.mp h1
      exfalso; omega
    · have h1 := zc_ge.2.mp h1
      have hpl : p.toInt < (S 0 11).toInt := by omega
      refine zg 2 (pc' := 22) (ls' := [(0, .ref 1), (1, .int p)]) (st' := [.int p, .ref 1]) (I' := I) rfl ?_
      refine zcf rfl rfl (zt_litres hB hV p h0 hpl) ?_
      refine zg 2 (pc' := 27) (ls' := [(2, .int (zlit S p.toNatClampNeg)), (0, .ref 1), (1, .int p)]) (st' := [.int (zlit S p.toNatClampNeg)]) (I' := I) rfl ?_
      refine zif rfl rfl (fun h2 => ?_) (fun h2 => ?_)
      · have h2 := zc_le.1.mp h2
        refine zg 1 (pc' := 52) (ls' := [(2, .int (zlit S p.toNatClampNeg)), (0, .ref 1), (1, .int p)]) (st' := [.int (zlit S p.toNatClampNeg)]) (I' := I) rfl ?_
        refine zif rfl rfl (fun h3 => ?_) (fun h3 => ?_)
        · have h3 := zc_ge.1.mp h3
          refine zg 2 (pc' := 12) (ls' := [(1, .int (p + 1)), (2, .int (zlit S p.toNatClampNeg)), (0, .ref 1)]) (st' := []) (I' := I) rfl ?_
          refine zfew (l1 := [(0, .ref 1), (1, .int (p + 1))]) [(2, .int (zlit S p.toNatClampNeg))] (List.Perm.trans (List.Perm.swap _ _ _) (List.Perm.cons _ (List.Perm.swap _ _ _))) rfl ?_
          have ha := zadd1 h0 (by omega)
          exact zwp (ih (p + 1) I S (b + 9) (zEv_le hE (by omega)) (by omega) (by omega) (by omega)) (fun c v J ⟨q1, q2, S3, q3⟩ => ⟨q1, q2, S3, zEv_le q3 (by omega)⟩)
        · have h3 := zc_ge.2.mp h3
          refine zg 7 (pc' := 64) (ls' := [(2, .int (zlit S p.toNatClampNeg)), (0, .ref 1), (1, .int p)]) (st' := [.int p, .ref 6, .int p, .int ((-(zlit S p.toNatClampNeg))), .ref 1]) (I' := I) rfl ?_
          refine zia rfl rfl (zin_ok (n := 12) (by omega) (by omega)) (hB 5 _ (zcell_12 (by decide) (by omega) (by omega))) ?_
          refine zg 3 (pc' := 70) (ls' := [(2, .int (zlit S p.toNatClampNeg)), (0, .ref 1), (1, .int p)]) (st' := [.int p, .ref 5, .int (S 5 p.toNatClampNeg), .int p, .int ((-(zlit S p.toNatClampNeg))), .ref 1]) (I' := I) rfl ?_
          refine zia rfl rfl (zin_ok (n := 12) (by omega) (by omega)) (hB 4 _ (zcell_12 (by decide) (by omega) (by omega))) ?_
          refine zcj (b2 := 0) rfl rfl (zt_let hE (by omega) _ p _ _ h0 hpl (zlit_neg hV h0 hpl (by omega))) (fun J hJ => ?_)
          obtain ⟨S2, hE2⟩ := hJ
          refine zg 2 (pc' := 12) (ls' := [(1, .int (p + 1)), (2, .int (zlit S p.toNatClampNeg)), (0, .ref 1)]) (st' := []) (I' := J) rfl ?_
          refine zfew (l1 := [(0, .ref 1), (1, .int (p + 1))]) [(2, .int (zlit S p.toNatClampNeg))] (List.Perm.trans (List.Perm.swap _ _ _) (List.Perm.cons _ (List.Perm.swap _ _ _))) rfl ?_
          have ha := zadd1 h0 (by omega)
          exact zwp (ih (p + 1) J S2 (b + 9) (hE2) (by omega) (by omega) (by omega)) (fun c v J ⟨q1, q2, S3, q3⟩ => ⟨q1, q2, S3, zEv_le q3 (by omega)⟩)
      · have h2 := zc_le.2.mp h2
        refine zg 6 (pc' := 38) (ls' := [(2, .int (zlit S p.toNatClampNeg)), (0, .ref 1), (1, .int p)]) (st' := [.int p, .ref 5, .int p, .int (zlit S p.toNatClampNeg), .ref 1]) (I' := I) rfl ?_
        refine zia rfl rfl (zin_ok (n := 12) (by omega) (by omega)) (hB 4 _ (zcell_12 (by decide) (by omega) (by omega))) ?_
        refine zg 3 (pc' := 44) (ls' := [(2, .int (zlit S p.toNatClampNeg)), (0, .ref 1), (1, .int p)]) (st' := [.int p, .ref 6, .int (S 4 p.toNatClampNeg), .int p, .int (zlit S p.toNatClampNeg), .ref 1]) (I' := I) rfl ?_
        refine zia rfl rfl (zin_ok (n := 12) (by omega) (by omega)) (hB 5 _ (zcell_12 (by decide) (by omega) (by omega))) ?_
        refine zcj (b2 := 0) rfl rfl (zt_let hE (by omega) _ p _ _ h0 hpl (zlit_pos hV h0 hpl (by omega))) (fun J hJ => ?_)
        obtain ⟨S2, hE2⟩ := hJ
        refine zg 3 (pc' := 12) (ls' := [(1, .int (p + 1)), (2, .int (zlit S p.toNatClampNeg)), (0, .ref 1)]) (st' := []) (I' := J) rfl ?_
        refine zfew (l1 := [(0, .ref 1), (1, .int (p + 1))]) [(2, .int (zlit S p.toNatClampNeg))] (List.Perm.trans (List.Perm.swap _ _ _) (List.Perm.cons _ (List.Perm.swap _ _ _))) rfl ?_
        have ha := zadd1 h0 (by omega)
        exact zwp (ih (p + 1) J S2 (b + 9) (hE2) (by omega) (by omega) (by omega)) (fun c v J ⟨q1, q2, S3, q3⟩ => ⟨q1, q2, S3, zEv_le q3 (by omega)⟩)
theorem zt_minute {sl D dy : Nat} {I : zM} {m n s0 : Int32} {I0 : zM} {b : Int} {S : Nat → Nat → Int32} (hE : zEv m n s0 I0 b S I) (hb9 : b + 108 ≤ 100000) : zW sl (D + 2) dy 56 0 [(0, .ref 1)] [] I (zRg 0 (zQj (fun J => ∃ S2, zEv m n s0 I0 (b + 108) S2 J))) := by
  obtain ⟨hB, hV, hF, hm, hn, d, hd, hd0, hd1⟩ := id hE
  have hT := hV.1
  have hP := hV.2.1
  have z0 := zi0
  refine zg 2 (pc' := 2) (ls' := [(0, .ref 1)]) (st' := [.ref 1, .ref 1]) (I' := I) rfl ?_
  refine zgf rfl rfl rfl (hB 0 12 rfl) ?_
  refine zg 2 (pc' := 7) (ls' := [(0, .ref 1)]) (st' := [.int (((S 0 12) + 1)), .ref 1]) (I' := I) rfl ?_
  refine zpf rfl rfl rfl rfl rfl ?_
  have zB1 : zSB 1 (zsu S 0 12 (((S 0 12) + 1))) (zup I 1 12 (((S 0 12) + 1))) := zSB_up hB 0 _ _
  have zF1 : zfb I0 (zup I 1 12 (((S 0 12) + 1))) := zfb_up hF 1 _ _ (by decide)
  obtain ⟨zS1, zE1⟩ : ∃ T, T = zsu S 0 12 (((S 0 12) + 1)) := ⟨_, rfl⟩
  rw [← zE1] at zB1
  generalize (zup I 1 12 (((S 0 12) + 1))) = zM1 at zB1 zF1 ⊢
  refine zg 2 (pc' := 12) (ls' := [(1, .int 0), (0, .ref 1)]) (st' := []) (I' := zM1) rfl ?_
  refine zLp (List.Perm.swap _ _ _) rfl ?_
  have hE1 : zEv m n s0 I0 b zS1 zM1 := ⟨zB1, by rw [zE1]; exact zOK_0 hV 0 _, zF1, by rw [zE1]; exact hm, by rw [zE1]; exact hn, d, by rw [zE1]; exact hd, hd0, hd1⟩
  exact zwp (zt_minl (D := D) n.toInt.toNat 0 zM1 zS1 b hE1 (by decide) (by rw [z0]; rw [← hn]; omega) (by rw [← hn]; omega)) (fun c v J ⟨q1, q2, S3, q3⟩ => ⟨q1, q2, S3, zEv_le q3 (by rw [← hn]; omega)⟩)
theorem zt_minsl {sl D dy : Nat} {m n s0 : Int32} {I0 : zM} (a : Int32) (ha6 : a.toInt ≤ 60) : ∀ (k : Nat) (i : Int32) (I : zM) (S : Nat → Nat → Int32) (b : Int) (hE : zEv m n s0 I0 b S I) (h0 : 0 ≤ i.toInt) (hk : i.toInt + (k : Int) = a.toInt) (hb9 : b + 108 * (k : Int) ≤ 100000), zW sl (D + 3) dy 55 7 [(0, .ref 1), (1, .int a), (2, .int s0), (3, .int i)] [] I (zRg 0 (fun c v J => c = 0 ∧ ∃ S2, zEv m n s0 I0 (b + 108 * (k : Int)) S2 J ∧ ∃ e : Int32, v = some (.int e) ∧ 0 ≤ e.toInt ∧ e.toInt ≤ b + 108 * (k : Int))) := by
  intro k
  induction k with
  | zero =>
    intro i I S b hE h0 hk hb9
    obtain ⟨hB, hV, hF, hm, hn, d, hd, hd0, hd1⟩ := id hE
    have hT := hV.1
    have hP := hV.2.1
    have z0 := zi0
    refine zg 2 (pc' := 9) (ls' := [(0, .ref 1), (1, .int a), (2, .int s0), (3, .int i)]) (st' := [.int a, .int i]) (I' := I) rfl ?_
    refine zicmp rfl rfl (fun h1 => ?_) (fun h1 => ?_)
    · have h1 := zc_ge.1.mp h1
      refine zg 1 (pc' := 23) (ls' := [(0, .ref 1), (1, .int a), (2, .int s0), (3, .int i)]) (st' := [.ref 1]) (I' := I) rfl ?_
      refine zgf rfl rfl rfl (hB 0 15 rfl) ?_
      refine zg 2 (pc' := 28) (ls' := [(0, .ref 1), (1, .int a), (2, .int s0), (3, .int i)]) (st' := [.int (((S 0 15) - s0))]) (I' := I) rfl ?_
      refine ziret rfl rfl rfl ?_
      refine ⟨rfl, S, zEv_le hE (by omega), d, ?_, hd0, by omega⟩
      rw [hd, Int32.add_comm, Int32.add_sub_cancel]
    · have h1 := zc_ge.2.mp h1
      exfalso; omega
  | succ k ih =>
    intro i I S b hE h0 hk hb9
    obtain ⟨hB, hV, hF, hm, hn, d, hd, hd0, hd1⟩ := id hE
    have hT := hV.1
    have hP := hV.2.1
    have z0 := zi0
    refine zg 2 (pc' := 9) (ls' := [(0, .ref 1), (1, .int a), (2, .int s0), (3, .int i)]) (st' := [.int a, .int i]) (I' := I) rfl ?_
    refine zicmp rfl rfl (fun h1 => ?_) (fun h1 => ?_)
    · have h1 := zc_ge.1.mp h1
      exfalso; omega
    · have h1 := zc_ge.2.mp h1
      refine zg 1 (pc' := 13) (ls' := [(0, .ref 1), (1, .int a), (2, .int s0), (3, .int i)]) (st' := [.ref 1]) (I' := I) rfl ?_
      refine zcj (b2 := 0) rfl rfl (zt_minute hE (by omega)) (fun J hJ => ?_)
      obtain ⟨S2, hE2⟩ := hJ
      refine zg 2 (pc' := 7) (ls' := [(3, .int (i + 1)), (0, .ref 1), (1, .int a), (2, .int s0)]) (st' := []) (I' := J) rfl ?_
      refine zLp (List.Perm.trans (List.Perm.trans (List.Perm.cons _ (List.Perm.cons _ (List.Perm.swap _ _ _))) (List.Perm.cons _ (List.Perm.swap _ _ _))) (List.Perm.swap _ _ _)) rfl ?_
      have ha := zadd1 h0 (by omega)
      exact zwp (ih (i + 1) J S2 (b + 108) hE2 (by omega) (by omega) (by omega)) (fun c v J ⟨q1, S3, q3, e, q4, q5, q6⟩ => ⟨q1, S3, zEv_le q3 (by omega), e, q4, q5, by omega⟩)
theorem zt_minutes {sl D dy : Nat} {I : zM} {S : Nat → Nat → Int32} (hB : zSB 1 S I) (hV : zOK S) (a : Int32) (ha : 1 ≤ a.toInt ∧ a.toInt ≤ 60) : zW sl (D + 3) dy 55 0 [(0, .ref 1), (1, .int a)] [] I (zRg 0 (fun c v J => c = 0 ∧ ∃ S2, zEv (S 0 10) (S 0 11) (S 0 15) I 100000 S2 J ∧ ∃ e : Int32, v = some (.int e) ∧ 0 ≤ e.toInt ∧ e.toInt ≤ 6480)) := by
  have z0 := zi0
  refine zg 1 (pc' := 1) (ls' := [(0, .ref 1), (1, .int a)]) (st' := [.ref 1]) (I' := I) rfl ?_
  refine zgf rfl rfl rfl (hB 0 15 rfl) ?_
  refine zg 3 (pc' := 7) (ls' := [(3, .int 0), (2, .int (S 0 15)), (0, .ref 1), (1, .int a)]) (st' := []) (I' := I) rfl ?_
  refine zLp (List.Perm.trans (List.Perm.trans (List.Perm.trans (List.Perm.trans (List.Perm.cons _ (List.Perm.cons _ (List.Perm.swap _ _ _))) (List.Perm.cons _ (List.Perm.swap _ _ _))) (List.Perm.swap _ _ _)) (List.Perm.cons _ (List.Perm.cons _ (List.Perm.swap _ _ _)))) (List.Perm.cons _ (List.Perm.swap _ _ _))) rfl ?_
  have hE : zEv (S 0 10) (S 0 11) (S 0 15) I 0 S I := ⟨hB, hV, zfb_refl I, rfl, rfl, 0, (Int32.add_zero _).symm, by decide, by decide⟩
  exact zwp (zt_minsl (D := D) a ha.2 a.toInt.toNat 0 I S 0 hE (by decide) (by rw [z0]; omega) (by omega)) (fun c v J ⟨q1, S3, q3, e, q4, q5, q6⟩ => ⟨q1, S3, zEv_le q3 (by omega), e, q4, q5, by omega⟩)
