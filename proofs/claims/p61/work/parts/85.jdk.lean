/-! WHAT THE JDK'S TEXT METHODS OWE -/
section ZJK
variable {l : Launch} {X : zX}
theorem zpA_B {n b va c : Nat} {K : zKT} {P : zPT} {I : zIT} {L : zLT} {v : Option Value} {t : List Int32} {r : zR} {n' : Nat} {K' : zKT} {P' : zPT} {I' : zIT} {L' : zLT} (h : zPA n K P I L b va c v t r n' K' P' I' L') : zPB n K P I L b va v t r n' K' P' I' L' := by
  obtain ⟨h1, va', h2, h3⟩ := h
  exact ⟨h1, va', ⟨c, h2⟩, h3⟩
theorem zjk_206 : zJ206 l X := by
  intro d n K P I L b va t x hb hl h0 h1
  obtain ⟨cap, hb⟩ := zBd_c hb
  have e := zof_ref x h0
  have hx := x.toNatClampNeg_lt
  obtain ⟨y, hy⟩ : ∃ y : Nat, x.toNatClampNeg = y := ⟨_, rfl⟩
  rw [hy] at e hx
  subst e
  have hy1 : y < 1000 := (zql (b := 1000) (by omega) (by omega)).mp h1
  have hd := zdn_3 y
  rw [(zdf y hy1).1]
  exact zV_post (fun r n K P I L h => zpA_B h) (zV_bud (bc := 1) (bs := 200) (by decide) (by decide) (zj_206 (d := d + 6) (B := 200) (Or.inr (zgrw_200 hb.2.2.2.2.2.2.1 (by omega))) hb hy1 hl))
theorem zjk_205 : zJ205 l X := fun d n K P I L b va t x hb hl h0 h1 => zV_bud (bc := 1) (bs := 200) (by decide) (by decide) (zj_205 (d := d + 6) hb hl h0 h1)
theorem zjk_209 : zJ209 l X := fun d n K P I L b va t hb hl => zj_209 (d := d + 9) hb hl
theorem zjk_210 : zJ210 l X := fun d n K P I L b va t hb => zj_210 (d := d + 10) hb
theorem zjk_208 : zJ208 l X := fun d n K P I L b va t i x hb hl h0 hx => zj_208 (d := d + 8) hb h0 hx
theorem zjk_196 : zJ196 l X := fun d n K P I L a t hs => zj_196 (d := d + 10) hs
theorem zjk_197 : zJ197 l X := fun d n K P I L a t i x hs hl h0 hx => zj_197 (d := d + 8) hs hl h0 hx
theorem zjdk_ok : zJDK l X := ⟨zjk_206, zjk_205, zjk_209, zjk_210, zjk_208, zjk_196, zjk_197, zjt_297, zjt_326⟩
end ZJK
