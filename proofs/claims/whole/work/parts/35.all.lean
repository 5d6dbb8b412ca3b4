/-! ALL GO: the reference's -/
def sF (o : Int) (σ τ : zM) : Prop := mf (fun r => 295 ≤ r ∧ r ≤ 300) σ τ ∧ (∀ j : Nat, (j : Int) ≠ o → zN τ 298 j = zN σ 298 j ∧ zN τ 299 j = zN σ 299 j ∧ zN τ 300 j = zN σ 300 j) ∧ ∀ j : Nat, ((j : Int) < 32 * o ∨ 32 * o + 32 ≤ j) → zN τ 295 j = zN σ 295 j ∧ zN τ 296 j = zN σ 296 j ∧ zN τ 297 j = zN σ 297 j
theorem sF.rf {o : Int} {σ : zM} : sF o σ σ := ⟨mf.rf, fun _ _ => ⟨rfl, rfl, rfl⟩, fun _ _ => ⟨rfl, rfl, rfl⟩⟩
theorem sF.tr {o : Int} {σ τ υ : zM} (h : sF o σ τ) (g : sF o τ υ) : sF o σ υ := ⟨h.1.tr g.1, fun j hj => ⟨(g.2.1 j hj).1.trans (h.2.1 j hj).1, (g.2.1 j hj).2.1.trans (h.2.1 j hj).2.1, (g.2.1 j hj).2.2.trans (h.2.1 j hj).2.2⟩, fun j hj => ⟨(g.2.2 j hj).1.trans (h.2.2 j hj).1, (g.2.2 j hj).2.1.trans (h.2.2 j hj).2.1, (g.2.2 j hj).2.2.trans (h.2.2 j hj).2.2⟩⟩
theorem oF.s {o : Int} {σ τ : zM} (h : oF o σ τ) : sF o σ τ := ⟨h.1.mono (by omega), fun j hj => ⟨h.2.1 j hj, h.1.1 299 (by decide) j, h.1.1 300 (by decide) j⟩, fun j hj => ⟨h.2.2 j hj, h.1.1 296 (by decide) j, h.1.1 297 (by decide) j⟩⟩
theorem gF.s {o : Int} {σ τ : zM} (h : gF o σ τ) : sF o σ τ := ⟨h.1.mono (by omega), fun j hj => ⟨h.1.1 298 (by decide) j, h.2.1 j hj, h.1.1 300 (by decide) j⟩, fun j hj => ⟨h.1.1 295 (by decide) j, h.2.2 j hj⟩⟩
theorem sF.w8 {o : Int} {σ : zM} (v : Int) (o0 : 0 ≤ o) : sF o σ (zw σ 298 o.toNat v) := ⟨mf.rf.zw 298 _ _ (by decide), fun j hj => ⟨mm_nj (by omega), mm_ne (by decide), mm_ne (by decide)⟩, fun j hj => ⟨mm_ne (by decide), mm_ne (by decide), mm_ne (by decide)⟩⟩
theorem sF.w9 {o : Int} {σ : zM} (v : Int) (o0 : 0 ≤ o) : sF o σ (zw σ 299 o.toNat v) := ⟨mf.rf.zw 299 _ _ (by decide), fun j hj => ⟨mm_ne (by decide), mm_nj (by omega), mm_ne (by decide)⟩, fun j hj => ⟨mm_ne (by decide), mm_ne (by decide), mm_ne (by decide)⟩⟩
theorem sF.w0 {o : Int} {σ : zM} (v : Int) (o0 : 0 ≤ o) : sF o σ (zw σ 300 o.toNat v) := ⟨mf.rf.zw 300 _ _ (by decide), fun j hj => ⟨mm_ne (by decide), mm_ne (by decide), mm_nj (by omega)⟩, fun j hj => ⟨mm_ne (by decide), mm_ne (by decide), mm_ne (by decide)⟩⟩
theorem sF.w5 {o : Int} {σ : zM} (v : Int) (o0 : 0 ≤ o) : sF o σ (zw σ 295 (32 * o).toNat v) := ⟨mf.rf.zw 295 _ _ (by decide), fun j hj => ⟨mm_ne (by decide), mm_ne (by decide), mm_ne (by decide)⟩, fun j hj => ⟨mm_nj (by omega), mm_ne (by decide), mm_ne (by decide)⟩⟩
theorem sF.q {o : Int} {σ τ : zM} (h : sF o σ τ) {W : Int → Int} (hq : qR σ W) : qR τ W := hq.fr (h.1.1 288 (by decide)) (h.1.1 294 (by decide))
theorem sF.D {o : Int} {σ τ : zM} (h : sF o σ τ) : dR τ = dR σ := dR_fr (h.1.1 287 (by decide)) (h.1.1 301 (by decide)) (h.1.1 302 (by decide))
/-- what the reference's rows say of the order o behind its going -/
def seat (σ : zM) (W : Int → Int) (D : Int → Int → Bool) (o : Int) : Prop := zN σ 300 o.toNat = oo W o 5 ∧ zN σ 299 o.toNat = CM W D o ∧ wR σ o (WAY W o) ∧ ((WAY W o).1 ≠ 0 → tR σ o W (FL W D) (WAY W o) (oo W o 6) (pac W o) (res W o) (WAY W o).1.toNat)
theorem sp_207 {o : Int} {σ : zM} (o0 : 0 ≤ o) (o1 : o < 11) : zcall 207 [.ref 287, .int (Int32.ofInt o)] σ = some (none, zw (zw σ 298 o.toNat 0) 299 o.toNat (-1)) := by
  refine zcc_207 (ze_207_0 _ _ _ ?_)
  simp (disch := first | assumption | exact isR33 | exact isT104 | exact isF99 | exact isF101 | exact isR3 | omega | (refine isTk ?_; omega) | (refine isOk isR33 ?_; omega) | (refine isOk ?_ ?_; assumption; omega)) only [mm_r, mm_rl, mm_add, mm_sub, mm_mul, mm_addJ, mm_mulJ, mm_lt, mm_le, mm_eq, mm_z, mm_cl, mm_w, mm_wl, mm_ite, mm_i2l, mm_l2i, mm_ltJ, mm_leJ, mm_eqJ, mm_clt, mm_cle, mm_cgt, mm_cge, mm_ceq, mm_b, mm_nb, mm_nb0, mm_nb1, mm_vb0, mm_vb1, mm_vbc, mm_vy0, mm_vy1, mm_at, mm_ne, mm_nj, mm_Lw, mm_Nw, mm_atJ, mm_neJ, mm_njJ, zbI_s, zbV_s, zbJ_s, cond_t, Bool.true_and, Bool.and_true, if_true, if_false, not_true, not_false_iff, zel_r, zel_42, zel_12, zel_71, zel_80, zel_89, zel_110, zel_188, zel_103, zel_195, zr_o, zr_1, zr_2, zr_3, zr_4, zr_5, zr_6, zr_7, zr_8, zr_9, zq_o, zq_v, zt_o, zt_1, zt_2, zt_3, zt_4, zt_5, zf_o, zf_1, za_w1, za_w2, za_w3, za_cm, za_sl, Int.toNat_natCast, mm_t0, mm_t1, mm_t2, mm_t3, mm_t4, mm_t5, mm_t6, mm_t7, mm_t8, mm_t9, mm_t10, mm_t11, mm_t12, mm_t13, za_1, za_64, za_65, za_66, za_67, za_68, za_71, za_80, za_89, za_98, za_103, za_110, za_121, za_122, za_123, za_124, za_125, za_126, za_188, za_193, za_194, za_195, za_286, za_288, za_289, za_290, za_291, za_292, za_293, za_294, za_295, za_296, za_297, za_298, za_299, za_300, za_301, za_302, za_303, za_304, za_305, za_306, za_307, za_308, za_309, za_310, za_311, za_312, zlet_s]
theorem rO_of {σ : zM} {W : Int → Int} (h : wv σ 288 = W) (k o : Int) : rO σ k o = oo W o k := by
  rw [← h]
  rfl
theorem lp_209_no {o : Int} {W : Int → Int} {D : Int → Int → Bool} {σ0 σ : zM} (o0 : 0 ≤ o) (o1 : o < 10) (hz : (WAY W o).1 = 0) (hf : sF o σ0 σ) (hg : zN σ 300 o.toNat = oo W o 5) : zwp (zbV (zcall 207 [.ref 287, .int (Int32.ofInt o)] σ) (fun τ3 => some (none, τ3))) (fun v τ => v = none ∧ sF o σ0 τ ∧ seat τ W D o) := by
  rw [sp_207 o0 (by omega), zbV_s]
  refine zwp_ret ⟨rfl, (hf.tr (sF.w8 _ o0)).tr (sF.w9 _ o0), ?_, ?_, ⟨?_, fun i i0 i1 => by omega⟩, fun h => absurd hz h⟩
  · rw [mm_ne (by decide), mm_ne (by decide)]
    exact hg
  · rw [mm_at rfl rfl (by decide) (by decide)]
    unfold CM CMw
    rw [if_pos hz]
  · rw [mm_ne (by decide), mm_at rfl rfl (by decide) (by decide)]
    exact hz.symm
theorem lp_209_74 {o b : Int} {W : Int → Int} {D : Int → Int → Bool} {σ0 σ : zM} (hW : wRi W) (o0 : 0 ≤ o) (o1 : o < 10) (ho : oOk W o) (hq0 : qR σ0 W) (hD0 : dR σ0 = D) (hf : sF o σ0 σ) (hg : zN σ 300 o.toNat = oo W o 5)
    (hb : b = if (wayV W (oo W o 4) (fun k => oo W o (8 + k)) (oo W o 7).toNat).1 = 0 then 0 else 1) (hR : (wayV W (oo W o 4) (fun k => oo W o (8 + k)) (oo W o 7).toNat).1 ≠ 0 → wR σ o (wayV W (oo W o 4) (fun k => oo W o (8 + k)) (oo W o 7).toNat)) :
    zwp (zev 209 74 [some (.ref 287), some (.int (Int32.ofInt o)), some (.int (Int32.ofInt b)), none] [] σ) (fun v τ => v = none ∧ sF o σ0 τ ∧ seat τ W D o) := by
  have hq := hf.q hq0
  have hV := wayV_N hW.1 (v := fun k => oo W o (8 + k)) ho.1 ho.2.1 (oo W o 7).toNat (fun i i0 i1 => ho.2.2.2.2.2.2.1 i i0 (by omega))
  have hN := WAY_N hW.1 ho
  obtain ⟨a1, a2, a3, a4, a5, a6, -, a8, a9, a10, a11, a12, a13, a14, a15⟩ := ho
  have hL : WAY W o = lead W (oo W o 5) 8 (wayV W (oo W o 4) (fun k => oo W o (8 + k)) (oo W o 7).toNat) := rfl
  generalize wayV W (oo W o 4) (fun k => oo W o (8 + k)) (oo W o 7).toNat = w at hb hR hV hL
  have h8 := hW.1.2.1
  refine zwp_of (fun r h => ze_209_74 _ _ _ r h) ?_
  by_cases q : w.1 = 0
  · rw [if_pos q] at hb
    subst hb
    simp (disch := first | assumption | exact isR33 | exact isT104 | exact isF99 | exact isF101 | exact isR3 | omega | (refine isTk ?_; omega) | (refine isOk isR33 ?_; omega) | (refine isOk ?_ ?_; assumption; omega)) only [mm_r, mm_rl, mm_add, mm_sub, mm_mul, mm_addJ, mm_mulJ, mm_lt, mm_le, mm_eq, mm_z, mm_cl, mm_w, mm_wl, mm_ite, mm_i2l, mm_l2i, mm_ltJ, mm_leJ, mm_eqJ, mm_clt, mm_cle, mm_cgt, mm_cge, mm_ceq, mm_b, mm_nb, mm_nb0, mm_nb1, mm_vb0, mm_vb1, mm_vbc, mm_vy0, mm_vy1, mm_at, mm_ne, mm_nj, mm_Lw, mm_Nw, mm_atJ, mm_neJ, mm_njJ, zbI_s, zbV_s, zbJ_s, cond_t, Bool.true_and, Bool.and_true, if_true, if_false, not_true, not_false_iff, zel_r, zel_42, zel_12, zel_71, zel_80, zel_89, zel_110, zel_188, zel_103, zel_195, zr_o, zr_1, zr_2, zr_3, zr_4, zr_5, zr_6, zr_7, zr_8, zr_9, zq_o, zq_v, zt_o, zt_1, zt_2, zt_3, zt_4, zt_5, zf_o, zf_1, za_w1, za_w2, za_w3, za_cm, za_sl, Int.toNat_natCast, mm_t0, mm_t1, mm_t2, mm_t3, mm_t4, mm_t5, mm_t6, mm_t7, mm_t8, mm_t9, mm_t10, mm_t11, mm_t12, mm_t13, za_1, za_64, za_65, za_66, za_67, za_68, za_71, za_80, za_89, za_98, za_103, za_110, za_121, za_122, za_123, za_124, za_125, za_126, za_188, za_193, za_194, za_195, za_286, za_288, za_289, za_290, za_291, za_292, za_293, za_294, za_295, za_296, za_297, za_298, za_299, za_300, za_301, za_302, za_303, za_304, za_305, za_306, za_307, za_308, za_309, za_310, za_311, za_312]
    refine lp_209_no o0 o1 ?_ hf hg
    rw [hL, lead_z (by omega)]
    exact q
  · rw [if_neg q] at hb
    subst hb
    rcases hV with hV | ⟨v0, v1, v2⟩
    · exact absurd hV q
    have s5 : rO σ 5 o = oo W o 5 := rO_of hq.1 5 o
    rw [if_neg (by decide), sp_173r o0 o1 (by decide) (by decide), zbI_s, s5]
    refine zwp_I (fun n τ => n = (if (lead W (oo W o 5) 8 w).1 = 0 then 0 else 1) ∧ ((lead W (oo W o 5) 8 w).1 ≠ 0 → wR τ o (lead W (oo W o 5) 8 w)) ∧ oF o σ τ) (zwp_mono (sp_206 o0 (by omega) a3 a4 hq v2 v0 (by omega) (hR q)) (fun v τ h => ⟨_, h.1, rfl, h.2⟩)) ?_
    rintro n τ ⟨rfl, hR', hF⟩
    rw [← hL] at hR' ⊢
    have hf' := hf.tr hF.s
    have hq' := hf'.q hq0
    have hg' : zN τ 300 o.toNat = oo W o 5 := (hF.1.1 300 (by decide) _).trans hg
    by_cases q2 : (WAY W o).1 = 0
    · rw [if_pos q2]
      simp (disch := first | assumption | exact isR33 | exact isT104 | exact isF99 | exact isF101 | exact isR3 | omega | (refine isTk ?_; omega) | (refine isOk isR33 ?_; omega) | (refine isOk ?_ ?_; assumption; omega)) only [mm_r, mm_rl, mm_add, mm_sub, mm_mul, mm_addJ, mm_mulJ, mm_lt, mm_le, mm_eq, mm_z, mm_cl, mm_w, mm_wl, mm_ite, mm_i2l, mm_l2i, mm_ltJ, mm_leJ, mm_eqJ, mm_clt, mm_cle, mm_cgt, mm_cge, mm_ceq, mm_b, mm_nb, mm_nb0, mm_nb1, mm_vb0, mm_vb1, mm_vbc, mm_vy0, mm_vy1, mm_at, mm_ne, mm_nj, mm_Lw, mm_Nw, mm_atJ, mm_neJ, mm_njJ, zbI_s, zbV_s, zbJ_s, cond_t, Bool.true_and, Bool.and_true, if_true, if_false, not_true, not_false_iff, zel_r, zel_42, zel_12, zel_71, zel_80, zel_89, zel_110, zel_188, zel_103, zel_195, zr_o, zr_1, zr_2, zr_3, zr_4, zr_5, zr_6, zr_7, zr_8, zr_9, zq_o, zq_v, zt_o, zt_1, zt_2, zt_3, zt_4, zt_5, zf_o, zf_1, za_w1, za_w2, za_w3, za_cm, za_sl, Int.toNat_natCast, mm_t0, mm_t1, mm_t2, mm_t3, mm_t4, mm_t5, mm_t6, mm_t7, mm_t8, mm_t9, mm_t10, mm_t11, mm_t12, mm_t13, za_1, za_64, za_65, za_66, za_67, za_68, za_71, za_80, za_89, za_98, za_103, za_110, za_121, za_122, za_123, za_124, za_125, za_126, za_188, za_193, za_194, za_195, za_286, za_288, za_289, za_290, za_291, za_292, za_293, za_294, za_295, za_296, za_297, za_298, za_299, za_300, za_301, za_302, za_303, za_304, za_305, za_306, za_307, za_308, za_309, za_310, za_311, za_312]
      exact lp_209_no o0 o1 q2 hf' hg'
    · rw [if_neg q2]
      rcases hN.1 with hN1 | ⟨n0, n1, n2⟩
      · exact absurd hN1 q2
      have t6 : rO τ 6 o = oo W o 6 := rO_of hq'.1 6 o
      have t0 : rO τ 0 o = oo W o 0 := rO_of hq'.1 0 o
      have tp : zN τ 288 (68 + 2 * oo W o 0).toNat = pac W o := by
        unfold pac
        rw [← hq'.1]
        rfl
      have tr : zN τ 288 (68 + 2 * oo W o 0 + 1).toNat = res W o := by
        unfold res
        rw [← hq'.1]
        rfl
      rw [if_neg (by decide), if_pos (by decide), sp_173r o0 o1 (by decide) (by decide), zbI_s, sp_173r o0 o1 (by decide) (by decide), zbI_s, t6, t0]
      simp (disch := first | assumption | exact isR33 | exact isT104 | exact isF99 | exact isF101 | exact isR3 | omega | (refine isTk ?_; omega) | (refine isOk isR33 ?_; omega) | (refine isOk ?_ ?_; assumption; omega)) only [mm_r, mm_rl, mm_add, mm_sub, mm_mul, mm_addJ, mm_mulJ, mm_lt, mm_le, mm_eq, mm_z, mm_cl, mm_w, mm_wl, mm_ite, mm_i2l, mm_l2i, mm_ltJ, mm_leJ, mm_eqJ, mm_clt, mm_cle, mm_cgt, mm_cge, mm_ceq, mm_b, mm_nb, mm_nb0, mm_nb1, mm_vb0, mm_vb1, mm_vbc, mm_vy0, mm_vy1, mm_at, mm_ne, mm_nj, mm_Lw, mm_Nw, mm_atJ, mm_neJ, mm_njJ, zbI_s, zbV_s, zbJ_s, cond_t, Bool.true_and, Bool.and_true, if_true, if_false, not_true, not_false_iff, zel_r, zel_42, zel_12, zel_71, zel_80, zel_89, zel_110, zel_188, zel_103, zel_195, zr_o, zr_1, zr_2, zr_3, zr_4, zr_5, zr_6, zr_7, zr_8, zr_9, zq_o, zq_v, zt_o, zt_1, zt_2, zt_3, zt_4, zt_5, zf_o, zf_1, za_w1, za_w2, za_w3, za_cm, za_sl, Int.toNat_natCast, mm_t0, mm_t1, mm_t2, mm_t3, mm_t4, mm_t5, mm_t6, mm_t7, mm_t8, mm_t9, mm_t10, mm_t11, mm_t12, mm_t13, za_1, za_64, za_65, za_66, za_67, za_68, za_71, za_80, za_89, za_98, za_103, za_110, za_121, za_122, za_123, za_124, za_125, za_126, za_188, za_193, za_194, za_195, za_286, za_288, za_289, za_290, za_291, za_292, za_293, za_294, za_295, za_296, za_297, za_298, za_299, za_300, za_301, za_302, za_303, za_304, za_305, za_306, za_307, za_308, za_309, za_310, za_311, za_312]
      rw [sp_173r o0 o1 (by decide) (by decide), zbI_s, t0]
      simp (disch := first | assumption | exact isR33 | exact isT104 | exact isF99 | exact isF101 | exact isR3 | omega | (refine isTk ?_; omega) | (refine isOk isR33 ?_; omega) | (refine isOk ?_ ?_; assumption; omega)) only [mm_r, mm_rl, mm_add, mm_sub, mm_mul, mm_addJ, mm_mulJ, mm_lt, mm_le, mm_eq, mm_z, mm_cl, mm_w, mm_wl, mm_ite, mm_i2l, mm_l2i, mm_ltJ, mm_leJ, mm_eqJ, mm_clt, mm_cle, mm_cgt, mm_cge, mm_ceq, mm_b, mm_nb, mm_nb0, mm_nb1, mm_vb0, mm_vb1, mm_vbc, mm_vy0, mm_vy1, mm_at, mm_ne, mm_nj, mm_Lw, mm_Nw, mm_atJ, mm_neJ, mm_njJ, zbI_s, zbV_s, zbJ_s, cond_t, Bool.true_and, Bool.and_true, if_true, if_false, not_true, not_false_iff, zel_r, zel_42, zel_12, zel_71, zel_80, zel_89, zel_110, zel_188, zel_103, zel_195, zr_o, zr_1, zr_2, zr_3, zr_4, zr_5, zr_6, zr_7, zr_8, zr_9, zq_o, zq_v, zt_o, zt_1, zt_2, zt_3, zt_4, zt_5, zf_o, zf_1, za_w1, za_w2, za_w3, za_cm, za_sl, Int.toNat_natCast, mm_t0, mm_t1, mm_t2, mm_t3, mm_t4, mm_t5, mm_t6, mm_t7, mm_t8, mm_t9, mm_t10, mm_t11, mm_t12, mm_t13, za_1, za_64, za_65, za_66, za_67, za_68, za_71, za_80, za_89, za_98, za_103, za_110, za_121, za_122, za_123, za_124, za_125, za_126, za_188, za_193, za_194, za_195, za_286, za_288, za_289, za_290, za_291, za_292, za_293, za_294, za_295, za_296, za_297, za_298, za_299, za_300, za_301, za_302, za_303, za_304, za_305, za_306, za_307, za_308, za_309, za_310, za_311, za_312, tp, tr]
      refine zwp_V (fun υ => gF o τ υ ∧ tR υ o W (FL W D) (WAY W o) (oo W o 6) (pac W o) (res W o) (WAY W o).1.toNat ∧ zN υ 299 o.toNat = if tI W (FL W D) (WAY W o) (oo W o 6) (pac W o) (res W o) ((WAY W o).1 - 1).toNat < W 1 then tI W (FL W D) (WAY W o) (oo W o 6) (pac W o) (res W o) ((WAY W o).1 - 1).toNat else -1) (sp_208 hW o0 (by omega) a8 a9 a12 a13 a14 a15 n2 n0 (by omega) hq'.1 (hf'.D.trans hD0) (hR' q2)) ?_
      rintro υ ⟨hG, hT, hC⟩
      refine zwp_ret ⟨rfl, hf'.tr hG.s, (hG.1.1 300 (by decide) _).trans hg', ?_, hG.R (hR' q2), fun _ => hT⟩
      rw [hC]
      unfold CM CMw
      rw [if_neg q2]
theorem wayV_z {W : Int → Int} {fr : Int} {v : Int → Int} {i : Nat} (h : (wayV W fr v i).1 = 0) : ∀ k : Nat, (wayV W fr v (i + k)).1 = 0
  | 0 => h
  | k + 1 => by
    show (lead W _ 8 (wayV W fr v (i + k))).1 = 0
    have ih := wayV_z h k
    rw [lead_z (by omega)]
    exact ih
theorem lp_209_38 {o : Int} {W : Int → Int} {D : Int → Int → Bool} {σ0 : zM} (hW : wRi W) (o0 : 0 ≤ o) (o1 : o < 10) (ho : oOk W o) (hq0 : qR σ0 W) (hD0 : dR σ0 = D) : ∀ (k i : Nat) (b : Int) (σ : zM), i + k = (oo W o 7).toNat → sF o σ0 σ → zN σ 300 o.toNat = oo W o 5 →
    b = (if (wayV W (oo W o 4) (fun k => oo W o (8 + k)) i).1 = 0 then 0 else 1) → ((wayV W (oo W o 4) (fun k => oo W o (8 + k)) i).1 ≠ 0 → wR σ o (wayV W (oo W o 4) (fun k => oo W o (8 + k)) i)) →
    zwp (zev 209 38 [some (.ref 287), some (.int (Int32.ofInt o)), some (.int (Int32.ofInt b)), some (.int (Int32.ofInt i))] [] σ) (fun v τ => v = none ∧ sF o σ0 τ ∧ seat τ W D o)
  | 0, i, b, σ, e, hf, hg, hb, hR => by
    obtain rfl : i = (oo W o 7).toNat := by omega
    have hq := hf.q hq0
    have s7 : rO σ 7 o = oo W o 7 := rO_of hq.1 7 o
    have b1 := ho.2.2.2.2.1
    have b2 := ho.2.2.2.2.2.1
    refine zwp_of (fun r h => ze_209_38 _ _ _ _ r h) ?_
    rw [sp_173r o0 o1 (by decide) (by decide), zbI_s, s7]
    simp (disch := first | assumption | exact isR33 | exact isT104 | exact isF99 | exact isF101 | exact isR3 | omega | (refine isTk ?_; omega) | (refine isOk isR33 ?_; omega) | (refine isOk ?_ ?_; assumption; omega)) only [mm_r, mm_rl, mm_add, mm_sub, mm_mul, mm_addJ, mm_mulJ, mm_lt, mm_le, mm_eq, mm_z, mm_cl, mm_w, mm_wl, mm_ite, mm_i2l, mm_l2i, mm_ltJ, mm_leJ, mm_eqJ, mm_clt, mm_cle, mm_cgt, mm_cge, mm_ceq, mm_b, mm_nb, mm_nb0, mm_nb1, mm_vb0, mm_vb1, mm_vbc, mm_vy0, mm_vy1, mm_at, mm_ne, mm_nj, mm_Lw, mm_Nw, mm_atJ, mm_neJ, mm_njJ, zbI_s, zbV_s, zbJ_s, cond_t, Bool.true_and, Bool.and_true, if_true, if_false, not_true, not_false_iff, zel_r, zel_42, zel_12, zel_71, zel_80, zel_89, zel_110, zel_188, zel_103, zel_195, zr_o, zr_1, zr_2, zr_3, zr_4, zr_5, zr_6, zr_7, zr_8, zr_9, zq_o, zq_v, zt_o, zt_1, zt_2, zt_3, zt_4, zt_5, zf_o, zf_1, za_w1, za_w2, za_w3, za_cm, za_sl, Int.toNat_natCast, mm_t0, mm_t1, mm_t2, mm_t3, mm_t4, mm_t5, mm_t6, mm_t7, mm_t8, mm_t9, mm_t10, mm_t11, mm_t12, mm_t13, za_1, za_64, za_65, za_66, za_67, za_68, za_71, za_80, za_89, za_98, za_103, za_110, za_121, za_122, za_123, za_124, za_125, za_126, za_188, za_193, za_194, za_195, za_286, za_288, za_289, za_290, za_291, za_292, za_293, za_294, za_295, za_296, za_297, za_298, za_299, za_300, za_301, za_302, za_303, za_304, za_305, za_306, za_307, za_308, za_309, za_310, za_311, za_312]
    rw [if_pos (by omega)]
    exact lp_209_74 hW o0 o1 ho hq0 hD0 hf hg hb hR
  | k + 1, i, b, σ, e, hf, hg, hb, hR => by
    have hq := hf.q hq0
    have s7 : rO σ 7 o = oo W o 7 := rO_of hq.1 7 o
    have b1 := ho.2.2.2.2.1
    have b2 := ho.2.2.2.2.2.1
    have s8 : rO σ (8 + i) o = oo W o (8 + i) := rO_of hq.1 _ o
    have a7 := ho.2.2.2.2.2.2.1 i (by omega) (by omega)
    have hV := wayV_N hW.1 (v := fun k => oo W o (8 + k)) ho.1 ho.2.1 i (fun j j0 j1 => ho.2.2.2.2.2.2.1 j j0 (by omega))
    refine zwp_of (fun r h => ze_209_38 _ _ _ _ r h) ?_
    rw [sp_173r o0 o1 (by decide) (by decide), zbI_s, s7]
    simp (disch := first | assumption | exact isR33 | exact isT104 | exact isF99 | exact isF101 | exact isR3 | omega | (refine isTk ?_; omega) | (refine isOk isR33 ?_; omega) | (refine isOk ?_ ?_; assumption; omega)) only [mm_r, mm_rl, mm_add, mm_sub, mm_mul, mm_addJ, mm_mulJ, mm_lt, mm_le, mm_eq, mm_z, mm_cl, mm_w, mm_wl, mm_ite, mm_i2l, mm_l2i, mm_ltJ, mm_leJ, mm_eqJ, mm_clt, mm_cle, mm_cgt, mm_cge, mm_ceq, mm_b, mm_nb, mm_nb0, mm_nb1, mm_vb0, mm_vb1, mm_vbc, mm_vy0, mm_vy1, mm_at, mm_ne, mm_nj, mm_Lw, mm_Nw, mm_atJ, mm_neJ, mm_njJ, zbI_s, zbV_s, zbJ_s, cond_t, Bool.true_and, Bool.and_true, if_true, if_false, not_true, not_false_iff, zel_r, zel_42, zel_12, zel_71, zel_80, zel_89, zel_110, zel_188, zel_103, zel_195, zr_o, zr_1, zr_2, zr_3, zr_4, zr_5, zr_6, zr_7, zr_8, zr_9, zq_o, zq_v, zt_o, zt_1, zt_2, zt_3, zt_4, zt_5, zf_o, zf_1, za_w1, za_w2, za_w3, za_cm, za_sl, Int.toNat_natCast, mm_t0, mm_t1, mm_t2, mm_t3, mm_t4, mm_t5, mm_t6, mm_t7, mm_t8, mm_t9, mm_t10, mm_t11, mm_t12, mm_t13, za_1, za_64, za_65, za_66, za_67, za_68, za_71, za_80, za_89, za_98, za_103, za_110, za_121, za_122, za_123, za_124, za_125, za_126, za_188, za_193, za_194, za_195, za_286, za_288, za_289, za_290, za_291, za_292, za_293, za_294, za_295, za_296, za_297, za_298, za_299, za_300, za_301, za_302, za_303, za_304, za_305, za_306, za_307, za_308, za_309, za_310, za_311, za_312]
    rw [if_neg (by omega)]
    by_cases q : (wayV W (oo W o 4) (fun k => oo W o (8 + k)) i).1 = 0
    · rw [if_pos q] at hb
      rw [if_pos hb]
      have hz := wayV_z q (k + 1)
      rw [e] at hz
      exact lp_209_74 hW o0 o1 ho hq0 hD0 hf hg (by rw [if_pos hz]; exact hb) (fun p => absurd hz p)
    · rw [if_neg q] at hb
      rw [if_neg (by omega), sp_173r o0 o1 (by omega) (by omega), zbI_s, s8]
      rcases hV with hV | ⟨v0, v1, v2⟩
      · exact absurd hV q
      have hs : wayV W (oo W o 4) (fun k => oo W o (8 + k)) (i + 1) = lead W (oo W o (8 + i)) 8 (wayV W (oo W o 4) (fun k => oo W o (8 + k)) i) := rfl
      refine zwp_I (fun n τ => n = (if (wayV W (oo W o 4) (fun k => oo W o (8 + k)) (i + 1)).1 = 0 then 0 else 1) ∧ ((wayV W (oo W o 4) (fun k => oo W o (8 + k)) (i + 1)).1 ≠ 0 → wR τ o (wayV W (oo W o 4) (fun k => oo W o (8 + k)) (i + 1))) ∧ oF o σ τ) (zwp_mono (sp_206 o0 (by omega) a7.1 a7.2 hq v2 v0 (by omega) (hR q)) (fun v τ h => ⟨_, h.1, rfl, h.2⟩)) ?_
      rintro n τ ⟨hn, hR', hF⟩
      try simp (disch := first | assumption | exact isR33 | exact isT104 | exact isF99 | exact isF101 | exact isR3 | omega | (refine isTk ?_; omega) | (refine isOk isR33 ?_; omega) | (refine isOk ?_ ?_; assumption; omega)) only [mm_r, mm_rl, mm_add, mm_sub, mm_mul, mm_addJ, mm_mulJ, mm_lt, mm_le, mm_eq, mm_z, mm_cl, mm_w, mm_wl, mm_ite, mm_i2l, mm_l2i, mm_ltJ, mm_leJ, mm_eqJ, mm_clt, mm_cle, mm_cgt, mm_cge, mm_ceq, mm_b, mm_nb, mm_nb0, mm_nb1, mm_vb0, mm_vb1, mm_vbc, mm_vy0, mm_vy1, mm_at, mm_ne, mm_nj, mm_Lw, mm_Nw, mm_atJ, mm_neJ, mm_njJ, zbI_s, zbV_s, zbJ_s, cond_t, Bool.true_and, Bool.and_true, if_true, if_false, not_true, not_false_iff, zel_r, zel_42, zel_12, zel_71, zel_80, zel_89, zel_110, zel_188, zel_103, zel_195, zr_o, zr_1, zr_2, zr_3, zr_4, zr_5, zr_6, zr_7, zr_8, zr_9, zq_o, zq_v, zt_o, zt_1, zt_2, zt_3, zt_4, zt_5, zf_o, zf_1, za_w1, za_w2, za_w3, za_cm, za_sl, Int.toNat_natCast, mm_t0, mm_t1, mm_t2, mm_t3, mm_t4, mm_t5, mm_t6, mm_t7, mm_t8, mm_t9, mm_t10, mm_t11, mm_t12, mm_t13, za_1, za_64, za_65, za_66, za_67, za_68, za_71, za_80, za_89, za_98, za_103, za_110, za_121, za_122, za_123, za_124, za_125, za_126, za_188, za_193, za_194, za_195, za_286, za_288, za_289, za_290, za_291, za_292, za_293, za_294, za_295, za_296, za_297, za_298, za_299, za_300, za_301, za_302, za_303, za_304, za_305, za_306, za_307, za_308, za_309, za_310, za_311, za_312]
      exact lp_209_38 hW o0 o1 ho hq0 hD0 k (i + 1) n τ (by omega) (hf.tr hF.s) ((hF.1.1 300 (by decide) _).trans hg) hn hR'
theorem sp_209 {o : Int} {W : Int → Int} {D : Int → Int → Bool} {σ : zM} (hW : wRi W) (o0 : 0 ≤ o) (o1 : o < 10) (ho : oOk W o) (hq : qR σ W) (hD : dR σ = D) : zwp (zcall 209 [.ref 287, .int (Int32.ofInt o)] σ) (fun v τ => v = none ∧ sF o σ τ ∧ seat τ W D o) := by
  have s5 : rO σ 5 o = oo W o 5 := rO_of hq.1 5 o
  have a1 := ho.1
  have a2 := ho.2.1
  have a3 := ho.2.2.1
  have a4 := ho.2.2.2.1
  have h8 := hW.1.2.1
  refine zwp_of (fun r h => zcc_209 (ze_209_0 _ _ r h)) ?_
  rw [sp_173r o0 o1 (by decide) (by decide), zbI_s, s5]
  try simp (disch := first | assumption | exact isR33 | exact isT104 | exact isF99 | exact isF101 | exact isR3 | omega | (refine isTk ?_; omega) | (refine isOk isR33 ?_; omega) | (refine isOk ?_ ?_; assumption; omega)) only [mm_r, mm_rl, mm_add, mm_sub, mm_mul, mm_addJ, mm_mulJ, mm_lt, mm_le, mm_eq, mm_z, mm_cl, mm_w, mm_wl, mm_ite, mm_i2l, mm_l2i, mm_ltJ, mm_leJ, mm_eqJ, mm_clt, mm_cle, mm_cgt, mm_cge, mm_ceq, mm_b, mm_nb, mm_nb0, mm_nb1, mm_vb0, mm_vb1, mm_vbc, mm_vy0, mm_vy1, mm_at, mm_ne, mm_nj, mm_Lw, mm_Nw, mm_atJ, mm_neJ, mm_njJ, zbI_s, zbV_s, zbJ_s, cond_t, Bool.true_and, Bool.and_true, if_true, if_false, not_true, not_false_iff, zel_r, zel_42, zel_12, zel_71, zel_80, zel_89, zel_110, zel_188, zel_103, zel_195, zr_o, zr_1, zr_2, zr_3, zr_4, zr_5, zr_6, zr_7, zr_8, zr_9, zq_o, zq_v, zt_o, zt_1, zt_2, zt_3, zt_4, zt_5, zf_o, zf_1, za_w1, za_w2, za_w3, za_cm, za_sl, Int.toNat_natCast, mm_t0, mm_t1, mm_t2, mm_t3, mm_t4, mm_t5, mm_t6, mm_t7, mm_t8, mm_t9, mm_t10, mm_t11, mm_t12, mm_t13, za_1, za_64, za_65, za_66, za_67, za_68, za_71, za_80, za_89, za_98, za_103, za_110, za_121, za_122, za_123, za_124, za_125, za_126, za_188, za_193, za_194, za_195, za_286, za_288, za_289, za_290, za_291, za_292, za_293, za_294, za_295, za_296, za_297, za_298, za_299, za_300, za_301, za_302, za_303, za_304, za_305, za_306, za_307, za_308, za_309, za_310, za_311, za_312]
  refine zwp_let ?_
  have f1 : sF o σ (zw σ 300 o.toNat (oo W o 5)) := sF.w0 _ o0
  have s4 : rO (zw σ 300 o.toNat (oo W o 5)) 4 o = oo W o 4 := rO_of (f1.q hq).1 4 o
  rw [sp_173r o0 o1 (by decide) (by decide), zbI_s, s4]
  try simp (disch := first | assumption | exact isR33 | exact isT104 | exact isF99 | exact isF101 | exact isR3 | omega | (refine isTk ?_; omega) | (refine isOk isR33 ?_; omega) | (refine isOk ?_ ?_; assumption; omega)) only [mm_r, mm_rl, mm_add, mm_sub, mm_mul, mm_addJ, mm_mulJ, mm_lt, mm_le, mm_eq, mm_z, mm_cl, mm_w, mm_wl, mm_ite, mm_i2l, mm_l2i, mm_ltJ, mm_leJ, mm_eqJ, mm_clt, mm_cle, mm_cgt, mm_cge, mm_ceq, mm_b, mm_nb, mm_nb0, mm_nb1, mm_vb0, mm_vb1, mm_vbc, mm_vy0, mm_vy1, mm_at, mm_ne, mm_nj, mm_Lw, mm_Nw, mm_atJ, mm_neJ, mm_njJ, zbI_s, zbV_s, zbJ_s, cond_t, Bool.true_and, Bool.and_true, if_true, if_false, not_true, not_false_iff, zel_r, zel_42, zel_12, zel_71, zel_80, zel_89, zel_110, zel_188, zel_103, zel_195, zr_o, zr_1, zr_2, zr_3, zr_4, zr_5, zr_6, zr_7, zr_8, zr_9, zq_o, zq_v, zt_o, zt_1, zt_2, zt_3, zt_4, zt_5, zf_o, zf_1, za_w1, za_w2, za_w3, za_cm, za_sl, Int.toNat_natCast, mm_t0, mm_t1, mm_t2, mm_t3, mm_t4, mm_t5, mm_t6, mm_t7, mm_t8, mm_t9, mm_t10, mm_t11, mm_t12, mm_t13, za_1, za_64, za_65, za_66, za_67, za_68, za_71, za_80, za_89, za_98, za_103, za_110, za_121, za_122, za_123, za_124, za_125, za_126, za_188, za_193, za_194, za_195, za_286, za_288, za_289, za_290, za_291, za_292, za_293, za_294, za_295, za_296, za_297, za_298, za_299, za_300, za_301, za_302, za_303, za_304, za_305, za_306, za_307, za_308, za_309, za_310, za_311, za_312]
  refine zwp_let ?_
  try simp (disch := first | assumption | exact isR33 | exact isT104 | exact isF99 | exact isF101 | exact isR3 | omega | (refine isTk ?_; omega) | (refine isOk isR33 ?_; omega) | (refine isOk ?_ ?_; assumption; omega)) only [mm_r, mm_rl, mm_add, mm_sub, mm_mul, mm_addJ, mm_mulJ, mm_lt, mm_le, mm_eq, mm_z, mm_cl, mm_w, mm_wl, mm_ite, mm_i2l, mm_l2i, mm_ltJ, mm_leJ, mm_eqJ, mm_clt, mm_cle, mm_cgt, mm_cge, mm_ceq, mm_b, mm_nb, mm_nb0, mm_nb1, mm_vb0, mm_vb1, mm_vbc, mm_vy0, mm_vy1, mm_at, mm_ne, mm_nj, mm_Lw, mm_Nw, mm_atJ, mm_neJ, mm_njJ, zbI_s, zbV_s, zbJ_s, cond_t, Bool.true_and, Bool.and_true, if_true, if_false, not_true, not_false_iff, zel_r, zel_42, zel_12, zel_71, zel_80, zel_89, zel_110, zel_188, zel_103, zel_195, zr_o, zr_1, zr_2, zr_3, zr_4, zr_5, zr_6, zr_7, zr_8, zr_9, zq_o, zq_v, zt_o, zt_1, zt_2, zt_3, zt_4, zt_5, zf_o, zf_1, za_w1, za_w2, za_w3, za_cm, za_sl, Int.toNat_natCast, mm_t0, mm_t1, mm_t2, mm_t3, mm_t4, mm_t5, mm_t6, mm_t7, mm_t8, mm_t9, mm_t10, mm_t11, mm_t12, mm_t13, za_1, za_64, za_65, za_66, za_67, za_68, za_71, za_80, za_89, za_98, za_103, za_110, za_121, za_122, za_123, za_124, za_125, za_126, za_188, za_193, za_194, za_195, za_286, za_288, za_289, za_290, za_291, za_292, za_293, za_294, za_295, za_296, za_297, za_298, za_299, za_300, za_301, za_302, za_303, za_304, za_305, za_306, za_307, za_308, za_309, za_310, za_311, za_312]
  refine zwp_let ?_
  have f2 := (f1.tr (sF.w5 (oo W o 4) o0)).tr (sF.w8 1 o0)
  refine lp_209_38 hW o0 o1 ho hq hD (oo W o 7).toNat 0 1 _ (by omega) f2 ?_ rfl (fun _ => ⟨mm_at rfl rfl (by decide) (by decide), fun i i0 i1 => ?_⟩)
  · rw [mm_ne (by decide), mm_ne (by decide), mm_at rfl rfl (by omega) (by omega)]
  · have i1 : i < 1 := i1
    rw [show i = 0 by omega, Int.add_zero, mm_ne (by decide), mm_at rfl rfl (by omega) (by omega)]
    rfl
theorem seat.fr {σ τ : zM} {W : Int → Int} {D : Int → Int → Bool} {o q : Int} (h : seat σ W D o) (hf : sF q σ τ) (hne : o ≠ q) (o0 : 0 ≤ o) (hW : wRd W) (ho : oOk W o) : seat τ W D o := by
  have h1 := hf.2.1 o.toNat (by omega)
  have hN := (WAY_N hW ho).1
  refine ⟨h1.2.2.trans h.1, h1.2.1.trans h.2.1, ⟨h1.1.trans h.2.2.1.1, fun i i0 i1 => ?_⟩, fun p => ⟨fun i i1 => ?_, fun i i1 i2 => ?_⟩⟩
  · have : i < 29 := by rcases hN with q | q <;> omega
    rw [(hf.2.2 (32 * o + i).toNat (by omega)).1]
    exact h.2.2.1.2 i i0 i1
  · have : (i : Int) < 29 := by rcases hN with q | q <;> omega
    rw [(hf.2.2 (32 * o + i).toNat (by omega)).2.1]
    exact (h.2.2.2 p).1 i i1
  · have : (i : Int) < 29 := by rcases hN with q | q <;> omega
    rw [(hf.2.2 (32 * o + i).toNat (by omega)).2.2]
    exact (h.2.2.2 p).2 i i1 i2
theorem lp_210 {W : Int → Int} {D : Int → Int → Bool} {σ0 : zM} {n : Nat} (hW : wRi W) (hn : W 5 = n) (h10 : n ≤ 10) (hO : ∀ o, 0 ≤ o → o < W 5 → oOk W o) (hq0 : qR σ0 W) (hD0 : dR σ0 = D) : ∀ (k i : Nat) (σ : zM), i + k = n → mf (fun r => 295 ≤ r ∧ r ≤ 300) σ0 σ → (∀ o : Int, 0 ≤ o → o < (i : Int) → seat σ W D o) →
    zwp (zev 210 6 [some (.ref 287), some (.int (Int32.ofInt i))] [] σ) (fun v τ => v = none ∧ mf (fun r => 295 ≤ r ∧ r ≤ 300) σ0 τ ∧ (∀ o : Int, 0 ≤ o → o < (n : Int) → seat τ W D o) ∧ zN τ 299 10 = -1)
  | 0, i, σ, e, hf, hs => by
    have s5 : zN σ 288 5 = W 5 := by
      rw [← hq0.1]
      exact hf.1 288 (by decide) 5
    refine zwp_of (fun r h => ze_210_6 _ _ r h) ?_
    simp (disch := first | assumption | exact isR33 | exact isT104 | exact isF99 | exact isF101 | exact isR3 | omega | (refine isTk ?_; omega) | (refine isOk isR33 ?_; omega) | (refine isOk ?_ ?_; assumption; omega)) only [mm_r, mm_rl, mm_add, mm_sub, mm_mul, mm_addJ, mm_mulJ, mm_lt, mm_le, mm_eq, mm_z, mm_cl, mm_w, mm_wl, mm_ite, mm_i2l, mm_l2i, mm_ltJ, mm_leJ, mm_eqJ, mm_clt, mm_cle, mm_cgt, mm_cge, mm_ceq, mm_b, mm_nb, mm_nb0, mm_nb1, mm_vb0, mm_vb1, mm_vbc, mm_vy0, mm_vy1, mm_at, mm_ne, mm_nj, mm_Lw, mm_Nw, mm_atJ, mm_neJ, mm_njJ, zbI_s, zbV_s, zbJ_s, cond_t, Bool.true_and, Bool.and_true, if_true, if_false, not_true, not_false_iff, zel_r, zel_42, zel_12, zel_71, zel_80, zel_89, zel_110, zel_188, zel_103, zel_195, zr_o, zr_1, zr_2, zr_3, zr_4, zr_5, zr_6, zr_7, zr_8, zr_9, zq_o, zq_v, zt_o, zt_1, zt_2, zt_3, zt_4, zt_5, zf_o, zf_1, za_w1, za_w2, za_w3, za_cm, za_sl, Int.toNat_natCast, mm_t0, mm_t1, mm_t2, mm_t3, mm_t4, mm_t5, mm_t6, mm_t7, mm_t8, mm_t9, mm_t10, mm_t11, mm_t12, mm_t13, za_1, za_64, za_65, za_66, za_67, za_68, za_71, za_80, za_89, za_98, za_103, za_110, za_121, za_122, za_123, za_124, za_125, za_126, za_188, za_193, za_194, za_195, za_286, za_288, za_289, za_290, za_291, za_292, za_293, za_294, za_295, za_296, za_297, za_298, za_299, za_300, za_301, za_302, za_303, za_304, za_305, za_306, za_307, za_308, za_309, za_310, za_311, za_312, s5]
    rw [if_pos (by omega)]
    have f9 : sF 10 σ (zw σ 299 (10 : Int).toNat (-1)) := sF.w9 _ (by decide)
    refine zwp_let (zwp_ret ⟨rfl, hf.tr f9.1, fun o o0 o1 => ?_, mm_at rfl rfl (by decide) (by decide)⟩)
    exact (hs o o0 (by omega)).fr f9 (by omega) o0 hW.1 (hO o o0 (by omega))
  | k + 1, i, σ, e, hf, hs => by
    have s5 : zN σ 288 5 = W 5 := by
      rw [← hq0.1]
      exact hf.1 288 (by decide) 5
    have hq : qR σ W := hq0.fr (hf.1 288 (by decide)) (hf.1 294 (by decide))
    have hD : dR σ = D := (dR_fr (hf.1 287 (by decide)) (hf.1 301 (by decide)) (hf.1 302 (by decide))).trans hD0
    refine zwp_of (fun r h => ze_210_6 _ _ r h) ?_
    simp (disch := first | assumption | exact isR33 | exact isT104 | exact isF99 | exact isF101 | exact isR3 | omega | (refine isTk ?_; omega) | (refine isOk isR33 ?_; omega) | (refine isOk ?_ ?_; assumption; omega)) only [mm_r, mm_rl, mm_add, mm_sub, mm_mul, mm_addJ, mm_mulJ, mm_lt, mm_le, mm_eq, mm_z, mm_cl, mm_w, mm_wl, mm_ite, mm_i2l, mm_l2i, mm_ltJ, mm_leJ, mm_eqJ, mm_clt, mm_cle, mm_cgt, mm_cge, mm_ceq, mm_b, mm_nb, mm_nb0, mm_nb1, mm_vb0, mm_vb1, mm_vbc, mm_vy0, mm_vy1, mm_at, mm_ne, mm_nj, mm_Lw, mm_Nw, mm_atJ, mm_neJ, mm_njJ, zbI_s, zbV_s, zbJ_s, cond_t, Bool.true_and, Bool.and_true, if_true, if_false, not_true, not_false_iff, zel_r, zel_42, zel_12, zel_71, zel_80, zel_89, zel_110, zel_188, zel_103, zel_195, zr_o, zr_1, zr_2, zr_3, zr_4, zr_5, zr_6, zr_7, zr_8, zr_9, zq_o, zq_v, zt_o, zt_1, zt_2, zt_3, zt_4, zt_5, zf_o, zf_1, za_w1, za_w2, za_w3, za_cm, za_sl, Int.toNat_natCast, mm_t0, mm_t1, mm_t2, mm_t3, mm_t4, mm_t5, mm_t6, mm_t7, mm_t8, mm_t9, mm_t10, mm_t11, mm_t12, mm_t13, za_1, za_64, za_65, za_66, za_67, za_68, za_71, za_80, za_89, za_98, za_103, za_110, za_121, za_122, za_123, za_124, za_125, za_126, za_188, za_193, za_194, za_195, za_286, za_288, za_289, za_290, za_291, za_292, za_293, za_294, za_295, za_296, za_297, za_298, za_299, za_300, za_301, za_302, za_303, za_304, za_305, za_306, za_307, za_308, za_309, za_310, za_311, za_312, s5]
    rw [if_neg (by omega)]
    refine zwp_V (fun τ => sF i σ τ ∧ seat τ W D i) (sp_209 hW (by omega) (by omega) (hO i (by omega) (by omega)) hq hD) ?_
    rintro τ ⟨hF, hS⟩
    refine lp_210 hW hn h10 hO hq0 hD0 k (i + 1) τ (by omega) (hf.tr hF.1) (fun o o0 o1 => ?_)
    by_cases q : o = i
    · rw [q]
      exact hS
    · exact (hs o o0 (by omega)).fr hF q o0 hW.1 (hO o o0 (by omega))
/-- behind allGo -/
def gone (σ : zM) (W : Int → Int) (D : Int → Int → Bool) : Prop := qR σ W ∧ (∀ o, 0 ≤ o → o < W 5 → seat σ W D o) ∧ zN σ 299 10 = -1
theorem sp_210 {W : Int → Int} {D : Int → Int → Bool} {σ : zM} (hW : wRi W) (h0 : 0 ≤ W 5) (h10 : W 5 ≤ 10) (hO : ∀ o, 0 ≤ o → o < W 5 → oOk W o) (hWσ : wv σ 288 = W) (hD : dR σ = D) : zwp (zcall 210 [.ref 287] σ) (fun v τ => v = none ∧ mf (fun r => 294 ≤ r ∧ r ≤ 300) σ τ ∧ gone τ W D) := by
  refine zwp_of (fun r h => zcc_210 (ze_210_0 _ r h)) ?_
  refine zwp_V (fun τ => mf (fun r => r = 294) σ τ ∧ mE (zN σ 288 0).toNat (matR τ) (DD (wv σ 288))) (sp_200 (by rw [hWσ]; exact hW.1)) ?_
  rintro τ ⟨hf, hE⟩
  have e0 : zN σ 288 0 = W 0 := by
    rw [← hWσ]
    rfl
  rw [hWσ, e0] at hE
  have hq : qR τ W := ⟨(hf.wv 288 (by decide)).trans hWσ, hW.1, hE⟩
  have hD' : dR τ = D := (dR_fr (hf.1 287 (by decide)) (hf.1 301 (by decide)) (hf.1 302 (by decide))).trans hD
  refine zwp_mono (lp_210 (n := (W 5).toNat) hW (by omega) (by omega) hO hq hD' (W 5).toNat 0 τ (by omega) mf.rf (fun o o0 o1 => by omega)) ?_
  rintro v υ ⟨rfl, hf2, hs, h9⟩
  refine ⟨rfl, (hf.mono (by omega)).tr (hf2.mono (by omega)), hq.fr (hf2.1 288 (by decide)) (hf2.1 294 (by decide)), fun o o0 o1 => hs o o0 (by omega), h9⟩
