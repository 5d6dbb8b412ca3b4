/-! CALLS: year, years: the reference -/
theorem tI_F {W : Int → Int} (hW : wRd W) {F F' : Int → Int → Bool} (hF : ∀ r h, 0 ≤ r → r < W 2 → F r h = F' r h) {w : wy} (hw : wyOk W w) (h p r : Int) : ∀ i : Nat, (i : Int) < w.1 → tI W F w h p r i = tI W F' w h p r i
  | 0, _ => rfl
  | i + 1, hi => by
    have ih := tI_F hW hF hw h p r i (by omega)
    have hr := hw.rd hW (i := i) (by omega)
    have e : F (rdw W w i) = F' (rdw W w i) := funext fun h => hF _ h hr.1 hr.2.1
    rw [tI, tI, ih, e]
theorem CM_F {W : Int → Int} (hW : WOK W) {D D' : Int → Int → Bool} (hD : ∀ r h, 0 ≤ r → r < W 2 → D r h = D' r h) {o : Int} (o0 : 0 ≤ o) (o1 : o < W 5) : CM W D o = CM W D' o := by
  have ho := (hW.2.2.2.2 o o0 o1).1
  have hN := (WAY_N hW.1.1 ho).1
  unfold CM CMw
  rcases hN with q | ⟨q0, q1, q2⟩
  · rw [if_pos q, if_pos q]
  · rw [tI_F hW.1.1 (F := FL W D) (F' := FL W D') (fun r h r0 r1 => by unfold FL; rw [hD r h r0 r1]) q2 _ _ _ _ (by omega)]
theorem sp_268 {n x : Int} {σ : zM} (n0 : 0 < n) (n1 : n ≤ 100) (hx : zL σ 287 37 = x) (x0 : 0 ≤ x) (x1 : x < 2147483648) : zwp (zcall 268 [.ref 287, .int (Int32.ofInt n)] σ) (fun v τ => v = some (.int (Int32.ofInt (lg x / 65536 % n))) ∧ τ = zwl σ 287 37 (lg x)) := by
  have r := lg_rng x
  have e : (Int64.ofInt 1103515245 * zJ σ 287 37 + Int64.ofInt 12345) - (Int64.ofInt 1103515245 * zJ σ 287 37 + Int64.ofInt 12345) / Int64.ofInt 2147483648 * Int64.ofInt 2147483648 = Int64.ofInt (lg x) := by
    rw [mm_rl, hx, mm_mulJ, mm_addJ, remJ (by omega) (by omega) (by decide) (by decide)]
    rfl
  have e2 : zL (zwl σ 287 37 (lg x)) 287 37 = lg x := mm_atJ rfl rfl (by omega) (by omega)
  refine zwp_of (fun r h => zcc_268 (ze_268_0 _ _ r h)) ?_
  refine zwp_f (by decide +kernel) ?_
  rw [e, mm_wl]
  refine zwp_let ?_
  refine zwp_f (by decide +kernel) ?_
  refine zwp_f (by rw [mm_i2l (by omega) (by omega), show (0 : Int64) = Int64.ofInt 0 from rfl, mm_eqJ (by omega) (by omega) (by omega) (by omega)]; omega) ?_
  have q0 : 0 ≤ lg x / 65536 := by omega
  have m0 := Int.emod_nonneg (lg x / 65536) (show n ≠ 0 by omega)
  have m1 := Int.emod_lt_of_pos (lg x / 65536) n0
  refine zwp_ret ⟨?_, rfl⟩
  rw [mm_rl, e2, mm_divJ (a := lg x) (by omega) (by omega) (by decide) (by decide), mm_i2l (by omega) (by omega), remJ (by omega) (by omega) (by omega) (by omega), mm_l2i (by omega) (by omega)]
/-- within the reference's draws -/
def yT (σ0 σ : zM) (W : Int → Int) (odds seed : Int) (r : Nat) : Prop := mf (fun b => b = 287 ∨ b = 301 ∨ b = 302) σ0 σ ∧ (∀ k, zN σ 287 k = zN σ0 287 k) ∧ zL σ 287 37 = yx odds seed r ∧ ∀ j : Nat, j < r → zN σ 301 j = yf W odds seed j ∧ zN σ 302 j = yt W odds seed j
theorem lp_269 {σ0 : zM} {W : Int → Int} {odds seed : Int} (hB : rB0 σ0 W) (h1 : 0 < W 1) (o0 : 0 ≤ odds) (o1 : odds ≤ 100) (s0 : 0 ≤ seed) (s1 : seed < 2147483648) : ∀ (k r : Nat) (σ : zM), (r : Int) + k = W 2 → yT σ0 σ W odds seed r → zwp (zev 269 8 [some (.ref 287), none, none, some (.int (Int32.ofInt odds)), some (.int (Int32.ofInt r))] [] σ) (fun v τ => v = none ∧ rK σ0 τ ∧ rcC τ W (CM W (yrD W odds seed)) (W 7))
  | 0, r, σ, e, hT => by
    have hW := hB.2.1
    have h5 := hW.2.2.1
    have h2 := hW.1.1.2.2.2.1
    obtain ⟨t1, t2, t3, t4⟩ := hT
    have e2 : zN σ 288 2 = W 2 := (t1.1 288 (by decide) 2).trans (wv_k hB.1 2)
    refine zwp_of (fun r h => ze_269_8 _ _ _ r h) ?_
    refine zwp_cd (by simp (disch := first | assumption | exact isR33 | exact isT104 | exact isF99 | exact isF101 | exact isR3 | omega | (refine isTk ?_; omega) | (refine isOk isR33 ?_; omega) | (refine isOk ?_ ?_; assumption; omega)) only [mm_r, mm_rl, mm_add, mm_sub, mm_mul, mm_addJ, mm_mulJ, mm_lt, mm_le, mm_eq, mm_z, mm_cl, mm_w, mm_wl, mm_ite, mm_i2l, mm_l2i, mm_ltJ, mm_leJ, mm_eqJ, mm_clt, mm_cle, mm_cgt, mm_cge, mm_ceq, mm_b, mm_nb, mm_nb0, mm_nb1, mm_vb0, mm_vb1, mm_vbc, mm_vy0, mm_vy1, mm_at, mm_ne, mm_nj, mm_Lw, mm_Nw, mm_atJ, mm_neJ, mm_njJ, zbI_s, zbV_s, zbJ_s, cond_t, Bool.true_and, Bool.and_true, if_true, if_false, not_true, not_false_iff, Classical.not_not, zel_r, zel_42, zel_12, zel_71, zel_80, zel_89, zel_110, zel_188, zel_103, zel_195, zr_o, zr_1, zr_2, zr_3, zr_4, zr_5, zr_6, zr_7, zr_8, zr_9, zq_o, zq_v, zt_o, zt_1, zt_2, zt_3, zt_4, zt_5, zf_o, zf_1, za_w1, za_w2, za_w3, za_cm, za_sl, Int.toNat_natCast, Int.toNat_natCast_add_one, mm_t0, mm_t1, mm_t2, mm_t3, mm_t4, mm_t5, mm_t6, mm_t7, mm_t8, mm_t9, mm_t10, mm_t11, mm_t12, mm_t13, za_1, za_64, za_65, za_66, za_67, za_68, za_71, za_80, za_89, za_98, za_103, za_110, za_121, za_122, za_123, za_124, za_125, za_126, za_188, za_193, za_194, za_195, za_286, za_288, za_289, za_290, za_291, za_292, za_293, za_294, za_295, za_296, za_297, za_298, za_299, za_300, za_301, za_302, za_303, za_304, za_305, za_306, za_307, za_308, za_309, za_310, za_311, za_312]) ?_
    refine zwp_t (by try simp (disch := first | assumption | exact isR33 | exact isT104 | exact isF99 | exact isF101 | exact isR3 | omega | (refine isTk ?_; omega) | (refine isOk isR33 ?_; omega) | (refine isOk ?_ ?_; assumption; omega)) only [mm_r, mm_rl, mm_add, mm_sub, mm_mul, mm_addJ, mm_mulJ, mm_lt, mm_le, mm_eq, mm_z, mm_cl, mm_w, mm_wl, mm_ite, mm_i2l, mm_l2i, mm_ltJ, mm_leJ, mm_eqJ, mm_clt, mm_cle, mm_cgt, mm_cge, mm_ceq, mm_b, mm_nb, mm_nb0, mm_nb1, mm_vb0, mm_vb1, mm_vbc, mm_vy0, mm_vy1, mm_at, mm_ne, mm_nj, mm_Lw, mm_Nw, mm_atJ, mm_neJ, mm_njJ, zbI_s, zbV_s, zbJ_s, cond_t, Bool.true_and, Bool.and_true, if_true, if_false, not_true, not_false_iff, Classical.not_not, zel_r, zel_42, zel_12, zel_71, zel_80, zel_89, zel_110, zel_188, zel_103, zel_195, zr_o, zr_1, zr_2, zr_3, zr_4, zr_5, zr_6, zr_7, zr_8, zr_9, zq_o, zq_v, zt_o, zt_1, zt_2, zt_3, zt_4, zt_5, zf_o, zf_1, za_w1, za_w2, za_w3, za_cm, za_sl, Int.toNat_natCast, Int.toNat_natCast_add_one, mm_t0, mm_t1, mm_t2, mm_t3, mm_t4, mm_t5, mm_t6, mm_t7, mm_t8, mm_t9, mm_t10, mm_t11, mm_t12, mm_t13, za_1, za_64, za_65, za_66, za_67, za_68, za_71, za_80, za_89, za_98, za_103, za_110, za_121, za_122, za_123, za_124, za_125, za_126, za_188, za_193, za_194, za_195, za_286, za_288, za_289, za_290, za_291, za_292, za_293, za_294, za_295, za_296, za_297, za_298, za_299, za_300, za_301, za_302, za_303, za_304, za_305, za_306, za_307, za_308, za_309, za_310, za_311, za_312, e2]
                     first | done | omega) ?_
    refine zwp_t (by decide) ?_
    refine zwp_letE (τ' := zw σ 287 24 1) (by simp (disch := first | assumption | exact isR33 | exact isT104 | exact isF99 | exact isF101 | exact isR3 | omega | (refine isTk ?_; omega) | (refine isOk isR33 ?_; omega) | (refine isOk ?_ ?_; assumption; omega)) only [mm_r, mm_rl, mm_add, mm_sub, mm_mul, mm_addJ, mm_mulJ, mm_lt, mm_le, mm_eq, mm_z, mm_cl, mm_w, mm_wl, mm_ite, mm_i2l, mm_l2i, mm_ltJ, mm_leJ, mm_eqJ, mm_clt, mm_cle, mm_cgt, mm_cge, mm_ceq, mm_b, mm_nb, mm_nb0, mm_nb1, mm_vb0, mm_vb1, mm_vbc, mm_vy0, mm_vy1, mm_at, mm_ne, mm_nj, mm_Lw, mm_Nw, mm_atJ, mm_neJ, mm_njJ, zbI_s, zbV_s, zbJ_s, cond_t, Bool.true_and, Bool.and_true, if_true, if_false, not_true, not_false_iff, Classical.not_not, zel_r, zel_42, zel_12, zel_71, zel_80, zel_89, zel_110, zel_188, zel_103, zel_195, zr_o, zr_1, zr_2, zr_3, zr_4, zr_5, zr_6, zr_7, zr_8, zr_9, zq_o, zq_v, zt_o, zt_1, zt_2, zt_3, zt_4, zt_5, zf_o, zf_1, za_w1, za_w2, za_w3, za_cm, za_sl, Int.toNat_natCast, Int.toNat_natCast_add_one, mm_t0, mm_t1, mm_t2, mm_t3, mm_t4, mm_t5, mm_t6, mm_t7, mm_t8, mm_t9, mm_t10, mm_t11, mm_t12, mm_t13, za_1, za_64, za_65, za_66, za_67, za_68, za_71, za_80, za_89, za_98, za_103, za_110, za_121, za_122, za_123, za_124, za_125, za_126, za_188, za_193, za_194, za_195, za_286, za_288, za_289, za_290, za_291, za_292, za_293, za_294, za_295, za_296, za_297, za_298, za_299, za_300, za_301, za_302, za_303, za_304, za_305, za_306, za_307, za_308, za_309, za_310, za_311, za_312]) ?_
    have hw : wv (zw σ 287 24 1) 288 = W := (wv_eq fun k => mm_ne (by decide)).trans ((t1.wv 288 (by decide)).trans hB.1)
    have hD : ∀ r' h, 0 ≤ r' → r' < W 2 → dR (zw σ 287 24 1) r' h = yrD W odds seed r' h := by
      intro r' h a b
      have e24 : zN (zw σ 287 24 1) 287 24 = 1 := mm_at rfl rfl (by decide) (by decide)
      obtain ⟨c1, c2⟩ := t4 r'.toNat (by omega)
      unfold dR yrD yDn
      rw [e24, mm_ne (by decide), mm_ne (by decide), c1, c2]
      exact decide_eq_decide.mpr ⟨fun p => ⟨a, b, p.2.1, p.2.2⟩, fun p => ⟨by decide, p.2.2.1, p.2.2.2⟩⟩
    refine zwp_V _ (sp_210 (D := dR (zw σ 287 24 1)) hW.1 (by omega) (by omega) (fun o o0 o1 => (hW.2.2.2.2 o o0 o1).1) hw rfl) ?_
    rintro τ ⟨hf, hg⟩
    refine zwp_t (by decide) ?_
    refine zwp_letE (τ' := zw τ 287 24 0) (by simp (disch := first | assumption | exact isR33 | exact isT104 | exact isF99 | exact isF101 | exact isR3 | omega | (refine isTk ?_; omega) | (refine isOk isR33 ?_; omega) | (refine isOk ?_ ?_; assumption; omega)) only [mm_r, mm_rl, mm_add, mm_sub, mm_mul, mm_addJ, mm_mulJ, mm_lt, mm_le, mm_eq, mm_z, mm_cl, mm_w, mm_wl, mm_ite, mm_i2l, mm_l2i, mm_ltJ, mm_leJ, mm_eqJ, mm_clt, mm_cle, mm_cgt, mm_cge, mm_ceq, mm_b, mm_nb, mm_nb0, mm_nb1, mm_vb0, mm_vb1, mm_vbc, mm_vy0, mm_vy1, mm_at, mm_ne, mm_nj, mm_Lw, mm_Nw, mm_atJ, mm_neJ, mm_njJ, zbI_s, zbV_s, zbJ_s, cond_t, Bool.true_and, Bool.and_true, if_true, if_false, not_true, not_false_iff, Classical.not_not, zel_r, zel_42, zel_12, zel_71, zel_80, zel_89, zel_110, zel_188, zel_103, zel_195, zr_o, zr_1, zr_2, zr_3, zr_4, zr_5, zr_6, zr_7, zr_8, zr_9, zq_o, zq_v, zt_o, zt_1, zt_2, zt_3, zt_4, zt_5, zf_o, zf_1, za_w1, za_w2, za_w3, za_cm, za_sl, Int.toNat_natCast, Int.toNat_natCast_add_one, mm_t0, mm_t1, mm_t2, mm_t3, mm_t4, mm_t5, mm_t6, mm_t7, mm_t8, mm_t9, mm_t10, mm_t11, mm_t12, mm_t13, za_1, za_64, za_65, za_66, za_67, za_68, za_71, za_80, za_89, za_98, za_103, za_110, za_121, za_122, za_123, za_124, za_125, za_126, za_188, za_193, za_194, za_195, za_286, za_288, za_289, za_290, za_291, za_292, za_293, za_294, za_295, za_296, za_297, za_298, za_299, za_300, za_301, za_302, za_303, za_304, za_305, za_306, za_307, za_308, za_309, za_310, za_311, za_312]) ?_
    have m1 : mf (fun b => b = 287 ∨ 294 ≤ b ∧ b ≤ 302) σ0 (zw τ 287 24 0) := (((t1.mono (by omega)).zw 287 24 1 (.inl rfl)).tr (hf.mono (by omega))).zw 287 24 0 (.inl rfl)
    have hc : rcC τ W (CM W (yrD W odds seed)) (W 7) := by
      obtain ⟨a, b, c, d⟩ := hg.rc
      refine ⟨a, b, fun o o0 o1 => ?_, d⟩
      obtain ⟨c1, c2, c3, c4, c5⟩ := c o o0 o1
      exact ⟨c1, c2, c3, c4, c5.trans (CM_F hW hD o0 o1)⟩
    refine zwp_ret ⟨rfl, ⟨m1.mono fun b hb => by unfold refS; omega, fun k hk => ?_, ?_⟩, hc.fr (fun k => mm_ne (by decide)) (fun k => mm_ne (by decide)) (fun k => mm_ne (by decide))⟩
    · by_cases z : k = 24
      · rw [z, mm_at rfl rfl (by decide) (by decide)]
        exact hB.2.2.1.symm
      · rw [mm_nj z, hf.1 287 (by decide), mm_nj z]
        exact t2 k
    · exact (m1.wv 288 (by decide))
  | k + 1, r, σ, e, hT => by
    have hW := hB.2.1
    have h2 := hW.1.1.2.2.2.1
    have h9 := hW.1.2.2.1
    obtain ⟨t1, t2, t3, t4⟩ := hT
    have e2 : zN σ 288 2 = W 2 := (t1.1 288 (by decide) 2).trans (wv_k hB.1 2)
    have xr := yx_rng (odds := odds) s0 s1 r
    have l1 := lg_rng (yx odds seed r)
    have l2 := lg_rng (lg (yx odds seed r))
    have l3 := lg_rng (lg (lg (yx odds seed r)))
    refine zwp_of (fun r h => ze_269_8 _ _ _ r h) ?_
    refine zwp_cd (by simp (disch := first | assumption | exact isR33 | exact isT104 | exact isF99 | exact isF101 | exact isR3 | omega | (refine isTk ?_; omega) | (refine isOk isR33 ?_; omega) | (refine isOk ?_ ?_; assumption; omega)) only [mm_r, mm_rl, mm_add, mm_sub, mm_mul, mm_addJ, mm_mulJ, mm_lt, mm_le, mm_eq, mm_z, mm_cl, mm_w, mm_wl, mm_ite, mm_i2l, mm_l2i, mm_ltJ, mm_leJ, mm_eqJ, mm_clt, mm_cle, mm_cgt, mm_cge, mm_ceq, mm_b, mm_nb, mm_nb0, mm_nb1, mm_vb0, mm_vb1, mm_vbc, mm_vy0, mm_vy1, mm_at, mm_ne, mm_nj, mm_Lw, mm_Nw, mm_atJ, mm_neJ, mm_njJ, zbI_s, zbV_s, zbJ_s, cond_t, Bool.true_and, Bool.and_true, if_true, if_false, not_true, not_false_iff, Classical.not_not, zel_r, zel_42, zel_12, zel_71, zel_80, zel_89, zel_110, zel_188, zel_103, zel_195, zr_o, zr_1, zr_2, zr_3, zr_4, zr_5, zr_6, zr_7, zr_8, zr_9, zq_o, zq_v, zt_o, zt_1, zt_2, zt_3, zt_4, zt_5, zf_o, zf_1, za_w1, za_w2, za_w3, za_cm, za_sl, Int.toNat_natCast, Int.toNat_natCast_add_one, mm_t0, mm_t1, mm_t2, mm_t3, mm_t4, mm_t5, mm_t6, mm_t7, mm_t8, mm_t9, mm_t10, mm_t11, mm_t12, mm_t13, za_1, za_64, za_65, za_66, za_67, za_68, za_71, za_80, za_89, za_98, za_103, za_110, za_121, za_122, za_123, za_124, za_125, za_126, za_188, za_193, za_194, za_195, za_286, za_288, za_289, za_290, za_291, za_292, za_293, za_294, za_295, za_296, za_297, za_298, za_299, za_300, za_301, za_302, za_303, za_304, za_305, za_306, za_307, za_308, za_309, za_310, za_311, za_312]) ?_
    refine zwp_f (by try simp (disch := first | assumption | exact isR33 | exact isT104 | exact isF99 | exact isF101 | exact isR3 | omega | (refine isTk ?_; omega) | (refine isOk isR33 ?_; omega) | (refine isOk ?_ ?_; assumption; omega)) only [mm_r, mm_rl, mm_add, mm_sub, mm_mul, mm_addJ, mm_mulJ, mm_lt, mm_le, mm_eq, mm_z, mm_cl, mm_w, mm_wl, mm_ite, mm_i2l, mm_l2i, mm_ltJ, mm_leJ, mm_eqJ, mm_clt, mm_cle, mm_cgt, mm_cge, mm_ceq, mm_b, mm_nb, mm_nb0, mm_nb1, mm_vb0, mm_vb1, mm_vbc, mm_vy0, mm_vy1, mm_at, mm_ne, mm_nj, mm_Lw, mm_Nw, mm_atJ, mm_neJ, mm_njJ, zbI_s, zbV_s, zbJ_s, cond_t, Bool.true_and, Bool.and_true, if_true, if_false, not_true, not_false_iff, Classical.not_not, zel_r, zel_42, zel_12, zel_71, zel_80, zel_89, zel_110, zel_188, zel_103, zel_195, zr_o, zr_1, zr_2, zr_3, zr_4, zr_5, zr_6, zr_7, zr_8, zr_9, zq_o, zq_v, zt_o, zt_1, zt_2, zt_3, zt_4, zt_5, zf_o, zf_1, za_w1, za_w2, za_w3, za_cm, za_sl, Int.toNat_natCast, Int.toNat_natCast_add_one, mm_t0, mm_t1, mm_t2, mm_t3, mm_t4, mm_t5, mm_t6, mm_t7, mm_t8, mm_t9, mm_t10, mm_t11, mm_t12, mm_t13, za_1, za_64, za_65, za_66, za_67, za_68, za_71, za_80, za_89, za_98, za_103, za_110, za_121, za_122, za_123, za_124, za_125, za_126, za_188, za_193, za_194, za_195, za_286, za_288, za_289, za_290, za_291, za_292, za_293, za_294, za_295, za_296, za_297, za_298, za_299, za_300, za_301, za_302, za_303, za_304, za_305, za_306, za_307, za_308, za_309, za_310, za_311, za_312, e2]
                     first | done | omega) ?_
    refine zwp_cd (by simp (disch := first | assumption | exact isR33 | exact isT104 | exact isF99 | exact isF101 | exact isR3 | omega | (refine isTk ?_; omega) | (refine isOk isR33 ?_; omega) | (refine isOk ?_ ?_; assumption; omega)) only [mm_r, mm_rl, mm_add, mm_sub, mm_mul, mm_addJ, mm_mulJ, mm_lt, mm_le, mm_eq, mm_z, mm_cl, mm_w, mm_wl, mm_ite, mm_i2l, mm_l2i, mm_ltJ, mm_leJ, mm_eqJ, mm_clt, mm_cle, mm_cgt, mm_cge, mm_ceq, mm_b, mm_nb, mm_nb0, mm_nb1, mm_vb0, mm_vb1, mm_vbc, mm_vy0, mm_vy1, mm_at, mm_ne, mm_nj, mm_Lw, mm_Nw, mm_atJ, mm_neJ, mm_njJ, zbI_s, zbV_s, zbJ_s, cond_t, Bool.true_and, Bool.and_true, if_true, if_false, not_true, not_false_iff, Classical.not_not, zel_r, zel_42, zel_12, zel_71, zel_80, zel_89, zel_110, zel_188, zel_103, zel_195, zr_o, zr_1, zr_2, zr_3, zr_4, zr_5, zr_6, zr_7, zr_8, zr_9, zq_o, zq_v, zt_o, zt_1, zt_2, zt_3, zt_4, zt_5, zf_o, zf_1, za_w1, za_w2, za_w3, za_cm, za_sl, Int.toNat_natCast, Int.toNat_natCast_add_one, mm_t0, mm_t1, mm_t2, mm_t3, mm_t4, mm_t5, mm_t6, mm_t7, mm_t8, mm_t9, mm_t10, mm_t11, mm_t12, mm_t13, za_1, za_64, za_65, za_66, za_67, za_68, za_71, za_80, za_89, za_98, za_103, za_110, za_121, za_122, za_123, za_124, za_125, za_126, za_188, za_193, za_194, za_195, za_286, za_288, za_289, za_290, za_291, za_292, za_293, za_294, za_295, za_296, za_297, za_298, za_299, za_300, za_301, za_302, za_303, za_304, za_305, za_306, za_307, za_308, za_309, za_310, za_311, za_312]) ?_
    refine zwp_letE (τ' := zw σ 301 r 0) (by simp (disch := first | assumption | exact isR33 | exact isT104 | exact isF99 | exact isF101 | exact isR3 | omega | (refine isTk ?_; omega) | (refine isOk isR33 ?_; omega) | (refine isOk ?_ ?_; assumption; omega)) only [mm_r, mm_rl, mm_add, mm_sub, mm_mul, mm_addJ, mm_mulJ, mm_lt, mm_le, mm_eq, mm_z, mm_cl, mm_w, mm_wl, mm_ite, mm_i2l, mm_l2i, mm_ltJ, mm_leJ, mm_eqJ, mm_clt, mm_cle, mm_cgt, mm_cge, mm_ceq, mm_b, mm_nb, mm_nb0, mm_nb1, mm_vb0, mm_vb1, mm_vbc, mm_vy0, mm_vy1, mm_at, mm_ne, mm_nj, mm_Lw, mm_Nw, mm_atJ, mm_neJ, mm_njJ, zbI_s, zbV_s, zbJ_s, cond_t, Bool.true_and, Bool.and_true, if_true, if_false, not_true, not_false_iff, Classical.not_not, zel_r, zel_42, zel_12, zel_71, zel_80, zel_89, zel_110, zel_188, zel_103, zel_195, zr_o, zr_1, zr_2, zr_3, zr_4, zr_5, zr_6, zr_7, zr_8, zr_9, zq_o, zq_v, zt_o, zt_1, zt_2, zt_3, zt_4, zt_5, zf_o, zf_1, za_w1, za_w2, za_w3, za_cm, za_sl, Int.toNat_natCast, Int.toNat_natCast_add_one, mm_t0, mm_t1, mm_t2, mm_t3, mm_t4, mm_t5, mm_t6, mm_t7, mm_t8, mm_t9, mm_t10, mm_t11, mm_t12, mm_t13, za_1, za_64, za_65, za_66, za_67, za_68, za_71, za_80, za_89, za_98, za_103, za_110, za_121, za_122, za_123, za_124, za_125, za_126, za_188, za_193, za_194, za_195, za_286, za_288, za_289, za_290, za_291, za_292, za_293, za_294, za_295, za_296, za_297, za_298, za_299, za_300, za_301, za_302, za_303, za_304, za_305, za_306, za_307, za_308, za_309, za_310, za_311, za_312]) ?_
    refine zwp_cd (by simp (disch := first | assumption | exact isR33 | exact isT104 | exact isF99 | exact isF101 | exact isR3 | omega | (refine isTk ?_; omega) | (refine isOk isR33 ?_; omega) | (refine isOk ?_ ?_; assumption; omega)) only [mm_r, mm_rl, mm_add, mm_sub, mm_mul, mm_addJ, mm_mulJ, mm_lt, mm_le, mm_eq, mm_z, mm_cl, mm_w, mm_wl, mm_ite, mm_i2l, mm_l2i, mm_ltJ, mm_leJ, mm_eqJ, mm_clt, mm_cle, mm_cgt, mm_cge, mm_ceq, mm_b, mm_nb, mm_nb0, mm_nb1, mm_vb0, mm_vb1, mm_vbc, mm_vy0, mm_vy1, mm_at, mm_ne, mm_nj, mm_Lw, mm_Nw, mm_atJ, mm_neJ, mm_njJ, zbI_s, zbV_s, zbJ_s, cond_t, Bool.true_and, Bool.and_true, if_true, if_false, not_true, not_false_iff, Classical.not_not, zel_r, zel_42, zel_12, zel_71, zel_80, zel_89, zel_110, zel_188, zel_103, zel_195, zr_o, zr_1, zr_2, zr_3, zr_4, zr_5, zr_6, zr_7, zr_8, zr_9, zq_o, zq_v, zt_o, zt_1, zt_2, zt_3, zt_4, zt_5, zf_o, zf_1, za_w1, za_w2, za_w3, za_cm, za_sl, Int.toNat_natCast, Int.toNat_natCast_add_one, mm_t0, mm_t1, mm_t2, mm_t3, mm_t4, mm_t5, mm_t6, mm_t7, mm_t8, mm_t9, mm_t10, mm_t11, mm_t12, mm_t13, za_1, za_64, za_65, za_66, za_67, za_68, za_71, za_80, za_89, za_98, za_103, za_110, za_121, za_122, za_123, za_124, za_125, za_126, za_188, za_193, za_194, za_195, za_286, za_288, za_289, za_290, za_291, za_292, za_293, za_294, za_295, za_296, za_297, za_298, za_299, za_300, za_301, za_302, za_303, za_304, za_305, za_306, za_307, za_308, za_309, za_310, za_311, za_312]) ?_
    refine zwp_letE (τ' := zw (zw σ 301 r 0) 302 r (-1)) (by simp (disch := first | assumption | exact isR33 | exact isT104 | exact isF99 | exact isF101 | exact isR3 | omega | (refine isTk ?_; omega) | (refine isOk isR33 ?_; omega) | (refine isOk ?_ ?_; assumption; omega)) only [mm_r, mm_rl, mm_add, mm_sub, mm_mul, mm_addJ, mm_mulJ, mm_lt, mm_le, mm_eq, mm_z, mm_cl, mm_w, mm_wl, mm_ite, mm_i2l, mm_l2i, mm_ltJ, mm_leJ, mm_eqJ, mm_clt, mm_cle, mm_cgt, mm_cge, mm_ceq, mm_b, mm_nb, mm_nb0, mm_nb1, mm_vb0, mm_vb1, mm_vbc, mm_vy0, mm_vy1, mm_at, mm_ne, mm_nj, mm_Lw, mm_Nw, mm_atJ, mm_neJ, mm_njJ, zbI_s, zbV_s, zbJ_s, cond_t, Bool.true_and, Bool.and_true, if_true, if_false, not_true, not_false_iff, Classical.not_not, zel_r, zel_42, zel_12, zel_71, zel_80, zel_89, zel_110, zel_188, zel_103, zel_195, zr_o, zr_1, zr_2, zr_3, zr_4, zr_5, zr_6, zr_7, zr_8, zr_9, zq_o, zq_v, zt_o, zt_1, zt_2, zt_3, zt_4, zt_5, zf_o, zf_1, za_w1, za_w2, za_w3, za_cm, za_sl, Int.toNat_natCast, Int.toNat_natCast_add_one, mm_t0, mm_t1, mm_t2, mm_t3, mm_t4, mm_t5, mm_t6, mm_t7, mm_t8, mm_t9, mm_t10, mm_t11, mm_t12, mm_t13, za_1, za_64, za_65, za_66, za_67, za_68, za_71, za_80, za_89, za_98, za_103, za_110, za_121, za_122, za_123, za_124, za_125, za_126, za_188, za_193, za_194, za_195, za_286, za_288, za_289, za_290, za_291, za_292, za_293, za_294, za_295, za_296, za_297, za_298, za_299, za_300, za_301, za_302, za_303, za_304, za_305, za_306, za_307, za_308, za_309, za_310, za_311, za_312]) ?_
    refine zwp_IE (sp_268 (σ := zw (zw σ 301 r 0) 302 r (-1)) (by decide) (by decide) t3 xr.1 xr.2) ?_
    rintro τ rfl
    have e3 : zL (zwl (zw (zw σ 301 r 0) 302 r (-1)) 287 37 (lg (yx odds seed r))) 287 37 = lg (yx odds seed r) := mm_atJ rfl rfl (by omega) (by omega)
    have m3 : mf (fun b => b = 287 ∨ b = 301 ∨ b = 302) σ0 (zwl (zw (zw σ 301 r 0) 302 r (-1)) 287 37 (lg (yx odds seed r))) := ((t1.zw 301 r 0 (.inr (.inl rfl))).zw 302 r (-1) (.inr (.inr rfl))).zwl 287 37 _ (.inl rfl)
    have a3 : ∀ b j, zN (zwl (zw (zw σ 301 r 0) 302 r (-1)) 287 37 (lg (yx odds seed r))) b j = zN (zw (zw σ 301 r 0) 302 r (-1)) b j := fun b j => rfl
    generalize zwl (zw (zw σ 301 r 0) 302 r (-1)) 287 37 (lg (yx odds seed r)) = τ at e3 m3 a3 ⊢
    by_cases q : lg (yx odds seed r) / 65536 % 100 < odds
    · refine zwp_t (by rw [mm_lt (by omega) (by omega) (by omega) (by omega)]; omega) ?_
      refine zwp_cd (by simp (disch := first | assumption | exact isR33 | exact isT104 | exact isF99 | exact isF101 | exact isR3 | omega | (refine isTk ?_; omega) | (refine isOk isR33 ?_; omega) | (refine isOk ?_ ?_; assumption; omega)) only [mm_r, mm_rl, mm_add, mm_sub, mm_mul, mm_addJ, mm_mulJ, mm_lt, mm_le, mm_eq, mm_z, mm_cl, mm_w, mm_wl, mm_ite, mm_i2l, mm_l2i, mm_ltJ, mm_leJ, mm_eqJ, mm_clt, mm_cle, mm_cgt, mm_cge, mm_ceq, mm_b, mm_nb, mm_nb0, mm_nb1, mm_vb0, mm_vb1, mm_vbc, mm_vy0, mm_vy1, mm_at, mm_ne, mm_nj, mm_Lw, mm_Nw, mm_atJ, mm_neJ, mm_njJ, zbI_s, zbV_s, zbJ_s, cond_t, Bool.true_and, Bool.and_true, if_true, if_false, not_true, not_false_iff, Classical.not_not, zel_r, zel_42, zel_12, zel_71, zel_80, zel_89, zel_110, zel_188, zel_103, zel_195, zr_o, zr_1, zr_2, zr_3, zr_4, zr_5, zr_6, zr_7, zr_8, zr_9, zq_o, zq_v, zt_o, zt_1, zt_2, zt_3, zt_4, zt_5, zf_o, zf_1, za_w1, za_w2, za_w3, za_cm, za_sl, Int.toNat_natCast, Int.toNat_natCast_add_one, mm_t0, mm_t1, mm_t2, mm_t3, mm_t4, mm_t5, mm_t6, mm_t7, mm_t8, mm_t9, mm_t10, mm_t11, mm_t12, mm_t13, za_1, za_64, za_65, za_66, za_67, za_68, za_71, za_80, za_89, za_98, za_103, za_110, za_121, za_122, za_123, za_124, za_125, za_126, za_188, za_193, za_194, za_195, za_286, za_288, za_289, za_290, za_291, za_292, za_293, za_294, za_295, za_296, za_297, za_298, za_299, za_300, za_301, za_302, za_303, za_304, za_305, za_306, za_307, za_308, za_309, za_310, za_311, za_312]) ?_
      have e1 : zN τ 288 1 = W 1 := (m3.1 288 (by decide) 1).trans (wv_k hB.1 1)
      rw [mm_cl (by decide) (by decide), mm_r τ 288, show ((1 : Int)).toNat = 1 from rfl, e1]
      refine zwp_IE (sp_268 h1 (by omega) e3 l1.1 l1.2) ?_
      rintro υ rfl
      have e4 : zL (zwl τ 287 37 (lg (lg (yx odds seed r)))) 287 37 = lg (lg (yx odds seed r)) := mm_atJ rfl rfl (by omega) (by omega)
      have m0 := Int.emod_nonneg (lg (lg (yx odds seed r)) / 65536) (show W 1 ≠ 0 by omega)
      have m1 := Int.emod_lt_of_pos (lg (lg (yx odds seed r)) / 65536) h1
      generalize hf1 : lg (lg (yx odds seed r)) / 65536 % W 1 = f1 at m0 m1 ⊢
      refine zwp_cd (by simp (disch := first | assumption | exact isR33 | exact isT104 | exact isF99 | exact isF101 | exact isR3 | omega | (refine isTk ?_; omega) | (refine isOk isR33 ?_; omega) | (refine isOk ?_ ?_; assumption; omega)) only [mm_r, mm_rl, mm_add, mm_sub, mm_mul, mm_addJ, mm_mulJ, mm_lt, mm_le, mm_eq, mm_z, mm_cl, mm_w, mm_wl, mm_ite, mm_i2l, mm_l2i, mm_ltJ, mm_leJ, mm_eqJ, mm_clt, mm_cle, mm_cgt, mm_cge, mm_ceq, mm_b, mm_nb, mm_nb0, mm_nb1, mm_vb0, mm_vb1, mm_vbc, mm_vy0, mm_vy1, mm_at, mm_ne, mm_nj, mm_Lw, mm_Nw, mm_atJ, mm_neJ, mm_njJ, zbI_s, zbV_s, zbJ_s, cond_t, Bool.true_and, Bool.and_true, if_true, if_false, not_true, not_false_iff, Classical.not_not, zel_r, zel_42, zel_12, zel_71, zel_80, zel_89, zel_110, zel_188, zel_103, zel_195, zr_o, zr_1, zr_2, zr_3, zr_4, zr_5, zr_6, zr_7, zr_8, zr_9, zq_o, zq_v, zt_o, zt_1, zt_2, zt_3, zt_4, zt_5, zf_o, zf_1, za_w1, za_w2, za_w3, za_cm, za_sl, Int.toNat_natCast, Int.toNat_natCast_add_one, mm_t0, mm_t1, mm_t2, mm_t3, mm_t4, mm_t5, mm_t6, mm_t7, mm_t8, mm_t9, mm_t10, mm_t11, mm_t12, mm_t13, za_1, za_64, za_65, za_66, za_67, za_68, za_71, za_80, za_89, za_98, za_103, za_110, za_121, za_122, za_123, za_124, za_125, za_126, za_188, za_193, za_194, za_195, za_286, za_288, za_289, za_290, za_291, za_292, za_293, za_294, za_295, za_296, za_297, za_298, za_299, za_300, za_301, za_302, za_303, za_304, za_305, za_306, za_307, za_308, za_309, za_310, za_311, za_312]) ?_
      refine zwp_letE (τ' := zw (zwl τ 287 37 (lg (lg (yx odds seed r)))) 301 r f1) (by simp (disch := first | assumption | exact isR33 | exact isT104 | exact isF99 | exact isF101 | exact isR3 | omega | (refine isTk ?_; omega) | (refine isOk isR33 ?_; omega) | (refine isOk ?_ ?_; assumption; omega)) only [mm_r, mm_rl, mm_add, mm_sub, mm_mul, mm_addJ, mm_mulJ, mm_lt, mm_le, mm_eq, mm_z, mm_cl, mm_w, mm_wl, mm_ite, mm_i2l, mm_l2i, mm_ltJ, mm_leJ, mm_eqJ, mm_clt, mm_cle, mm_cgt, mm_cge, mm_ceq, mm_b, mm_nb, mm_nb0, mm_nb1, mm_vb0, mm_vb1, mm_vbc, mm_vy0, mm_vy1, mm_at, mm_ne, mm_nj, mm_Lw, mm_Nw, mm_atJ, mm_neJ, mm_njJ, zbI_s, zbV_s, zbJ_s, cond_t, Bool.true_and, Bool.and_true, if_true, if_false, not_true, not_false_iff, Classical.not_not, zel_r, zel_42, zel_12, zel_71, zel_80, zel_89, zel_110, zel_188, zel_103, zel_195, zr_o, zr_1, zr_2, zr_3, zr_4, zr_5, zr_6, zr_7, zr_8, zr_9, zq_o, zq_v, zt_o, zt_1, zt_2, zt_3, zt_4, zt_5, zf_o, zf_1, za_w1, za_w2, za_w3, za_cm, za_sl, Int.toNat_natCast, Int.toNat_natCast_add_one, mm_t0, mm_t1, mm_t2, mm_t3, mm_t4, mm_t5, mm_t6, mm_t7, mm_t8, mm_t9, mm_t10, mm_t11, mm_t12, mm_t13, za_1, za_64, za_65, za_66, za_67, za_68, za_71, za_80, za_89, za_98, za_103, za_110, za_121, za_122, za_123, za_124, za_125, za_126, za_188, za_193, za_194, za_195, za_286, za_288, za_289, za_290, za_291, za_292, za_293, za_294, za_295, za_296, za_297, za_298, za_299, za_300, za_301, za_302, za_303, za_304, za_305, za_306, za_307, za_308, za_309, za_310, za_311, za_312]) ?_
      refine zwp_cd (by simp (disch := first | assumption | exact isR33 | exact isT104 | exact isF99 | exact isF101 | exact isR3 | omega | (refine isTk ?_; omega) | (refine isOk isR33 ?_; omega) | (refine isOk ?_ ?_; assumption; omega)) only [mm_r, mm_rl, mm_add, mm_sub, mm_mul, mm_addJ, mm_mulJ, mm_lt, mm_le, mm_eq, mm_z, mm_cl, mm_w, mm_wl, mm_ite, mm_i2l, mm_l2i, mm_ltJ, mm_leJ, mm_eqJ, mm_clt, mm_cle, mm_cgt, mm_cge, mm_ceq, mm_b, mm_nb, mm_nb0, mm_nb1, mm_vb0, mm_vb1, mm_vbc, mm_vy0, mm_vy1, mm_at, mm_ne, mm_nj, mm_Lw, mm_Nw, mm_atJ, mm_neJ, mm_njJ, zbI_s, zbV_s, zbJ_s, cond_t, Bool.true_and, Bool.and_true, if_true, if_false, not_true, not_false_iff, Classical.not_not, zel_r, zel_42, zel_12, zel_71, zel_80, zel_89, zel_110, zel_188, zel_103, zel_195, zr_o, zr_1, zr_2, zr_3, zr_4, zr_5, zr_6, zr_7, zr_8, zr_9, zq_o, zq_v, zt_o, zt_1, zt_2, zt_3, zt_4, zt_5, zf_o, zf_1, za_w1, za_w2, za_w3, za_cm, za_sl, Int.toNat_natCast, Int.toNat_natCast_add_one, mm_t0, mm_t1, mm_t2, mm_t3, mm_t4, mm_t5, mm_t6, mm_t7, mm_t8, mm_t9, mm_t10, mm_t11, mm_t12, mm_t13, za_1, za_64, za_65, za_66, za_67, za_68, za_71, za_80, za_89, za_98, za_103, za_110, za_121, za_122, za_123, za_124, za_125, za_126, za_188, za_193, za_194, za_195, za_286, za_288, za_289, za_290, za_291, za_292, za_293, za_294, za_295, za_296, za_297, za_298, za_299, za_300, za_301, za_302, za_303, za_304, za_305, za_306, za_307, za_308, za_309, za_310, za_311, za_312]) ?_
      refine zwp_IE (sp_268 (σ := zw (zwl τ 287 37 (lg (lg (yx odds seed r)))) 301 r f1) (by decide) (by decide) e4 l2.1 l2.2) ?_
      rintro υ rfl
      refine zwp_cd (by simp (disch := first | assumption | exact isR33 | exact isT104 | exact isF99 | exact isF101 | exact isR3 | omega | (refine isTk ?_; omega) | (refine isOk isR33 ?_; omega) | (refine isOk ?_ ?_; assumption; omega)) only [mm_r, mm_rl, mm_add, mm_sub, mm_mul, mm_addJ, mm_mulJ, mm_lt, mm_le, mm_eq, mm_z, mm_cl, mm_w, mm_wl, mm_ite, mm_i2l, mm_l2i, mm_ltJ, mm_leJ, mm_eqJ, mm_clt, mm_cle, mm_cgt, mm_cge, mm_ceq, mm_b, mm_nb, mm_nb0, mm_nb1, mm_vb0, mm_vb1, mm_vbc, mm_vy0, mm_vy1, mm_at, mm_ne, mm_nj, mm_Lw, mm_Nw, mm_atJ, mm_neJ, mm_njJ, zbI_s, zbV_s, zbJ_s, cond_t, Bool.true_and, Bool.and_true, if_true, if_false, not_true, not_false_iff, Classical.not_not, zel_r, zel_42, zel_12, zel_71, zel_80, zel_89, zel_110, zel_188, zel_103, zel_195, zr_o, zr_1, zr_2, zr_3, zr_4, zr_5, zr_6, zr_7, zr_8, zr_9, zq_o, zq_v, zt_o, zt_1, zt_2, zt_3, zt_4, zt_5, zf_o, zf_1, za_w1, za_w2, za_w3, za_cm, za_sl, Int.toNat_natCast, Int.toNat_natCast_add_one, mm_t0, mm_t1, mm_t2, mm_t3, mm_t4, mm_t5, mm_t6, mm_t7, mm_t8, mm_t9, mm_t10, mm_t11, mm_t12, mm_t13, za_1, za_64, za_65, za_66, za_67, za_68, za_71, za_80, za_89, za_98, za_103, za_110, za_121, za_122, za_123, za_124, za_125, za_126, za_188, za_193, za_194, za_195, za_286, za_288, za_289, za_290, za_291, za_292, za_293, za_294, za_295, za_296, za_297, za_298, za_299, za_300, za_301, za_302, za_303, za_304, za_305, za_306, za_307, za_308, za_309, za_310, za_311, za_312]) ?_
      have e5 : zN (zw (zwl τ 287 37 (lg (lg (yx odds seed r)))) 301 r f1) 301 r = f1 := mm_at rfl rfl (by omega) (by omega)
      refine zwp_letE (τ' := zw (zwl (zw (zwl τ 287 37 (lg (lg (yx odds seed r)))) 301 r f1) 287 37 (lg (lg (lg (yx odds seed r))))) 302 r (f1 + lg (lg (lg (yx odds seed r))) / 65536 % 12)) (by simp (disch := first | assumption | exact isR33 | exact isT104 | exact isF99 | exact isF101 | exact isR3 | omega | (refine isTk ?_; omega) | (refine isOk isR33 ?_; omega) | (refine isOk ?_ ?_; assumption; omega)) only [mm_r, mm_rl, mm_add, mm_sub, mm_mul, mm_addJ, mm_mulJ, mm_lt, mm_le, mm_eq, mm_z, mm_cl, mm_w, mm_wl, mm_ite, mm_i2l, mm_l2i, mm_ltJ, mm_leJ, mm_eqJ, mm_clt, mm_cle, mm_cgt, mm_cge, mm_ceq, mm_b, mm_nb, mm_nb0, mm_nb1, mm_vb0, mm_vb1, mm_vbc, mm_vy0, mm_vy1, mm_at, mm_ne, mm_nj, mm_Lw, mm_Nw, mm_atJ, mm_neJ, mm_njJ, zbI_s, zbV_s, zbJ_s, cond_t, Bool.true_and, Bool.and_true, if_true, if_false, not_true, not_false_iff, Classical.not_not, zel_r, zel_42, zel_12, zel_71, zel_80, zel_89, zel_110, zel_188, zel_103, zel_195, zr_o, zr_1, zr_2, zr_3, zr_4, zr_5, zr_6, zr_7, zr_8, zr_9, zq_o, zq_v, zt_o, zt_1, zt_2, zt_3, zt_4, zt_5, zf_o, zf_1, za_w1, za_w2, za_w3, za_cm, za_sl, Int.toNat_natCast, Int.toNat_natCast_add_one, mm_t0, mm_t1, mm_t2, mm_t3, mm_t4, mm_t5, mm_t6, mm_t7, mm_t8, mm_t9, mm_t10, mm_t11, mm_t12, mm_t13, za_1, za_64, za_65, za_66, za_67, za_68, za_71, za_80, za_89, za_98, za_103, za_110, za_121, za_122, za_123, za_124, za_125, za_126, za_188, za_193, za_194, za_195, za_286, za_288, za_289, za_290, za_291, za_292, za_293, za_294, za_295, za_296, za_297, za_298, za_299, za_300, za_301, za_302, za_303, za_304, za_305, za_306, za_307, za_308, za_309, za_310, za_311, za_312, e5]) ?_
      rw [mm_add]
      refine lp_269 hB h1 o0 o1 s0 s1 k (r + 1) _ (by omega) ⟨(((m3.zwl 287 37 _ (.inl rfl)).zw 301 r _ (.inr (.inl rfl))).zwl 287 37 _ (.inl rfl)).zw 302 r _ (.inr (.inr rfl)), fun j => ?_, ?_, fun j hj => ?_⟩
      · rw [mm_ne (by decide), mm_Nw, mm_ne (by decide), mm_Nw, a3, mm_ne (by decide), mm_ne (by decide)]
        exact t2 j
      · rw [mm_Lw, mm_atJ rfl rfl (by omega) (by omega), yx, if_pos q]
      · unfold yf yt
        by_cases z : j = r
        · rw [z, if_pos q, if_pos q, hf1]
          refine ⟨?_, mm_at rfl rfl (by omega) (by omega)⟩
          rw [mm_ne (by decide), mm_Nw]
          exact e5
        · refine ⟨?_, ?_⟩
          · rw [mm_ne (by decide), mm_Nw, mm_nj z, mm_Nw, a3, mm_ne (by decide), mm_nj z]
            exact (t4 j (by omega)).1
          · rw [mm_nj z, mm_Nw, mm_ne (by decide), mm_Nw, a3, mm_nj z, mm_ne (by decide)]
            exact (t4 j (by omega)).2
    · refine zwp_f (by rw [mm_lt (by omega) (by omega) (by omega) (by omega)]; omega) ?_
      rw [mm_add]
      refine lp_269 hB h1 o0 o1 s0 s1 k (r + 1) _ (by omega) ⟨m3, fun j => ?_, ?_, fun j hj => ?_⟩
      · rw [a3, mm_ne (by decide), mm_ne (by decide)]
        exact t2 j
      · rw [e3, yx, if_neg q]
      · unfold yf yt
        by_cases z : j = r
        · rw [z, if_neg q, if_neg q, a3, a3]
          refine ⟨?_, mm_at rfl rfl (by omega) (by omega)⟩
          rw [mm_ne (by decide)]
          exact mm_at rfl rfl (by omega) (by omega)
        · refine ⟨?_, ?_⟩
          · rw [a3, mm_ne (by decide), mm_nj z]
            exact (t4 j (by omega)).1
          · rw [a3, mm_nj z, mm_ne (by decide)]
            exact (t4 j (by omega)).2
theorem sp_269 {σ : zM} {W : Int → Int} {odds seed : Int} (hB : rB0 σ W) (h1 : 0 < W 1) (o0 : 0 ≤ odds) (o1 : odds ≤ 100) (s0 : 0 ≤ seed) (s1 : seed < 2147483648) : zwp (zcall 269 [.ref 287, .long (Int64.ofInt seed), .int (Int32.ofInt odds)] σ) (fun v τ => v = none ∧ rK σ τ ∧ rcC τ W (CM W (yrD W odds seed)) (W 7)) := by
  refine zwp_of (fun r h => zcc_269 (ze_269_0 _ _ _ r h)) ?_
  refine zwp_let ?_
  rw [mm_wl]
  exact lp_269 (σ0 := σ) hB h1 o0 o1 s0 s1 (W 2).toNat 0 _ (by have := hB.2.1.1.1.2.2.1; omega) ⟨mf.rf.zwl 287 37 _ (.inl rfl), fun k => rfl, mm_atJ rfl rfl (by omega) (by omega), fun j hj => absurd hj (by omega)⟩
theorem rq_year {σ : zM} {W : Int → Int} {seed odds o : Int} (hB : rB0 σ W) (hs0 : -2147483648 ≤ seed) (hs1 : seed < 2147483648) (hd0 : -2147483648 ≤ odds) (hd1 : odds < 2147483648) (ho0 : -2147483648 ≤ o) (ho1 : o < 2147483648) : zwp (zcall 271 [.ref 287, .int (Int32.ofInt seed), .int (Int32.ofInt odds), .int (Int32.ofInt o)] σ) (fun v τ => v = some (.int (Int32.ofInt (Eyr W seed odds o))) ∧ rK σ τ) := by
  have hW := hB.2.1
  have h5 := hW.2.2.1
  have e5 : zN σ 288 5 = W 5 := wv_k hB.1 5
  have s := sp_170 (n := o) (σ := σ) (by omega) (by omega) (by omega)
  rw [e5] at s
  unfold Eyr
  refine zwp_of (fun r h => zcc_271 (ze_271_0 _ _ _ _ r h)) ?_
  rw [sp_270 hs0 hs1 hd0 hd1, zbI_s]
  simp only [mm_z, mm_b]
  refine zwp_ite (fun q => ?_) (fun q => ?_)
  · rw [if_neg (fun p => q ⟨p.1, p.2.1⟩)]
    exact zwp_ret ⟨rfl, rK.rf⟩
  · have q := Classical.not_not.mp q
    rw [show (Int32.ofInt o).toInt64 = Int64.ofInt o from mm_i2l ho0 ho1, s, zbI_s]
    simp only [mm_b, Classical.not_not]
    refine zwp_ite (fun q3 => ?_) (fun q3 => ?_)
    · rw [if_pos (⟨q.1, q.2, q3⟩ : isSd seed ∧ isOd odds ∧ inO W o)]
      have ho := hW.2.2.2.2 o q3.1 q3.2
      have h1 : 0 < W 1 := by have := ho.2.1; have := ho.1.2.2.2.2.2.2.2.1; omega
      rw [mm_i2l hs0 hs1]
      refine zwp_V _ (sp_269 hB h1 q.2.1 q.2.2 q.1.1 (by omega)) ?_
      rintro τ ⟨hk, hc⟩
      refine zwp_cd (by simp (disch := first | assumption | exact isR33 | exact isT104 | exact isF99 | exact isF101 | exact isR3 | omega | (refine isTk ?_; omega) | (refine isOk isR33 ?_; omega) | (refine isOk ?_ ?_; assumption; omega)) only [mm_r, mm_rl, mm_add, mm_sub, mm_mul, mm_addJ, mm_mulJ, mm_lt, mm_le, mm_eq, mm_z, mm_cl, mm_w, mm_wl, mm_ite, mm_i2l, mm_l2i, mm_ltJ, mm_leJ, mm_eqJ, mm_clt, mm_cle, mm_cgt, mm_cge, mm_ceq, mm_b, mm_nb, mm_nb0, mm_nb1, mm_vb0, mm_vb1, mm_vbc, mm_vy0, mm_vy1, mm_at, mm_ne, mm_nj, mm_Lw, mm_Nw, mm_atJ, mm_neJ, mm_njJ, zbI_s, zbV_s, zbJ_s, cond_t, Bool.true_and, Bool.and_true, if_true, if_false, not_true, not_false_iff, Classical.not_not, zel_r, zel_42, zel_12, zel_71, zel_80, zel_89, zel_110, zel_188, zel_103, zel_195, zr_o, zr_1, zr_2, zr_3, zr_4, zr_5, zr_6, zr_7, zr_8, zr_9, zq_o, zq_v, zt_o, zt_1, zt_2, zt_3, zt_4, zt_5, zf_o, zf_1, za_w1, za_w2, za_w3, za_cm, za_sl, Int.toNat_natCast, Int.toNat_natCast_add_one, mm_t0, mm_t1, mm_t2, mm_t3, mm_t4, mm_t5, mm_t6, mm_t7, mm_t8, mm_t9, mm_t10, mm_t11, mm_t12, mm_t13, za_1, za_64, za_65, za_66, za_67, za_68, za_71, za_80, za_89, za_98, za_103, za_110, za_121, za_122, za_123, za_124, za_125, za_126, za_188, za_193, za_194, za_195, za_286, za_288, za_289, za_290, za_291, za_292, za_293, za_294, za_295, za_296, za_297, za_298, za_299, za_300, za_301, za_302, za_303, za_304, za_305, za_306, za_307, za_308, za_309, za_310, za_311, za_312]) ?_
      have e9 := (hc.2.2.1 o q3.1 q3.2).2.2.2.2
      rw [mm_cl (by omega) (by omega), mm_r, e9]
      exact zwp_ret ⟨rfl, hk⟩
    · rw [if_neg (fun p => q3 p.2.2)]
      exact zwp_ret ⟨rfl, rK.rf⟩
theorem rB0.k {σ τ : zM} {W : Int → Int} (h : rB0 σ W) (hk : rK σ τ) : rB0 τ W := ⟨hk.2.2.trans h.1, h.2.1, (hk.2.1 24 (by omega)).trans h.2.2.1, (hk.2.1 25 (by omega)).trans h.2.2.2⟩
theorem lp_272 {σ0 : zM} {W : Int → Int} {seed n odds t g says h : Int} (hB : rB0 σ0 W) (h1 : 0 < W 1) (q : isSd seed) (n0 : 1 ≤ n) (n1 : n ≤ 20) (q2 : isOd odds) (ht0 : -2147483648 ≤ t) (ht1 : t < 2147483648) (hg0 : -2147483648 ≤ g) (hg1 : g < 2147483648) (s0 : -1 ≤ says) (s1 : says < 10) (hh0 : -2147483648 ≤ h) (hh1 : h < 2147483648) : ∀ (k m : Nat) (σ : zM), (m : Int) + k = n → rK σ0 σ → zwp (zev 272 51 [some (.ref 287), some (.int (Int32.ofInt seed)), some (.int (Int32.ofInt n)), some (.int (Int32.ofInt odds)), some (.int (Int32.ofInt t)), some (.int (Int32.ofInt g)), some (.int (Int32.ofInt says)), some (.int (Int32.ofInt h)), some (.int (Int32.ofInt (zcnt (yP W seed odds t g says h) m))), some (.int (Int32.ofInt m))] [] σ) (fun v τ => v = some (.int (Int32.ofInt (zcnt (yP W seed odds t g says h) n.toNat))) ∧ rK σ0 τ)
  | 0, m, σ, e, hk => by
    refine zwp_of (fun r h => ze_272_51 _ _ _ _ _ _ _ _ _ _ r h) ?_
    refine zwp_t (by try simp (disch := first | assumption | exact isR33 | exact isT104 | exact isF99 | exact isF101 | exact isR3 | omega | (refine isTk ?_; omega) | (refine isOk isR33 ?_; omega) | (refine isOk ?_ ?_; assumption; omega)) only [mm_r, mm_rl, mm_add, mm_sub, mm_mul, mm_addJ, mm_mulJ, mm_lt, mm_le, mm_eq, mm_z, mm_cl, mm_w, mm_wl, mm_ite, mm_i2l, mm_l2i, mm_ltJ, mm_leJ, mm_eqJ, mm_clt, mm_cle, mm_cgt, mm_cge, mm_ceq, mm_b, mm_nb, mm_nb0, mm_nb1, mm_vb0, mm_vb1, mm_vbc, mm_vy0, mm_vy1, mm_at, mm_ne, mm_nj, mm_Lw, mm_Nw, mm_atJ, mm_neJ, mm_njJ, zbI_s, zbV_s, zbJ_s, cond_t, Bool.true_and, Bool.and_true, if_true, if_false, not_true, not_false_iff, Classical.not_not, zel_r, zel_42, zel_12, zel_71, zel_80, zel_89, zel_110, zel_188, zel_103, zel_195, zr_o, zr_1, zr_2, zr_3, zr_4, zr_5, zr_6, zr_7, zr_8, zr_9, zq_o, zq_v, zt_o, zt_1, zt_2, zt_3, zt_4, zt_5, zf_o, zf_1, za_w1, za_w2, za_w3, za_cm, za_sl, Int.toNat_natCast, Int.toNat_natCast_add_one, mm_t0, mm_t1, mm_t2, mm_t3, mm_t4, mm_t5, mm_t6, mm_t7, mm_t8, mm_t9, mm_t10, mm_t11, mm_t12, mm_t13, za_1, za_64, za_65, za_66, za_67, za_68, za_71, za_80, za_89, za_98, za_103, za_110, za_121, za_122, za_123, za_124, za_125, za_126, za_188, za_193, za_194, za_195, za_286, za_288, za_289, za_290, za_291, za_292, za_293, za_294, za_295, za_296, za_297, za_298, za_299, za_300, za_301, za_302, za_303, za_304, za_305, za_306, za_307, za_308, za_309, za_310, za_311, za_312]
                     first | done | omega) ?_
    rw [show n.toNat = m by omega]
    exact zwp_ret ⟨rfl, hk⟩
  | k + 1, m, σ, e, hk => by
    have hW := hB.2.1
    have ez : zcnt (yP W seed odds t g says h) (m + 1) = zcnt (yP W seed odds t g says h) m + if yP W seed odds t g says h m = true then 1 else 0 := rfl
    have eP : (yP W seed odds t g says h m = true) ↔ HH W (CM W (yrD W odds (seed + m))) (W 7) t g h = says := by
      unfold yP
      rw [decide_eq_true_eq]
    simp only [eP] at ez
    refine zwp_of (fun r h => ze_272_51 _ _ _ _ _ _ _ _ _ _ r h) ?_
    refine zwp_f (by try simp (disch := first | assumption | exact isR33 | exact isT104 | exact isF99 | exact isF101 | exact isR3 | omega | (refine isTk ?_; omega) | (refine isOk isR33 ?_; omega) | (refine isOk ?_ ?_; assumption; omega)) only [mm_r, mm_rl, mm_add, mm_sub, mm_mul, mm_addJ, mm_mulJ, mm_lt, mm_le, mm_eq, mm_z, mm_cl, mm_w, mm_wl, mm_ite, mm_i2l, mm_l2i, mm_ltJ, mm_leJ, mm_eqJ, mm_clt, mm_cle, mm_cgt, mm_cge, mm_ceq, mm_b, mm_nb, mm_nb0, mm_nb1, mm_vb0, mm_vb1, mm_vbc, mm_vy0, mm_vy1, mm_at, mm_ne, mm_nj, mm_Lw, mm_Nw, mm_atJ, mm_neJ, mm_njJ, zbI_s, zbV_s, zbJ_s, cond_t, Bool.true_and, Bool.and_true, if_true, if_false, not_true, not_false_iff, Classical.not_not, zel_r, zel_42, zel_12, zel_71, zel_80, zel_89, zel_110, zel_188, zel_103, zel_195, zr_o, zr_1, zr_2, zr_3, zr_4, zr_5, zr_6, zr_7, zr_8, zr_9, zq_o, zq_v, zt_o, zt_1, zt_2, zt_3, zt_4, zt_5, zf_o, zf_1, za_w1, za_w2, za_w3, za_cm, za_sl, Int.toNat_natCast, Int.toNat_natCast_add_one, mm_t0, mm_t1, mm_t2, mm_t3, mm_t4, mm_t5, mm_t6, mm_t7, mm_t8, mm_t9, mm_t10, mm_t11, mm_t12, mm_t13, za_1, za_64, za_65, za_66, za_67, za_68, za_71, za_80, za_89, za_98, za_103, za_110, za_121, za_122, za_123, za_124, za_125, za_126, za_188, za_193, za_194, za_195, za_286, za_288, za_289, za_290, za_291, za_292, za_293, za_294, za_295, za_296, za_297, za_298, za_299, za_300, za_301, za_302, za_303, za_304, za_305, za_306, za_307, za_308, za_309, za_310, za_311, za_312]
                     first | done | omega) ?_
    rw [mm_i2l (by omega) (by omega), mm_i2l (by omega) (by omega), mm_addJ]
    refine zwp_V _ (sp_269 (seed := seed + m) (hB.k hk) h1 q2.1 q2.2 (by omega) (by omega)) ?_
    rintro τ ⟨hk2, hc⟩
    have rH := HH_rng hW.un (CM W (yrD W odds (seed + m))) (W 7) t g h
    have ih := lp_272 hB h1 q n0 n1 q2 ht0 ht1 hg0 hg1 s0 s1 hh0 hh1 k (m + 1) τ (by omega) (hk.tr hk2)
    rw [ez] at ih
    rw [sp_220c hW.un hc ht0 ht1 hg0 hg1 hh0 hh1, zbI_s]
    by_cases q3 : HH W (CM W (yrD W odds (seed + m))) (W 7) t g h = says
    · rw [if_pos q3] at ih
      refine zwp_f (by rw [q3]; exact fun p => p rfl) ?_
      rw [mm_add, mm_add]
      exact ih
    · rw [if_neg q3] at ih
      refine zwp_t (by rw [mm_eq (by omega) (by omega) (by omega) (by omega)]; exact q3) ?_
      rw [mm_add, mm_add]
      exact ih
theorem rq_years {σ : zM} {W : Int → Int} {seed n odds t g says h : Int} (hB : rB0 σ W) (hs0 : -2147483648 ≤ seed) (hs1 : seed < 2147483648) (hn0 : -2147483648 ≤ n) (hn1 : n < 2147483648) (hd0 : -2147483648 ≤ odds) (hd1 : odds < 2147483648) (ht0 : -2147483648 ≤ t) (ht1 : t < 2147483648) (hg0 : -2147483648 ≤ g) (hg1 : g < 2147483648) (hy0 : -2147483648 ≤ says) (hy1 : says < 2147483648) (hh0 : -2147483648 ≤ h) (hh1 : h < 2147483648) : zwp (zcall 272 [.ref 287, .int (Int32.ofInt seed), .int (Int32.ofInt n), .int (Int32.ofInt odds), .int (Int32.ofInt t), .int (Int32.ofInt g), .int (Int32.ofInt says), .int (Int32.ofInt h)] σ) (fun v τ => v = some (.int (Int32.ofInt (Eys W seed n odds t g says h))) ∧ rK σ τ) := by
  have hW := hB.2.1
  unfold Eys
  refine zwp_of (fun r h => zcc_272 (ze_272_0 _ _ _ _ _ _ _ _ r h)) ?_
  rw [sp_270 hs0 hs1 hd0 hd1, zbI_s]
  simp only [mm_z, mm_b]
  refine zwp_ite (fun q => ?_) (fun q => ?_)
  · rw [if_neg (fun p => q ⟨p.1, p.2.2.1⟩)]
    exact zwp_ret ⟨rfl, rK.rf⟩
  · have q := Classical.not_not.mp q
    rw [show (Int32.ofInt n).toInt64 = Int64.ofInt n from mm_i2l hn0 hn1, sp_163 (by omega) (by omega) (by omega) (by omega) (by omega) (by omega), zbI_s]
    simp only [mm_b]
    refine zwp_ite (fun q2 => ?_) (fun q2 => ?_)
    · rw [if_neg (fun p => q2 p.2.1)]
      exact zwp_ret ⟨rfl, rK.rf⟩
    · have q2 := Classical.not_not.mp q2
      rw [sp_221w hW hB.1 ht0 ht1 hg0 hg1 hh0 hh1, zbI_s]
      simp only [mm_b]
      refine zwp_ite (fun q5 => ?_) (fun q5 => ?_)
      · rw [if_neg (fun p => q5 p.2.2.2.1)]
        exact zwp_ret ⟨rfl, rK.rf⟩
      · have q5 := Classical.not_not.mp q5
        rw [show (Int32.ofInt says).toInt64 = Int64.ofInt says from mm_i2l hy0 hy1, sp_172 (by omega) (by omega), zbI_s]
        simp only [mm_b, Classical.not_not]
        refine zwp_ite (fun q6 => ?_) (fun q6 => ?_)
        · rw [if_pos (⟨q.1, q2, q.2, q5, q6⟩ : isSd seed ∧ (1 ≤ n ∧ n ≤ 20) ∧ isOd odds ∧ asked W t g h ∧ -1 ≤ says ∧ says < 10)]
          exact lp_272 hB (by omega) q.1 q2.1 q2.2 q.2 ht0 ht1 hg0 hg1 q6.1 q6.2 hh0 hh1 n.toNat 0 σ (by omega) rK.rf
        · rw [if_neg (fun p => q6 p.2.2.2.2)]
          exact zwp_ret ⟨rfl, rK.rf⟩
