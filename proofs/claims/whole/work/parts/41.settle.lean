/-! THE COURT settles behind a new realm; what it learns -/
theorem sC.fr {σ τ : zM} {W : Int → Int} {o : Int} (h : sC σ W o) (h4 : zN τ 64 o.toNat = zN σ 64 o.toNat) (h5 : zN τ 65 o.toNat = zN σ 65 o.toNat) (h6 : zN τ 66 o.toNat = zN σ 66 o.toNat) (h7 : zN τ 67 o.toNat = zN σ 67 o.toNat) : sC τ W o := ⟨h4.trans h.1, h5.trans h.2.1, h6.trans h.2.2.1, h7.trans h.2.2.2⟩
theorem vC.fr {σ τ : zM} {W : Int → Int} {o : Int} (h : vC σ W o) (h8 : zN τ 68 o.toNat = zN σ 68 o.toNat) (hf : ∀ b, 127 + 6 * o.toNat ≤ b → b < 127 + 6 * o.toNat + 6 → ∀ k, zN τ b k = zN σ b k) : vC τ W o := ⟨h.1.fr fun b b0 b1 => hf b b0 (by omega), fun p => (h.2.1 p).fr (hf _ (by omega) (by omega)) (hf _ (by omega) (by omega)), h8.trans h.2.2⟩
def sttS (b : Nat) : Prop := 63 ≤ b ∧ b < 69 ∨ 72 ≤ b ∧ b ≤ 100 ∨ b = 121 ∨ 127 ≤ b ∧ b < 187
theorem lp_9 {W : Int → Int} {σ0 : zM} (hW : WOK W) : ∀ (k i : Nat) (σ : zM), (i : Int) + k = W 5 → mf sttS σ0 σ → cL σ 33 W → wyC σ W → flC σ 99 (W 1) (FL W noD) → zN σ 63 0 = i → zN σ 63 1 = W 7 → (∀ o : Int, 0 ≤ o → o < (i : Int) → sC σ W o ∧ vC σ W o ∧ zN σ 121 o.toNat = 0) →
    zwp (zev 9 46 [some (.ref 69), some (.int (Int32.ofInt i))] [] σ) (fun v τ => v = none ∧ mf sttS σ0 τ ∧ ctC τ W)
  | 0, i, σ, e, hf, hL, hy, hF, h0, h1, hs => by
    have h5 := hW.2.2.1
    have e7 := hL.1.2.2.2.2.2.2.2
    refine zwp_of (fun r h => ze_9_46 _ _ r h) ?_
    simp (disch := first | assumption | exact isR33 | exact isT104 | exact isF99 | exact isF101 | exact isR3 | omega | (refine isTk ?_; omega) | (refine isOk isR33 ?_; omega) | (refine isOk ?_ ?_; assumption; omega)) only [mm_r, mm_rl, mm_add, mm_sub, mm_mul, mm_addJ, mm_mulJ, mm_lt, mm_le, mm_eq, mm_z, mm_cl, mm_w, mm_wl, mm_ite, mm_i2l, mm_l2i, mm_ltJ, mm_leJ, mm_eqJ, mm_clt, mm_cle, mm_cgt, mm_cge, mm_ceq, mm_b, mm_nb, mm_nb0, mm_nb1, mm_vb0, mm_vb1, mm_vbc, mm_vy0, mm_vy1, mm_at, mm_ne, mm_nj, mm_Lw, mm_Nw, mm_atJ, mm_neJ, mm_njJ, zbI_s, zbV_s, zbJ_s, cond_t, Bool.true_and, Bool.and_true, if_true, if_false, not_true, not_false_iff, zel_r, zel_42, zel_12, zel_71, zel_80, zel_89, zel_110, zel_188, zel_103, zel_195, zr_o, zr_1, zr_2, zr_3, zr_4, zr_5, zr_6, zr_7, zr_8, zr_9, zq_o, zq_v, zt_o, zt_1, zt_2, zt_3, zt_4, zt_5, zf_o, zf_1, za_w1, za_w2, za_w3, za_cm, za_sl, Int.toNat_natCast, Int.toNat_natCast_add_one, mm_t0, mm_t1, mm_t2, mm_t3, mm_t4, mm_t5, mm_t6, mm_t7, mm_t8, mm_t9, mm_t10, mm_t11, mm_t12, mm_t13, za_1, za_64, za_65, za_66, za_67, za_68, za_71, za_80, za_89, za_98, za_103, za_110, za_121, za_122, za_123, za_124, za_125, za_126, za_188, za_193, za_194, za_195, za_286, za_288, za_289, za_290, za_291, za_292, za_293, za_294, za_295, za_296, za_297, za_298, za_299, za_300, za_301, za_302, za_303, za_304, za_305, za_306, za_307, za_308, za_309, za_310, za_311, za_312, e7]
    rw [if_pos (by omega)]
    refine zwp_ret ⟨rfl, hf, hL, hy, hF, ⟨by omega, h1⟩, fun o o0 o1 => ?_⟩
    obtain ⟨a, b, c⟩ := hs o o0 (by omega)
    exact ⟨a, b, fun p => absurd c p⟩
  | k + 1, i, σ, e, hf, hL, hy, hF, h0, h1, hs => by
    have h5 := hW.2.2.1
    have h8 := hW.1.1.2.1
    have h81 := hW.1.1.1
    have e7 := hL.1.2.2.2.2.2.2.2
    have ho := hW.2.2.2.2 i (by omega) (by omega)
    have hO := hL.2.2.2.2 i (by omega) (by omega)
    rw [Int.toNat_natCast] at hO
    have hlt : i < 10 := by omega
    obtain ⟨b1, -, g0, g1, g2, -⟩ := ho
    have b2 := b1.2.2.1
    have b3 := b1.2.2.2.1
    refine zwp_of (fun r h => ze_9_46 _ _ r h) ?_
    simp (disch := first | assumption | exact isR33 | exact isT104 | exact isF99 | exact isF101 | exact isR3 | omega | (refine isTk ?_; omega) | (refine isOk isR33 ?_; omega) | (refine isOk ?_ ?_; assumption; omega)) only [mm_r, mm_rl, mm_add, mm_sub, mm_mul, mm_addJ, mm_mulJ, mm_lt, mm_le, mm_eq, mm_z, mm_cl, mm_w, mm_wl, mm_ite, mm_i2l, mm_l2i, mm_ltJ, mm_leJ, mm_eqJ, mm_clt, mm_cle, mm_cgt, mm_cge, mm_ceq, mm_b, mm_nb, mm_nb0, mm_nb1, mm_vb0, mm_vb1, mm_vbc, mm_vy0, mm_vy1, mm_at, mm_ne, mm_nj, mm_Lw, mm_Nw, mm_atJ, mm_neJ, mm_njJ, zbI_s, zbV_s, zbJ_s, cond_t, Bool.true_and, Bool.and_true, if_true, if_false, not_true, not_false_iff, zel_r, zel_42, zel_12, zel_71, zel_80, zel_89, zel_110, zel_188, zel_103, zel_195, zr_o, zr_1, zr_2, zr_3, zr_4, zr_5, zr_6, zr_7, zr_8, zr_9, zq_o, zq_v, zt_o, zt_1, zt_2, zt_3, zt_4, zt_5, zf_o, zf_1, za_w1, za_w2, za_w3, za_cm, za_sl, Int.toNat_natCast, Int.toNat_natCast_add_one, mm_t0, mm_t1, mm_t2, mm_t3, mm_t4, mm_t5, mm_t6, mm_t7, mm_t8, mm_t9, mm_t10, mm_t11, mm_t12, mm_t13, za_1, za_64, za_65, za_66, za_67, za_68, za_71, za_80, za_89, za_98, za_103, za_110, za_121, za_122, za_123, za_124, za_125, za_126, za_188, za_193, za_194, za_195, za_286, za_288, za_289, za_290, za_291, za_292, za_293, za_294, za_295, za_296, za_297, za_298, za_299, za_300, za_301, za_302, za_303, za_304, za_305, za_306, za_307, za_308, za_309, za_310, za_311, za_312, e7]
    rw [if_neg (by omega), sp_1 (isOk isR33 hlt) (by omega) hO h0 (by omega) (by omega), zbV_s, Int.toNat_natCast]
    generalize hσ1 : zw (zw (zw (zw (zw (zw σ 64 i (oo W i 5)) 65 i (oo W i 1)) 66 i (oo W i 2)) 67 i (oo W i 3)) 68 i (-1)) 63 0 (i + 1) = σ1
    have f1 : mf (fun b => 63 ≤ b ∧ b < 69) σ σ1 := by
      rw [← hσ1]
      exact (((((mf.rf.zw _ _ _ ⟨by omega, by omega⟩).zw _ _ _ ⟨by omega, by omega⟩).zw _ _ _ ⟨by omega, by omega⟩).zw _ _ _ ⟨by omega, by omega⟩).zw _ _ _ ⟨by omega, by omega⟩).zw _ _ _ ⟨by omega, by omega⟩
    have v0 : zN σ1 63 0 = i + 1 := by rw [← hσ1, mm_at rfl rfl (by omega) (by omega)]
    have v1 : zN σ1 63 1 = W 7 := by rw [← hσ1, mm_nj (by decide), mm_ne (by decide), mm_ne (by decide), mm_ne (by decide), mm_ne (by decide), mm_ne (by decide)]; exact h1
    have w4 : zN σ1 64 i = oo W i 5 := by rw [← hσ1, mm_ne (by decide), mm_ne (by decide), mm_ne (by decide), mm_ne (by decide), mm_ne (by decide), mm_at rfl rfl (by omega) (by omega)]
    have w5 : zN σ1 65 i = oo W i 1 := by rw [← hσ1, mm_ne (by decide), mm_ne (by decide), mm_ne (by decide), mm_ne (by decide), mm_at rfl rfl (by omega) (by omega)]
    have w6 : zN σ1 66 i = oo W i 2 := by rw [← hσ1, mm_ne (by decide), mm_ne (by decide), mm_ne (by decide), mm_at rfl rfl (by omega) (by omega)]
    have w7 : zN σ1 67 i = oo W i 3 := by rw [← hσ1, mm_ne (by decide), mm_ne (by decide), mm_at rfl rfl (by omega) (by omega)]
    have u : ∀ a j : Nat, a ≠ 63 → j ≠ i → zN σ1 a j = zN σ a j := by
      intro a j ha hj
      rw [← hσ1, mm_ne ha, mm_nj hj, mm_nj hj, mm_nj hj, mm_nj hj, mm_nj hj]
    try simp (disch := first | assumption | exact isR33 | exact isT104 | exact isF99 | exact isF101 | exact isR3 | omega | (refine isTk ?_; omega) | (refine isOk isR33 ?_; omega) | (refine isOk ?_ ?_; assumption; omega)) only [mm_r, mm_rl, mm_add, mm_sub, mm_mul, mm_addJ, mm_mulJ, mm_lt, mm_le, mm_eq, mm_z, mm_cl, mm_w, mm_wl, mm_ite, mm_i2l, mm_l2i, mm_ltJ, mm_leJ, mm_eqJ, mm_clt, mm_cle, mm_cgt, mm_cge, mm_ceq, mm_b, mm_nb, mm_nb0, mm_nb1, mm_vb0, mm_vb1, mm_vbc, mm_vy0, mm_vy1, mm_at, mm_ne, mm_nj, mm_Lw, mm_Nw, mm_atJ, mm_neJ, mm_njJ, zbI_s, zbV_s, zbJ_s, cond_t, Bool.true_and, Bool.and_true, if_true, if_false, not_true, not_false_iff, zel_r, zel_42, zel_12, zel_71, zel_80, zel_89, zel_110, zel_188, zel_103, zel_195, zr_o, zr_1, zr_2, zr_3, zr_4, zr_5, zr_6, zr_7, zr_8, zr_9, zq_o, zq_v, zt_o, zt_1, zt_2, zt_3, zt_4, zt_5, zf_o, zf_1, za_w1, za_w2, za_w3, za_cm, za_sl, Int.toNat_natCast, Int.toNat_natCast_add_one, mm_t0, mm_t1, mm_t2, mm_t3, mm_t4, mm_t5, mm_t6, mm_t7, mm_t8, mm_t9, mm_t10, mm_t11, mm_t12, mm_t13, za_1, za_64, za_65, za_66, za_67, za_68, za_71, za_80, za_89, za_98, za_103, za_110, za_121, za_122, za_123, za_124, za_125, za_126, za_188, za_193, za_194, za_195, za_286, za_288, za_289, za_290, za_291, za_292, za_293, za_294, za_295, za_296, za_297, za_298, za_299, za_300, za_301, za_302, za_303, za_304, za_305, za_306, za_307, za_308, za_309, za_310, za_311, za_312]
    refine zwp_V _ (sp_90 (isTk hlt) (isOk isR33 hlt) (by omega) hW.1.1 b1 (hO.fr (f1.1 _ (by omega)) (f1.1 _ (by omega))) (hy.fr h8 fun b b0 b1 => f1.1 b (by omega))) ?_
    rintro τ ⟨f2, hC⟩
    try simp (disch := first | assumption | exact isR33 | exact isT104 | exact isF99 | exact isF101 | exact isR3 | omega | (refine isTk ?_; omega) | (refine isOk isR33 ?_; omega) | (refine isOk ?_ ?_; assumption; omega)) only [mm_r, mm_rl, mm_add, mm_sub, mm_mul, mm_addJ, mm_mulJ, mm_lt, mm_le, mm_eq, mm_z, mm_cl, mm_w, mm_wl, mm_ite, mm_i2l, mm_l2i, mm_ltJ, mm_leJ, mm_eqJ, mm_clt, mm_cle, mm_cgt, mm_cge, mm_ceq, mm_b, mm_nb, mm_nb0, mm_nb1, mm_vb0, mm_vb1, mm_vbc, mm_vy0, mm_vy1, mm_at, mm_ne, mm_nj, mm_Lw, mm_Nw, mm_atJ, mm_neJ, mm_njJ, zbI_s, zbV_s, zbJ_s, cond_t, Bool.true_and, Bool.and_true, if_true, if_false, not_true, not_false_iff, zel_r, zel_42, zel_12, zel_71, zel_80, zel_89, zel_110, zel_188, zel_103, zel_195, zr_o, zr_1, zr_2, zr_3, zr_4, zr_5, zr_6, zr_7, zr_8, zr_9, zq_o, zq_v, zt_o, zt_1, zt_2, zt_3, zt_4, zt_5, zf_o, zf_1, za_w1, za_w2, za_w3, za_cm, za_sl, Int.toNat_natCast, Int.toNat_natCast_add_one, mm_t0, mm_t1, mm_t2, mm_t3, mm_t4, mm_t5, mm_t6, mm_t7, mm_t8, mm_t9, mm_t10, mm_t11, mm_t12, mm_t13, za_1, za_64, za_65, za_66, za_67, za_68, za_71, za_80, za_89, za_98, za_103, za_110, za_121, za_122, za_123, za_124, za_125, za_126, za_188, za_193, za_194, za_195, za_286, za_288, za_289, za_290, za_291, za_292, za_293, za_294, za_295, za_296, za_297, za_298, za_299, za_300, za_301, za_302, za_303, za_304, za_305, za_306, za_307, za_308, za_309, za_310, za_311, za_312]
    refine zwp_let ?_
    have f3 : mf (fun b => b = 121) τ (zw τ 121 i 0) := mf.rf.zw _ _ _ rfl
    have f13 : mf (fun b => 63 ≤ b ∧ b < 69 ∨ b = 121 ∨ 127 + 6 * i ≤ b ∧ b < 127 + 6 * i + 4) σ (zw τ 121 i 0) := ((f1.mono (by omega)).tr (f2.mono (by omega))).tr (f3.mono (by omega))
    have hL3 : cL (zw τ 121 i 0) 33 W := hL.fr (by omega) fun a h1 h2 => f13.1 a (by omega)
    have hF3 : flC (zw τ 121 i 0) 99 (W 1) (FL W noD) := hF.fr (f13.1 _ (by omega)) (f13.1 _ (by omega))
    have s10 := sp_10 (o := i) hW (by omega) (by omega) hL3 (hC.fr6 f3 (by omega)) hF3
    refine zwp_V _ s10 ?_
    rintro υ ⟨f4, hv, hk⟩
    rw [Int.toNat_natCast] at f4
    have f14 : mf (fun b => 63 ≤ b ∧ b < 69 ∨ b = 121 ∨ 127 + 6 * i ≤ b ∧ b < 127 + 6 * i + 6) σ υ := (f13.mono (by omega)).tr (f4.mono (by omega))
    refine lp_9 hW k (i + 1) υ (by omega) (hf.tr (f14.mono fun b hb => by unfold sttS; omega)) (hL.fr (by omega) fun a h1 h2 => f14.1 a (by omega)) (hy.fr h8 fun b b0 b1 => f14.1 b (by omega)) (hF.fr (f14.1 _ (by omega)) (f14.1 _ (by omega))) ?_ ?_ (fun o o0 o1 => ?_)
    · rw [f4.1 63 (by omega), mm_ne (by decide), f2.1 63 (by omega), v0]
      rfl
    · rw [f4.1 63 (by omega), mm_ne (by decide), f2.1 63 (by omega), v1]
    · by_cases q : o = i
      · subst q
        rw [Int.toNat_natCast]
        refine ⟨⟨?_, ?_, ?_, ?_⟩, hv, ?_⟩
        · rw [Int.toNat_natCast, f4.1 64 (by omega), mm_ne (by decide), f2.1 64 (by omega), w4]
        · rw [Int.toNat_natCast, f4.1 65 (by omega), mm_ne (by decide), f2.1 65 (by omega), w5]
        · rw [Int.toNat_natCast, f4.1 66 (by omega), mm_ne (by decide), f2.1 66 (by omega), w6]
        · rw [Int.toNat_natCast, f4.1 67 (by omega), mm_ne (by decide), f2.1 67 (by omega), w7]
        · rw [f4.1 121 (by omega), mm_at rfl rfl (by decide) (by decide)]
      · obtain ⟨a, b, c⟩ := hs o o0 (by omega)
        have u' : ∀ r, r ≠ 63 → r ≠ 68 → r ≠ 121 → 63 ≤ r → r < 69 → zN υ r o.toNat = zN σ r o.toNat := by
          intro r h3 h6 h1 r0 r1
          rw [f4.1 r (by omega), mm_ne h1, f2.1 r (by omega), u r _ h3 (by omega)]
        refine ⟨a.fr (u' 64 (by decide) (by decide) (by decide) (by decide) (by decide)) (u' 65 (by decide) (by decide) (by decide) (by decide) (by decide)) (u' 66 (by decide) (by decide) (by decide) (by decide) (by decide)) (u' 67 (by decide) (by decide) (by decide) (by decide) (by decide)), b.fr ?_ (fun r r0 r1 => f14.1 r (by omega)), ?_⟩
        · rw [hk _ (by omega), mm_ne (by decide), f2.1 68 (by omega), u 68 _ (by decide) (by omega)]
        · rw [f4.1 121 (by omega), mm_nj (by omega), f2.1 121 (by omega), u 121 _ (by decide) (by omega)]
          exact c
theorem sp_9 {W : Int → Int} {σ : zM} (hW : WOK W) (hL : cL σ 33 W) : zwp (zcall 9 [.ref 69] σ) (fun v τ => v = none ∧ mf sttS σ τ ∧ ctC τ W) := by
  have h5 := hW.2.2.1
  have h8 := hW.1.1.2.1
  refine zwp_of (fun r h => zcc_9 (ze_9_0 _ r h)) ?_
  refine zwp_V _ (sp_100 hW.1.1 (by omega) hL) ?_
  rintro τ1 ⟨f1, hy⟩
  have hL1 := hL.fr (by omega) fun a h1 h2 => f1.1 a (by omega)
  refine zwp_V _ (sp_42 isF99 isR33 hW.1 hW.2.1 (by omega) hL1) ?_
  rintro τ2 ⟨f2, hF⟩
  have hL2 := hL1.fr (by omega) fun a h1 h2 => f2.1 a (by omega)
  have e3 := hL2.1.2.2.2.1
  refine zwp_letE (τ' := zw τ2 63 0 0) (by simp (disch := first | assumption | exact isR33 | exact isT104 | exact isF99 | exact isF101 | exact isR3 | omega | (refine isTk ?_; omega) | (refine isOk isR33 ?_; omega) | (refine isOk ?_ ?_; assumption; omega)) only [mm_r, mm_rl, mm_add, mm_sub, mm_mul, mm_addJ, mm_mulJ, mm_lt, mm_le, mm_eq, mm_z, mm_cl, mm_w, mm_wl, mm_ite, mm_i2l, mm_l2i, mm_ltJ, mm_leJ, mm_eqJ, mm_clt, mm_cle, mm_cgt, mm_cge, mm_ceq, mm_b, mm_nb, mm_nb0, mm_nb1, mm_vb0, mm_vb1, mm_vbc, mm_vy0, mm_vy1, mm_at, mm_ne, mm_nj, mm_Lw, mm_Nw, mm_atJ, mm_neJ, mm_njJ, zbI_s, zbV_s, zbJ_s, cond_t, Bool.true_and, Bool.and_true, if_true, if_false, not_true, not_false_iff, zel_r, zel_42, zel_12, zel_71, zel_80, zel_89, zel_110, zel_188, zel_103, zel_195, zr_o, zr_1, zr_2, zr_3, zr_4, zr_5, zr_6, zr_7, zr_8, zr_9, zq_o, zq_v, zt_o, zt_1, zt_2, zt_3, zt_4, zt_5, zf_o, zf_1, za_w1, za_w2, za_w3, za_cm, za_sl, Int.toNat_natCast, Int.toNat_natCast_add_one, mm_t0, mm_t1, mm_t2, mm_t3, mm_t4, mm_t5, mm_t6, mm_t7, mm_t8, mm_t9, mm_t10, mm_t11, mm_t12, mm_t13, za_1, za_64, za_65, za_66, za_67, za_68, za_71, za_80, za_89, za_98, za_103, za_110, za_121, za_122, za_123, za_124, za_125, za_126, za_188, za_193, za_194, za_195, za_286, za_288, za_289, za_290, za_291, za_292, za_293, za_294, za_295, za_296, za_297, za_298, za_299, za_300, za_301, za_302, za_303, za_304, za_305, za_306, za_307, za_308, za_309, za_310, za_311, za_312]) ?_
  refine zwp_letE (τ' := zw (zw τ2 63 0 0) 63 1 (W 7)) (by simp (disch := first | assumption | exact isR33 | exact isT104 | exact isF99 | exact isF101 | exact isR3 | omega | (refine isTk ?_; omega) | (refine isOk isR33 ?_; omega) | (refine isOk ?_ ?_; assumption; omega)) only [mm_r, mm_rl, mm_add, mm_sub, mm_mul, mm_addJ, mm_mulJ, mm_lt, mm_le, mm_eq, mm_z, mm_cl, mm_w, mm_wl, mm_ite, mm_i2l, mm_l2i, mm_ltJ, mm_leJ, mm_eqJ, mm_clt, mm_cle, mm_cgt, mm_cge, mm_ceq, mm_b, mm_nb, mm_nb0, mm_nb1, mm_vb0, mm_vb1, mm_vbc, mm_vy0, mm_vy1, mm_at, mm_ne, mm_nj, mm_Lw, mm_Nw, mm_atJ, mm_neJ, mm_njJ, zbI_s, zbV_s, zbJ_s, cond_t, Bool.true_and, Bool.and_true, if_true, if_false, not_true, not_false_iff, zel_r, zel_42, zel_12, zel_71, zel_80, zel_89, zel_110, zel_188, zel_103, zel_195, zr_o, zr_1, zr_2, zr_3, zr_4, zr_5, zr_6, zr_7, zr_8, zr_9, zq_o, zq_v, zt_o, zt_1, zt_2, zt_3, zt_4, zt_5, zf_o, zf_1, za_w1, za_w2, za_w3, za_cm, za_sl, Int.toNat_natCast, Int.toNat_natCast_add_one, mm_t0, mm_t1, mm_t2, mm_t3, mm_t4, mm_t5, mm_t6, mm_t7, mm_t8, mm_t9, mm_t10, mm_t11, mm_t12, mm_t13, za_1, za_64, za_65, za_66, za_67, za_68, za_71, za_80, za_89, za_98, za_103, za_110, za_121, za_122, za_123, za_124, za_125, za_126, za_188, za_193, za_194, za_195, za_286, za_288, za_289, za_290, za_291, za_292, za_293, za_294, za_295, za_296, za_297, za_298, za_299, za_300, za_301, za_302, za_303, za_304, za_305, za_306, za_307, za_308, za_309, za_310, za_311, za_312, e3]) ?_
  have f3 : mf (fun b => b = 63) τ2 (zw (zw τ2 63 0 0) 63 1 (W 7)) := ((mf.rf (S := fun b => b = 63)).zw 63 _ _ rfl).zw 63 _ _ rfl
  refine lp_9 hW (W 5).toNat 0 _ (by omega) (((f1.mono fun b hb => by unfold sttS; omega).tr (f2.mono fun b hb => by unfold sttS; omega)).tr (f3.mono fun b hb => by unfold sttS; omega)) (hL2.fr (by omega) fun a h1 h2 => f3.1 a (by omega)) ((hy.fr h8 fun b b0 b1 => f2.1 b (by omega)).fr h8 fun b b0 b1 => f3.1 b (by omega)) (hF.fr (f3.1 _ (by omega)) (f3.1 _ (by omega))) ?_ ?_ (fun o o0 o1 => by omega)
  · rw [mm_nj (by decide), mm_at rfl rfl (by decide) (by decide)]
    rfl
  · rw [mm_at rfl rfl (by omega) (by omega)]
