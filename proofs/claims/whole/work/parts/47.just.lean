/-! CALLS: discord, peace, just: the reference's; just, changes: both -/
/-- the reference's world as far as roads go, whatever the seal -/
def rdR (σ : zM) (W : Int → Int) : Prop := ∀ k : Nat, k < 44 → k ≠ 7 → zN σ 288 k = W k
theorem rdR_of {σ : zM} {W : Int → Int} (h : wv σ 288 = W) : rdR σ W := fun k _ _ => wv_k h k
theorem rcC.fr {σ τ : zM} {W : Int → Int} {c : Int → Int} {sl : Int} (h : rcC σ W c sl) (h8 : ∀ k, zN τ 288 k = zN σ 288 k) (h9 : ∀ k, zN τ 299 k = zN σ 299 k) (h0 : ∀ k, zN τ 300 k = zN σ 300 k) : rcC τ W c sl := ⟨(h8 5).trans h.1, (h8 7).trans h.2.1, fun o o0 o1 => by
  obtain ⟨a, b, d, e, f⟩ := h.2.2.1 o o0 o1
  exact ⟨(h8 _).trans a, (h8 _).trans b, (h8 _).trans d, (h0 _).trans e, (h9 _).trans f⟩, (h9 10).trans h.2.2.2⟩
theorem lp_226_34 {σ : zM} {W : Int → Int} {f : Int → Int} (hW : WOK W) (hR : rdR σ W) (hv : ∀ x, 0 ≤ x → x < W 0 → zN σ 303 x.toNat = f x) : ∀ (k r : Nat), (r : Int) + k = W 2 → zev 226 34 [some (.ref 287), none, none, some (.int (Int32.ofInt (zcnt (fun r => decide (f (W (8 + 3 * r)) ≠ f (W (8 + 3 * r + 1)))) r))), some (.int (Int32.ofInt r))] [] σ = some (some (.int (Int32.ofInt (zcnt (fun r => decide (f (W (8 + 3 * r)) ≠ f (W (8 + 3 * r + 1)))) (W 2).toNat))), σ)
  | 0, r, e => by
    have h2 := hW.1.1.2.2.2.1
    have e4 : zN σ 288 2 = W 2 := hR 2 (by decide) (by decide)
    refine ze_226_34 _ _ _ _ ?_
    simp (disch := first | assumption | exact isR33 | exact isT104 | exact isF99 | exact isF101 | exact isR3 | omega | (refine isTk ?_; omega) | (refine isOk isR33 ?_; omega) | (refine isOk ?_ ?_; assumption; omega)) only [mm_r, mm_rl, mm_add, mm_sub, mm_mul, mm_addJ, mm_mulJ, mm_lt, mm_le, mm_eq, mm_z, mm_cl, mm_w, mm_wl, mm_ite, mm_i2l, mm_l2i, mm_ltJ, mm_leJ, mm_eqJ, mm_clt, mm_cle, mm_cgt, mm_cge, mm_ceq, mm_b, mm_nb, mm_nb0, mm_nb1, mm_vb0, mm_vb1, mm_vbc, mm_vy0, mm_vy1, mm_at, mm_ne, mm_nj, mm_Lw, mm_Nw, mm_atJ, mm_neJ, mm_njJ, zbI_s, zbV_s, zbJ_s, cond_t, Bool.true_and, Bool.and_true, if_true, if_false, not_true, not_false_iff, Classical.not_not, zel_r, zel_42, zel_12, zel_71, zel_80, zel_89, zel_110, zel_188, zel_103, zel_195, zr_o, zr_1, zr_2, zr_3, zr_4, zr_5, zr_6, zr_7, zr_8, zr_9, zq_o, zq_v, zt_o, zt_1, zt_2, zt_3, zt_4, zt_5, zf_o, zf_1, za_w1, za_w2, za_w3, za_cm, za_sl, Int.toNat_natCast, Int.toNat_natCast_add_one, mm_t0, mm_t1, mm_t2, mm_t3, mm_t4, mm_t5, mm_t6, mm_t7, mm_t8, mm_t9, mm_t10, mm_t11, mm_t12, mm_t13, za_1, za_64, za_65, za_66, za_67, za_68, za_71, za_80, za_89, za_98, za_103, za_110, za_121, za_122, za_123, za_124, za_125, za_126, za_188, za_193, za_194, za_195, za_286, za_288, za_289, za_290, za_291, za_292, za_293, za_294, za_295, za_296, za_297, za_298, za_299, za_300, za_301, za_302, za_303, za_304, za_305, za_306, za_307, za_308, za_309, za_310, za_311, za_312, e4]
    rw [if_pos (by omega), show (W 2).toNat = r by omega]
  | k + 1, r, e => by
    have h2 := hW.1.1.2.2.2.1
    have h8 := hW.1.1.2.1
    have e4 : zN σ 288 2 = W 2 := hR 2 (by decide) (by decide)
    have ih := lp_226_34 hW hR hv k (r + 1) (by omega)
    have a1 : zN σ 288 (8 + 3 * (r : Int)).toNat = W (8 + 3 * (r : Int)) := by
      rw [hR _ (by omega) (by omega), show (((8 + 3 * (r : Int)).toNat : Nat) : Int) = 8 + 3 * (r : Int) by omega]
    have a2 : zN σ 288 (8 + 3 * (r : Int) + 1).toNat = W (8 + 3 * (r : Int) + 1) := by
      rw [hR _ (by omega) (by omega), show (((8 + 3 * (r : Int) + 1).toNat : Nat) : Int) = 8 + 3 * (r : Int) + 1 by omega]
    obtain ⟨⟨b0, b1, b2, b3, -⟩, -⟩ := hW.1.1.2.2.2.2 r (by omega) (by omega)
    have v1 := hv _ b0 b1
    have v2 := hv _ b2 b3
    have l1 := mm_lo σ 303 (W (8 + 3 * (r : Int))).toNat
    have l2 := mm_hi σ 303 (W (8 + 3 * (r : Int))).toNat
    have l3 := mm_lo σ 303 (W (8 + 3 * (r : Int) + 1)).toNat
    have l4 := mm_hi σ 303 (W (8 + 3 * (r : Int) + 1)).toNat
    have zr := zcnt_rng (fun r => decide (f (W (8 + 3 * r)) ≠ f (W (8 + 3 * r + 1)))) r
    rw [v1] at l1 l2
    rw [v2] at l3 l4
    rw [zcnt] at ih
    refine ze_226_34 _ _ _ _ ?_
    simp (disch := first | assumption | exact isR33 | exact isT104 | exact isF99 | exact isF101 | exact isR3 | omega | (refine isTk ?_; omega) | (refine isOk isR33 ?_; omega) | (refine isOk ?_ ?_; assumption; omega)) only [mm_r, mm_rl, mm_add, mm_sub, mm_mul, mm_addJ, mm_mulJ, mm_lt, mm_le, mm_eq, mm_z, mm_cl, mm_w, mm_wl, mm_ite, mm_i2l, mm_l2i, mm_ltJ, mm_leJ, mm_eqJ, mm_clt, mm_cle, mm_cgt, mm_cge, mm_ceq, mm_b, mm_nb, mm_nb0, mm_nb1, mm_vb0, mm_vb1, mm_vbc, mm_vy0, mm_vy1, mm_at, mm_ne, mm_nj, mm_Lw, mm_Nw, mm_atJ, mm_neJ, mm_njJ, zbI_s, zbV_s, zbJ_s, cond_t, Bool.true_and, Bool.and_true, if_true, if_false, not_true, not_false_iff, Classical.not_not, zel_r, zel_42, zel_12, zel_71, zel_80, zel_89, zel_110, zel_188, zel_103, zel_195, zr_o, zr_1, zr_2, zr_3, zr_4, zr_5, zr_6, zr_7, zr_8, zr_9, zq_o, zq_v, zt_o, zt_1, zt_2, zt_3, zt_4, zt_5, zf_o, zf_1, za_w1, za_w2, za_w3, za_cm, za_sl, Int.toNat_natCast, Int.toNat_natCast_add_one, mm_t0, mm_t1, mm_t2, mm_t3, mm_t4, mm_t5, mm_t6, mm_t7, mm_t8, mm_t9, mm_t10, mm_t11, mm_t12, mm_t13, za_1, za_64, za_65, za_66, za_67, za_68, za_71, za_80, za_89, za_98, za_103, za_110, za_121, za_122, za_123, za_124, za_125, za_126, za_188, za_193, za_194, za_195, za_286, za_288, za_289, za_290, za_291, za_292, za_293, za_294, za_295, za_296, za_297, za_298, za_299, za_300, za_301, za_302, za_303, za_304, za_305, za_306, za_307, za_308, za_309, za_310, za_311, za_312, e4, a1, a2, v1, v2]
    rw [if_neg (by omega)]
    by_cases q : f (W (8 + 3 * (r : Int))) = f (W (8 + 3 * (r : Int) + 1))
    · rw [if_neg (fun p => p q)]
      rw [if_neg (by rw [decide_eq_false (fun p => p q)]; exact Bool.false_ne_true)] at ih
      exact ih
    · rw [if_pos q]
      rw [if_pos (decide_eq_true q)] at ih
      exact ih
theorem lp_226_2 {σ0 : zM} {W : Int → Int} {c : Int → Int} {sl g h : Int} (hW : WOK W) (hR0 : rdR σ0 W) (hc0 : rcC σ0 W c sl) (hg0 : -2147483648 ≤ g) (hg1 : g < 2147483648) (hh0 : -2147483648 ≤ h) (hh1 : h < 2147483648) : ∀ (k t : Nat) (σ : zM), (t : Int) + k = W 0 → mf (fun b => b = 303) σ0 σ → (∀ x : Int, 0 ≤ x → x < (t : Int) → zN σ 303 x.toNat = HH W c sl x g h) → zwp (zev 226 2 [some (.ref 287), some (.int (Int32.ofInt g)), some (.int (Int32.ofInt h)), some (.int (Int32.ofInt t)), none] [] σ) (fun v τ => v = some (.int (Int32.ofInt (dsc W c sl g h))) ∧ mf (fun b => b = 303) σ0 τ)
  | 0, t, σ, e, hf, hv => by
    have h8 := hW.1.1.2.1
    have h2 := hW.1.1.2.2.1
    have hR : rdR σ W := fun k k0 k1 => (hf.1 288 (by omega) k).trans (hR0 k k0 k1)
    have e1 : zN σ 288 0 = W 0 := hR 0 (by decide) (by decide)
    refine zwp_of (fun r h => ze_226_2 _ _ _ _ r h) ?_
    rw [sp_167, zbI_s, e1]
    simp (disch := first | assumption | exact isR33 | exact isT104 | exact isF99 | exact isF101 | exact isR3 | omega | (refine isTk ?_; omega) | (refine isOk isR33 ?_; omega) | (refine isOk ?_ ?_; assumption; omega)) only [mm_r, mm_rl, mm_add, mm_sub, mm_mul, mm_addJ, mm_mulJ, mm_lt, mm_le, mm_eq, mm_z, mm_cl, mm_w, mm_wl, mm_ite, mm_i2l, mm_l2i, mm_ltJ, mm_leJ, mm_eqJ, mm_clt, mm_cle, mm_cgt, mm_cge, mm_ceq, mm_b, mm_nb, mm_nb0, mm_nb1, mm_vb0, mm_vb1, mm_vbc, mm_vy0, mm_vy1, mm_at, mm_ne, mm_nj, mm_Lw, mm_Nw, mm_atJ, mm_neJ, mm_njJ, zbI_s, zbV_s, zbJ_s, cond_t, Bool.true_and, Bool.and_true, if_true, if_false, not_true, not_false_iff, Classical.not_not, zel_r, zel_42, zel_12, zel_71, zel_80, zel_89, zel_110, zel_188, zel_103, zel_195, zr_o, zr_1, zr_2, zr_3, zr_4, zr_5, zr_6, zr_7, zr_8, zr_9, zq_o, zq_v, zt_o, zt_1, zt_2, zt_3, zt_4, zt_5, zf_o, zf_1, za_w1, za_w2, za_w3, za_cm, za_sl, Int.toNat_natCast, Int.toNat_natCast_add_one, mm_t0, mm_t1, mm_t2, mm_t3, mm_t4, mm_t5, mm_t6, mm_t7, mm_t8, mm_t9, mm_t10, mm_t11, mm_t12, mm_t13, za_1, za_64, za_65, za_66, za_67, za_68, za_71, za_80, za_89, za_98, za_103, za_110, za_121, za_122, za_123, za_124, za_125, za_126, za_188, za_193, za_194, za_195, za_286, za_288, za_289, za_290, za_291, za_292, za_293, za_294, za_295, za_296, za_297, za_298, za_299, za_300, za_301, za_302, za_303, za_304, za_305, za_306, za_307, za_308, za_309, za_310, za_311, za_312]
    rw [if_pos (by omega)]
    exact zwp_E (lp_226_34 hW hR (fun x x0 x1 => hv x x0 (by omega)) (W 2).toNat 0 (by omega)) ⟨rfl, hf⟩
  | k + 1, t, σ, e, hf, hv => by
    have h8 := hW.1.1.2.1
    have hR : rdR σ W := fun k k0 k1 => (hf.1 288 (by omega) k).trans (hR0 k k0 k1)
    have e1 : zN σ 288 0 = W 0 := hR 0 (by decide) (by decide)
    have hc := hc0.fr (hf.1 288 (by omega)) (hf.1 299 (by omega)) (hf.1 300 (by omega))
    have r := HH_rng hW.un c sl t g h
    refine zwp_of (fun r h => ze_226_2 _ _ _ _ r h) ?_
    rw [sp_167, zbI_s, sp_220c hW.un hc (by omega) (by omega) hg0 hg1 hh0 hh1, zbI_s, e1]
    simp (disch := first | assumption | exact isR33 | exact isT104 | exact isF99 | exact isF101 | exact isR3 | omega | (refine isTk ?_; omega) | (refine isOk isR33 ?_; omega) | (refine isOk ?_ ?_; assumption; omega)) only [mm_r, mm_rl, mm_add, mm_sub, mm_mul, mm_addJ, mm_mulJ, mm_lt, mm_le, mm_eq, mm_z, mm_cl, mm_w, mm_wl, mm_ite, mm_i2l, mm_l2i, mm_ltJ, mm_leJ, mm_eqJ, mm_clt, mm_cle, mm_cgt, mm_cge, mm_ceq, mm_b, mm_nb, mm_nb0, mm_nb1, mm_vb0, mm_vb1, mm_vbc, mm_vy0, mm_vy1, mm_at, mm_ne, mm_nj, mm_Lw, mm_Nw, mm_atJ, mm_neJ, mm_njJ, zbI_s, zbV_s, zbJ_s, cond_t, Bool.true_and, Bool.and_true, if_true, if_false, not_true, not_false_iff, Classical.not_not, zel_r, zel_42, zel_12, zel_71, zel_80, zel_89, zel_110, zel_188, zel_103, zel_195, zr_o, zr_1, zr_2, zr_3, zr_4, zr_5, zr_6, zr_7, zr_8, zr_9, zq_o, zq_v, zt_o, zt_1, zt_2, zt_3, zt_4, zt_5, zf_o, zf_1, za_w1, za_w2, za_w3, za_cm, za_sl, Int.toNat_natCast, Int.toNat_natCast_add_one, mm_t0, mm_t1, mm_t2, mm_t3, mm_t4, mm_t5, mm_t6, mm_t7, mm_t8, mm_t9, mm_t10, mm_t11, mm_t12, mm_t13, za_1, za_64, za_65, za_66, za_67, za_68, za_71, za_80, za_89, za_98, za_103, za_110, za_121, za_122, za_123, za_124, za_125, za_126, za_188, za_193, za_194, za_195, za_286, za_288, za_289, za_290, za_291, za_292, za_293, za_294, za_295, za_296, za_297, za_298, za_299, za_300, za_301, za_302, za_303, za_304, za_305, za_306, za_307, za_308, za_309, za_310, za_311, za_312]
    rw [if_neg (by omega)]
    refine zwp_let ?_
    refine lp_226_2 hW hR0 hc0 hg0 hg1 hh0 hh1 k (t + 1) _ (by omega) (hf.zw 303 _ _ rfl) (fun x x0 x1 => ?_)
    by_cases q : x = t
    · rw [q, Int.toNat_natCast, mm_at rfl rfl (by omega) (by omega)]
    · rw [mm_nj (by omega)]
      exact hv x x0 (by omega)
theorem sp_226 {σ : zM} {W : Int → Int} {c : Int → Int} {sl g h : Int} (hW : WOK W) (hR : rdR σ W) (hc : rcC σ W c sl) (hg0 : -2147483648 ≤ g) (hg1 : g < 2147483648) (hh0 : -2147483648 ≤ h) (hh1 : h < 2147483648) : zwp (zcall 226 [.ref 287, .int (Int32.ofInt g), .int (Int32.ofInt h)] σ) (fun v τ => v = some (.int (Int32.ofInt (dsc W c sl g h))) ∧ mf (fun b => b = 303) σ τ) := by
  refine zwp_of (fun r h => zcc_226 (ze_226_0 _ _ _ r h)) ?_
  exact lp_226_2 hW hR hc hg0 hg1 hh0 hh1 (W 0).toNat 0 σ (by have := hW.1.1.1; omega) mf.rf (fun x x0 x1 => by omega)
theorem lp_227 {σ0 : zM} {W : Int → Int} {c : Int → Int} {sl g : Int} (hW : WOK W) (hR0 : rdR σ0 W) (hc0 : rcC σ0 W c sl) (hg0 : -2147483648 ≤ g) (hg1 : g < 2147483648) : ∀ (k t : Nat) (σ : zM), (t : Int) + k = W 1 → mf (fun b => b = 303) σ0 σ → zwp (zev 227 4 [some (.ref 287), some (.int (Int32.ofInt g)), some (.int (Int32.ofInt (zsum (fun h => dsc W c sl g h) t))), some (.int (Int32.ofInt t))] [] σ) (fun v τ => v = some (.int (Int32.ofInt (dsT W c sl g))) ∧ mf (fun b => b = 303) σ0 τ)
  | 0, t, σ, e, hf => by
    have h1 := hW.1.2.2.1
    have hR : rdR σ W := fun k k0 k1 => (hf.1 288 (by omega) k).trans (hR0 k k0 k1)
    have e1 : zN σ 288 1 = W 1 := hR 1 (by decide) (by decide)
    refine zwp_of (fun r h => ze_227_4 _ _ _ _ r h) ?_
    simp (disch := first | assumption | exact isR33 | exact isT104 | exact isF99 | exact isF101 | exact isR3 | omega | (refine isTk ?_; omega) | (refine isOk isR33 ?_; omega) | (refine isOk ?_ ?_; assumption; omega)) only [mm_r, mm_rl, mm_add, mm_sub, mm_mul, mm_addJ, mm_mulJ, mm_lt, mm_le, mm_eq, mm_z, mm_cl, mm_w, mm_wl, mm_ite, mm_i2l, mm_l2i, mm_ltJ, mm_leJ, mm_eqJ, mm_clt, mm_cle, mm_cgt, mm_cge, mm_ceq, mm_b, mm_nb, mm_nb0, mm_nb1, mm_vb0, mm_vb1, mm_vbc, mm_vy0, mm_vy1, mm_at, mm_ne, mm_nj, mm_Lw, mm_Nw, mm_atJ, mm_neJ, mm_njJ, zbI_s, zbV_s, zbJ_s, cond_t, Bool.true_and, Bool.and_true, if_true, if_false, not_true, not_false_iff, Classical.not_not, zel_r, zel_42, zel_12, zel_71, zel_80, zel_89, zel_110, zel_188, zel_103, zel_195, zr_o, zr_1, zr_2, zr_3, zr_4, zr_5, zr_6, zr_7, zr_8, zr_9, zq_o, zq_v, zt_o, zt_1, zt_2, zt_3, zt_4, zt_5, zf_o, zf_1, za_w1, za_w2, za_w3, za_cm, za_sl, Int.toNat_natCast, Int.toNat_natCast_add_one, mm_t0, mm_t1, mm_t2, mm_t3, mm_t4, mm_t5, mm_t6, mm_t7, mm_t8, mm_t9, mm_t10, mm_t11, mm_t12, mm_t13, za_1, za_64, za_65, za_66, za_67, za_68, za_71, za_80, za_89, za_98, za_103, za_110, za_121, za_122, za_123, za_124, za_125, za_126, za_188, za_193, za_194, za_195, za_286, za_288, za_289, za_290, za_291, za_292, za_293, za_294, za_295, za_296, za_297, za_298, za_299, za_300, za_301, za_302, za_303, za_304, za_305, za_306, za_307, za_308, za_309, za_310, za_311, za_312, e1]
    rw [if_pos (by omega)]
    refine zwp_ret ⟨?_, hf⟩
    unfold dsT
    rw [show (W 1).toNat = t by omega]
  | k + 1, t, σ, e, hf => by
    have h1 := hW.1.2.2.1
    have hR : rdR σ W := fun k k0 k1 => (hf.1 288 (by omega) k).trans (hR0 k k0 k1)
    have e1 : zN σ 288 1 = W 1 := hR 1 (by decide) (by decide)
    have hc := hc0.fr (hf.1 288 (by omega)) (hf.1 299 (by omega)) (hf.1 300 (by omega))
    refine zwp_of (fun r h => ze_227_4 _ _ _ _ r h) ?_
    simp (disch := first | assumption | exact isR33 | exact isT104 | exact isF99 | exact isF101 | exact isR3 | omega | (refine isTk ?_; omega) | (refine isOk isR33 ?_; omega) | (refine isOk ?_ ?_; assumption; omega)) only [mm_r, mm_rl, mm_add, mm_sub, mm_mul, mm_addJ, mm_mulJ, mm_lt, mm_le, mm_eq, mm_z, mm_cl, mm_w, mm_wl, mm_ite, mm_i2l, mm_l2i, mm_ltJ, mm_leJ, mm_eqJ, mm_clt, mm_cle, mm_cgt, mm_cge, mm_ceq, mm_b, mm_nb, mm_nb0, mm_nb1, mm_vb0, mm_vb1, mm_vbc, mm_vy0, mm_vy1, mm_at, mm_ne, mm_nj, mm_Lw, mm_Nw, mm_atJ, mm_neJ, mm_njJ, zbI_s, zbV_s, zbJ_s, cond_t, Bool.true_and, Bool.and_true, if_true, if_false, not_true, not_false_iff, Classical.not_not, zel_r, zel_42, zel_12, zel_71, zel_80, zel_89, zel_110, zel_188, zel_103, zel_195, zr_o, zr_1, zr_2, zr_3, zr_4, zr_5, zr_6, zr_7, zr_8, zr_9, zq_o, zq_v, zt_o, zt_1, zt_2, zt_3, zt_4, zt_5, zf_o, zf_1, za_w1, za_w2, za_w3, za_cm, za_sl, Int.toNat_natCast, Int.toNat_natCast_add_one, mm_t0, mm_t1, mm_t2, mm_t3, mm_t4, mm_t5, mm_t6, mm_t7, mm_t8, mm_t9, mm_t10, mm_t11, mm_t12, mm_t13, za_1, za_64, za_65, za_66, za_67, za_68, za_71, za_80, za_89, za_98, za_103, za_110, za_121, za_122, za_123, za_124, za_125, za_126, za_188, za_193, za_194, za_195, za_286, za_288, za_289, za_290, za_291, za_292, za_293, za_294, za_295, za_296, za_297, za_298, za_299, za_300, za_301, za_302, za_303, za_304, za_305, za_306, za_307, za_308, za_309, za_310, za_311, za_312, e1]
    rw [if_neg (by omega)]
    refine zwp_IE (sp_226 hW hR hc hg0 hg1 (by omega) (by omega)) ?_
    intro τ hf2
    rw [mm_add]
    exact lp_227 hW hR0 hc0 hg0 hg1 k (t + 1) τ (by omega) (hf.tr hf2)
theorem sp_227 {σ : zM} {W : Int → Int} {c : Int → Int} {sl g : Int} (hW : WOK W) (hR : rdR σ W) (hc : rcC σ W c sl) (hg0 : -2147483648 ≤ g) (hg1 : g < 2147483648) : zwp (zcall 227 [.ref 287, .int (Int32.ofInt g)] σ) (fun v τ => v = some (.int (Int32.ofInt (dsT W c sl g))) ∧ mf (fun b => b = 303) σ τ) := by
  refine zwp_of (fun r h => zcc_227 (ze_227_0 _ _ r h)) ?_
  exact lp_227 hW hR hc hg0 hg1 (W 1).toNat 0 σ (by have := hW.1.2.1; omega) mf.rf
theorem rK.tr {σ τ υ : zM} (h : rK σ τ) (g : rK τ υ) : rK σ υ := ⟨h.1.tr g.1, fun k hk => (g.2.1 k hk).trans (h.2.1 k hk), g.2.2.trans h.2.2⟩
theorem rK_of {σ τ : zM} {S : Nat → Prop} (hf : mf S σ τ) (hS : ∀ b, S b → 294 ≤ b ∧ b ≤ 308) : rK σ τ := ⟨hf.mono fun b hb => .inr (hS b hb), fun k _ => hf.1 287 (fun p => by have := hS _ p; omega) k, hf.wv 288 (fun p => by have := hS _ p; omega)⟩
theorem rq_discord {σ : zM} {W : Int → Int} {g : Int} (hB : rB0 σ W) (hg0 : -2147483648 ≤ g) (hg1 : g < 2147483648) : zwp (zcall 228 [.ref 287, .int (Int32.ofInt g)] σ) (fun v τ => v = some (.int (Int32.ofInt (Edis W g))) ∧ rK σ τ) := by
  have e0 : zN σ 288 0 = W 0 := wv_k hB.1 0
  unfold Edis
  refine zwp_of (fun r h => zcc_228 (ze_228_0 _ _ r h)) ?_
  simp (disch := first | assumption | exact isR33 | exact isT104 | exact isF99 | exact isF101 | exact isR3 | omega | (refine isTk ?_; omega) | (refine isOk isR33 ?_; omega) | (refine isOk ?_ ?_; assumption; omega)) only [mm_r, mm_rl, mm_add, mm_sub, mm_mul, mm_addJ, mm_mulJ, mm_lt, mm_le, mm_eq, mm_z, mm_cl, mm_w, mm_wl, mm_ite, mm_i2l, mm_l2i, mm_ltJ, mm_leJ, mm_eqJ, mm_clt, mm_cle, mm_cgt, mm_cge, mm_ceq, mm_b, mm_nb, mm_nb0, mm_nb1, mm_vb0, mm_vb1, mm_vbc, mm_vy0, mm_vy1, mm_at, mm_ne, mm_nj, mm_Lw, mm_Nw, mm_atJ, mm_neJ, mm_njJ, zbI_s, zbV_s, zbJ_s, cond_t, Bool.true_and, Bool.and_true, if_true, if_false, not_true, not_false_iff, Classical.not_not, zel_r, zel_42, zel_12, zel_71, zel_80, zel_89, zel_110, zel_188, zel_103, zel_195, zr_o, zr_1, zr_2, zr_3, zr_4, zr_5, zr_6, zr_7, zr_8, zr_9, zq_o, zq_v, zt_o, zt_1, zt_2, zt_3, zt_4, zt_5, zf_o, zf_1, za_w1, za_w2, za_w3, za_cm, za_sl, Int.toNat_natCast, Int.toNat_natCast_add_one, mm_t0, mm_t1, mm_t2, mm_t3, mm_t4, mm_t5, mm_t6, mm_t7, mm_t8, mm_t9, mm_t10, mm_t11, mm_t12, mm_t13, za_1, za_64, za_65, za_66, za_67, za_68, za_71, za_80, za_89, za_98, za_103, za_110, za_121, za_122, za_123, za_124, za_125, za_126, za_188, za_193, za_194, za_195, za_286, za_288, za_289, za_290, za_291, za_292, za_293, za_294, za_295, za_296, za_297, za_298, za_299, za_300, za_301, za_302, za_303, za_304, za_305, za_306, za_307, za_308, za_309, za_310, za_311, za_312, sp_166, sp_171, e0]
  refine zwp_ite (fun q => ?_) (fun q => ?_)
  · rw [if_neg (fun p => q p.1)]
    exact zwp_ret ⟨rfl, rK.rf⟩
  · refine zwp_ite (fun q2 => ?_) (fun q2 => ?_)
    · rw [if_pos (⟨Classical.not_not.mp q, q2⟩ : isG W g)]
      refine zwp_V _ (sp_210c hB) ?_
      rintro τ ⟨hk, hg⟩
      refine zwp_IE (sp_227 hB.2.1 (rdR_of hg.1.1) hg.rc hg0 hg1) ?_
      intro υ hf
      exact zwp_ret ⟨rfl, hk.tr (rK_of hf (by omega))⟩
    · rw [if_neg (fun p => q2 p.2)]
      exact zwp_ret ⟨rfl, rK.rf⟩
theorem lp_229 {σ0 : zM} {W : Int → Int} {c : Int → Int} {sl g : Int} (hW : WOK W) (hR0 : rdR σ0 W) (hc0 : rcC σ0 W c sl) (hg0 : -2147483648 ≤ g) (hg1 : g < 2147483648) : ∀ (n : Nat) (σ : zM), (n : Int) ≤ W 1 → mf (fun b => b = 303) σ0 σ → zwp (zev 229 29 [some (.ref 287), some (.int (Int32.ofInt g)), some (.int (Int32.ofInt n))] [] σ) (fun v τ => v = some (.int (Int32.ofInt (if (pcd (fun h => dsc W c sl g h) n : Int) < W 1 then (pcd (fun h => dsc W c sl g h) n : Int) else -1))) ∧ mf (fun b => b = 303) σ0 τ)
  | 0, σ, hn, hf => by
    have h1 := hW.1.2.2.1
    have h0 := hW.1.2.1
    have e1 : zN σ 288 1 = W 1 := (hf.1 288 (by omega) 1).trans (hR0 1 (by decide) (by decide))
    have ez : (pcd (fun h => dsc W c sl g h) 0 : Int) = 0 := rfl
    rw [ez]
    refine zwp_of (fun r h => ze_229_29 _ _ _ r h) ?_
    simp (disch := first | assumption | exact isR33 | exact isT104 | exact isF99 | exact isF101 | exact isR3 | omega | (refine isTk ?_; omega) | (refine isOk isR33 ?_; omega) | (refine isOk ?_ ?_; assumption; omega)) only [mm_r, mm_rl, mm_add, mm_sub, mm_mul, mm_addJ, mm_mulJ, mm_lt, mm_le, mm_eq, mm_z, mm_cl, mm_w, mm_wl, mm_ite, mm_i2l, mm_l2i, mm_ltJ, mm_leJ, mm_eqJ, mm_clt, mm_cle, mm_cgt, mm_cge, mm_ceq, mm_b, mm_nb, mm_nb0, mm_nb1, mm_vb0, mm_vb1, mm_vbc, mm_vy0, mm_vy1, mm_at, mm_ne, mm_nj, mm_Lw, mm_Nw, mm_atJ, mm_neJ, mm_njJ, zbI_s, zbV_s, zbJ_s, cond_t, Bool.true_and, Bool.and_true, if_true, if_false, not_true, not_false_iff, Classical.not_not, zel_r, zel_42, zel_12, zel_71, zel_80, zel_89, zel_110, zel_188, zel_103, zel_195, zr_o, zr_1, zr_2, zr_3, zr_4, zr_5, zr_6, zr_7, zr_8, zr_9, zq_o, zq_v, zt_o, zt_1, zt_2, zt_3, zt_4, zt_5, zf_o, zf_1, za_w1, za_w2, za_w3, za_cm, za_sl, Int.toNat_natCast, Int.toNat_natCast_add_one, mm_t0, mm_t1, mm_t2, mm_t3, mm_t4, mm_t5, mm_t6, mm_t7, mm_t8, mm_t9, mm_t10, mm_t11, mm_t12, mm_t13, za_1, za_64, za_65, za_66, za_67, za_68, za_71, za_80, za_89, za_98, za_103, za_110, za_121, za_122, za_123, za_124, za_125, za_126, za_188, za_193, za_194, za_195, za_286, za_288, za_289, za_290, za_291, za_292, za_293, za_294, za_295, za_296, za_297, za_298, za_299, za_300, za_301, za_302, za_303, za_304, za_305, za_306, za_307, za_308, za_309, za_310, za_311, za_312, e1]
    rw [if_pos (by omega)]
    by_cases q : W 1 = 0
    · rw [if_neg (by omega), if_neg (by omega)]
      exact zwp_ret ⟨rfl, hf⟩
    · rw [if_pos (by omega), if_pos (by omega)]
      exact zwp_ret ⟨rfl, hf⟩
  | n + 1, σ, hn, hf => by
    have h1 := hW.1.2.2.1
    have hR : rdR σ W := fun k k0 k1 => (hf.1 288 (by omega) k).trans (hR0 k k0 k1)
    have e1 : zN σ 288 1 = W 1 := hR 1 (by decide) (by decide)
    have hc := hc0.fr (hf.1 288 (by omega)) (hf.1 299 (by omega)) (hf.1 300 (by omega))
    have en : ((n + 1 : Nat) : Int) - 1 = n := by omega
    have en2 : ((n + 1 : Nat) : Int) + -1 = n := by omega
    have rr := dsc_rng hW c sl g n
    have ep : pcd (fun h => dsc W c sl g h) (n + 1) = if dsc W c sl g n = 0 then pcd (fun h => dsc W c sl g h) n else n + 1 := rfl
    refine zwp_of (fun r h => ze_229_29 _ _ _ r h) ?_
    simp (disch := first | assumption | exact isR33 | exact isT104 | exact isF99 | exact isF101 | exact isR3 | omega | (refine isTk ?_; omega) | (refine isOk isR33 ?_; omega) | (refine isOk ?_ ?_; assumption; omega)) only [mm_r, mm_rl, mm_add, mm_sub, mm_mul, mm_addJ, mm_mulJ, mm_lt, mm_le, mm_eq, mm_z, mm_cl, mm_w, mm_wl, mm_ite, mm_i2l, mm_l2i, mm_ltJ, mm_leJ, mm_eqJ, mm_clt, mm_cle, mm_cgt, mm_cge, mm_ceq, mm_b, mm_nb, mm_nb0, mm_nb1, mm_vb0, mm_vb1, mm_vbc, mm_vy0, mm_vy1, mm_at, mm_ne, mm_nj, mm_Lw, mm_Nw, mm_atJ, mm_neJ, mm_njJ, zbI_s, zbV_s, zbJ_s, cond_t, Bool.true_and, Bool.and_true, if_true, if_false, not_true, not_false_iff, Classical.not_not, zel_r, zel_42, zel_12, zel_71, zel_80, zel_89, zel_110, zel_188, zel_103, zel_195, zr_o, zr_1, zr_2, zr_3, zr_4, zr_5, zr_6, zr_7, zr_8, zr_9, zq_o, zq_v, zt_o, zt_1, zt_2, zt_3, zt_4, zt_5, zf_o, zf_1, za_w1, za_w2, za_w3, za_cm, za_sl, Int.toNat_natCast, Int.toNat_natCast_add_one, mm_t0, mm_t1, mm_t2, mm_t3, mm_t4, mm_t5, mm_t6, mm_t7, mm_t8, mm_t9, mm_t10, mm_t11, mm_t12, mm_t13, za_1, za_64, za_65, za_66, za_67, za_68, za_71, za_80, za_89, za_98, za_103, za_110, za_121, za_122, za_123, za_124, za_125, za_126, za_188, za_193, za_194, za_195, za_286, za_288, za_289, za_290, za_291, za_292, za_293, za_294, za_295, za_296, za_297, za_298, za_299, za_300, za_301, za_302, za_303, za_304, za_305, za_306, za_307, za_308, za_309, za_310, za_311, za_312, e1, en, en2]
    rw [if_neg (by omega)]
    refine zwp_IE (sp_226 hW hR hc hg0 hg1 (by omega) (by omega)) ?_
    intro τ hf2
    have e1' : zN τ 288 1 = W 1 := (hf2.1 288 (by omega) 1).trans e1
    simp (disch := first | assumption | exact isR33 | exact isT104 | exact isF99 | exact isF101 | exact isR3 | omega | (refine isTk ?_; omega) | (refine isOk isR33 ?_; omega) | (refine isOk ?_ ?_; assumption; omega)) only [mm_r, mm_rl, mm_add, mm_sub, mm_mul, mm_addJ, mm_mulJ, mm_lt, mm_le, mm_eq, mm_z, mm_cl, mm_w, mm_wl, mm_ite, mm_i2l, mm_l2i, mm_ltJ, mm_leJ, mm_eqJ, mm_clt, mm_cle, mm_cgt, mm_cge, mm_ceq, mm_b, mm_nb, mm_nb0, mm_nb1, mm_vb0, mm_vb1, mm_vbc, mm_vy0, mm_vy1, mm_at, mm_ne, mm_nj, mm_Lw, mm_Nw, mm_atJ, mm_neJ, mm_njJ, zbI_s, zbV_s, zbJ_s, cond_t, Bool.true_and, Bool.and_true, if_true, if_false, not_true, not_false_iff, Classical.not_not, zel_r, zel_42, zel_12, zel_71, zel_80, zel_89, zel_110, zel_188, zel_103, zel_195, zr_o, zr_1, zr_2, zr_3, zr_4, zr_5, zr_6, zr_7, zr_8, zr_9, zq_o, zq_v, zt_o, zt_1, zt_2, zt_3, zt_4, zt_5, zf_o, zf_1, za_w1, za_w2, za_w3, za_cm, za_sl, Int.toNat_natCast, Int.toNat_natCast_add_one, mm_t0, mm_t1, mm_t2, mm_t3, mm_t4, mm_t5, mm_t6, mm_t7, mm_t8, mm_t9, mm_t10, mm_t11, mm_t12, mm_t13, za_1, za_64, za_65, za_66, za_67, za_68, za_71, za_80, za_89, za_98, za_103, za_110, za_121, za_122, za_123, za_124, za_125, za_126, za_188, za_193, za_194, za_195, za_286, za_288, za_289, za_290, za_291, za_292, za_293, za_294, za_295, za_296, za_297, za_298, za_299, za_300, za_301, za_302, za_303, za_304, za_305, za_306, za_307, za_308, za_309, za_310, za_311, za_312, e1']
    rw [ep]
    by_cases q : dsc W c sl g n = 0
    · have e3 : (if dsc W c sl g n = 0 then pcd (fun h => dsc W c sl g h) n else n + 1) = pcd (fun h => dsc W c sl g h) n := if_pos q
      rw [e3]
      refine zwp_f (fun p => p q) ?_
      exact lp_229 hW hR0 hc0 hg0 hg1 n τ (by omega) (hf.tr hf2)
    · have e3 : (if dsc W c sl g n = 0 then pcd (fun h => dsc W c sl g h) n else n + 1) = n + 1 := if_neg q
      rw [e3]
      refine zwp_t q ?_
      refine zwp_ite (fun z => ?_) (fun z => ?_)
      · rw [if_pos (by omega)]
        exact zwp_ret ⟨rfl, hf.tr hf2⟩
      · rw [if_neg (by omega)]
        exact zwp_ret ⟨rfl, hf.tr hf2⟩
theorem rq_peace {σ : zM} {W : Int → Int} {g : Int} (hB : rB0 σ W) (hg0 : -2147483648 ≤ g) (hg1 : g < 2147483648) : zwp (zcall 229 [.ref 287, .int (Int32.ofInt g)] σ) (fun v τ => v = some (.int (Int32.ofInt (Epc W g))) ∧ rK σ τ) := by
  have e0 : zN σ 288 0 = W 0 := wv_k hB.1 0
  unfold Epc
  refine zwp_of (fun r h => zcc_229 (ze_229_0 _ _ r h)) ?_
  simp (disch := first | assumption | exact isR33 | exact isT104 | exact isF99 | exact isF101 | exact isR3 | omega | (refine isTk ?_; omega) | (refine isOk isR33 ?_; omega) | (refine isOk ?_ ?_; assumption; omega)) only [mm_r, mm_rl, mm_add, mm_sub, mm_mul, mm_addJ, mm_mulJ, mm_lt, mm_le, mm_eq, mm_z, mm_cl, mm_w, mm_wl, mm_ite, mm_i2l, mm_l2i, mm_ltJ, mm_leJ, mm_eqJ, mm_clt, mm_cle, mm_cgt, mm_cge, mm_ceq, mm_b, mm_nb, mm_nb0, mm_nb1, mm_vb0, mm_vb1, mm_vbc, mm_vy0, mm_vy1, mm_at, mm_ne, mm_nj, mm_Lw, mm_Nw, mm_atJ, mm_neJ, mm_njJ, zbI_s, zbV_s, zbJ_s, cond_t, Bool.true_and, Bool.and_true, if_true, if_false, not_true, not_false_iff, Classical.not_not, zel_r, zel_42, zel_12, zel_71, zel_80, zel_89, zel_110, zel_188, zel_103, zel_195, zr_o, zr_1, zr_2, zr_3, zr_4, zr_5, zr_6, zr_7, zr_8, zr_9, zq_o, zq_v, zt_o, zt_1, zt_2, zt_3, zt_4, zt_5, zf_o, zf_1, za_w1, za_w2, za_w3, za_cm, za_sl, Int.toNat_natCast, Int.toNat_natCast_add_one, mm_t0, mm_t1, mm_t2, mm_t3, mm_t4, mm_t5, mm_t6, mm_t7, mm_t8, mm_t9, mm_t10, mm_t11, mm_t12, mm_t13, za_1, za_64, za_65, za_66, za_67, za_68, za_71, za_80, za_89, za_98, za_103, za_110, za_121, za_122, za_123, za_124, za_125, za_126, za_188, za_193, za_194, za_195, za_286, za_288, za_289, za_290, za_291, za_292, za_293, za_294, za_295, za_296, za_297, za_298, za_299, za_300, za_301, za_302, za_303, za_304, za_305, za_306, za_307, za_308, za_309, za_310, za_311, za_312, sp_166, sp_171, e0]
  refine zwp_ite (fun q => ?_) (fun q => ?_)
  · rw [if_neg (fun p => q p.1)]
    exact zwp_ret ⟨rfl, rK.rf⟩
  · refine zwp_ite (fun q2 => ?_) (fun q2 => ?_)
    · rw [if_pos (⟨Classical.not_not.mp q, q2⟩ : isG W g)]
      refine zwp_V _ (sp_210c hB) ?_
      rintro τ ⟨hk, hg⟩
      have e1 : zN τ 288 1 = W 1 := wv_k hg.1.1 1
      have h0 := hB.2.1.1.2.1
      have l := lp_229 (σ0 := τ) hB.2.1 (rdR_of hg.1.1) hg.rc hg0 hg1 (W 1).toNat τ (by omega) mf.rf
      rw [show (((W 1).toNat : Nat) : Int) = W 1 by omega] at l
      simp (disch := first | assumption | exact isR33 | exact isT104 | exact isF99 | exact isF101 | exact isR3 | omega | (refine isTk ?_; omega) | (refine isOk isR33 ?_; omega) | (refine isOk ?_ ?_; assumption; omega)) only [mm_r, mm_rl, mm_add, mm_sub, mm_mul, mm_addJ, mm_mulJ, mm_lt, mm_le, mm_eq, mm_z, mm_cl, mm_w, mm_wl, mm_ite, mm_i2l, mm_l2i, mm_ltJ, mm_leJ, mm_eqJ, mm_clt, mm_cle, mm_cgt, mm_cge, mm_ceq, mm_b, mm_nb, mm_nb0, mm_nb1, mm_vb0, mm_vb1, mm_vbc, mm_vy0, mm_vy1, mm_at, mm_ne, mm_nj, mm_Lw, mm_Nw, mm_atJ, mm_neJ, mm_njJ, zbI_s, zbV_s, zbJ_s, cond_t, Bool.true_and, Bool.and_true, if_true, if_false, not_true, not_false_iff, Classical.not_not, zel_r, zel_42, zel_12, zel_71, zel_80, zel_89, zel_110, zel_188, zel_103, zel_195, zr_o, zr_1, zr_2, zr_3, zr_4, zr_5, zr_6, zr_7, zr_8, zr_9, zq_o, zq_v, zt_o, zt_1, zt_2, zt_3, zt_4, zt_5, zf_o, zf_1, za_w1, za_w2, za_w3, za_cm, za_sl, Int.toNat_natCast, Int.toNat_natCast_add_one, mm_t0, mm_t1, mm_t2, mm_t3, mm_t4, mm_t5, mm_t6, mm_t7, mm_t8, mm_t9, mm_t10, mm_t11, mm_t12, mm_t13, za_1, za_64, za_65, za_66, za_67, za_68, za_71, za_80, za_89, za_98, za_103, za_110, za_121, za_122, za_123, za_124, za_125, za_126, za_188, za_193, za_194, za_195, za_286, za_288, za_289, za_290, za_291, za_292, za_293, za_294, za_295, za_296, za_297, za_298, za_299, za_300, za_301, za_302, za_303, za_304, za_305, za_306, za_307, za_308, za_309, za_310, za_311, za_312, e1]
      exact zwp_mono l (fun v υ h => ⟨h.1, hk.tr (rK_of h.2 (by omega))⟩)
    · rw [if_neg (fun p => q2 p.2)]
      exact zwp_ret ⟨rfl, rK.rf⟩
/-! just: the least discord over all seals -/
def jst (f : Int → Int) : Nat → Int × Int
  | 0 => (-1, 1000000)
  | n + 1 => if f n < (jst f n).2 then ((n : Int), f n) else jst f n
theorem jst_rng {f : Int → Int} (hf : ∀ i, 0 ≤ f i ∧ f i ≤ 1188) : ∀ n : Nat, -1 ≤ (jst f n).1 ∧ (jst f n).1 < n ∧ 0 ≤ (jst f n).2 ∧ (jst f n).2 ≤ 1000000 ∧ (n ≠ 0 → (jst f n).2 ≤ f ((n : Int) - 1))
  | 0 => ⟨Int.le_refl _, by show (-1 : Int) < 0; decide, by show (0 : Int) ≤ 1000000; decide, Int.le_refl _, fun h => absurd rfl h⟩
  | n + 1 => by
    have a := jst_rng hf n
    have b := hf n
    have en : ((n + 1 : Nat) : Int) - 1 = n := by omega
    rw [jst, en]
    by_cases q : f n < (jst f n).2
    · rw [if_pos q]
      exact ⟨by show -1 ≤ (n : Int); omega, by show (n : Int) < ((n + 1 : Nat) : Int); omega, b.1, by show f n ≤ _; omega, fun _ => Int.le_refl _⟩
    · rw [if_neg q]
      exact ⟨a.1, by omega, a.2.2.1, a.2.2.2.1, fun _ => by omega⟩
def Ejs (W : Int → Int) (g : Int) : Int := if isG W g then (jst (fun s => dsT W (CM W noD) s g) 100).1 else -2
theorem dsT_s {W : Int → Int} (hW : WOK W) {c : Int → Int} {s g : Int} (hz : zany (fun o => decide (c o = s)) (W 5).toNat = false) : dsT W c s g = dsT W c (s - 1) g := by
  have hh := fun t h => HH_s (t := t) (g := g) (h := h) hW.un (c := c) (sl := s) (sl' := s - 1) (fun o o0 o1 => by have := none_h hW.un hz o o0 o1; omega)
  unfold dsT
  refine zsum_congr _ fun h _ _ => ?_
  unfold dsc
  refine zcnt_congr _ fun r _ _ => ?_
  rw [hh, hh]
theorem ccC.seal {σ : zM} {W : Int → Int} {c : Int → Int} {sl : Int} (h : ccC σ W c sl) {s : Int} (s0 : 0 ≤ s) (s1 : s ≤ 99) : ccC (zw σ 63 1 s) W c s := ⟨(mm_nj (by decide)).trans h.1, mm_at rfl rfl (by omega) (by omega), fun o o0 o1 => ⟨(h.2.2 o o0 o1).1.fr (mm_ne (by decide)) (mm_ne (by decide)) (mm_ne (by decide)) (mm_ne (by decide)), (mm_ne (by decide)).trans (h.2.2 o o0 o1).2⟩⟩
theorem lp_21 {σ0 : zM} {W : Int → Int} {c : Int → Int} {g : Int} (hW : WOK W) (hL0 : cL σ0 33 W) (hg0 : -2147483648 ≤ g) (hg1 : g < 2147483648) : ∀ (k s : Nat) (b l : Int) (σ : zM) (sl : Int), s + k = 100 → (s ≠ 0 → (b, l) = jst (fun s => dsT W c s g) s) → (s = 0 → b = 0 ∧ l = 0) → ccC σ W c sl → mf (fun b => b = 63 ∨ b = 123 ∨ b = 124) σ0 σ → zN σ 63 0 = zN σ0 63 0 → zwp (zev 21 7 [some (.ref 69), some (.int (Int32.ofInt g)), some (.int (Int32.ofInt b)), some (.int (Int32.ofInt l)), some (.int (Int32.ofInt s)), none] [] σ) (fun v τ => v = some (.int (Int32.ofInt (jst (fun s => dsT W c s g) 100).1)) ∧ mf (fun b => b = 63 ∨ b = 123 ∨ b = 124) σ0 τ ∧ zN τ 63 0 = zN σ0 63 0 ∧ zN τ 63 1 = W 7)
  | 0, s, b, l, σ, sl, e, hb, hb0, hc, hf, h0 => by
    have h5 := hW.2.2.1
    have hL := hL0.fr (by omega) fun a h1 h2 => hf.1 a (by omega)
    have e3 := hL.1.2.2.2.1
    have hb := hb (by omega)
    obtain rfl : s = 100 := by omega
    refine zwp_of (fun r h => ze_21_7 _ _ _ _ _ r h) ?_
    refine zwp_t (by try simp (disch := first | assumption | exact isR33 | exact isT104 | exact isF99 | exact isF101 | exact isR3 | omega | (refine isTk ?_; omega) | (refine isOk isR33 ?_; omega) | (refine isOk ?_ ?_; assumption; omega)) only [mm_r, mm_rl, mm_add, mm_sub, mm_mul, mm_addJ, mm_mulJ, mm_lt, mm_le, mm_eq, mm_z, mm_cl, mm_w, mm_wl, mm_ite, mm_i2l, mm_l2i, mm_ltJ, mm_leJ, mm_eqJ, mm_clt, mm_cle, mm_cgt, mm_cge, mm_ceq, mm_b, mm_nb, mm_nb0, mm_nb1, mm_vb0, mm_vb1, mm_vbc, mm_vy0, mm_vy1, mm_at, mm_ne, mm_nj, mm_Lw, mm_Nw, mm_atJ, mm_neJ, mm_njJ, zbI_s, zbV_s, zbJ_s, cond_t, Bool.true_and, Bool.and_true, if_true, if_false, not_true, not_false_iff, Classical.not_not, zel_r, zel_42, zel_12, zel_71, zel_80, zel_89, zel_110, zel_188, zel_103, zel_195, zr_o, zr_1, zr_2, zr_3, zr_4, zr_5, zr_6, zr_7, zr_8, zr_9, zq_o, zq_v, zt_o, zt_1, zt_2, zt_3, zt_4, zt_5, zf_o, zf_1, za_w1, za_w2, za_w3, za_cm, za_sl, Int.toNat_natCast, Int.toNat_natCast_add_one, mm_t0, mm_t1, mm_t2, mm_t3, mm_t4, mm_t5, mm_t6, mm_t7, mm_t8, mm_t9, mm_t10, mm_t11, mm_t12, mm_t13, za_1, za_64, za_65, za_66, za_67, za_68, za_71, za_80, za_89, za_98, za_103, za_110, za_121, za_122, za_123, za_124, za_125, za_126, za_188, za_193, za_194, za_195, za_286, za_288, za_289, za_290, za_291, za_292, za_293, za_294, za_295, za_296, za_297, za_298, za_299, za_300, za_301, za_302, za_303, za_304, za_305, za_306, za_307, za_308, za_309, za_310, za_311, za_312]
                     first | done | omega) ?_
    refine zwp_letE (τ' := zw σ 63 1 (W 7)) (by simp (disch := first | assumption | exact isR33 | exact isT104 | exact isF99 | exact isF101 | exact isR3 | omega | (refine isTk ?_; omega) | (refine isOk isR33 ?_; omega) | (refine isOk ?_ ?_; assumption; omega)) only [mm_r, mm_rl, mm_add, mm_sub, mm_mul, mm_addJ, mm_mulJ, mm_lt, mm_le, mm_eq, mm_z, mm_cl, mm_w, mm_wl, mm_ite, mm_i2l, mm_l2i, mm_ltJ, mm_leJ, mm_eqJ, mm_clt, mm_cle, mm_cgt, mm_cge, mm_ceq, mm_b, mm_nb, mm_nb0, mm_nb1, mm_vb0, mm_vb1, mm_vbc, mm_vy0, mm_vy1, mm_at, mm_ne, mm_nj, mm_Lw, mm_Nw, mm_atJ, mm_neJ, mm_njJ, zbI_s, zbV_s, zbJ_s, cond_t, Bool.true_and, Bool.and_true, if_true, if_false, not_true, not_false_iff, Classical.not_not, zel_r, zel_42, zel_12, zel_71, zel_80, zel_89, zel_110, zel_188, zel_103, zel_195, zr_o, zr_1, zr_2, zr_3, zr_4, zr_5, zr_6, zr_7, zr_8, zr_9, zq_o, zq_v, zt_o, zt_1, zt_2, zt_3, zt_4, zt_5, zf_o, zf_1, za_w1, za_w2, za_w3, za_cm, za_sl, Int.toNat_natCast, Int.toNat_natCast_add_one, mm_t0, mm_t1, mm_t2, mm_t3, mm_t4, mm_t5, mm_t6, mm_t7, mm_t8, mm_t9, mm_t10, mm_t11, mm_t12, mm_t13, za_1, za_64, za_65, za_66, za_67, za_68, za_71, za_80, za_89, za_98, za_103, za_110, za_121, za_122, za_123, za_124, za_125, za_126, za_188, za_193, za_194, za_195, za_286, za_288, za_289, za_290, za_291, za_292, za_293, za_294, za_295, za_296, za_297, za_298, za_299, za_300, za_301, za_302, za_303, za_304, za_305, za_306, za_307, za_308, za_309, za_310, za_311, za_312, e3]) ?_
    refine zwp_ret ⟨?_, hf.zw 63 _ _ (.inl rfl), (mm_nj (by decide)).trans h0, mm_at rfl rfl (by omega) (by omega)⟩
    rw [← hb]
  | k + 1, s, b, l, σ, sl, e, hb, hb0, hc, hf, h0 => by
    have h5 := hW.2.2.1
    have hL := hL0.fr (by omega) fun a h1 h2 => hf.1 a (by omega)
    have rj := jst_rng (f := fun s => dsT W c s g) (fun i => dsT_rng hW c i g) s
    have rd := dsT_rng hW c s g
    have ej : jst (fun s => dsT W c s g) (s + 1) = if dsT W c s g < (jst (fun s => dsT W c s g) s).2 then ((s : Int), dsT W c s g) else jst (fun s => dsT W c s g) s := rfl
    have hc2 := hc.seal (s := s) (by omega) (by omega)
    have f2 : mf (fun b => b = 63 ∨ b = 123 ∨ b = 124) σ0 (zw σ 63 1 s) := hf.zw 63 _ _ (.inl rfl)
    have hL2 := hL0.fr (by omega) fun a h1 h2 => f2.1 a (by omega)
    by_cases q : s = 0
    · subst q
      obtain ⟨rfl, rfl⟩ := hb0 rfl
      refine zwp_of (fun r h => ze_21_7 _ _ _ _ _ r h) ?_
      refine zwp_f (by try simp (disch := first | assumption | exact isR33 | exact isT104 | exact isF99 | exact isF101 | exact isR3 | omega | (refine isTk ?_; omega) | (refine isOk isR33 ?_; omega) | (refine isOk ?_ ?_; assumption; omega)) only [mm_r, mm_rl, mm_add, mm_sub, mm_mul, mm_addJ, mm_mulJ, mm_lt, mm_le, mm_eq, mm_z, mm_cl, mm_w, mm_wl, mm_ite, mm_i2l, mm_l2i, mm_ltJ, mm_leJ, mm_eqJ, mm_clt, mm_cle, mm_cgt, mm_cge, mm_ceq, mm_b, mm_nb, mm_nb0, mm_nb1, mm_vb0, mm_vb1, mm_vbc, mm_vy0, mm_vy1, mm_at, mm_ne, mm_nj, mm_Lw, mm_Nw, mm_atJ, mm_neJ, mm_njJ, zbI_s, zbV_s, zbJ_s, cond_t, Bool.true_and, Bool.and_true, if_true, if_false, not_true, not_false_iff, Classical.not_not, zel_r, zel_42, zel_12, zel_71, zel_80, zel_89, zel_110, zel_188, zel_103, zel_195, zr_o, zr_1, zr_2, zr_3, zr_4, zr_5, zr_6, zr_7, zr_8, zr_9, zq_o, zq_v, zt_o, zt_1, zt_2, zt_3, zt_4, zt_5, zf_o, zf_1, za_w1, za_w2, za_w3, za_cm, za_sl, Int.toNat_natCast, Int.toNat_natCast_add_one, mm_t0, mm_t1, mm_t2, mm_t3, mm_t4, mm_t5, mm_t6, mm_t7, mm_t8, mm_t9, mm_t10, mm_t11, mm_t12, mm_t13, za_1, za_64, za_65, za_66, za_67, za_68, za_71, za_80, za_89, za_98, za_103, za_110, za_121, za_122, za_123, za_124, za_125, za_126, za_188, za_193, za_194, za_195, za_286, za_288, za_289, za_290, za_291, za_292, za_293, za_294, za_295, za_296, za_297, za_298, za_299, za_300, za_301, za_302, za_303, za_304, za_305, za_306, za_307, za_308, za_309, za_310, za_311, za_312]
                       first | done | omega) ?_
      refine zwp_t rfl ?_
      refine zwp_letE (τ' := zw σ 63 1 ((0 : Nat) : Int)) (by simp (disch := first | assumption | exact isR33 | exact isT104 | exact isF99 | exact isF101 | exact isR3 | omega | (refine isTk ?_; omega) | (refine isOk isR33 ?_; omega) | (refine isOk ?_ ?_; assumption; omega)) only [mm_r, mm_rl, mm_add, mm_sub, mm_mul, mm_addJ, mm_mulJ, mm_lt, mm_le, mm_eq, mm_z, mm_cl, mm_w, mm_wl, mm_ite, mm_i2l, mm_l2i, mm_ltJ, mm_leJ, mm_eqJ, mm_clt, mm_cle, mm_cgt, mm_cge, mm_ceq, mm_b, mm_nb, mm_nb0, mm_nb1, mm_vb0, mm_vb1, mm_vbc, mm_vy0, mm_vy1, mm_at, mm_ne, mm_nj, mm_Lw, mm_Nw, mm_atJ, mm_neJ, mm_njJ, zbI_s, zbV_s, zbJ_s, cond_t, Bool.true_and, Bool.and_true, if_true, if_false, not_true, not_false_iff, Classical.not_not, zel_r, zel_42, zel_12, zel_71, zel_80, zel_89, zel_110, zel_188, zel_103, zel_195, zr_o, zr_1, zr_2, zr_3, zr_4, zr_5, zr_6, zr_7, zr_8, zr_9, zq_o, zq_v, zt_o, zt_1, zt_2, zt_3, zt_4, zt_5, zf_o, zf_1, za_w1, za_w2, za_w3, za_cm, za_sl, Int.toNat_natCast, Int.toNat_natCast_add_one, mm_t0, mm_t1, mm_t2, mm_t3, mm_t4, mm_t5, mm_t6, mm_t7, mm_t8, mm_t9, mm_t10, mm_t11, mm_t12, mm_t13, za_1, za_64, za_65, za_66, za_67, za_68, za_71, za_80, za_89, za_98, za_103, za_110, za_121, za_122, za_123, za_124, za_125, za_126, za_188, za_193, za_194, za_195, za_286, za_288, za_289, za_290, za_291, za_292, za_293, za_294, za_295, za_296, za_297, za_298, za_299, za_300, za_301, za_302, za_303, za_304, za_305, za_306, za_307, za_308, za_309, za_310, za_311, za_312]) ?_
      refine zwp_IE (sp_19 hW hL2 hc2 hg0 hg1) ?_
      rintro τ ⟨hf3, -⟩
      refine zwp_t rfl ?_
      refine lp_21 hW hL0 hg0 hg1 k 1 _ _ τ _ (by omega) (fun _ => ?_) (fun h => absurd h (by decide)) (hc2.fr fun b b0 b1 => hf3.1 b (by omega)) (f2.tr (hf3.mono (by omega))) ?_
      · have hlt : dsT W c ((0 : Nat) : Int) g < (jst (fun s => dsT W c s g) 0).2 := by
          show _ < (1000000 : Int)
          omega
        rw [ej, if_pos hlt]
      · rw [hf3.1 63 (by omega), mm_nj (by decide)]
        exact h0
    · have hb := hb q
      have hb1 : (jst (fun s => dsT W c s g) s).1 = b := by rw [← hb]
      have hb2 : (jst (fun s => dsT W c s g) s).2 = l := by rw [← hb]
      rw [hb1, hb2] at rj
      refine zwp_of (fun r h => ze_21_7 _ _ _ _ _ r h) ?_
      refine zwp_f (by try simp (disch := first | assumption | exact isR33 | exact isT104 | exact isF99 | exact isF101 | exact isR3 | omega | (refine isTk ?_; omega) | (refine isOk isR33 ?_; omega) | (refine isOk ?_ ?_; assumption; omega)) only [mm_r, mm_rl, mm_add, mm_sub, mm_mul, mm_addJ, mm_mulJ, mm_lt, mm_le, mm_eq, mm_z, mm_cl, mm_w, mm_wl, mm_ite, mm_i2l, mm_l2i, mm_ltJ, mm_leJ, mm_eqJ, mm_clt, mm_cle, mm_cgt, mm_cge, mm_ceq, mm_b, mm_nb, mm_nb0, mm_nb1, mm_vb0, mm_vb1, mm_vbc, mm_vy0, mm_vy1, mm_at, mm_ne, mm_nj, mm_Lw, mm_Nw, mm_atJ, mm_neJ, mm_njJ, zbI_s, zbV_s, zbJ_s, cond_t, Bool.true_and, Bool.and_true, if_true, if_false, not_true, not_false_iff, Classical.not_not, zel_r, zel_42, zel_12, zel_71, zel_80, zel_89, zel_110, zel_188, zel_103, zel_195, zr_o, zr_1, zr_2, zr_3, zr_4, zr_5, zr_6, zr_7, zr_8, zr_9, zq_o, zq_v, zt_o, zt_1, zt_2, zt_3, zt_4, zt_5, zf_o, zf_1, za_w1, za_w2, za_w3, za_cm, za_sl, Int.toNat_natCast, Int.toNat_natCast_add_one, mm_t0, mm_t1, mm_t2, mm_t3, mm_t4, mm_t5, mm_t6, mm_t7, mm_t8, mm_t9, mm_t10, mm_t11, mm_t12, mm_t13, za_1, za_64, za_65, za_66, za_67, za_68, za_71, za_80, za_89, za_98, za_103, za_110, za_121, za_122, za_123, za_124, za_125, za_126, za_188, za_193, za_194, za_195, za_286, za_288, za_289, za_290, za_291, za_292, za_293, za_294, za_295, za_296, za_297, za_298, za_299, za_300, za_301, za_302, za_303, za_304, za_305, za_306, za_307, za_308, za_309, za_310, za_311, za_312]
                       first | done | omega) ?_
      refine zwp_f (by try simp (disch := first | assumption | exact isR33 | exact isT104 | exact isF99 | exact isF101 | exact isR3 | omega | (refine isTk ?_; omega) | (refine isOk isR33 ?_; omega) | (refine isOk ?_ ?_; assumption; omega)) only [mm_r, mm_rl, mm_add, mm_sub, mm_mul, mm_addJ, mm_mulJ, mm_lt, mm_le, mm_eq, mm_z, mm_cl, mm_w, mm_wl, mm_ite, mm_i2l, mm_l2i, mm_ltJ, mm_leJ, mm_eqJ, mm_clt, mm_cle, mm_cgt, mm_cge, mm_ceq, mm_b, mm_nb, mm_nb0, mm_nb1, mm_vb0, mm_vb1, mm_vbc, mm_vy0, mm_vy1, mm_at, mm_ne, mm_nj, mm_Lw, mm_Nw, mm_atJ, mm_neJ, mm_njJ, zbI_s, zbV_s, zbJ_s, cond_t, Bool.true_and, Bool.and_true, if_true, if_false, not_true, not_false_iff, Classical.not_not, zel_r, zel_42, zel_12, zel_71, zel_80, zel_89, zel_110, zel_188, zel_103, zel_195, zr_o, zr_1, zr_2, zr_3, zr_4, zr_5, zr_6, zr_7, zr_8, zr_9, zq_o, zq_v, zt_o, zt_1, zt_2, zt_3, zt_4, zt_5, zf_o, zf_1, za_w1, za_w2, za_w3, za_cm, za_sl, Int.toNat_natCast, Int.toNat_natCast_add_one, mm_t0, mm_t1, mm_t2, mm_t3, mm_t4, mm_t5, mm_t6, mm_t7, mm_t8, mm_t9, mm_t10, mm_t11, mm_t12, mm_t13, za_1, za_64, za_65, za_66, za_67, za_68, za_71, za_80, za_89, za_98, za_103, za_110, za_121, za_122, za_123, za_124, za_125, za_126, za_188, za_193, za_194, za_195, za_286, za_288, za_289, za_290, za_291, za_292, za_293, za_294, za_295, za_296, za_297, za_298, za_299, za_300, za_301, za_302, za_303, za_304, za_305, za_306, za_307, za_308, za_309, za_310, za_311, za_312]; first | done | omega) ?_
      rw [sp_7c hW.un hc (by omega) (by omega)]
      simp only [zbI_s, mm_z, mm_b]
      refine zwp_ite (fun z => ?_) (fun z => ?_)
      · have hz := dsT_s (g := g) hW (Bool.not_eq_true _ |>.mp z)
        have := rj.2.2.2.2 q
        rw [mm_add]
        refine lp_21 hW hL0 hg0 hg1 k (s + 1) b l σ sl (by omega) (fun _ => ?_) (fun h => absurd h (by omega)) hc hf h0
        rw [ej, hb2, if_neg (by omega)]
        exact hb
      · refine zwp_letE (τ' := zw σ 63 1 s) (by simp (disch := first | assumption | exact isR33 | exact isT104 | exact isF99 | exact isF101 | exact isR3 | omega | (refine isTk ?_; omega) | (refine isOk isR33 ?_; omega) | (refine isOk ?_ ?_; assumption; omega)) only [mm_r, mm_rl, mm_add, mm_sub, mm_mul, mm_addJ, mm_mulJ, mm_lt, mm_le, mm_eq, mm_z, mm_cl, mm_w, mm_wl, mm_ite, mm_i2l, mm_l2i, mm_ltJ, mm_leJ, mm_eqJ, mm_clt, mm_cle, mm_cgt, mm_cge, mm_ceq, mm_b, mm_nb, mm_nb0, mm_nb1, mm_vb0, mm_vb1, mm_vbc, mm_vy0, mm_vy1, mm_at, mm_ne, mm_nj, mm_Lw, mm_Nw, mm_atJ, mm_neJ, mm_njJ, zbI_s, zbV_s, zbJ_s, cond_t, Bool.true_and, Bool.and_true, if_true, if_false, not_true, not_false_iff, Classical.not_not, zel_r, zel_42, zel_12, zel_71, zel_80, zel_89, zel_110, zel_188, zel_103, zel_195, zr_o, zr_1, zr_2, zr_3, zr_4, zr_5, zr_6, zr_7, zr_8, zr_9, zq_o, zq_v, zt_o, zt_1, zt_2, zt_3, zt_4, zt_5, zf_o, zf_1, za_w1, za_w2, za_w3, za_cm, za_sl, Int.toNat_natCast, Int.toNat_natCast_add_one, mm_t0, mm_t1, mm_t2, mm_t3, mm_t4, mm_t5, mm_t6, mm_t7, mm_t8, mm_t9, mm_t10, mm_t11, mm_t12, mm_t13, za_1, za_64, za_65, za_66, za_67, za_68, za_71, za_80, za_89, za_98, za_103, za_110, za_121, za_122, za_123, za_124, za_125, za_126, za_188, za_193, za_194, za_195, za_286, za_288, za_289, za_290, za_291, za_292, za_293, za_294, za_295, za_296, za_297, za_298, za_299, za_300, za_301, za_302, za_303, za_304, za_305, za_306, za_307, za_308, za_309, za_310, za_311, za_312]) ?_
        refine zwp_IE (sp_19 hW hL2 hc2 hg0 hg1) ?_
        rintro τ ⟨hf3, -⟩
        have h03 : zN τ 63 0 = zN σ0 63 0 := by
          rw [hf3.1 63 (by omega), mm_nj (by decide)]
          exact h0
        simp (disch := first | assumption | exact isR33 | exact isT104 | exact isF99 | exact isF101 | exact isR3 | omega | (refine isTk ?_; omega) | (refine isOk isR33 ?_; omega) | (refine isOk ?_ ?_; assumption; omega)) only [mm_r, mm_rl, mm_add, mm_sub, mm_mul, mm_addJ, mm_mulJ, mm_lt, mm_le, mm_eq, mm_z, mm_cl, mm_w, mm_wl, mm_ite, mm_i2l, mm_l2i, mm_ltJ, mm_leJ, mm_eqJ, mm_clt, mm_cle, mm_cgt, mm_cge, mm_ceq, mm_b, mm_nb, mm_nb0, mm_nb1, mm_vb0, mm_vb1, mm_vbc, mm_vy0, mm_vy1, mm_at, mm_ne, mm_nj, mm_Lw, mm_Nw, mm_atJ, mm_neJ, mm_njJ, zbI_s, zbV_s, zbJ_s, cond_t, Bool.true_and, Bool.and_true, if_true, if_false, not_true, not_false_iff, Classical.not_not, zel_r, zel_42, zel_12, zel_71, zel_80, zel_89, zel_110, zel_188, zel_103, zel_195, zr_o, zr_1, zr_2, zr_3, zr_4, zr_5, zr_6, zr_7, zr_8, zr_9, zq_o, zq_v, zt_o, zt_1, zt_2, zt_3, zt_4, zt_5, zf_o, zf_1, za_w1, za_w2, za_w3, za_cm, za_sl, Int.toNat_natCast, Int.toNat_natCast_add_one, mm_t0, mm_t1, mm_t2, mm_t3, mm_t4, mm_t5, mm_t6, mm_t7, mm_t8, mm_t9, mm_t10, mm_t11, mm_t12, mm_t13, za_1, za_64, za_65, za_66, za_67, za_68, za_71, za_80, za_89, za_98, za_103, za_110, za_121, za_122, za_123, za_124, za_125, za_126, za_188, za_193, za_194, za_195, za_286, za_288, za_289, za_290, za_291, za_292, za_293, za_294, za_295, za_296, za_297, za_298, za_299, za_300, za_301, za_302, za_303, za_304, za_305, za_306, za_307, za_308, za_309, za_310, za_311, za_312]
        rw [if_neg (by omega)]
        by_cases z2 : l ≤ dsT W c s g
        · rw [if_pos z2]
          refine lp_21 hW hL0 hg0 hg1 k (s + 1) b l τ s (by omega) (fun _ => ?_) (fun h => absurd h (by omega)) (hc2.fr fun b b0 b1 => hf3.1 b (by omega)) (f2.tr (hf3.mono (by omega))) h03
          rw [ej, hb2, if_neg (by omega)]
          exact hb
        · rw [if_neg z2]
          refine lp_21 hW hL0 hg0 hg1 k (s + 1) _ _ τ s (by omega) (fun _ => ?_) (fun h => absurd h (by omega)) (hc2.fr fun b b0 b1 => hf3.1 b (by omega)) (f2.tr (hf3.mono (by omega))) h03
          rw [ej, hb2, if_pos (by omega)]
theorem cq_just {σ : zM} {W : Int → Int} {g : Int} (hW : WOK W) (hC : ctC σ W) (hg0 : -2147483648 ≤ g) (hg1 : g < 2147483648) : zwp (zcall 122 [.ref 0, .int (Int32.ofInt g)] σ) (fun v τ => v = some (.int (Int32.ofInt (Ejs W g))) ∧ cK σ τ W) := by
  have e1 := hC.1.1.2.1
  have h5 := hW.2.2.1
  unfold Ejs
  refine zwp_of (fun r h => zcc_122 (ze_122_0 _ _ r h)) ?_
  simp (disch := first | assumption | exact isR33 | exact isT104 | exact isF99 | exact isF101 | exact isR3 | omega | (refine isTk ?_; omega) | (refine isOk isR33 ?_; omega) | (refine isOk ?_ ?_; assumption; omega)) only [mm_r, mm_rl, mm_add, mm_sub, mm_mul, mm_addJ, mm_mulJ, mm_lt, mm_le, mm_eq, mm_z, mm_cl, mm_w, mm_wl, mm_ite, mm_i2l, mm_l2i, mm_ltJ, mm_leJ, mm_eqJ, mm_clt, mm_cle, mm_cgt, mm_cge, mm_ceq, mm_b, mm_nb, mm_nb0, mm_nb1, mm_vb0, mm_vb1, mm_vbc, mm_vy0, mm_vy1, mm_at, mm_ne, mm_nj, mm_Lw, mm_Nw, mm_atJ, mm_neJ, mm_njJ, zbI_s, zbV_s, zbJ_s, cond_t, Bool.true_and, Bool.and_true, if_true, if_false, not_true, not_false_iff, Classical.not_not, zel_r, zel_42, zel_12, zel_71, zel_80, zel_89, zel_110, zel_188, zel_103, zel_195, zr_o, zr_1, zr_2, zr_3, zr_4, zr_5, zr_6, zr_7, zr_8, zr_9, zq_o, zq_v, zt_o, zt_1, zt_2, zt_3, zt_4, zt_5, zf_o, zf_1, za_w1, za_w2, za_w3, za_cm, za_sl, Int.toNat_natCast, Int.toNat_natCast_add_one, mm_t0, mm_t1, mm_t2, mm_t3, mm_t4, mm_t5, mm_t6, mm_t7, mm_t8, mm_t9, mm_t10, mm_t11, mm_t12, mm_t13, za_1, za_64, za_65, za_66, za_67, za_68, za_71, za_80, za_89, za_98, za_103, za_110, za_121, za_122, za_123, za_124, za_125, za_126, za_188, za_193, za_194, za_195, za_286, za_288, za_289, za_290, za_291, za_292, za_293, za_294, za_295, za_296, za_297, za_298, za_299, za_300, za_301, za_302, za_303, za_304, za_305, za_306, za_307, za_308, za_309, za_310, za_311, za_312, sp_76, sp_155, e1]
  refine zwp_ite (fun q => ?_) (fun q => ?_)
  · rw [if_neg (fun p => q p.1)]
    exact zwp_ret ⟨rfl, cK.rf hC⟩
  · refine zwp_ite (fun q2 => ?_) (fun q2 => ?_)
    · rw [if_neg (fun p => q2 p.2)]
      exact zwp_ret ⟨rfl, cK.rf hC⟩
    · rw [if_pos (⟨Classical.not_not.mp q, Classical.not_not.mp q2⟩ : isG W g)]
      refine zwp_IE (E := (jst (fun s => dsT W (CM W noD) s g) 100).1) (P := fun τ => cK σ τ W) ?_ (fun τ hk => zwp_ret ⟨rfl, hk⟩)
      refine zwp_of (fun r h => zcc_21 (ze_21_0 _ _ r h)) ?_
      refine zwp_mono (lp_21 hW hC.1 hg0 hg1 100 0 0 0 σ (W 7) (by omega) (fun h => absurd rfl h) (fun _ => ⟨rfl, rfl⟩) hC.cc mf.rf rfl) ?_
      rintro v τ ⟨hv, hf, h60, h61⟩
      refine ⟨hv, hf.mono (fun b hb => by unfold clsS; omega), ?_⟩
      have s0 := hC.2.2.2.1
      refine ⟨hC.1.fr (by omega) fun a h1 h2 => hf.1 a (by omega), hC.2.1.fr hW.1.1.2.1 fun b b0 b1 => hf.1 b (by omega), hC.2.2.1.fr (hf.1 99 (by omega)) (hf.1 100 (by omega)), ⟨h60.trans s0.1, h61⟩, fun o o0 o1 => ?_⟩
      obtain ⟨a, b, d⟩ := hC.2.2.2.2 o o0 o1
      refine ⟨a.fr (hf.1 64 (by omega) _) (hf.1 65 (by omega) _) (hf.1 66 (by omega) _) (hf.1 67 (by omega) _), b.fr (hf.1 68 (by omega) _) (fun r r0 r1 => hf.1 r (by omega)), fun p x x0 x1 => ?_⟩
      rw [hf.1 121 (by omega)] at p
      rw [hf.1 _ (by omega)]
      exact d p x x0 x1
theorem rcC.seal {σ : zM} {W : Int → Int} {c : Int → Int} {sl : Int} (hW : wUn W) (h : rcC σ W c sl) {s : Int} (s0 : -2147483648 ≤ s) (s1 : s < 2147483648) : rcC (zw σ 288 7 s) W c s := ⟨(mm_nj (by decide)).trans h.1, mm_at rfl rfl s0 s1, fun o o0 o1 => by
  obtain ⟨a, b, d, e, f⟩ := h.2.2.1 o o0 o1
  exact ⟨(mm_nj (by omega)).trans a, (mm_nj (by omega)).trans b, (mm_nj (by omega)).trans d, (mm_ne (by decide)).trans e, (mm_ne (by decide)).trans f⟩, (mm_ne (by decide)).trans h.2.2.2⟩
theorem lp_230 {σ0 : zM} {W : Int → Int} {c : Int → Int} {g w7 : Int} (hW : WOK W) (hg0 : -2147483648 ≤ g) (hg1 : g < 2147483648) (hw0 : -2147483648 ≤ w7) (hw1 : w7 < 2147483648) : ∀ (k s : Nat) (σ : zM) (sl : Int), s + k = 100 → rdR σ W → rcC σ W c sl → mf (fun b => b = 288 ∨ b = 303) σ0 σ → (∀ j, j ≠ 7 → zN σ 288 j = zN σ0 288 j) → zwp (zev 230 40 [some (.ref 287), some (.int (Int32.ofInt g)), some (.int (Int32.ofInt w7)), some (.int (Int32.ofInt (jst (fun s => dsT W c s g) s).1)), some (.int (Int32.ofInt (jst (fun s => dsT W c s g) s).2)), some (.int (Int32.ofInt s)), none] [] σ) (fun v τ => v = some (.int (Int32.ofInt (jst (fun s => dsT W c s g) 100).1)) ∧ mf (fun b => b = 288 ∨ b = 303) σ0 τ ∧ (∀ j, j ≠ 7 → zN τ 288 j = zN σ0 288 j) ∧ zN τ 288 7 = w7)
  | 0, s, σ, sl, e, hR, hc, hf, h0 => by
    obtain rfl : s = 100 := by omega
    refine zwp_of (fun r h => ze_230_40 _ _ _ _ _ _ r h) ?_
    refine zwp_t (by try simp (disch := first | assumption | exact isR33 | exact isT104 | exact isF99 | exact isF101 | exact isR3 | omega | (refine isTk ?_; omega) | (refine isOk isR33 ?_; omega) | (refine isOk ?_ ?_; assumption; omega)) only [mm_r, mm_rl, mm_add, mm_sub, mm_mul, mm_addJ, mm_mulJ, mm_lt, mm_le, mm_eq, mm_z, mm_cl, mm_w, mm_wl, mm_ite, mm_i2l, mm_l2i, mm_ltJ, mm_leJ, mm_eqJ, mm_clt, mm_cle, mm_cgt, mm_cge, mm_ceq, mm_b, mm_nb, mm_nb0, mm_nb1, mm_vb0, mm_vb1, mm_vbc, mm_vy0, mm_vy1, mm_at, mm_ne, mm_nj, mm_Lw, mm_Nw, mm_atJ, mm_neJ, mm_njJ, zbI_s, zbV_s, zbJ_s, cond_t, Bool.true_and, Bool.and_true, if_true, if_false, not_true, not_false_iff, Classical.not_not, zel_r, zel_42, zel_12, zel_71, zel_80, zel_89, zel_110, zel_188, zel_103, zel_195, zr_o, zr_1, zr_2, zr_3, zr_4, zr_5, zr_6, zr_7, zr_8, zr_9, zq_o, zq_v, zt_o, zt_1, zt_2, zt_3, zt_4, zt_5, zf_o, zf_1, za_w1, za_w2, za_w3, za_cm, za_sl, Int.toNat_natCast, Int.toNat_natCast_add_one, mm_t0, mm_t1, mm_t2, mm_t3, mm_t4, mm_t5, mm_t6, mm_t7, mm_t8, mm_t9, mm_t10, mm_t11, mm_t12, mm_t13, za_1, za_64, za_65, za_66, za_67, za_68, za_71, za_80, za_89, za_98, za_103, za_110, za_121, za_122, za_123, za_124, za_125, za_126, za_188, za_193, za_194, za_195, za_286, za_288, za_289, za_290, za_291, za_292, za_293, za_294, za_295, za_296, za_297, za_298, za_299, za_300, za_301, za_302, za_303, za_304, za_305, za_306, za_307, za_308, za_309, za_310, za_311, za_312]
                     first | done | omega) ?_
    refine zwp_cd (by simp (disch := first | assumption | exact isR33 | exact isT104 | exact isF99 | exact isF101 | exact isR3 | omega | (refine isTk ?_; omega) | (refine isOk isR33 ?_; omega) | (refine isOk ?_ ?_; assumption; omega)) only [mm_r, mm_rl, mm_add, mm_sub, mm_mul, mm_addJ, mm_mulJ, mm_lt, mm_le, mm_eq, mm_z, mm_cl, mm_w, mm_wl, mm_ite, mm_i2l, mm_l2i, mm_ltJ, mm_leJ, mm_eqJ, mm_clt, mm_cle, mm_cgt, mm_cge, mm_ceq, mm_b, mm_nb, mm_nb0, mm_nb1, mm_vb0, mm_vb1, mm_vbc, mm_vy0, mm_vy1, mm_at, mm_ne, mm_nj, mm_Lw, mm_Nw, mm_atJ, mm_neJ, mm_njJ, zbI_s, zbV_s, zbJ_s, cond_t, Bool.true_and, Bool.and_true, if_true, if_false, not_true, not_false_iff, Classical.not_not, zel_r, zel_42, zel_12, zel_71, zel_80, zel_89, zel_110, zel_188, zel_103, zel_195, zr_o, zr_1, zr_2, zr_3, zr_4, zr_5, zr_6, zr_7, zr_8, zr_9, zq_o, zq_v, zt_o, zt_1, zt_2, zt_3, zt_4, zt_5, zf_o, zf_1, za_w1, za_w2, za_w3, za_cm, za_sl, Int.toNat_natCast, Int.toNat_natCast_add_one, mm_t0, mm_t1, mm_t2, mm_t3, mm_t4, mm_t5, mm_t6, mm_t7, mm_t8, mm_t9, mm_t10, mm_t11, mm_t12, mm_t13, za_1, za_64, za_65, za_66, za_67, za_68, za_71, za_80, za_89, za_98, za_103, za_110, za_121, za_122, za_123, za_124, za_125, za_126, za_188, za_193, za_194, za_195, za_286, za_288, za_289, za_290, za_291, za_292, za_293, za_294, za_295, za_296, za_297, za_298, za_299, za_300, za_301, za_302, za_303, za_304, za_305, za_306, za_307, za_308, za_309, za_310, za_311, za_312]) ?_
    refine zwp_letE (τ' := zw σ 288 7 w7) (by simp (disch := first | assumption | exact isR33 | exact isT104 | exact isF99 | exact isF101 | exact isR3 | omega | (refine isTk ?_; omega) | (refine isOk isR33 ?_; omega) | (refine isOk ?_ ?_; assumption; omega)) only [mm_r, mm_rl, mm_add, mm_sub, mm_mul, mm_addJ, mm_mulJ, mm_lt, mm_le, mm_eq, mm_z, mm_cl, mm_w, mm_wl, mm_ite, mm_i2l, mm_l2i, mm_ltJ, mm_leJ, mm_eqJ, mm_clt, mm_cle, mm_cgt, mm_cge, mm_ceq, mm_b, mm_nb, mm_nb0, mm_nb1, mm_vb0, mm_vb1, mm_vbc, mm_vy0, mm_vy1, mm_at, mm_ne, mm_nj, mm_Lw, mm_Nw, mm_atJ, mm_neJ, mm_njJ, zbI_s, zbV_s, zbJ_s, cond_t, Bool.true_and, Bool.and_true, if_true, if_false, not_true, not_false_iff, Classical.not_not, zel_r, zel_42, zel_12, zel_71, zel_80, zel_89, zel_110, zel_188, zel_103, zel_195, zr_o, zr_1, zr_2, zr_3, zr_4, zr_5, zr_6, zr_7, zr_8, zr_9, zq_o, zq_v, zt_o, zt_1, zt_2, zt_3, zt_4, zt_5, zf_o, zf_1, za_w1, za_w2, za_w3, za_cm, za_sl, Int.toNat_natCast, Int.toNat_natCast_add_one, mm_t0, mm_t1, mm_t2, mm_t3, mm_t4, mm_t5, mm_t6, mm_t7, mm_t8, mm_t9, mm_t10, mm_t11, mm_t12, mm_t13, za_1, za_64, za_65, za_66, za_67, za_68, za_71, za_80, za_89, za_98, za_103, za_110, za_121, za_122, za_123, za_124, za_125, za_126, za_188, za_193, za_194, za_195, za_286, za_288, za_289, za_290, za_291, za_292, za_293, za_294, za_295, za_296, za_297, za_298, za_299, za_300, za_301, za_302, za_303, za_304, za_305, za_306, za_307, za_308, za_309, za_310, za_311, za_312]) ?_
    exact zwp_ret ⟨rfl, hf.zw 288 _ _ (.inl rfl), fun j hj => (mm_nj hj).trans (h0 j hj), mm_at rfl rfl hw0 hw1⟩
  | k + 1, s, σ, sl, e, hR, hc, hf, h0 => by
    have rj := jst_rng (f := fun s => dsT W c s g) (fun i => dsT_rng hW c i g) s
    have rd := dsT_rng hW c s g
    have ej : jst (fun s => dsT W c s g) (s + 1) = if dsT W c s g < (jst (fun s => dsT W c s g) s).2 then ((s : Int), dsT W c s g) else jst (fun s => dsT W c s g) s := rfl
    have hc2 := hc.seal hW.un (s := s) (by omega) (by omega)
    have f2 : mf (fun b => b = 288 ∨ b = 303) σ0 (zw σ 288 7 s) := hf.zw 288 _ _ (.inl rfl)
    have hR2 : rdR (zw σ 288 7 s) W := fun j j0 j1 => (mm_nj j1).trans (hR j j0 j1)
    refine zwp_of (fun r h => ze_230_40 _ _ _ _ _ _ r h) ?_
    refine zwp_f (by try simp (disch := first | assumption | exact isR33 | exact isT104 | exact isF99 | exact isF101 | exact isR3 | omega | (refine isTk ?_; omega) | (refine isOk isR33 ?_; omega) | (refine isOk ?_ ?_; assumption; omega)) only [mm_r, mm_rl, mm_add, mm_sub, mm_mul, mm_addJ, mm_mulJ, mm_lt, mm_le, mm_eq, mm_z, mm_cl, mm_w, mm_wl, mm_ite, mm_i2l, mm_l2i, mm_ltJ, mm_leJ, mm_eqJ, mm_clt, mm_cle, mm_cgt, mm_cge, mm_ceq, mm_b, mm_nb, mm_nb0, mm_nb1, mm_vb0, mm_vb1, mm_vbc, mm_vy0, mm_vy1, mm_at, mm_ne, mm_nj, mm_Lw, mm_Nw, mm_atJ, mm_neJ, mm_njJ, zbI_s, zbV_s, zbJ_s, cond_t, Bool.true_and, Bool.and_true, if_true, if_false, not_true, not_false_iff, Classical.not_not, zel_r, zel_42, zel_12, zel_71, zel_80, zel_89, zel_110, zel_188, zel_103, zel_195, zr_o, zr_1, zr_2, zr_3, zr_4, zr_5, zr_6, zr_7, zr_8, zr_9, zq_o, zq_v, zt_o, zt_1, zt_2, zt_3, zt_4, zt_5, zf_o, zf_1, za_w1, za_w2, za_w3, za_cm, za_sl, Int.toNat_natCast, Int.toNat_natCast_add_one, mm_t0, mm_t1, mm_t2, mm_t3, mm_t4, mm_t5, mm_t6, mm_t7, mm_t8, mm_t9, mm_t10, mm_t11, mm_t12, mm_t13, za_1, za_64, za_65, za_66, za_67, za_68, za_71, za_80, za_89, za_98, za_103, za_110, za_121, za_122, za_123, za_124, za_125, za_126, za_188, za_193, za_194, za_195, za_286, za_288, za_289, za_290, za_291, za_292, za_293, za_294, za_295, za_296, za_297, za_298, za_299, za_300, za_301, za_302, za_303, za_304, za_305, za_306, za_307, za_308, za_309, za_310, za_311, za_312]
                     first | done | omega) ?_
    refine zwp_cd (by simp (disch := first | assumption | exact isR33 | exact isT104 | exact isF99 | exact isF101 | exact isR3 | omega | (refine isTk ?_; omega) | (refine isOk isR33 ?_; omega) | (refine isOk ?_ ?_; assumption; omega)) only [mm_r, mm_rl, mm_add, mm_sub, mm_mul, mm_addJ, mm_mulJ, mm_lt, mm_le, mm_eq, mm_z, mm_cl, mm_w, mm_wl, mm_ite, mm_i2l, mm_l2i, mm_ltJ, mm_leJ, mm_eqJ, mm_clt, mm_cle, mm_cgt, mm_cge, mm_ceq, mm_b, mm_nb, mm_nb0, mm_nb1, mm_vb0, mm_vb1, mm_vbc, mm_vy0, mm_vy1, mm_at, mm_ne, mm_nj, mm_Lw, mm_Nw, mm_atJ, mm_neJ, mm_njJ, zbI_s, zbV_s, zbJ_s, cond_t, Bool.true_and, Bool.and_true, if_true, if_false, not_true, not_false_iff, Classical.not_not, zel_r, zel_42, zel_12, zel_71, zel_80, zel_89, zel_110, zel_188, zel_103, zel_195, zr_o, zr_1, zr_2, zr_3, zr_4, zr_5, zr_6, zr_7, zr_8, zr_9, zq_o, zq_v, zt_o, zt_1, zt_2, zt_3, zt_4, zt_5, zf_o, zf_1, za_w1, za_w2, za_w3, za_cm, za_sl, Int.toNat_natCast, Int.toNat_natCast_add_one, mm_t0, mm_t1, mm_t2, mm_t3, mm_t4, mm_t5, mm_t6, mm_t7, mm_t8, mm_t9, mm_t10, mm_t11, mm_t12, mm_t13, za_1, za_64, za_65, za_66, za_67, za_68, za_71, za_80, za_89, za_98, za_103, za_110, za_121, za_122, za_123, za_124, za_125, za_126, za_188, za_193, za_194, za_195, za_286, za_288, za_289, za_290, za_291, za_292, za_293, za_294, za_295, za_296, za_297, za_298, za_299, za_300, za_301, za_302, za_303, za_304, za_305, za_306, za_307, za_308, za_309, za_310, za_311, za_312]) ?_
    refine zwp_letE (τ' := zw σ 288 7 s) (by simp (disch := first | assumption | exact isR33 | exact isT104 | exact isF99 | exact isF101 | exact isR3 | omega | (refine isTk ?_; omega) | (refine isOk isR33 ?_; omega) | (refine isOk ?_ ?_; assumption; omega)) only [mm_r, mm_rl, mm_add, mm_sub, mm_mul, mm_addJ, mm_mulJ, mm_lt, mm_le, mm_eq, mm_z, mm_cl, mm_w, mm_wl, mm_ite, mm_i2l, mm_l2i, mm_ltJ, mm_leJ, mm_eqJ, mm_clt, mm_cle, mm_cgt, mm_cge, mm_ceq, mm_b, mm_nb, mm_nb0, mm_nb1, mm_vb0, mm_vb1, mm_vbc, mm_vy0, mm_vy1, mm_at, mm_ne, mm_nj, mm_Lw, mm_Nw, mm_atJ, mm_neJ, mm_njJ, zbI_s, zbV_s, zbJ_s, cond_t, Bool.true_and, Bool.and_true, if_true, if_false, not_true, not_false_iff, Classical.not_not, zel_r, zel_42, zel_12, zel_71, zel_80, zel_89, zel_110, zel_188, zel_103, zel_195, zr_o, zr_1, zr_2, zr_3, zr_4, zr_5, zr_6, zr_7, zr_8, zr_9, zq_o, zq_v, zt_o, zt_1, zt_2, zt_3, zt_4, zt_5, zf_o, zf_1, za_w1, za_w2, za_w3, za_cm, za_sl, Int.toNat_natCast, Int.toNat_natCast_add_one, mm_t0, mm_t1, mm_t2, mm_t3, mm_t4, mm_t5, mm_t6, mm_t7, mm_t8, mm_t9, mm_t10, mm_t11, mm_t12, mm_t13, za_1, za_64, za_65, za_66, za_67, za_68, za_71, za_80, za_89, za_98, za_103, za_110, za_121, za_122, za_123, za_124, za_125, za_126, za_188, za_193, za_194, za_195, za_286, za_288, za_289, za_290, za_291, za_292, za_293, za_294, za_295, za_296, za_297, za_298, za_299, za_300, za_301, za_302, za_303, za_304, za_305, za_306, za_307, za_308, za_309, za_310, za_311, za_312]) ?_
    refine zwp_IE (sp_227 hW hR2 hc2 hg0 hg1) ?_
    intro τ hf3
    have ih := lp_230 (σ0 := σ0) (c := c) hW hg0 hg1 hw0 hw1 k (s + 1) τ s (by omega) (fun j j0 j1 => (hf3.1 288 (by omega) j).trans (hR2 j j0 j1)) (hc2.fr (hf3.1 288 (by omega)) (hf3.1 299 (by omega)) (hf3.1 300 (by omega))) (f2.tr (hf3.mono (by omega))) (fun j hj => (hf3.1 288 (by omega) j).trans ((mm_nj hj).trans (h0 j hj)))
    rw [ej] at ih
    simp (disch := first | assumption | exact isR33 | exact isT104 | exact isF99 | exact isF101 | exact isR3 | omega | (refine isTk ?_; omega) | (refine isOk isR33 ?_; omega) | (refine isOk ?_ ?_; assumption; omega)) only [mm_r, mm_rl, mm_add, mm_sub, mm_mul, mm_addJ, mm_mulJ, mm_lt, mm_le, mm_eq, mm_z, mm_cl, mm_w, mm_wl, mm_ite, mm_i2l, mm_l2i, mm_ltJ, mm_leJ, mm_eqJ, mm_clt, mm_cle, mm_cgt, mm_cge, mm_ceq, mm_b, mm_nb, mm_nb0, mm_nb1, mm_vb0, mm_vb1, mm_vbc, mm_vy0, mm_vy1, mm_at, mm_ne, mm_nj, mm_Lw, mm_Nw, mm_atJ, mm_neJ, mm_njJ, zbI_s, zbV_s, zbJ_s, cond_t, Bool.true_and, Bool.and_true, if_true, if_false, not_true, not_false_iff, Classical.not_not, zel_r, zel_42, zel_12, zel_71, zel_80, zel_89, zel_110, zel_188, zel_103, zel_195, zr_o, zr_1, zr_2, zr_3, zr_4, zr_5, zr_6, zr_7, zr_8, zr_9, zq_o, zq_v, zt_o, zt_1, zt_2, zt_3, zt_4, zt_5, zf_o, zf_1, za_w1, za_w2, za_w3, za_cm, za_sl, Int.toNat_natCast, Int.toNat_natCast_add_one, mm_t0, mm_t1, mm_t2, mm_t3, mm_t4, mm_t5, mm_t6, mm_t7, mm_t8, mm_t9, mm_t10, mm_t11, mm_t12, mm_t13, za_1, za_64, za_65, za_66, za_67, za_68, za_71, za_80, za_89, za_98, za_103, za_110, za_121, za_122, za_123, za_124, za_125, za_126, za_188, za_193, za_194, za_195, za_286, za_288, za_289, za_290, za_291, za_292, za_293, za_294, za_295, za_296, za_297, za_298, za_299, za_300, za_301, za_302, za_303, za_304, za_305, za_306, za_307, za_308, za_309, za_310, za_311, za_312]
    refine zwp_ite (fun z => ?_) (fun z => ?_)
    · rw [if_pos z] at ih
      exact ih
    · rw [if_neg z] at ih
      exact ih
theorem rq_just {σ : zM} {W : Int → Int} {g : Int} (hB : rB0 σ W) (hg0 : -2147483648 ≤ g) (hg1 : g < 2147483648) : zwp (zcall 230 [.ref 287, .int (Int32.ofInt g)] σ) (fun v τ => v = some (.int (Int32.ofInt (Ejs W g))) ∧ rK σ τ) := by
  have e0 : zN σ 288 0 = W 0 := wv_k hB.1 0
  have h5 := hB.2.1.2.2.1
  unfold Ejs
  refine zwp_of (fun r h => zcc_230 (ze_230_0 _ _ r h)) ?_
  simp (disch := first | assumption | exact isR33 | exact isT104 | exact isF99 | exact isF101 | exact isR3 | omega | (refine isTk ?_; omega) | (refine isOk isR33 ?_; omega) | (refine isOk ?_ ?_; assumption; omega)) only [mm_r, mm_rl, mm_add, mm_sub, mm_mul, mm_addJ, mm_mulJ, mm_lt, mm_le, mm_eq, mm_z, mm_cl, mm_w, mm_wl, mm_ite, mm_i2l, mm_l2i, mm_ltJ, mm_leJ, mm_eqJ, mm_clt, mm_cle, mm_cgt, mm_cge, mm_ceq, mm_b, mm_nb, mm_nb0, mm_nb1, mm_vb0, mm_vb1, mm_vbc, mm_vy0, mm_vy1, mm_at, mm_ne, mm_nj, mm_Lw, mm_Nw, mm_atJ, mm_neJ, mm_njJ, zbI_s, zbV_s, zbJ_s, cond_t, Bool.true_and, Bool.and_true, if_true, if_false, not_true, not_false_iff, Classical.not_not, zel_r, zel_42, zel_12, zel_71, zel_80, zel_89, zel_110, zel_188, zel_103, zel_195, zr_o, zr_1, zr_2, zr_3, zr_4, zr_5, zr_6, zr_7, zr_8, zr_9, zq_o, zq_v, zt_o, zt_1, zt_2, zt_3, zt_4, zt_5, zf_o, zf_1, za_w1, za_w2, za_w3, za_cm, za_sl, Int.toNat_natCast, Int.toNat_natCast_add_one, mm_t0, mm_t1, mm_t2, mm_t3, mm_t4, mm_t5, mm_t6, mm_t7, mm_t8, mm_t9, mm_t10, mm_t11, mm_t12, mm_t13, za_1, za_64, za_65, za_66, za_67, za_68, za_71, za_80, za_89, za_98, za_103, za_110, za_121, za_122, za_123, za_124, za_125, za_126, za_188, za_193, za_194, za_195, za_286, za_288, za_289, za_290, za_291, za_292, za_293, za_294, za_295, za_296, za_297, za_298, za_299, za_300, za_301, za_302, za_303, za_304, za_305, za_306, za_307, za_308, za_309, za_310, za_311, za_312, sp_166, sp_171, e0]
  refine zwp_ite (fun q => ?_) (fun q => ?_)
  · rw [if_neg (fun p => q p.1)]
    exact zwp_ret ⟨rfl, rK.rf⟩
  · refine zwp_ite (fun q2 => ?_) (fun q2 => ?_)
    · rw [if_pos (⟨Classical.not_not.mp q, q2⟩ : isG W g)]
      refine zwp_V _ (sp_210c hB) ?_
      rintro τ ⟨hk, hg⟩
      have e7 : zN τ 288 7 = W 7 := wv_k hg.1.1 7
      simp (disch := first | assumption | exact isR33 | exact isT104 | exact isF99 | exact isF101 | exact isR3 | omega | (refine isTk ?_; omega) | (refine isOk isR33 ?_; omega) | (refine isOk ?_ ?_; assumption; omega)) only [mm_r, mm_rl, mm_add, mm_sub, mm_mul, mm_addJ, mm_mulJ, mm_lt, mm_le, mm_eq, mm_z, mm_cl, mm_w, mm_wl, mm_ite, mm_i2l, mm_l2i, mm_ltJ, mm_leJ, mm_eqJ, mm_clt, mm_cle, mm_cgt, mm_cge, mm_ceq, mm_b, mm_nb, mm_nb0, mm_nb1, mm_vb0, mm_vb1, mm_vbc, mm_vy0, mm_vy1, mm_at, mm_ne, mm_nj, mm_Lw, mm_Nw, mm_atJ, mm_neJ, mm_njJ, zbI_s, zbV_s, zbJ_s, cond_t, Bool.true_and, Bool.and_true, if_true, if_false, not_true, not_false_iff, Classical.not_not, zel_r, zel_42, zel_12, zel_71, zel_80, zel_89, zel_110, zel_188, zel_103, zel_195, zr_o, zr_1, zr_2, zr_3, zr_4, zr_5, zr_6, zr_7, zr_8, zr_9, zq_o, zq_v, zt_o, zt_1, zt_2, zt_3, zt_4, zt_5, zf_o, zf_1, za_w1, za_w2, za_w3, za_cm, za_sl, Int.toNat_natCast, Int.toNat_natCast_add_one, mm_t0, mm_t1, mm_t2, mm_t3, mm_t4, mm_t5, mm_t6, mm_t7, mm_t8, mm_t9, mm_t10, mm_t11, mm_t12, mm_t13, za_1, za_64, za_65, za_66, za_67, za_68, za_71, za_80, za_89, za_98, za_103, za_110, za_121, za_122, za_123, za_124, za_125, za_126, za_188, za_193, za_194, za_195, za_286, za_288, za_289, za_290, za_291, za_292, za_293, za_294, za_295, za_296, za_297, za_298, za_299, za_300, za_301, za_302, za_303, za_304, za_305, za_306, za_307, za_308, za_309, za_310, za_311, za_312, e7]
      refine zwp_mono (lp_230 (σ0 := τ) hB.2.1 hg0 hg1 (by omega) (by omega) 100 0 τ (W 7) (by omega) (rdR_of hg.1.1) hg.rc mf.rf (fun _ _ => rfl)) ?_
      rintro v υ ⟨hv, hf, h8, h7⟩
      refine ⟨hv, hk.tr ⟨hf.mono fun b hb => by unfold refS; omega, fun k _ => hf.1 287 (by omega) k, wv_eq fun k => ?_⟩⟩
      by_cases z : k = 7
      · rw [z, h7, e7]
      · exact h8 k z
    · rw [if_neg (fun p => q2 p.2)]
      exact zwp_ret ⟨rfl, rK.rf⟩
/-! changes -/
def Ech (W : Int → Int) (t g : Int) : Int := if inT W t ∧ 0 ≤ g ∧ g < 3 then zcnt (fun i => decide (HH W (CM W noD) (W 7) t g (i + 1) ≠ HH W (CM W noD) (W 7) t g i)) (W 1 - 1).toNat else -2
theorem lp_119 {σ : zM} {W : Int → Int} {c : Int → Int} {sl t g : Int} (hW : WOK W) (e2 : zN σ 33 2 = W 1) (hC : ccC σ W c sl) (ht0 : -2147483648 ≤ t) (ht1 : t < 2147483648) (hg0 : -2147483648 ≤ g) (hg1 : g < 2147483648) : ∀ (k i : Nat), (i : Int) + k = (W 1 - 1).toNat → zev 119 40 [some (.ref 0), some (.int (Int32.ofInt t)), some (.int (Int32.ofInt g)), some (.int (Int32.ofInt (zcnt (fun i => decide (HH W c sl t g (i + 1) ≠ HH W c sl t g i)) i))), some (.int (Int32.ofInt (HH W c sl t g i))), some (.int (Int32.ofInt ((i : Int) + 1))), none] [] σ = some (some (.int (Int32.ofInt (zcnt (fun i => decide (HH W c sl t g (i + 1) ≠ HH W c sl t g i)) (W 1 - 1).toNat))), σ)
  | 0, i, e => by
    have h1 := hW.1.2.2.1
    have h0 := hW.1.2.1
    refine ze_119_40 _ _ _ _ _ _ _ ?_
    simp (disch := first | assumption | exact isR33 | exact isT104 | exact isF99 | exact isF101 | exact isR3 | omega | (refine isTk ?_; omega) | (refine isOk isR33 ?_; omega) | (refine isOk ?_ ?_; assumption; omega)) only [mm_r, mm_rl, mm_add, mm_sub, mm_mul, mm_addJ, mm_mulJ, mm_lt, mm_le, mm_eq, mm_z, mm_cl, mm_w, mm_wl, mm_ite, mm_i2l, mm_l2i, mm_ltJ, mm_leJ, mm_eqJ, mm_clt, mm_cle, mm_cgt, mm_cge, mm_ceq, mm_b, mm_nb, mm_nb0, mm_nb1, mm_vb0, mm_vb1, mm_vbc, mm_vy0, mm_vy1, mm_at, mm_ne, mm_nj, mm_Lw, mm_Nw, mm_atJ, mm_neJ, mm_njJ, zbI_s, zbV_s, zbJ_s, cond_t, Bool.true_and, Bool.and_true, if_true, if_false, not_true, not_false_iff, Classical.not_not, zel_r, zel_42, zel_12, zel_71, zel_80, zel_89, zel_110, zel_188, zel_103, zel_195, zr_o, zr_1, zr_2, zr_3, zr_4, zr_5, zr_6, zr_7, zr_8, zr_9, zq_o, zq_v, zt_o, zt_1, zt_2, zt_3, zt_4, zt_5, zf_o, zf_1, za_w1, za_w2, za_w3, za_cm, za_sl, Int.toNat_natCast, Int.toNat_natCast_add_one, mm_t0, mm_t1, mm_t2, mm_t3, mm_t4, mm_t5, mm_t6, mm_t7, mm_t8, mm_t9, mm_t10, mm_t11, mm_t12, mm_t13, za_1, za_64, za_65, za_66, za_67, za_68, za_71, za_80, za_89, za_98, za_103, za_110, za_121, za_122, za_123, za_124, za_125, za_126, za_188, za_193, za_194, za_195, za_286, za_288, za_289, za_290, za_291, za_292, za_293, za_294, za_295, za_296, za_297, za_298, za_299, za_300, za_301, za_302, za_303, za_304, za_305, za_306, za_307, za_308, za_309, za_310, za_311, za_312, e2]
    rw [if_pos (by omega), show (W 1 - 1).toNat = i by omega]
  | k + 1, i, e => by
    have h1 := hW.1.2.2.1
    have h0 := hW.1.2.1
    have ih := lp_119 hW e2 hC ht0 ht1 hg0 hg1 k (i + 1) (by omega)
    have r1 := HH_rng hW.un c sl t g i
    have r2 := HH_rng hW.un c sl t g ((i : Int) + 1)
    have zr := zcnt_rng (fun i => decide (HH W c sl t g (i + 1) ≠ HH W c sl t g i)) i
    rw [zcnt] at ih
    refine ze_119_40 _ _ _ _ _ _ _ ?_
    rw [sp_6c hW.un hC ht0 ht1 hg0 hg1 (by omega) (by omega), zbI_s]
    simp (disch := first | assumption | exact isR33 | exact isT104 | exact isF99 | exact isF101 | exact isR3 | omega | (refine isTk ?_; omega) | (refine isOk isR33 ?_; omega) | (refine isOk ?_ ?_; assumption; omega)) only [mm_r, mm_rl, mm_add, mm_sub, mm_mul, mm_addJ, mm_mulJ, mm_lt, mm_le, mm_eq, mm_z, mm_cl, mm_w, mm_wl, mm_ite, mm_i2l, mm_l2i, mm_ltJ, mm_leJ, mm_eqJ, mm_clt, mm_cle, mm_cgt, mm_cge, mm_ceq, mm_b, mm_nb, mm_nb0, mm_nb1, mm_vb0, mm_vb1, mm_vbc, mm_vy0, mm_vy1, mm_at, mm_ne, mm_nj, mm_Lw, mm_Nw, mm_atJ, mm_neJ, mm_njJ, zbI_s, zbV_s, zbJ_s, cond_t, Bool.true_and, Bool.and_true, if_true, if_false, not_true, not_false_iff, Classical.not_not, zel_r, zel_42, zel_12, zel_71, zel_80, zel_89, zel_110, zel_188, zel_103, zel_195, zr_o, zr_1, zr_2, zr_3, zr_4, zr_5, zr_6, zr_7, zr_8, zr_9, zq_o, zq_v, zt_o, zt_1, zt_2, zt_3, zt_4, zt_5, zf_o, zf_1, za_w1, za_w2, za_w3, za_cm, za_sl, Int.toNat_natCast, Int.toNat_natCast_add_one, mm_t0, mm_t1, mm_t2, mm_t3, mm_t4, mm_t5, mm_t6, mm_t7, mm_t8, mm_t9, mm_t10, mm_t11, mm_t12, mm_t13, za_1, za_64, za_65, za_66, za_67, za_68, za_71, za_80, za_89, za_98, za_103, za_110, za_121, za_122, za_123, za_124, za_125, za_126, za_188, za_193, za_194, za_195, za_286, za_288, za_289, za_290, za_291, za_292, za_293, za_294, za_295, za_296, za_297, za_298, za_299, za_300, za_301, za_302, za_303, za_304, za_305, za_306, za_307, za_308, za_309, za_310, za_311, za_312, e2]
    rw [if_neg (by omega)]
    by_cases q : HH W c sl t g ((i : Int) + 1) = HH W c sl t g i
    · rw [if_pos q]
      rw [if_neg (by rw [decide_eq_false (fun p => p q)]; exact Bool.false_ne_true), Int.add_zero] at ih
      exact ih
    · rw [if_neg q]
      rw [if_pos (decide_eq_true q)] at ih
      exact ih
theorem cq_changes {σ : zM} {W : Int → Int} {t g : Int} (hW : WOK W) (hC : ctC σ W) (ht0 : -2147483648 ≤ t) (ht1 : t < 2147483648) (hg0 : -2147483648 ≤ g) (hg1 : g < 2147483648) : zwp (zcall 119 [.ref 0, .int (Int32.ofInt t), .int (Int32.ofInt g)] σ) (fun v τ => v = some (.int (Int32.ofInt (Ech W t g))) ∧ cK σ τ W) := by
  have e1 := hC.1.1.2.1
  have e2 := hC.1.1.2.2.1
  unfold Ech
  refine zwp_of (fun r h => zcc_119 (ze_119_0 _ _ _ r h)) ?_
  simp (disch := first | assumption | exact isR33 | exact isT104 | exact isF99 | exact isF101 | exact isR3 | omega | (refine isTk ?_; omega) | (refine isOk isR33 ?_; omega) | (refine isOk ?_ ?_; assumption; omega)) only [mm_r, mm_rl, mm_add, mm_sub, mm_mul, mm_addJ, mm_mulJ, mm_lt, mm_le, mm_eq, mm_z, mm_cl, mm_w, mm_wl, mm_ite, mm_i2l, mm_l2i, mm_ltJ, mm_leJ, mm_eqJ, mm_clt, mm_cle, mm_cgt, mm_cge, mm_ceq, mm_b, mm_nb, mm_nb0, mm_nb1, mm_vb0, mm_vb1, mm_vbc, mm_vy0, mm_vy1, mm_at, mm_ne, mm_nj, mm_Lw, mm_Nw, mm_atJ, mm_neJ, mm_njJ, zbI_s, zbV_s, zbJ_s, cond_t, Bool.true_and, Bool.and_true, if_true, if_false, not_true, not_false_iff, Classical.not_not, zel_r, zel_42, zel_12, zel_71, zel_80, zel_89, zel_110, zel_188, zel_103, zel_195, zr_o, zr_1, zr_2, zr_3, zr_4, zr_5, zr_6, zr_7, zr_8, zr_9, zq_o, zq_v, zt_o, zt_1, zt_2, zt_3, zt_4, zt_5, zf_o, zf_1, za_w1, za_w2, za_w3, za_cm, za_sl, Int.toNat_natCast, Int.toNat_natCast_add_one, mm_t0, mm_t1, mm_t2, mm_t3, mm_t4, mm_t5, mm_t6, mm_t7, mm_t8, mm_t9, mm_t10, mm_t11, mm_t12, mm_t13, za_1, za_64, za_65, za_66, za_67, za_68, za_71, za_80, za_89, za_98, za_103, za_110, za_121, za_122, za_123, za_124, za_125, za_126, za_188, za_193, za_194, za_195, za_286, za_288, za_289, za_290, za_291, za_292, za_293, za_294, za_295, za_296, za_297, za_298, za_299, za_300, za_301, za_302, za_303, za_304, za_305, za_306, za_307, za_308, za_309, za_310, za_311, za_312, sp_77, sp_155, e1]
  refine zwp_ite (fun q => ?_) (fun q => ?_)
  · rw [if_neg (fun p => q p.1)]
    exact zwp_ret ⟨rfl, cK.rf hC⟩
  · refine zwp_ite (fun q2 => ?_) (fun q2 => ?_)
    · rw [if_pos (⟨Classical.not_not.mp q, q2⟩ : inT W t ∧ 0 ≤ g ∧ g < 3), sp_6c hW.un hC.cc ht0 ht1 hg0 hg1 (by omega) (by omega), zbI_s]
      exact zwp_E (lp_119 hW e2 hC.cc ht0 ht1 hg0 hg1 (W 1 - 1).toNat 0 (by omega)) ⟨rfl, cK.rf hC⟩
    · rw [if_neg (fun p => q2 p.2)]
      exact zwp_ret ⟨rfl, cK.rf hC⟩
theorem lp_225 {σ : zM} {W : Int → Int} {c : Int → Int} {sl t g : Int} (hW : WOK W) (e2 : zN σ 288 1 = W 1) (hC : rcC σ W c sl) (ht0 : -2147483648 ≤ t) (ht1 : t < 2147483648) (hg0 : -2147483648 ≤ g) (hg1 : g < 2147483648) : ∀ (k i : Nat), (i : Int) + k = (W 1 - 1).toNat → zev 225 29 [some (.ref 287), some (.int (Int32.ofInt t)), some (.int (Int32.ofInt g)), some (.int (Int32.ofInt (zcnt (fun i => decide (HH W c sl t g (i + 1) ≠ HH W c sl t g i)) i))), some (.int (Int32.ofInt ((i : Int) + 1)))] [] σ = some (some (.int (Int32.ofInt (zcnt (fun i => decide (HH W c sl t g (i + 1) ≠ HH W c sl t g i)) (W 1 - 1).toNat))), σ)
  | 0, i, e => by
    have h1 := hW.1.2.2.1
    have h0 := hW.1.2.1
    refine ze_225_29 _ _ _ _ _ _ ?_
    simp (disch := first | assumption | exact isR33 | exact isT104 | exact isF99 | exact isF101 | exact isR3 | omega | (refine isTk ?_; omega) | (refine isOk isR33 ?_; omega) | (refine isOk ?_ ?_; assumption; omega)) only [mm_r, mm_rl, mm_add, mm_sub, mm_mul, mm_addJ, mm_mulJ, mm_lt, mm_le, mm_eq, mm_z, mm_cl, mm_w, mm_wl, mm_ite, mm_i2l, mm_l2i, mm_ltJ, mm_leJ, mm_eqJ, mm_clt, mm_cle, mm_cgt, mm_cge, mm_ceq, mm_b, mm_nb, mm_nb0, mm_nb1, mm_vb0, mm_vb1, mm_vbc, mm_vy0, mm_vy1, mm_at, mm_ne, mm_nj, mm_Lw, mm_Nw, mm_atJ, mm_neJ, mm_njJ, zbI_s, zbV_s, zbJ_s, cond_t, Bool.true_and, Bool.and_true, if_true, if_false, not_true, not_false_iff, Classical.not_not, zel_r, zel_42, zel_12, zel_71, zel_80, zel_89, zel_110, zel_188, zel_103, zel_195, zr_o, zr_1, zr_2, zr_3, zr_4, zr_5, zr_6, zr_7, zr_8, zr_9, zq_o, zq_v, zt_o, zt_1, zt_2, zt_3, zt_4, zt_5, zf_o, zf_1, za_w1, za_w2, za_w3, za_cm, za_sl, Int.toNat_natCast, Int.toNat_natCast_add_one, mm_t0, mm_t1, mm_t2, mm_t3, mm_t4, mm_t5, mm_t6, mm_t7, mm_t8, mm_t9, mm_t10, mm_t11, mm_t12, mm_t13, za_1, za_64, za_65, za_66, za_67, za_68, za_71, za_80, za_89, za_98, za_103, za_110, za_121, za_122, za_123, za_124, za_125, za_126, za_188, za_193, za_194, za_195, za_286, za_288, za_289, za_290, za_291, za_292, za_293, za_294, za_295, za_296, za_297, za_298, za_299, za_300, za_301, za_302, za_303, za_304, za_305, za_306, za_307, za_308, za_309, za_310, za_311, za_312, e2]
    rw [if_pos (by omega), show (W 1 - 1).toNat = i by omega]
  | k + 1, i, e => by
    have h1 := hW.1.2.2.1
    have h0 := hW.1.2.1
    have ih := lp_225 hW e2 hC ht0 ht1 hg0 hg1 k (i + 1) (by omega)
    have r1 := HH_rng hW.un c sl t g i
    have r2 := HH_rng hW.un c sl t g ((i : Int) + 1)
    have zr := zcnt_rng (fun i => decide (HH W c sl t g (i + 1) ≠ HH W c sl t g i)) i
    have en : (i : Int) + 1 - 1 = i := by omega
    rw [zcnt] at ih
    refine ze_225_29 _ _ _ _ _ _ ?_
    rw [sp_220c hW.un hC ht0 ht1 hg0 hg1 (by omega) (by omega), zbI_s]
    simp (disch := first | assumption | exact isR33 | exact isT104 | exact isF99 | exact isF101 | exact isR3 | omega | (refine isTk ?_; omega) | (refine isOk isR33 ?_; omega) | (refine isOk ?_ ?_; assumption; omega)) only [mm_r, mm_rl, mm_add, mm_sub, mm_mul, mm_addJ, mm_mulJ, mm_lt, mm_le, mm_eq, mm_z, mm_cl, mm_w, mm_wl, mm_ite, mm_i2l, mm_l2i, mm_ltJ, mm_leJ, mm_eqJ, mm_clt, mm_cle, mm_cgt, mm_cge, mm_ceq, mm_b, mm_nb, mm_nb0, mm_nb1, mm_vb0, mm_vb1, mm_vbc, mm_vy0, mm_vy1, mm_at, mm_ne, mm_nj, mm_Lw, mm_Nw, mm_atJ, mm_neJ, mm_njJ, zbI_s, zbV_s, zbJ_s, cond_t, Bool.true_and, Bool.and_true, if_true, if_false, not_true, not_false_iff, Classical.not_not, zel_r, zel_42, zel_12, zel_71, zel_80, zel_89, zel_110, zel_188, zel_103, zel_195, zr_o, zr_1, zr_2, zr_3, zr_4, zr_5, zr_6, zr_7, zr_8, zr_9, zq_o, zq_v, zt_o, zt_1, zt_2, zt_3, zt_4, zt_5, zf_o, zf_1, za_w1, za_w2, za_w3, za_cm, za_sl, Int.toNat_natCast, Int.toNat_natCast_add_one, mm_t0, mm_t1, mm_t2, mm_t3, mm_t4, mm_t5, mm_t6, mm_t7, mm_t8, mm_t9, mm_t10, mm_t11, mm_t12, mm_t13, za_1, za_64, za_65, za_66, za_67, za_68, za_71, za_80, za_89, za_98, za_103, za_110, za_121, za_122, za_123, za_124, za_125, za_126, za_188, za_193, za_194, za_195, za_286, za_288, za_289, za_290, za_291, za_292, za_293, za_294, za_295, za_296, za_297, za_298, za_299, za_300, za_301, za_302, za_303, za_304, za_305, za_306, za_307, za_308, za_309, za_310, za_311, za_312, e2, en]
    rw [sp_220c hW.un hC ht0 ht1 hg0 hg1 (by omega) (by omega), zbI_s]
    simp (disch := first | assumption | exact isR33 | exact isT104 | exact isF99 | exact isF101 | exact isR3 | omega | (refine isTk ?_; omega) | (refine isOk isR33 ?_; omega) | (refine isOk ?_ ?_; assumption; omega)) only [mm_r, mm_rl, mm_add, mm_sub, mm_mul, mm_addJ, mm_mulJ, mm_lt, mm_le, mm_eq, mm_z, mm_cl, mm_w, mm_wl, mm_ite, mm_i2l, mm_l2i, mm_ltJ, mm_leJ, mm_eqJ, mm_clt, mm_cle, mm_cgt, mm_cge, mm_ceq, mm_b, mm_nb, mm_nb0, mm_nb1, mm_vb0, mm_vb1, mm_vbc, mm_vy0, mm_vy1, mm_at, mm_ne, mm_nj, mm_Lw, mm_Nw, mm_atJ, mm_neJ, mm_njJ, zbI_s, zbV_s, zbJ_s, cond_t, Bool.true_and, Bool.and_true, if_true, if_false, not_true, not_false_iff, Classical.not_not, zel_r, zel_42, zel_12, zel_71, zel_80, zel_89, zel_110, zel_188, zel_103, zel_195, zr_o, zr_1, zr_2, zr_3, zr_4, zr_5, zr_6, zr_7, zr_8, zr_9, zq_o, zq_v, zt_o, zt_1, zt_2, zt_3, zt_4, zt_5, zf_o, zf_1, za_w1, za_w2, za_w3, za_cm, za_sl, Int.toNat_natCast, Int.toNat_natCast_add_one, mm_t0, mm_t1, mm_t2, mm_t3, mm_t4, mm_t5, mm_t6, mm_t7, mm_t8, mm_t9, mm_t10, mm_t11, mm_t12, mm_t13, za_1, za_64, za_65, za_66, za_67, za_68, za_71, za_80, za_89, za_98, za_103, za_110, za_121, za_122, za_123, za_124, za_125, za_126, za_188, za_193, za_194, za_195, za_286, za_288, za_289, za_290, za_291, za_292, za_293, za_294, za_295, za_296, za_297, za_298, za_299, za_300, za_301, za_302, za_303, za_304, za_305, za_306, za_307, za_308, za_309, za_310, za_311, za_312]
    rw [if_neg (by omega)]
    by_cases q : HH W c sl t g ((i : Int) + 1) = HH W c sl t g i
    · rw [if_neg (fun p => p q)]
      rw [if_neg (by rw [decide_eq_false (fun p => p q)]; exact Bool.false_ne_true)] at ih
      exact ih
    · rw [if_pos q]
      rw [if_pos (decide_eq_true q)] at ih
      exact ih
theorem rq_changes {σ : zM} {W : Int → Int} {t g : Int} (hB : rB0 σ W) (ht0 : -2147483648 ≤ t) (ht1 : t < 2147483648) (hg0 : -2147483648 ≤ g) (hg1 : g < 2147483648) : zwp (zcall 225 [.ref 287, .int (Int32.ofInt t), .int (Int32.ofInt g)] σ) (fun v τ => v = some (.int (Int32.ofInt (Ech W t g))) ∧ rK σ τ) := by
  have e0 : zN σ 288 0 = W 0 := wv_k hB.1 0
  have h0 := hB.2.1.1.1.1
  have s1 := sp_168 (n := t) (σ := σ) (by omega) (by omega) (by omega)
  rw [e0] at s1
  unfold Ech
  refine zwp_of (fun r h => zcc_225 (ze_225_0 _ _ _ r h)) ?_
  simp (disch := first | assumption | exact isR33 | exact isT104 | exact isF99 | exact isF101 | exact isR3 | omega | (refine isTk ?_; omega) | (refine isOk isR33 ?_; omega) | (refine isOk ?_ ?_; assumption; omega)) only [mm_r, mm_rl, mm_add, mm_sub, mm_mul, mm_addJ, mm_mulJ, mm_lt, mm_le, mm_eq, mm_z, mm_cl, mm_w, mm_wl, mm_ite, mm_i2l, mm_l2i, mm_ltJ, mm_leJ, mm_eqJ, mm_clt, mm_cle, mm_cgt, mm_cge, mm_ceq, mm_b, mm_nb, mm_nb0, mm_nb1, mm_vb0, mm_vb1, mm_vbc, mm_vy0, mm_vy1, mm_at, mm_ne, mm_nj, mm_Lw, mm_Nw, mm_atJ, mm_neJ, mm_njJ, zbI_s, zbV_s, zbJ_s, cond_t, Bool.true_and, Bool.and_true, if_true, if_false, not_true, not_false_iff, Classical.not_not, zel_r, zel_42, zel_12, zel_71, zel_80, zel_89, zel_110, zel_188, zel_103, zel_195, zr_o, zr_1, zr_2, zr_3, zr_4, zr_5, zr_6, zr_7, zr_8, zr_9, zq_o, zq_v, zt_o, zt_1, zt_2, zt_3, zt_4, zt_5, zf_o, zf_1, za_w1, za_w2, za_w3, za_cm, za_sl, Int.toNat_natCast, Int.toNat_natCast_add_one, mm_t0, mm_t1, mm_t2, mm_t3, mm_t4, mm_t5, mm_t6, mm_t7, mm_t8, mm_t9, mm_t10, mm_t11, mm_t12, mm_t13, za_1, za_64, za_65, za_66, za_67, za_68, za_71, za_80, za_89, za_98, za_103, za_110, za_121, za_122, za_123, za_124, za_125, za_126, za_188, za_193, za_194, za_195, za_286, za_288, za_289, za_290, za_291, za_292, za_293, za_294, za_295, za_296, za_297, za_298, za_299, za_300, za_301, za_302, za_303, za_304, za_305, za_306, za_307, za_308, za_309, za_310, za_311, za_312, s1, sp_171]
  refine zwp_ite (fun q => ?_) (fun q => ?_)
  · rw [if_neg (fun p => q p.1)]
    exact zwp_ret ⟨rfl, rK.rf⟩
  · refine zwp_ite (fun q2 => ?_) (fun q2 => ?_)
    · rw [if_pos (⟨Classical.not_not.mp q, q2⟩ : inT W t ∧ 0 ≤ g ∧ g < 3)]
      refine zwp_V _ (sp_210c hB) ?_
      rintro τ ⟨hk, hg⟩
      have e1 : zN τ 288 1 = W 1 := wv_k hg.1.1 1
      exact zwp_E (lp_225 hB.2.1 e1 hg.rc ht0 ht1 hg0 hg1 (W 1 - 1).toNat 0 (by omega)) ⟨rfl, hk⟩
    · rw [if_neg (fun p => q2 p.2)]
      exact zwp_ret ⟨rfl, rK.rf⟩
