/-! CALLS: what holds, ways, orders -/
abbrev asked (W : Int → Int) (t g h : Int) : Prop := (0 ≤ t ∧ t < W 0) ∧ (0 ≤ g ∧ g < 3) ∧ (0 ≤ h ∧ h < W 1)
theorem sp_150w {σ : zM} {W : Int → Int} {t g h : Int} (hL : cL σ 33 W) (ht0 : -2147483648 ≤ t) (ht1 : t < 2147483648) (hg0 : -2147483648 ≤ g) (hg1 : g < 2147483648) (hh0 : -2147483648 ≤ h) (hh1 : h < 2147483648) : zcall 150 [.ref 0, .int (Int32.ofInt t), .int (Int32.ofInt g), .int (Int32.ofInt h)] σ = some (some (.int (Int32.ofInt (if asked W t g h then 1 else 0))), σ) := by
  rw [sp_150 ht0 ht1 hg0 hg1 hh0 hh1, hL.1.2.1, hL.1.2.2.1]
theorem wv_k {σ : zM} {W : Int → Int} (h : wv σ 288 = W) (k : Nat) : zN σ 288 k = W k := by
  rw [← h]
  rfl
theorem sp_221w {σ : zM} {W : Int → Int} {t g h : Int} (hW : WOK W) (hw : wv σ 288 = W) (ht0 : -2147483648 ≤ t) (ht1 : t < 2147483648) (hg0 : -2147483648 ≤ g) (hg1 : g < 2147483648) (hh0 : -2147483648 ≤ h) (hh1 : h < 2147483648) : zcall 221 [.ref 287, .int (Int32.ofInt t), .int (Int32.ofInt g), .int (Int32.ofInt h)] σ = some (some (.int (Int32.ofInt (if asked W t g h then 1 else 0))), σ) := by
  have e0 : zN σ 288 0 = W 0 := wv_k hw 0
  have e1 : zN σ 288 1 = W 1 := wv_k hw 1
  have h0 := hW.1.1.1
  have h1 := hW.1.2.1
  rw [sp_221 ht0 ht1 hg0 hg1 hh0 hh1 (by omega) (by omega), e0, e1]
theorem cq_holds {σ : zM} {W : Int → Int} {t g h : Int} (hW : WOK W) (hC : ctC σ W) (ht0 : -2147483648 ≤ t) (ht1 : t < 2147483648) (hg0 : -2147483648 ≤ g) (hg1 : g < 2147483648) (hh0 : -2147483648 ≤ h) (hh1 : h < 2147483648) : zwp (zcall 116 [.ref 0, .int (Int32.ofInt t), .int (Int32.ofInt g), .int (Int32.ofInt h)] σ) (fun v τ => v = some (.int (Int32.ofInt (if asked W t g h then HH W (CM W noD) (W 7) t g h else -2))) ∧ cK σ τ W) := by
  refine zwp_of (fun r h => zcc_116 (ze_116_0 _ _ _ _ r h)) ?_
  rw [sp_150w hC.1 ht0 ht1 hg0 hg1 hh0 hh1]
  simp only [zbI_s, mm_z, mm_b]
  refine zwp_ite (fun q => ?_) (fun q => ?_)
  · rw [if_neg q]
    exact zwp_ret ⟨rfl, cK.rf hC⟩
  · rw [if_pos (Classical.not_not.mp q), sp_6c hW.un hC.cc ht0 ht1 hg0 hg1 hh0 hh1, zbI_s]
    exact zwp_ret ⟨rfl, cK.rf hC⟩
theorem rq_holds {σ : zM} {W : Int → Int} {t g h : Int} (hB : rB0 σ W) (ht0 : -2147483648 ≤ t) (ht1 : t < 2147483648) (hg0 : -2147483648 ≤ g) (hg1 : g < 2147483648) (hh0 : -2147483648 ≤ h) (hh1 : h < 2147483648) : zwp (zcall 222 [.ref 287, .int (Int32.ofInt t), .int (Int32.ofInt g), .int (Int32.ofInt h)] σ) (fun v τ => v = some (.int (Int32.ofInt (if asked W t g h then HH W (CM W noD) (W 7) t g h else -2))) ∧ rK σ τ) := by
  refine zwp_of (fun r h => zcc_222 (ze_222_0 _ _ _ _ r h)) ?_
  rw [sp_221w hB.2.1 hB.1 ht0 ht1 hg0 hg1 hh0 hh1]
  simp only [zbI_s, mm_z, mm_b]
  refine zwp_ite (fun q => ?_) (fun q => ?_)
  · rw [if_pos (Classical.not_not.mp q)]
    refine zwp_V _ (sp_210c hB) ?_
    rintro τ ⟨hk, hg⟩
    rw [sp_220c hB.2.1.un hg.rc ht0 ht1 hg0 hg1 hh0 hh1, zbI_s]
    exact zwp_ret ⟨rfl, hk⟩
  · rw [if_neg (fun p => q (fun z => z p))]
    exact zwp_ret ⟨rfl, rK.rf⟩
theorem cq_whose {σ : zM} {W : Int → Int} {t g h : Int} (hW : WOK W) (hC : ctC σ W) (ht0 : -2147483648 ≤ t) (ht1 : t < 2147483648) (hg0 : -2147483648 ≤ g) (hg1 : g < 2147483648) (hh0 : -2147483648 ≤ h) (hh1 : h < 2147483648) : zwp (zcall 117 [.ref 0, .int (Int32.ofInt t), .int (Int32.ofInt g), .int (Int32.ofInt h)] σ) (fun v τ => v = some (.int (Int32.ofInt (if asked W t g h then BB W (CM W noD) (W 7) t g h else -2))) ∧ cK σ τ W) := by
  refine zwp_of (fun r h => zcc_117 (ze_117_0 _ _ _ _ r h)) ?_
  rw [sp_150w hC.1 ht0 ht1 hg0 hg1 hh0 hh1]
  simp only [zbI_s, mm_z, mm_b]
  refine zwp_ite (fun q => ?_) (fun q => ?_)
  · rw [if_neg q]
    exact zwp_ret ⟨rfl, cK.rf hC⟩
  · rw [if_pos (Classical.not_not.mp q), sp_5c hW.un hC.cc ht0 ht1 hg0 hg1 hh0 hh1, zbI_s]
    exact zwp_ret ⟨rfl, cK.rf hC⟩
theorem rq_whose {σ : zM} {W : Int → Int} {t g h : Int} (hB : rB0 σ W) (ht0 : -2147483648 ≤ t) (ht1 : t < 2147483648) (hg0 : -2147483648 ≤ g) (hg1 : g < 2147483648) (hh0 : -2147483648 ≤ h) (hh1 : h < 2147483648) : zwp (zcall 223 [.ref 287, .int (Int32.ofInt t), .int (Int32.ofInt g), .int (Int32.ofInt h)] σ) (fun v τ => v = some (.int (Int32.ofInt (if asked W t g h then BB W (CM W noD) (W 7) t g h else -2))) ∧ rK σ τ) := by
  refine zwp_of (fun r h => zcc_223 (ze_223_0 _ _ _ _ r h)) ?_
  rw [sp_221w hB.2.1 hB.1 ht0 ht1 hg0 hg1 hh0 hh1]
  simp only [zbI_s, mm_z, mm_b]
  refine zwp_ite (fun q => ?_) (fun q => ?_)
  · rw [if_pos (Classical.not_not.mp q)]
    refine zwp_V _ (sp_210c hB) ?_
    rintro τ ⟨hk, hg⟩
    rw [sp_219c hB.2.1.un hg.rc ht0 ht1 hg0 hg1 hh0 hh1, zbI_s]
    exact zwp_ret ⟨rfl, hk⟩
  · rw [if_neg (fun p => q (fun z => z p))]
    exact zwp_ret ⟨rfl, rK.rf⟩
abbrev inT (W : Int → Int) (t : Int) : Prop := 0 ≤ t ∧ t < W 0
abbrev inH (W : Int → Int) (h : Int) : Prop := 0 ≤ h ∧ h < W 1
abbrev inO (W : Int → Int) (o : Int) : Prop := 0 ≤ o ∧ o < W 5
theorem cq_undone {σ : zM} {W : Int → Int} {t h : Int} (hW : WOK W) (hC : ctC σ W) (ht0 : -2147483648 ≤ t) (ht1 : t < 2147483648) (hh0 : -2147483648 ≤ h) (hh1 : h < 2147483648) : zwp (zcall 118 [.ref 0, .int (Int32.ofInt t), .int (Int32.ofInt h)] σ) (fun v τ => v = some (.int (if inT W t ∧ inH W h then UU W (CM W noD) (W 7) t h else Int32.ofInt (-2))) ∧ cK σ τ W) := by
  have e1 := hC.1.1.2.1
  have e2 := hC.1.1.2.2.1
  refine zwp_of (fun r h => zcc_118 (ze_118_0 _ _ _ r h)) ?_
  simp (disch := first | assumption | exact isR33 | exact isT104 | exact isF99 | exact isF101 | exact isR3 | omega | (refine isTk ?_; omega) | (refine isOk isR33 ?_; omega) | (refine isOk ?_ ?_; assumption; omega)) only [mm_r, mm_rl, mm_add, mm_sub, mm_mul, mm_addJ, mm_mulJ, mm_lt, mm_le, mm_eq, mm_z, mm_cl, mm_w, mm_wl, mm_ite, mm_i2l, mm_l2i, mm_ltJ, mm_leJ, mm_eqJ, mm_clt, mm_cle, mm_cgt, mm_cge, mm_ceq, mm_b, mm_nb, mm_nb0, mm_nb1, mm_vb0, mm_vb1, mm_vbc, mm_vy0, mm_vy1, mm_at, mm_ne, mm_nj, mm_Lw, mm_Nw, mm_atJ, mm_neJ, mm_njJ, zbI_s, zbV_s, zbJ_s, cond_t, Bool.true_and, Bool.and_true, if_true, if_false, not_true, not_false_iff, Classical.not_not, zel_r, zel_42, zel_12, zel_71, zel_80, zel_89, zel_110, zel_188, zel_103, zel_195, zr_o, zr_1, zr_2, zr_3, zr_4, zr_5, zr_6, zr_7, zr_8, zr_9, zq_o, zq_v, zt_o, zt_1, zt_2, zt_3, zt_4, zt_5, zf_o, zf_1, za_w1, za_w2, za_w3, za_cm, za_sl, Int.toNat_natCast, Int.toNat_natCast_add_one, mm_t0, mm_t1, mm_t2, mm_t3, mm_t4, mm_t5, mm_t6, mm_t7, mm_t8, mm_t9, mm_t10, mm_t11, mm_t12, mm_t13, za_1, za_64, za_65, za_66, za_67, za_68, za_71, za_80, za_89, za_98, za_103, za_110, za_121, za_122, za_123, za_124, za_125, za_126, za_188, za_193, za_194, za_195, za_286, za_288, za_289, za_290, za_291, za_292, za_293, za_294, za_295, za_296, za_297, za_298, za_299, za_300, za_301, za_302, za_303, za_304, za_305, za_306, za_307, za_308, za_309, za_310, za_311, za_312, sp_77, sp_78, e1, e2]
  refine zwp_ite (fun q => ?_) (fun q => ?_)
  · rw [if_neg (fun p => q p.1)]
    exact zwp_ret ⟨rfl, cK.rf hC⟩
  · refine zwp_ite (fun q2 => ?_) (fun q2 => ?_)
    · rw [if_pos ⟨Classical.not_not.mp q, q2⟩, sp_4c hW.un hC.cc ht0 ht1 hh0 hh1, zbI_s]
      exact zwp_ret ⟨rfl, cK.rf hC⟩
    · rw [if_neg (fun p => q2 p.2)]
      exact zwp_ret ⟨rfl, cK.rf hC⟩
theorem rq_undone {σ : zM} {W : Int → Int} {t h : Int} (hB : rB0 σ W) (ht0 : -2147483648 ≤ t) (ht1 : t < 2147483648) (hh0 : -2147483648 ≤ h) (hh1 : h < 2147483648) : zwp (zcall 224 [.ref 287, .int (Int32.ofInt t), .int (Int32.ofInt h)] σ) (fun v τ => v = some (.int (if inT W t ∧ inH W h then UU W (CM W noD) (W 7) t h else Int32.ofInt (-2))) ∧ rK σ τ) := by
  have e0 : zN σ 288 0 = W 0 := wv_k hB.1 0
  have e1 : zN σ 288 1 = W 1 := wv_k hB.1 1
  have h0 := hB.2.1.1.1.1
  have h1 := hB.2.1.1.2.1
  have s1 := sp_168 (n := t) (σ := σ) (by omega) (by omega) (by omega)
  have s2 := sp_169 (n := h) (σ := σ) (by omega) (by omega) (by omega)
  rw [e0] at s1
  rw [e1] at s2
  refine zwp_of (fun r h => zcc_224 (ze_224_0 _ _ _ r h)) ?_
  simp (disch := first | assumption | exact isR33 | exact isT104 | exact isF99 | exact isF101 | exact isR3 | omega | (refine isTk ?_; omega) | (refine isOk isR33 ?_; omega) | (refine isOk ?_ ?_; assumption; omega)) only [mm_r, mm_rl, mm_add, mm_sub, mm_mul, mm_addJ, mm_mulJ, mm_lt, mm_le, mm_eq, mm_z, mm_cl, mm_w, mm_wl, mm_ite, mm_i2l, mm_l2i, mm_ltJ, mm_leJ, mm_eqJ, mm_clt, mm_cle, mm_cgt, mm_cge, mm_ceq, mm_b, mm_nb, mm_nb0, mm_nb1, mm_vb0, mm_vb1, mm_vbc, mm_vy0, mm_vy1, mm_at, mm_ne, mm_nj, mm_Lw, mm_Nw, mm_atJ, mm_neJ, mm_njJ, zbI_s, zbV_s, zbJ_s, cond_t, Bool.true_and, Bool.and_true, if_true, if_false, not_true, not_false_iff, Classical.not_not, zel_r, zel_42, zel_12, zel_71, zel_80, zel_89, zel_110, zel_188, zel_103, zel_195, zr_o, zr_1, zr_2, zr_3, zr_4, zr_5, zr_6, zr_7, zr_8, zr_9, zq_o, zq_v, zt_o, zt_1, zt_2, zt_3, zt_4, zt_5, zf_o, zf_1, za_w1, za_w2, za_w3, za_cm, za_sl, Int.toNat_natCast, Int.toNat_natCast_add_one, mm_t0, mm_t1, mm_t2, mm_t3, mm_t4, mm_t5, mm_t6, mm_t7, mm_t8, mm_t9, mm_t10, mm_t11, mm_t12, mm_t13, za_1, za_64, za_65, za_66, za_67, za_68, za_71, za_80, za_89, za_98, za_103, za_110, za_121, za_122, za_123, za_124, za_125, za_126, za_188, za_193, za_194, za_195, za_286, za_288, za_289, za_290, za_291, za_292, za_293, za_294, za_295, za_296, za_297, za_298, za_299, za_300, za_301, za_302, za_303, za_304, za_305, za_306, za_307, za_308, za_309, za_310, za_311, za_312, s1, s2]
  refine zwp_ite (fun q => ?_) (fun q => ?_)
  · rw [if_neg (fun p => q p.1)]
    exact zwp_ret ⟨rfl, rK.rf⟩
  · refine zwp_ite (fun q2 => ?_) (fun q2 => ?_)
    · rw [if_pos ⟨Classical.not_not.mp q, q2⟩]
      refine zwp_V _ (sp_210c hB) ?_
      rintro τ ⟨hk, hg⟩
      rw [sp_216c hB.2.1.un hg.rc ht0 ht1 hh0 hh1, zbI_s]
      exact zwp_ret ⟨rfl, hk⟩
    · rw [if_neg (fun p => q2 p.2)]
      exact zwp_ret ⟨rfl, rK.rf⟩
theorem cq_comes {σ : zM} {W : Int → Int} {o : Int} (hW : WOK W) (hC : ctC σ W) (ho0 : -2147483648 ≤ o) (ho1 : o < 2147483648) : zwp (zcall 113 [.ref 0, .int (Int32.ofInt o)] σ) (fun v τ => v = some (.int (Int32.ofInt (if inO W o then CM W noD o else -2))) ∧ cK σ τ W) := by
  have e7 := hC.1.1.2.2.2.2.2.2.2
  have h5 := hW.2.2.1
  have s := sp_79 (p := 33) (n := o) (σ := σ) isR33 (by omega) (by omega)
  rw [e7] at s
  refine zwp_of (fun r h => zcc_113 (ze_113_0 _ _ r h)) ?_
  simp (disch := first | assumption | exact isR33 | exact isT104 | exact isF99 | exact isF101 | exact isR3 | omega | (refine isTk ?_; omega) | (refine isOk isR33 ?_; omega) | (refine isOk ?_ ?_; assumption; omega)) only [mm_r, mm_rl, mm_add, mm_sub, mm_mul, mm_addJ, mm_mulJ, mm_lt, mm_le, mm_eq, mm_z, mm_cl, mm_w, mm_wl, mm_ite, mm_i2l, mm_l2i, mm_ltJ, mm_leJ, mm_eqJ, mm_clt, mm_cle, mm_cgt, mm_cge, mm_ceq, mm_b, mm_nb, mm_nb0, mm_nb1, mm_vb0, mm_vb1, mm_vbc, mm_vy0, mm_vy1, mm_at, mm_ne, mm_nj, mm_Lw, mm_Nw, mm_atJ, mm_neJ, mm_njJ, zbI_s, zbV_s, zbJ_s, cond_t, Bool.true_and, Bool.and_true, if_true, if_false, not_true, not_false_iff, Classical.not_not, zel_r, zel_42, zel_12, zel_71, zel_80, zel_89, zel_110, zel_188, zel_103, zel_195, zr_o, zr_1, zr_2, zr_3, zr_4, zr_5, zr_6, zr_7, zr_8, zr_9, zq_o, zq_v, zt_o, zt_1, zt_2, zt_3, zt_4, zt_5, zf_o, zf_1, za_w1, za_w2, za_w3, za_cm, za_sl, Int.toNat_natCast, Int.toNat_natCast_add_one, mm_t0, mm_t1, mm_t2, mm_t3, mm_t4, mm_t5, mm_t6, mm_t7, mm_t8, mm_t9, mm_t10, mm_t11, mm_t12, mm_t13, za_1, za_64, za_65, za_66, za_67, za_68, za_71, za_80, za_89, za_98, za_103, za_110, za_121, za_122, za_123, za_124, za_125, za_126, za_188, za_193, za_194, za_195, za_286, za_288, za_289, za_290, za_291, za_292, za_293, za_294, za_295, za_296, za_297, za_298, za_299, za_300, za_301, za_302, za_303, za_304, za_305, za_306, za_307, za_308, za_309, za_310, za_311, za_312, s]
  refine zwp_ite (fun q => ?_) (fun q => ?_)
  · rw [if_neg q]
    exact zwp_ret ⟨rfl, cK.rf hC⟩
  · have q := Classical.not_not.mp q
    have e := (hC.2.2.2.2 o q.1 q.2).2.1.2.2
    rw [if_pos q]
    try simp (disch := first | assumption | exact isR33 | exact isT104 | exact isF99 | exact isF101 | exact isR3 | omega | (refine isTk ?_; omega) | (refine isOk isR33 ?_; omega) | (refine isOk ?_ ?_; assumption; omega)) only [mm_r, mm_rl, mm_add, mm_sub, mm_mul, mm_addJ, mm_mulJ, mm_lt, mm_le, mm_eq, mm_z, mm_cl, mm_w, mm_wl, mm_ite, mm_i2l, mm_l2i, mm_ltJ, mm_leJ, mm_eqJ, mm_clt, mm_cle, mm_cgt, mm_cge, mm_ceq, mm_b, mm_nb, mm_nb0, mm_nb1, mm_vb0, mm_vb1, mm_vbc, mm_vy0, mm_vy1, mm_at, mm_ne, mm_nj, mm_Lw, mm_Nw, mm_atJ, mm_neJ, mm_njJ, zbI_s, zbV_s, zbJ_s, cond_t, Bool.true_and, Bool.and_true, if_true, if_false, not_true, not_false_iff, Classical.not_not, zel_r, zel_42, zel_12, zel_71, zel_80, zel_89, zel_110, zel_188, zel_103, zel_195, zr_o, zr_1, zr_2, zr_3, zr_4, zr_5, zr_6, zr_7, zr_8, zr_9, zq_o, zq_v, zt_o, zt_1, zt_2, zt_3, zt_4, zt_5, zf_o, zf_1, za_w1, za_w2, za_w3, za_cm, za_sl, Int.toNat_natCast, Int.toNat_natCast_add_one, mm_t0, mm_t1, mm_t2, mm_t3, mm_t4, mm_t5, mm_t6, mm_t7, mm_t8, mm_t9, mm_t10, mm_t11, mm_t12, mm_t13, za_1, za_64, za_65, za_66, za_67, za_68, za_71, za_80, za_89, za_98, za_103, za_110, za_121, za_122, za_123, za_124, za_125, za_126, za_188, za_193, za_194, za_195, za_286, za_288, za_289, za_290, za_291, za_292, za_293, za_294, za_295, za_296, za_297, za_298, za_299, za_300, za_301, za_302, za_303, za_304, za_305, za_306, za_307, za_308, za_309, za_310, za_311, za_312, e]
    exact zwp_ret ⟨rfl, cK.rf hC⟩
theorem rq_comes {σ : zM} {W : Int → Int} {o : Int} (hB : rB0 σ W) (ho0 : -2147483648 ≤ o) (ho1 : o < 2147483648) : zwp (zcall 212 [.ref 287, .int (Int32.ofInt o)] σ) (fun v τ => v = some (.int (Int32.ofInt (if inO W o then CM W noD o else -2))) ∧ rK σ τ) := by
  have e5 : zN σ 288 5 = W 5 := wv_k hB.1 5
  have h5 := hB.2.1.2.2.1
  have s := sp_170 (n := o) (σ := σ) (by omega) (by omega) (by omega)
  rw [e5] at s
  refine zwp_of (fun r h => zcc_212 (ze_212_0 _ _ r h)) ?_
  simp (disch := first | assumption | exact isR33 | exact isT104 | exact isF99 | exact isF101 | exact isR3 | omega | (refine isTk ?_; omega) | (refine isOk isR33 ?_; omega) | (refine isOk ?_ ?_; assumption; omega)) only [mm_r, mm_rl, mm_add, mm_sub, mm_mul, mm_addJ, mm_mulJ, mm_lt, mm_le, mm_eq, mm_z, mm_cl, mm_w, mm_wl, mm_ite, mm_i2l, mm_l2i, mm_ltJ, mm_leJ, mm_eqJ, mm_clt, mm_cle, mm_cgt, mm_cge, mm_ceq, mm_b, mm_nb, mm_nb0, mm_nb1, mm_vb0, mm_vb1, mm_vbc, mm_vy0, mm_vy1, mm_at, mm_ne, mm_nj, mm_Lw, mm_Nw, mm_atJ, mm_neJ, mm_njJ, zbI_s, zbV_s, zbJ_s, cond_t, Bool.true_and, Bool.and_true, if_true, if_false, not_true, not_false_iff, Classical.not_not, zel_r, zel_42, zel_12, zel_71, zel_80, zel_89, zel_110, zel_188, zel_103, zel_195, zr_o, zr_1, zr_2, zr_3, zr_4, zr_5, zr_6, zr_7, zr_8, zr_9, zq_o, zq_v, zt_o, zt_1, zt_2, zt_3, zt_4, zt_5, zf_o, zf_1, za_w1, za_w2, za_w3, za_cm, za_sl, Int.toNat_natCast, Int.toNat_natCast_add_one, mm_t0, mm_t1, mm_t2, mm_t3, mm_t4, mm_t5, mm_t6, mm_t7, mm_t8, mm_t9, mm_t10, mm_t11, mm_t12, mm_t13, za_1, za_64, za_65, za_66, za_67, za_68, za_71, za_80, za_89, za_98, za_103, za_110, za_121, za_122, za_123, za_124, za_125, za_126, za_188, za_193, za_194, za_195, za_286, za_288, za_289, za_290, za_291, za_292, za_293, za_294, za_295, za_296, za_297, za_298, za_299, za_300, za_301, za_302, za_303, za_304, za_305, za_306, za_307, za_308, za_309, za_310, za_311, za_312, s]
  refine zwp_ite (fun q => ?_) (fun q => ?_)
  · rw [if_pos q]
    refine zwp_V _ (sp_210c hB) ?_
    rintro τ ⟨hk, hg⟩
    have e := (hg.2.1 o q.1 q.2).2.1
    repeat (with_reducible refine zwp_cd ?_ ?_; (· simp (disch := first | assumption | exact isR33 | exact isT104 | exact isF99 | exact isF101 | exact isR3 | omega | (refine isTk ?_; omega) | (refine isOk isR33 ?_; omega) | (refine isOk ?_ ?_; assumption; omega)) only [mm_r, mm_rl, mm_add, mm_sub, mm_mul, mm_addJ, mm_mulJ, mm_lt, mm_le, mm_eq, mm_z, mm_cl, mm_w, mm_wl, mm_ite, mm_i2l, mm_l2i, mm_ltJ, mm_leJ, mm_eqJ, mm_clt, mm_cle, mm_cgt, mm_cge, mm_ceq, mm_b, mm_nb, mm_nb0, mm_nb1, mm_vb0, mm_vb1, mm_vbc, mm_vy0, mm_vy1, mm_at, mm_ne, mm_nj, mm_Lw, mm_Nw, mm_atJ, mm_neJ, mm_njJ, zbI_s, zbV_s, zbJ_s, cond_t, Bool.true_and, Bool.and_true, if_true, if_false, not_true, not_false_iff, Classical.not_not, zel_r, zel_42, zel_12, zel_71, zel_80, zel_89, zel_110, zel_188, zel_103, zel_195, zr_o, zr_1, zr_2, zr_3, zr_4, zr_5, zr_6, zr_7, zr_8, zr_9, zq_o, zq_v, zt_o, zt_1, zt_2, zt_3, zt_4, zt_5, zf_o, zf_1, za_w1, za_w2, za_w3, za_cm, za_sl, Int.toNat_natCast, Int.toNat_natCast_add_one, mm_t0, mm_t1, mm_t2, mm_t3, mm_t4, mm_t5, mm_t6, mm_t7, mm_t8, mm_t9, mm_t10, mm_t11, mm_t12, mm_t13, za_1, za_64, za_65, za_66, za_67, za_68, za_71, za_80, za_89, za_98, za_103, za_110, za_121, za_122, za_123, za_124, za_125, za_126, za_188, za_193, za_194, za_195, za_286, za_288, za_289, za_290, za_291, za_292, za_293, za_294, za_295, za_296, za_297, za_298, za_299, za_300, za_301, za_302, za_303, za_304, za_305, za_306, za_307, za_308, za_309, za_310, za_311, za_312]))
    simp (disch := first | assumption | exact isR33 | exact isT104 | exact isF99 | exact isF101 | exact isR3 | omega | (refine isTk ?_; omega) | (refine isOk isR33 ?_; omega) | (refine isOk ?_ ?_; assumption; omega)) only [mm_r, mm_rl, mm_add, mm_sub, mm_mul, mm_addJ, mm_mulJ, mm_lt, mm_le, mm_eq, mm_z, mm_cl, mm_w, mm_wl, mm_ite, mm_i2l, mm_l2i, mm_ltJ, mm_leJ, mm_eqJ, mm_clt, mm_cle, mm_cgt, mm_cge, mm_ceq, mm_b, mm_nb, mm_nb0, mm_nb1, mm_vb0, mm_vb1, mm_vbc, mm_vy0, mm_vy1, mm_at, mm_ne, mm_nj, mm_Lw, mm_Nw, mm_atJ, mm_neJ, mm_njJ, zbI_s, zbV_s, zbJ_s, cond_t, Bool.true_and, Bool.and_true, if_true, if_false, not_true, not_false_iff, Classical.not_not, zel_r, zel_42, zel_12, zel_71, zel_80, zel_89, zel_110, zel_188, zel_103, zel_195, zr_o, zr_1, zr_2, zr_3, zr_4, zr_5, zr_6, zr_7, zr_8, zr_9, zq_o, zq_v, zt_o, zt_1, zt_2, zt_3, zt_4, zt_5, zf_o, zf_1, za_w1, za_w2, za_w3, za_cm, za_sl, Int.toNat_natCast, Int.toNat_natCast_add_one, mm_t0, mm_t1, mm_t2, mm_t3, mm_t4, mm_t5, mm_t6, mm_t7, mm_t8, mm_t9, mm_t10, mm_t11, mm_t12, mm_t13, za_1, za_64, za_65, za_66, za_67, za_68, za_71, za_80, za_89, za_98, za_103, za_110, za_121, za_122, za_123, za_124, za_125, za_126, za_188, za_193, za_194, za_195, za_286, za_288, za_289, za_290, za_291, za_292, za_293, za_294, za_295, za_296, za_297, za_298, za_299, za_300, za_301, za_302, za_303, za_304, za_305, za_306, za_307, za_308, za_309, za_310, za_311, za_312, e]
    exact zwp_ret ⟨rfl, hk⟩
  · rw [if_neg q]
    exact zwp_ret ⟨rfl, rK.rf⟩
def Eord (W : Int → Int) (o k : Int) : Int := if inO W o ∧ 0 ≤ k ∧ k ≤ 6 then oo W o k else -2
theorem cq_order {σ : zM} {W : Int → Int} {o k : Int} (hW : WOK W) (hC : ctC σ W) (ho0 : -2147483648 ≤ o) (ho1 : o < 2147483648) (hk0 : -2147483648 ≤ k) (hk1 : k < 2147483648) : zwp (zcall 112 [.ref 0, .int (Int32.ofInt o), .int (Int32.ofInt k)] σ) (fun v τ => v = some (.int (Int32.ofInt (Eord W o k))) ∧ cK σ τ W) := by
  have e7 := hC.1.1.2.2.2.2.2.2.2
  have h5 := hW.2.2.1
  have s := sp_79 (p := 33) (n := o) (σ := σ) isR33 (by omega) (by omega)
  rw [e7] at s
  unfold Eord
  refine zwp_of (fun r h => zcc_112 (ze_112_0 _ _ _ r h)) ?_
  rw [show (Int32.ofInt o).toInt64 = Int64.ofInt o from mm_i2l (by omega) (by omega), s]
  simp only [zbI_s, mm_z, mm_b, Classical.not_not]
  refine zwp_ite (fun q => ?_) (fun q => ?_)
  · obtain ⟨a0, a1, a2, a3, a4, a5, a6, -⟩ := hC.1.2.2.2.2 o q.1 q.2
    simp (disch := first | assumption | exact isR33 | exact isT104 | exact isF99 | exact isF101 | exact isR3 | omega | (refine isTk ?_; omega) | (refine isOk isR33 ?_; omega) | (refine isOk ?_ ?_; assumption; omega)) only [mm_r, mm_rl, mm_add, mm_sub, mm_mul, mm_addJ, mm_mulJ, mm_lt, mm_le, mm_eq, mm_z, mm_cl, mm_w, mm_wl, mm_ite, mm_i2l, mm_l2i, mm_ltJ, mm_leJ, mm_eqJ, mm_clt, mm_cle, mm_cgt, mm_cge, mm_ceq, mm_b, mm_nb, mm_nb0, mm_nb1, mm_vb0, mm_vb1, mm_vbc, mm_vy0, mm_vy1, mm_at, mm_ne, mm_nj, mm_Lw, mm_Nw, mm_atJ, mm_neJ, mm_njJ, zbI_s, zbV_s, zbJ_s, cond_t, Bool.true_and, Bool.and_true, if_true, if_false, not_true, not_false_iff, Classical.not_not, zel_r, zel_42, zel_12, zel_71, zel_80, zel_89, zel_110, zel_188, zel_103, zel_195, zr_o, zr_1, zr_2, zr_3, zr_4, zr_5, zr_6, zr_7, zr_8, zr_9, zq_o, zq_v, zt_o, zt_1, zt_2, zt_3, zt_4, zt_5, zf_o, zf_1, za_w1, za_w2, za_w3, za_cm, za_sl, Int.toNat_natCast, Int.toNat_natCast_add_one, mm_t0, mm_t1, mm_t2, mm_t3, mm_t4, mm_t5, mm_t6, mm_t7, mm_t8, mm_t9, mm_t10, mm_t11, mm_t12, mm_t13, za_1, za_64, za_65, za_66, za_67, za_68, za_71, za_80, za_89, za_98, za_103, za_110, za_121, za_122, za_123, za_124, za_125, za_126, za_188, za_193, za_194, za_195, za_286, za_288, za_289, za_290, za_291, za_292, za_293, za_294, za_295, za_296, za_297, za_298, za_299, za_300, za_301, za_302, za_303, za_304, za_305, za_306, za_307, za_308, za_309, za_310, za_311, za_312, a0, a1, a2, a3, a4, a5, a6]
    by_cases q2 : 0 ≤ k ∧ k ≤ 6
    · have eE : (if inO W o ∧ 0 ≤ k ∧ k ≤ 6 then oo W o k else -2) = oo W o k := if_pos ⟨q, q2.1, q2.2⟩
      rw [eE]
      have hk : k = 0 ∨ k = 1 ∨ k = 2 ∨ k = 3 ∨ k = 4 ∨ k = 5 ∨ k = 6 := by omega
      rcases hk with rfl | rfl | rfl | rfl | rfl | rfl | rfl <;> (repeat (first | rw [if_pos rfl] | rw [if_neg (by decide)])) <;> exact zwp_ret ⟨rfl, cK.rf hC⟩
    · have eE : (if inO W o ∧ 0 ≤ k ∧ k ≤ 6 then oo W o k else -2) = -2 := if_neg (fun p => q2 p.2)
      rw [eE, if_neg (by omega), if_neg (by omega), if_neg (by omega), if_neg (by omega), if_neg (by omega), if_neg (by omega), if_neg (by omega)]
      exact zwp_ret ⟨rfl, cK.rf hC⟩
  · rw [if_neg (fun p => q p.1)]
    exact zwp_ret ⟨rfl, cK.rf hC⟩
theorem rq_order {σ : zM} {W : Int → Int} {o k : Int} (hB : rB0 σ W) (ho0 : -2147483648 ≤ o) (ho1 : o < 2147483648) (hk0 : -2147483648 ≤ k) (hk1 : k < 2147483648) : zwp (zcall 211 [.ref 287, .int (Int32.ofInt o), .int (Int32.ofInt k)] σ) (fun v τ => v = some (.int (Int32.ofInt (Eord W o k))) ∧ rK σ τ) := by
  have e5 : zN σ 288 5 = W 5 := wv_k hB.1 5
  have h5 := hB.2.1.2.2.1
  have s := sp_170 (n := o) (σ := σ) (by omega) (by omega) (by omega)
  rw [e5] at s
  unfold Eord
  refine zwp_of (fun r h => zcc_211 (ze_211_0 _ _ _ r h)) ?_
  simp (disch := first | assumption | exact isR33 | exact isT104 | exact isF99 | exact isF101 | exact isR3 | omega | (refine isTk ?_; omega) | (refine isOk isR33 ?_; omega) | (refine isOk ?_ ?_; assumption; omega)) only [mm_r, mm_rl, mm_add, mm_sub, mm_mul, mm_addJ, mm_mulJ, mm_lt, mm_le, mm_eq, mm_z, mm_cl, mm_w, mm_wl, mm_ite, mm_i2l, mm_l2i, mm_ltJ, mm_leJ, mm_eqJ, mm_clt, mm_cle, mm_cgt, mm_cge, mm_ceq, mm_b, mm_nb, mm_nb0, mm_nb1, mm_vb0, mm_vb1, mm_vbc, mm_vy0, mm_vy1, mm_at, mm_ne, mm_nj, mm_Lw, mm_Nw, mm_atJ, mm_neJ, mm_njJ, zbI_s, zbV_s, zbJ_s, cond_t, Bool.true_and, Bool.and_true, if_true, if_false, not_true, not_false_iff, Classical.not_not, zel_r, zel_42, zel_12, zel_71, zel_80, zel_89, zel_110, zel_188, zel_103, zel_195, zr_o, zr_1, zr_2, zr_3, zr_4, zr_5, zr_6, zr_7, zr_8, zr_9, zq_o, zq_v, zt_o, zt_1, zt_2, zt_3, zt_4, zt_5, zf_o, zf_1, za_w1, za_w2, za_w3, za_cm, za_sl, Int.toNat_natCast, Int.toNat_natCast_add_one, mm_t0, mm_t1, mm_t2, mm_t3, mm_t4, mm_t5, mm_t6, mm_t7, mm_t8, mm_t9, mm_t10, mm_t11, mm_t12, mm_t13, za_1, za_64, za_65, za_66, za_67, za_68, za_71, za_80, za_89, za_98, za_103, za_110, za_121, za_122, za_123, za_124, za_125, za_126, za_188, za_193, za_194, za_195, za_286, za_288, za_289, za_290, za_291, za_292, za_293, za_294, za_295, za_296, za_297, za_298, za_299, za_300, za_301, za_302, za_303, za_304, za_305, za_306, za_307, za_308, za_309, za_310, za_311, za_312, s, sp_163]
  refine zwp_ite (fun q => ?_) (fun q => ?_)
  · rw [if_neg (fun p => q p.1)]
    exact zwp_ret ⟨rfl, rK.rf⟩
  · have q := Classical.not_not.mp q
    refine zwp_ite (fun q2 => ?_) (fun q2 => ?_)
    · rw [if_neg (fun p => q2 p.2)]
      exact zwp_ret ⟨rfl, rK.rf⟩
    · have q2 := Classical.not_not.mp q2
      rw [if_pos ⟨q, q2⟩, sp_173r q.1 (by omega) q2.1 (by omega), zbI_s, rO_of hB.1]
      exact zwp_ret ⟨rfl, rK.rf⟩
def Ehours (W : Int → Int) (a b : Int) : Int := if inT W a ∧ inT W b then (if 1000000 ≤ DD W a b then -1 else DD W a b) else -2
theorem cq_hours {σ : zM} {W : Int → Int} {a b : Int} (hW : WOK W) (hC : ctC σ W) (ha0 : -2147483648 ≤ a) (ha1 : a < 2147483648) (hb0 : -2147483648 ≤ b) (hb1 : b < 2147483648) : zwp (zcall 110 [.ref 0, .int (Int32.ofInt a), .int (Int32.ofInt b)] σ) (fun v τ => v = some (.int (Int32.ofInt (Ehours W a b))) ∧ cK σ τ W) := by
  have e1 := hC.1.1.2.1
  have h8 := hW.1.1.2.1
  unfold Ehours
  refine zwp_of (fun r h => zcc_110 (ze_110_0 _ _ _ r h)) ?_
  simp (disch := first | assumption | exact isR33 | exact isT104 | exact isF99 | exact isF101 | exact isR3 | omega | (refine isTk ?_; omega) | (refine isOk isR33 ?_; omega) | (refine isOk ?_ ?_; assumption; omega)) only [mm_r, mm_rl, mm_add, mm_sub, mm_mul, mm_addJ, mm_mulJ, mm_lt, mm_le, mm_eq, mm_z, mm_cl, mm_w, mm_wl, mm_ite, mm_i2l, mm_l2i, mm_ltJ, mm_leJ, mm_eqJ, mm_clt, mm_cle, mm_cgt, mm_cge, mm_ceq, mm_b, mm_nb, mm_nb0, mm_nb1, mm_vb0, mm_vb1, mm_vbc, mm_vy0, mm_vy1, mm_at, mm_ne, mm_nj, mm_Lw, mm_Nw, mm_atJ, mm_neJ, mm_njJ, zbI_s, zbV_s, zbJ_s, cond_t, Bool.true_and, Bool.and_true, if_true, if_false, not_true, not_false_iff, Classical.not_not, zel_r, zel_42, zel_12, zel_71, zel_80, zel_89, zel_110, zel_188, zel_103, zel_195, zr_o, zr_1, zr_2, zr_3, zr_4, zr_5, zr_6, zr_7, zr_8, zr_9, zq_o, zq_v, zt_o, zt_1, zt_2, zt_3, zt_4, zt_5, zf_o, zf_1, za_w1, za_w2, za_w3, za_cm, za_sl, Int.toNat_natCast, Int.toNat_natCast_add_one, mm_t0, mm_t1, mm_t2, mm_t3, mm_t4, mm_t5, mm_t6, mm_t7, mm_t8, mm_t9, mm_t10, mm_t11, mm_t12, mm_t13, za_1, za_64, za_65, za_66, za_67, za_68, za_71, za_80, za_89, za_98, za_103, za_110, za_121, za_122, za_123, za_124, za_125, za_126, za_188, za_193, za_194, za_195, za_286, za_288, za_289, za_290, za_291, za_292, za_293, za_294, za_295, za_296, za_297, za_298, za_299, za_300, za_301, za_302, za_303, za_304, za_305, za_306, za_307, za_308, za_309, za_310, za_311, za_312, sp_77, e1]
  refine zwp_ite (fun q => ?_) (fun q => ?_)
  · rw [if_neg (fun p => q p.1)]
    exact zwp_ret ⟨rfl, cK.rf hC⟩
  · have q := Classical.not_not.mp q
    refine zwp_ite (fun q2 => ?_) (fun q2 => ?_)
    · have e : zN σ (72 + a.toNat) b.toNat = DD W a b := hC.2.1.1 a b q.1 (by omega) q2.1 (by omega)
      rw [if_pos (⟨q, q2⟩ : inT W a ∧ inT W b), sp_103 q.1 (by omega) q2.1 (by omega), zbI_s, e]
      exact zwp_ret ⟨rfl, cK.rf hC⟩
    · rw [if_neg (fun p => q2 p.2)]
      exact zwp_ret ⟨rfl, cK.rf hC⟩
theorem rq_hours {σ : zM} {W : Int → Int} {a b : Int} (hB : rB0 σ W) (ha0 : -2147483648 ≤ a) (ha1 : a < 2147483648) (hb0 : -2147483648 ≤ b) (hb1 : b < 2147483648) : zwp (zcall 203 [.ref 287, .int (Int32.ofInt a), .int (Int32.ofInt b)] σ) (fun v τ => v = some (.int (Int32.ofInt (Ehours W a b))) ∧ rK σ τ) := by
  have e0 : zN σ 288 0 = W 0 := wv_k hB.1 0
  have h0 := hB.2.1.1.1.1
  have h8 := hB.2.1.1.1.2.1
  have s1 := sp_168 (n := a) (σ := σ) (by omega) (by omega) (by omega)
  have s2 := sp_168 (n := b) (σ := σ) (by omega) (by omega) (by omega)
  rw [e0] at s1 s2
  unfold Ehours
  refine zwp_of (fun r h => zcc_203 (ze_203_0 _ _ _ r h)) ?_
  simp (disch := first | assumption | exact isR33 | exact isT104 | exact isF99 | exact isF101 | exact isR3 | omega | (refine isTk ?_; omega) | (refine isOk isR33 ?_; omega) | (refine isOk ?_ ?_; assumption; omega)) only [mm_r, mm_rl, mm_add, mm_sub, mm_mul, mm_addJ, mm_mulJ, mm_lt, mm_le, mm_eq, mm_z, mm_cl, mm_w, mm_wl, mm_ite, mm_i2l, mm_l2i, mm_ltJ, mm_leJ, mm_eqJ, mm_clt, mm_cle, mm_cgt, mm_cge, mm_ceq, mm_b, mm_nb, mm_nb0, mm_nb1, mm_vb0, mm_vb1, mm_vbc, mm_vy0, mm_vy1, mm_at, mm_ne, mm_nj, mm_Lw, mm_Nw, mm_atJ, mm_neJ, mm_njJ, zbI_s, zbV_s, zbJ_s, cond_t, Bool.true_and, Bool.and_true, if_true, if_false, not_true, not_false_iff, Classical.not_not, zel_r, zel_42, zel_12, zel_71, zel_80, zel_89, zel_110, zel_188, zel_103, zel_195, zr_o, zr_1, zr_2, zr_3, zr_4, zr_5, zr_6, zr_7, zr_8, zr_9, zq_o, zq_v, zt_o, zt_1, zt_2, zt_3, zt_4, zt_5, zf_o, zf_1, za_w1, za_w2, za_w3, za_cm, za_sl, Int.toNat_natCast, Int.toNat_natCast_add_one, mm_t0, mm_t1, mm_t2, mm_t3, mm_t4, mm_t5, mm_t6, mm_t7, mm_t8, mm_t9, mm_t10, mm_t11, mm_t12, mm_t13, za_1, za_64, za_65, za_66, za_67, za_68, za_71, za_80, za_89, za_98, za_103, za_110, za_121, za_122, za_123, za_124, za_125, za_126, za_188, za_193, za_194, za_195, za_286, za_288, za_289, za_290, za_291, za_292, za_293, za_294, za_295, za_296, za_297, za_298, za_299, za_300, za_301, za_302, za_303, za_304, za_305, za_306, za_307, za_308, za_309, za_310, za_311, za_312, s1, s2]
  refine zwp_ite (fun q => ?_) (fun q => ?_)
  · rw [if_neg (fun p => q p.1)]
    exact zwp_ret ⟨rfl, rK.rf⟩
  · have q := Classical.not_not.mp q
    refine zwp_ite (fun q2 => ?_) (fun q2 => ?_)
    · rw [if_pos (⟨q, q2⟩ : inT W a ∧ inT W b)]
      refine zwp_V _ (sp_200 (by rw [hB.1]; exact hB.2.1.1.1)) ?_
      rintro τ ⟨hf, hE⟩
      rw [hB.1, e0] at hE
      have e : zN τ 294 (8 * a + b).toNat = DD W a b := hE a b q.1 (by omega) q2.1 (by omega)
      have hk : rK σ τ := rK_go (hf.mono (by omega))
      rw [sp_201 q.1 (by omega) q2.1 (by omega), zbI_s, e]
      have r := DD_rng hB.2.1.1.1 q.1 q.2 q2.1 q2.2
      simp (disch := first | assumption | exact isR33 | exact isT104 | exact isF99 | exact isF101 | exact isR3 | omega | (refine isTk ?_; omega) | (refine isOk isR33 ?_; omega) | (refine isOk ?_ ?_; assumption; omega)) only [mm_r, mm_rl, mm_add, mm_sub, mm_mul, mm_addJ, mm_mulJ, mm_lt, mm_le, mm_eq, mm_z, mm_cl, mm_w, mm_wl, mm_ite, mm_i2l, mm_l2i, mm_ltJ, mm_leJ, mm_eqJ, mm_clt, mm_cle, mm_cgt, mm_cge, mm_ceq, mm_b, mm_nb, mm_nb0, mm_nb1, mm_vb0, mm_vb1, mm_vbc, mm_vy0, mm_vy1, mm_at, mm_ne, mm_nj, mm_Lw, mm_Nw, mm_atJ, mm_neJ, mm_njJ, zbI_s, zbV_s, zbJ_s, cond_t, Bool.true_and, Bool.and_true, if_true, if_false, not_true, not_false_iff, Classical.not_not, zel_r, zel_42, zel_12, zel_71, zel_80, zel_89, zel_110, zel_188, zel_103, zel_195, zr_o, zr_1, zr_2, zr_3, zr_4, zr_5, zr_6, zr_7, zr_8, zr_9, zq_o, zq_v, zt_o, zt_1, zt_2, zt_3, zt_4, zt_5, zf_o, zf_1, za_w1, za_w2, za_w3, za_cm, za_sl, Int.toNat_natCast, Int.toNat_natCast_add_one, mm_t0, mm_t1, mm_t2, mm_t3, mm_t4, mm_t5, mm_t6, mm_t7, mm_t8, mm_t9, mm_t10, mm_t11, mm_t12, mm_t13, za_1, za_64, za_65, za_66, za_67, za_68, za_71, za_80, za_89, za_98, za_103, za_110, za_121, za_122, za_123, za_124, za_125, za_126, za_188, za_193, za_194, za_195, za_286, za_288, za_289, za_290, za_291, za_292, za_293, za_294, za_295, za_296, za_297, za_298, za_299, za_300, za_301, za_302, za_303, za_304, za_305, za_306, za_307, za_308, za_309, za_310, za_311, za_312]
      refine zwp_ite (fun q3 => ?_) (fun q3 => ?_)
      · rw [sp_201 q.1 (by omega) q2.1 (by omega), zbI_s, e, if_neg (by omega)]
        exact zwp_ret ⟨rfl, hk⟩
      · rw [if_pos (by omega)]
        exact zwp_ret ⟨rfl, hk⟩
    · rw [if_neg (fun p => q2 p.2)]
      exact zwp_ret ⟨rfl, rK.rf⟩
