/-! CALLS: latest, earliest: the class's -/
theorem BB_in {W : Int → Int} {c : Int → Int} {sl t g h : Int} (hn : BB W c sl t g h ≠ -1) : c (BB W c sl t g h) ≠ -1 ∧ c (BB W c sl t g h) ≤ h := by
  have := br_P (fun o => TT W c sl t h o && !(xb (udn (TT W c sl t h) (fun o => oo W o 3) (W 5).toNat (W 5).toNat) o.toNat) && decide (oo W o 1 = g) && decide (oo W o 2 ≠ -1)) c (W 5).toNat hn
  change (TT W c sl t h (BB W c sl t g h) && _ && _ && _) = true at this
  simp only [Bool.and_eq_true] at this
  have := of_decide_eq_true this.1.1.1
  exact ⟨this.2.1, this.2.2.1⟩
theorem sp_24 {σ : zM} {W : Int → Int} {c : Int → Int} {sl o x h : Int} (hW : WOK W) (hL : cL σ 33 W) (hC : ccC σ W c sl) (o0 : 0 ≤ o) (o1 : o < W 5) (x0 : -2147483648 ≤ x) (x1 : x < 2147483648) (hh0 : -2147483648 ≤ h) (hh1 : h < 2147483648) : zwp (zcall 24 [.ref 69, .int (Int32.ofInt o), .int (Int32.ofInt x), .int (Int32.ofInt h)] σ) (fun v τ => v = some (.int (Int32.ofInt (if BB W (cup c o x) sl (oo W o 5) (oo W o 1) h = o then 1 else 0))) ∧ same σ τ) := by
  have h5 := hW.2.2.1
  have h8 := hW.1.1.2.1
  obtain ⟨ho, -, g0, g1, -⟩ := hW.2.2.2.2 o o0 o1
  have a3 := ho.2.2.1
  have a4 := ho.2.2.2.1
  have hO := hL.2.2.2.2 o o0 o1
  have e5 := hO.2.2.2.2.2.1
  have e1 := hO.2.1
  have r := BB_rng W (cup c o x) sl (oo W o 5) (oo W o 1) h
  refine zwp_of (fun r h => zcc_24 (ze_24_0 _ _ _ _ r h)) ?_
  simp (disch := first | assumption | exact isR33 | exact isT104 | exact isF99 | exact isF101 | exact isR3 | omega | (refine isTk ?_; omega) | (refine isOk isR33 ?_; omega) | (refine isOk ?_ ?_; assumption; omega)) only [mm_r, mm_rl, mm_add, mm_sub, mm_mul, mm_addJ, mm_mulJ, mm_lt, mm_le, mm_eq, mm_z, mm_cl, mm_w, mm_wl, mm_ite, mm_i2l, mm_l2i, mm_ltJ, mm_leJ, mm_eqJ, mm_clt, mm_cle, mm_cgt, mm_cge, mm_ceq, mm_b, mm_nb, mm_nb0, mm_nb1, mm_vb0, mm_vb1, mm_vbc, mm_vy0, mm_vy1, mm_at, mm_ne, mm_nj, mm_Lw, mm_Nw, mm_atJ, mm_neJ, mm_njJ, zbI_s, zbV_s, zbJ_s, cond_t, Bool.true_and, Bool.and_true, if_true, if_false, not_true, not_false_iff, Classical.not_not, zel_r, zel_42, zel_12, zel_71, zel_80, zel_89, zel_110, zel_188, zel_103, zel_195, zr_o, zr_1, zr_2, zr_3, zr_4, zr_5, zr_6, zr_7, zr_8, zr_9, zq_o, zq_v, zt_o, zt_1, zt_2, zt_3, zt_4, zt_5, zf_o, zf_1, za_w1, za_w2, za_w3, za_cm, za_sl, Int.toNat_natCast, Int.toNat_natCast_add_one, mm_t0, mm_t1, mm_t2, mm_t3, mm_t4, mm_t5, mm_t6, mm_t7, mm_t8, mm_t9, mm_t10, mm_t11, mm_t12, mm_t13, za_1, za_64, za_65, za_66, za_67, za_68, za_71, za_80, za_89, za_98, za_103, za_110, za_121, za_122, za_123, za_124, za_125, za_126, za_188, za_193, za_194, za_195, za_286, za_288, za_289, za_290, za_291, za_292, za_293, za_294, za_295, za_296, za_297, za_298, za_299, za_300, za_301, za_302, za_303, za_304, za_305, za_306, za_307, za_308, za_309, za_310, za_311, za_312, e5, e1]
  refine zwp_IE (sp_22 hW hC o0 o1 x0 x1 (by omega) (by omega) (by omega) (by omega) hh0 hh1) ?_
  intro τ hs
  simp (disch := first | assumption | exact isR33 | exact isT104 | exact isF99 | exact isF101 | exact isR3 | omega | (refine isTk ?_; omega) | (refine isOk isR33 ?_; omega) | (refine isOk ?_ ?_; assumption; omega)) only [mm_r, mm_rl, mm_add, mm_sub, mm_mul, mm_addJ, mm_mulJ, mm_lt, mm_le, mm_eq, mm_z, mm_cl, mm_w, mm_wl, mm_ite, mm_i2l, mm_l2i, mm_ltJ, mm_leJ, mm_eqJ, mm_clt, mm_cle, mm_cgt, mm_cge, mm_ceq, mm_b, mm_nb, mm_nb0, mm_nb1, mm_vb0, mm_vb1, mm_vbc, mm_vy0, mm_vy1, mm_at, mm_ne, mm_nj, mm_Lw, mm_Nw, mm_atJ, mm_neJ, mm_njJ, zbI_s, zbV_s, zbJ_s, cond_t, Bool.true_and, Bool.and_true, if_true, if_false, not_true, not_false_iff, Classical.not_not, zel_r, zel_42, zel_12, zel_71, zel_80, zel_89, zel_110, zel_188, zel_103, zel_195, zr_o, zr_1, zr_2, zr_3, zr_4, zr_5, zr_6, zr_7, zr_8, zr_9, zq_o, zq_v, zt_o, zt_1, zt_2, zt_3, zt_4, zt_5, zf_o, zf_1, za_w1, za_w2, za_w3, za_cm, za_sl, Int.toNat_natCast, Int.toNat_natCast_add_one, mm_t0, mm_t1, mm_t2, mm_t3, mm_t4, mm_t5, mm_t6, mm_t7, mm_t8, mm_t9, mm_t10, mm_t11, mm_t12, mm_t13, za_1, za_64, za_65, za_66, za_67, za_68, za_71, za_80, za_89, za_98, za_103, za_110, za_121, za_122, za_123, za_124, za_125, za_126, za_188, za_193, za_194, za_195, za_286, za_288, za_289, za_290, za_291, za_292, za_293, za_294, za_295, za_296, za_297, za_298, za_299, za_300, za_301, za_302, za_303, za_304, za_305, za_306, za_307, za_308, za_309, za_310, za_311, za_312]
  refine zwp_ite (fun q => ?_) (fun q => ?_)
  · rw [if_neg q]
    exact zwp_ret ⟨rfl, hs⟩
  · rw [if_pos (Classical.not_not.mp q)]
    exact zwp_ret ⟨rfl, hs⟩
theorem CMs_rng {W : Int → Int} (hW : WOK W) {o h : Int} (o0 : 0 ≤ o) (o1 : o < W 5) : -1 ≤ CMs W o h ∧ CMs W o h < 99 := by
  have ho := (hW.2.2.2.2 o o0 o1).1
  have hN := (WAY_N hW.1.1 ho).1
  have h9 := hW.1.2.2.1
  obtain ⟨-, -, -, -, -, -, -, t0, t1, -, -, p0, p1, s0, s1⟩ := ho
  unfold CMs
  split
  · next q =>
    have cr := CMw_rng (F := FL W noD) (h := h) hW.1 hN (by omega) (by omega) p0 p1 s0 s1
    exact ⟨cr.2.1, cr.2.2.1⟩
  · omega
theorem sp_25 {σ : zM} {W : Int → Int} {o s h : Int} (hW : WOK W) (hC : ctC σ W) (o0 : 0 ≤ o) (o1 : o < W 5) (hl : zN σ 121 o.toNat ≠ 0) (s0 : 0 ≤ s) (s1 : s < W 1) (hh0 : -2147483648 ≤ h) (hh1 : h < 2147483648) : zwp (zcall 25 [.ref 69, .int (Int32.ofInt o), .int (Int32.ofInt s), .int (Int32.ofInt h)] σ) (fun v τ => v = some (.int (Int32.ofInt (if Pb W o h s = true then 1 else 0))) ∧ same σ τ) := by
  have h9 := hW.1.2.2.1
  have r := CMs_rng hW (h := s) o0 o1
  have eC : CMs W o s = CMh W (FL W noD) o s := if_pos ⟨s0, s1⟩
  have eP : (Pb W o h s = true) ↔ BB W (cup (CM W noD) o (CMs W o s)) (W 7) (oo W o 5) (oo W o 1) h = o := by
    unfold Pb
    rw [decide_eq_true_eq, eC]
  simp only [eP]
  have hin : BB W (cup (CM W noD) o (CMs W o s)) (W 7) (oo W o 5) (oo W o 1) h = o → CMs W o s ≠ -1 ∧ CMs W o s ≤ h := by
    intro q
    have := BB_in (W := W) (c := cup (CM W noD) o (CMs W o s)) (sl := W 7) (t := oo W o 5) (g := oo W o 1) (h := h) (by omega)
    rw [q] at this
    have e : cup (CM W noD) o (CMs W o s) o = CMs W o s := if_pos rfl
    rw [e] at this
    exact this
  refine zwp_of (fun r h => zcc_25 (ze_25_0 _ _ _ _ r h)) ?_
  rw [sp_17c hW hC.1.1.2.2.1 o0 o1 ((hC.2.2.2.2 o o0 o1).2.2 hl) (by omega) (by omega)]
  simp (disch := first | assumption | exact isR33 | exact isT104 | exact isF99 | exact isF101 | exact isR3 | omega | (refine isTk ?_; omega) | (refine isOk isR33 ?_; omega) | (refine isOk ?_ ?_; assumption; omega)) only [mm_r, mm_rl, mm_add, mm_sub, mm_mul, mm_addJ, mm_mulJ, mm_lt, mm_le, mm_eq, mm_z, mm_cl, mm_w, mm_wl, mm_ite, mm_i2l, mm_l2i, mm_ltJ, mm_leJ, mm_eqJ, mm_clt, mm_cle, mm_cgt, mm_cge, mm_ceq, mm_b, mm_nb, mm_nb0, mm_nb1, mm_vb0, mm_vb1, mm_vbc, mm_vy0, mm_vy1, mm_at, mm_ne, mm_nj, mm_Lw, mm_Nw, mm_atJ, mm_neJ, mm_njJ, zbI_s, zbV_s, zbJ_s, cond_t, Bool.true_and, Bool.and_true, if_true, if_false, not_true, not_false_iff, Classical.not_not, zel_r, zel_42, zel_12, zel_71, zel_80, zel_89, zel_110, zel_188, zel_103, zel_195, zr_o, zr_1, zr_2, zr_3, zr_4, zr_5, zr_6, zr_7, zr_8, zr_9, zq_o, zq_v, zt_o, zt_1, zt_2, zt_3, zt_4, zt_5, zf_o, zf_1, za_w1, za_w2, za_w3, za_cm, za_sl, Int.toNat_natCast, Int.toNat_natCast_add_one, mm_t0, mm_t1, mm_t2, mm_t3, mm_t4, mm_t5, mm_t6, mm_t7, mm_t8, mm_t9, mm_t10, mm_t11, mm_t12, mm_t13, za_1, za_64, za_65, za_66, za_67, za_68, za_71, za_80, za_89, za_98, za_103, za_110, za_121, za_122, za_123, za_124, za_125, za_126, za_188, za_193, za_194, za_195, za_286, za_288, za_289, za_290, za_291, za_292, za_293, za_294, za_295, za_296, za_297, za_298, za_299, za_300, za_301, za_302, za_303, za_304, za_305, za_306, za_307, za_308, za_309, za_310, za_311, za_312]
  refine zwp_ite (fun q => ?_) (fun q => ?_)
  · rw [if_neg (fun p => (hin p).1 q)]
    exact zwp_ret ⟨rfl, same.rf⟩
  · refine zwp_ite (fun q2 => ?_) (fun q2 => ?_)
    · rw [if_neg (fun p => by have := (hin p).2; omega)]
      exact zwp_ret ⟨rfl, same.rf⟩
    · refine zwp_IE (sp_24 hW hC.1 hC.cc o0 o1 (by omega) (by omega) hh0 hh1) ?_
      intro τ hs
      simp (disch := first | assumption | exact isR33 | exact isT104 | exact isF99 | exact isF101 | exact isR3 | omega | (refine isTk ?_; omega) | (refine isOk isR33 ?_; omega) | (refine isOk ?_ ?_; assumption; omega)) only [mm_r, mm_rl, mm_add, mm_sub, mm_mul, mm_addJ, mm_mulJ, mm_lt, mm_le, mm_eq, mm_z, mm_cl, mm_w, mm_wl, mm_ite, mm_i2l, mm_l2i, mm_ltJ, mm_leJ, mm_eqJ, mm_clt, mm_cle, mm_cgt, mm_cge, mm_ceq, mm_b, mm_nb, mm_nb0, mm_nb1, mm_vb0, mm_vb1, mm_vbc, mm_vy0, mm_vy1, mm_at, mm_ne, mm_nj, mm_Lw, mm_Nw, mm_atJ, mm_neJ, mm_njJ, zbI_s, zbV_s, zbJ_s, cond_t, Bool.true_and, Bool.and_true, if_true, if_false, not_true, not_false_iff, Classical.not_not, zel_r, zel_42, zel_12, zel_71, zel_80, zel_89, zel_110, zel_188, zel_103, zel_195, zr_o, zr_1, zr_2, zr_3, zr_4, zr_5, zr_6, zr_7, zr_8, zr_9, zq_o, zq_v, zt_o, zt_1, zt_2, zt_3, zt_4, zt_5, zf_o, zf_1, za_w1, za_w2, za_w3, za_cm, za_sl, Int.toNat_natCast, Int.toNat_natCast_add_one, mm_t0, mm_t1, mm_t2, mm_t3, mm_t4, mm_t5, mm_t6, mm_t7, mm_t8, mm_t9, mm_t10, mm_t11, mm_t12, mm_t13, za_1, za_64, za_65, za_66, za_67, za_68, za_71, za_80, za_89, za_98, za_103, za_110, za_121, za_122, za_123, za_124, za_125, za_126, za_188, za_193, za_194, za_195, za_286, za_288, za_289, za_290, za_291, za_292, za_293, za_294, za_295, za_296, za_297, za_298, za_299, za_300, za_301, za_302, za_303, za_304, za_305, za_306, za_307, za_308, za_309, za_310, za_311, za_312]
      refine zwp_ite (fun q3 => ?_) (fun q3 => ?_)
      · rw [if_neg q3]
        exact zwp_ret ⟨rfl, hs⟩
      · rw [if_pos (Classical.not_not.mp q3)]
        exact zwp_ret ⟨rfl, hs⟩
theorem cK.same {σ τ υ : zM} {W : Int → Int} (h : cK σ τ W) (hW : WOK W) (hs : same τ υ) : cK σ υ W := ⟨h.1.tr (hs.m _), hs.ct hW h.2⟩
theorem lp_125 {σ0 : zM} {W : Int → Int} {o h : Int} (hW : WOK W) (o0 : 0 ≤ o) (o1 : o < W 5) (hh0 : -2147483648 ≤ h) (hh1 : h < 2147483648) : ∀ (n : Nat) (σ : zM), (n : Int) ≤ W 1 → cK σ0 σ W → zN σ 121 o.toNat ≠ 0 → zwp (zev 125 30 [some (.ref 0), some (.int (Int32.ofInt o)), some (.int (Int32.ofInt h)), some (.int (Int32.ofInt ((n : Int) - 1)))] [] σ) (fun v τ => v = some (.int (Int32.ofInt (zlst (Pb W o h) n))) ∧ cK σ0 τ W)
  | 0, σ, hn, hk, hl => by
    refine zwp_of (fun r h => ze_125_30 _ _ _ _ r h) ?_
    refine zwp_t (by show Int32.ofInt (((0 : Nat) : Int) - 1) < 0; decide) ?_
    exact zwp_ret ⟨rfl, hk⟩
  | n + 1, σ, hn, hk, hl => by
    have h9 := hW.1.2.2.1
    have ez : zlst (Pb W o h) (n + 1) = if Pb W o h n = true then (n : Int) else zlst (Pb W o h) n := rfl
    rw [ez, show ((n + 1 : Nat) : Int) - 1 = n by omega]
    refine zwp_of (fun r h => ze_125_30 _ _ _ _ r h) ?_
    refine zwp_f (by try simp (disch := first | assumption | exact isR33 | exact isT104 | exact isF99 | exact isF101 | exact isR3 | omega | (refine isTk ?_; omega) | (refine isOk isR33 ?_; omega) | (refine isOk ?_ ?_; assumption; omega)) only [mm_r, mm_rl, mm_add, mm_sub, mm_mul, mm_addJ, mm_mulJ, mm_lt, mm_le, mm_eq, mm_z, mm_cl, mm_w, mm_wl, mm_ite, mm_i2l, mm_l2i, mm_ltJ, mm_leJ, mm_eqJ, mm_clt, mm_cle, mm_cgt, mm_cge, mm_ceq, mm_b, mm_nb, mm_nb0, mm_nb1, mm_vb0, mm_vb1, mm_vbc, mm_vy0, mm_vy1, mm_at, mm_ne, mm_nj, mm_Lw, mm_Nw, mm_atJ, mm_neJ, mm_njJ, zbI_s, zbV_s, zbJ_s, cond_t, Bool.true_and, Bool.and_true, if_true, if_false, not_true, not_false_iff, Classical.not_not, zel_r, zel_42, zel_12, zel_71, zel_80, zel_89, zel_110, zel_188, zel_103, zel_195, zr_o, zr_1, zr_2, zr_3, zr_4, zr_5, zr_6, zr_7, zr_8, zr_9, zq_o, zq_v, zt_o, zt_1, zt_2, zt_3, zt_4, zt_5, zf_o, zf_1, za_w1, za_w2, za_w3, za_cm, za_sl, Int.toNat_natCast, Int.toNat_natCast_add_one, mm_t0, mm_t1, mm_t2, mm_t3, mm_t4, mm_t5, mm_t6, mm_t7, mm_t8, mm_t9, mm_t10, mm_t11, mm_t12, mm_t13, za_1, za_64, za_65, za_66, za_67, za_68, za_71, za_80, za_89, za_98, za_103, za_110, za_121, za_122, za_123, za_124, za_125, za_126, za_188, za_193, za_194, za_195, za_286, za_288, za_289, za_290, za_291, za_292, za_293, za_294, za_295, za_296, za_297, za_298, za_299, za_300, za_301, za_302, za_303, za_304, za_305, za_306, za_307, za_308, za_309, za_310, za_311, za_312]
                     first | done | omega) ?_
    refine zwp_IE (sp_25 hW hk.2 o0 o1 hl (by omega) (by omega) hh0 hh1) ?_
    intro τ hs
    simp (disch := first | assumption | exact isR33 | exact isT104 | exact isF99 | exact isF101 | exact isR3 | omega | (refine isTk ?_; omega) | (refine isOk isR33 ?_; omega) | (refine isOk ?_ ?_; assumption; omega)) only [mm_r, mm_rl, mm_add, mm_sub, mm_mul, mm_addJ, mm_mulJ, mm_lt, mm_le, mm_eq, mm_z, mm_cl, mm_w, mm_wl, mm_ite, mm_i2l, mm_l2i, mm_ltJ, mm_leJ, mm_eqJ, mm_clt, mm_cle, mm_cgt, mm_cge, mm_ceq, mm_b, mm_nb, mm_nb0, mm_nb1, mm_vb0, mm_vb1, mm_vbc, mm_vy0, mm_vy1, mm_at, mm_ne, mm_nj, mm_Lw, mm_Nw, mm_atJ, mm_neJ, mm_njJ, zbI_s, zbV_s, zbJ_s, cond_t, Bool.true_and, Bool.and_true, if_true, if_false, not_true, not_false_iff, Classical.not_not, zel_r, zel_42, zel_12, zel_71, zel_80, zel_89, zel_110, zel_188, zel_103, zel_195, zr_o, zr_1, zr_2, zr_3, zr_4, zr_5, zr_6, zr_7, zr_8, zr_9, zq_o, zq_v, zt_o, zt_1, zt_2, zt_3, zt_4, zt_5, zf_o, zf_1, za_w1, za_w2, za_w3, za_cm, za_sl, Int.toNat_natCast, Int.toNat_natCast_add_one, mm_t0, mm_t1, mm_t2, mm_t3, mm_t4, mm_t5, mm_t6, mm_t7, mm_t8, mm_t9, mm_t10, mm_t11, mm_t12, mm_t13, za_1, za_64, za_65, za_66, za_67, za_68, za_71, za_80, za_89, za_98, za_103, za_110, za_121, za_122, za_123, za_124, za_125, za_126, za_188, za_193, za_194, za_195, za_286, za_288, za_289, za_290, za_291, za_292, za_293, za_294, za_295, za_296, za_297, za_298, za_299, za_300, za_301, za_302, za_303, za_304, za_305, za_306, za_307, za_308, za_309, za_310, za_311, za_312]
    refine zwp_ite (fun q => ?_) (fun q => ?_)
    · rw [if_neg q]
      exact lp_125 hW o0 o1 hh0 hh1 n τ (by omega) (hk.same hW hs) (by rw [hs.k]; exact hl)
    · rw [if_pos (Classical.not_not.mp q)]
      exact zwp_ret ⟨rfl, hk.same hW hs⟩
theorem cq_latest {σ : zM} {W : Int → Int} {o h : Int} (hW : WOK W) (hC : ctC σ W) (ho0 : -2147483648 ≤ o) (ho1 : o < 2147483648) (hh0 : -2147483648 ≤ h) (hh1 : h < 2147483648) : zwp (zcall 125 [.ref 0, .int (Int32.ofInt o), .int (Int32.ofInt h)] σ) (fun v τ => v = some (.int (Int32.ofInt (Elat W o h))) ∧ cK σ τ W) := by
  have h9 := hW.1.2.2.1
  have h1 := hW.1.2.1
  unfold Elat
  refine zwp_of (fun r h => zcc_125 (ze_125_0 _ _ _ r h)) ?_
  rw [sp_151w hW hC.1 ho0 ho1 hh0 hh1]
  simp only [zbI_s, mm_z, mm_b]
  refine zwp_ite (fun q => ?_) (fun q => ?_)
  · have q := Classical.not_not.mp q
    rw [if_pos q]
    refine zwp_V _ (sp_15 hW hC q.1.1 q.1.2) ?_
    rintro τ ⟨hk, hl, -, -⟩
    have e2 := hk.2.1.1.2.2.1
    have l := lp_125 (σ0 := σ) hW q.1.1 q.1.2 hh0 hh1 (W 1).toNat τ (by omega) hk hl
    rw [show (((W 1).toNat : Nat) : Int) = W 1 by omega] at l
    simp (disch := first | assumption | exact isR33 | exact isT104 | exact isF99 | exact isF101 | exact isR3 | omega | (refine isTk ?_; omega) | (refine isOk isR33 ?_; omega) | (refine isOk ?_ ?_; assumption; omega)) only [mm_r, mm_rl, mm_add, mm_sub, mm_mul, mm_addJ, mm_mulJ, mm_lt, mm_le, mm_eq, mm_z, mm_cl, mm_w, mm_wl, mm_ite, mm_i2l, mm_l2i, mm_ltJ, mm_leJ, mm_eqJ, mm_clt, mm_cle, mm_cgt, mm_cge, mm_ceq, mm_b, mm_nb, mm_nb0, mm_nb1, mm_vb0, mm_vb1, mm_vbc, mm_vy0, mm_vy1, mm_at, mm_ne, mm_nj, mm_Lw, mm_Nw, mm_atJ, mm_neJ, mm_njJ, zbI_s, zbV_s, zbJ_s, cond_t, Bool.true_and, Bool.and_true, if_true, if_false, not_true, not_false_iff, Classical.not_not, zel_r, zel_42, zel_12, zel_71, zel_80, zel_89, zel_110, zel_188, zel_103, zel_195, zr_o, zr_1, zr_2, zr_3, zr_4, zr_5, zr_6, zr_7, zr_8, zr_9, zq_o, zq_v, zt_o, zt_1, zt_2, zt_3, zt_4, zt_5, zf_o, zf_1, za_w1, za_w2, za_w3, za_cm, za_sl, Int.toNat_natCast, Int.toNat_natCast_add_one, mm_t0, mm_t1, mm_t2, mm_t3, mm_t4, mm_t5, mm_t6, mm_t7, mm_t8, mm_t9, mm_t10, mm_t11, mm_t12, mm_t13, za_1, za_64, za_65, za_66, za_67, za_68, za_71, za_80, za_89, za_98, za_103, za_110, za_121, za_122, za_123, za_124, za_125, za_126, za_188, za_193, za_194, za_195, za_286, za_288, za_289, za_290, za_291, za_292, za_293, za_294, za_295, za_296, za_297, za_298, za_299, za_300, za_301, za_302, za_303, za_304, za_305, za_306, za_307, za_308, za_309, za_310, za_311, za_312, e2]
    exact l
  · rw [if_neg (fun p => q (fun z => z p))]
    exact zwp_ret ⟨rfl, cK.rf hC⟩
theorem lp_126 {σ0 : zM} {W : Int → Int} {o h : Int} (hW : WOK W) (o0 : 0 ≤ o) (o1 : o < W 5) (hh0 : -2147483648 ≤ h) (hh1 : h < 2147483648) : ∀ (k n : Nat) (σ : zM), (n : Int) + k = W 1 → cK σ0 σ W → zN σ 121 o.toNat ≠ 0 → zwp (zev 126 22 [some (.ref 0), some (.int (Int32.ofInt o)), some (.int (Int32.ofInt h)), some (.int (Int32.ofInt n))] [] σ) (fun v τ => v = some (.int (Int32.ofInt (zfst (Pb W o h) k n))) ∧ cK σ0 τ W)
  | 0, n, σ, hn, hk, hl => by
    have h9 := hW.1.2.2.1
    have e2 := hk.2.1.1.2.2.1
    refine zwp_of (fun r h => ze_126_22 _ _ _ _ r h) ?_
    refine zwp_t (by try simp (disch := first | assumption | exact isR33 | exact isT104 | exact isF99 | exact isF101 | exact isR3 | omega | (refine isTk ?_; omega) | (refine isOk isR33 ?_; omega) | (refine isOk ?_ ?_; assumption; omega)) only [mm_r, mm_rl, mm_add, mm_sub, mm_mul, mm_addJ, mm_mulJ, mm_lt, mm_le, mm_eq, mm_z, mm_cl, mm_w, mm_wl, mm_ite, mm_i2l, mm_l2i, mm_ltJ, mm_leJ, mm_eqJ, mm_clt, mm_cle, mm_cgt, mm_cge, mm_ceq, mm_b, mm_nb, mm_nb0, mm_nb1, mm_vb0, mm_vb1, mm_vbc, mm_vy0, mm_vy1, mm_at, mm_ne, mm_nj, mm_Lw, mm_Nw, mm_atJ, mm_neJ, mm_njJ, zbI_s, zbV_s, zbJ_s, cond_t, Bool.true_and, Bool.and_true, if_true, if_false, not_true, not_false_iff, Classical.not_not, zel_r, zel_42, zel_12, zel_71, zel_80, zel_89, zel_110, zel_188, zel_103, zel_195, zr_o, zr_1, zr_2, zr_3, zr_4, zr_5, zr_6, zr_7, zr_8, zr_9, zq_o, zq_v, zt_o, zt_1, zt_2, zt_3, zt_4, zt_5, zf_o, zf_1, za_w1, za_w2, za_w3, za_cm, za_sl, Int.toNat_natCast, Int.toNat_natCast_add_one, mm_t0, mm_t1, mm_t2, mm_t3, mm_t4, mm_t5, mm_t6, mm_t7, mm_t8, mm_t9, mm_t10, mm_t11, mm_t12, mm_t13, za_1, za_64, za_65, za_66, za_67, za_68, za_71, za_80, za_89, za_98, za_103, za_110, za_121, za_122, za_123, za_124, za_125, za_126, za_188, za_193, za_194, za_195, za_286, za_288, za_289, za_290, za_291, za_292, za_293, za_294, za_295, za_296, za_297, za_298, za_299, za_300, za_301, za_302, za_303, za_304, za_305, za_306, za_307, za_308, za_309, za_310, za_311, za_312, e2]
                     first | done | omega) ?_
    exact zwp_ret ⟨rfl, hk⟩
  | k + 1, n, σ, hn, hk, hl => by
    have h9 := hW.1.2.2.1
    have e2 := hk.2.1.1.2.2.1
    have ez : zfst (Pb W o h) (k + 1) n = if Pb W o h n = true then (n : Int) else zfst (Pb W o h) k ((n : Int) + 1) := rfl
    rw [ez]
    refine zwp_of (fun r h => ze_126_22 _ _ _ _ r h) ?_
    refine zwp_f (by try simp (disch := first | assumption | exact isR33 | exact isT104 | exact isF99 | exact isF101 | exact isR3 | omega | (refine isTk ?_; omega) | (refine isOk isR33 ?_; omega) | (refine isOk ?_ ?_; assumption; omega)) only [mm_r, mm_rl, mm_add, mm_sub, mm_mul, mm_addJ, mm_mulJ, mm_lt, mm_le, mm_eq, mm_z, mm_cl, mm_w, mm_wl, mm_ite, mm_i2l, mm_l2i, mm_ltJ, mm_leJ, mm_eqJ, mm_clt, mm_cle, mm_cgt, mm_cge, mm_ceq, mm_b, mm_nb, mm_nb0, mm_nb1, mm_vb0, mm_vb1, mm_vbc, mm_vy0, mm_vy1, mm_at, mm_ne, mm_nj, mm_Lw, mm_Nw, mm_atJ, mm_neJ, mm_njJ, zbI_s, zbV_s, zbJ_s, cond_t, Bool.true_and, Bool.and_true, if_true, if_false, not_true, not_false_iff, Classical.not_not, zel_r, zel_42, zel_12, zel_71, zel_80, zel_89, zel_110, zel_188, zel_103, zel_195, zr_o, zr_1, zr_2, zr_3, zr_4, zr_5, zr_6, zr_7, zr_8, zr_9, zq_o, zq_v, zt_o, zt_1, zt_2, zt_3, zt_4, zt_5, zf_o, zf_1, za_w1, za_w2, za_w3, za_cm, za_sl, Int.toNat_natCast, Int.toNat_natCast_add_one, mm_t0, mm_t1, mm_t2, mm_t3, mm_t4, mm_t5, mm_t6, mm_t7, mm_t8, mm_t9, mm_t10, mm_t11, mm_t12, mm_t13, za_1, za_64, za_65, za_66, za_67, za_68, za_71, za_80, za_89, za_98, za_103, za_110, za_121, za_122, za_123, za_124, za_125, za_126, za_188, za_193, za_194, za_195, za_286, za_288, za_289, za_290, za_291, za_292, za_293, za_294, za_295, za_296, za_297, za_298, za_299, za_300, za_301, za_302, za_303, za_304, za_305, za_306, za_307, za_308, za_309, za_310, za_311, za_312, e2]
                     first | done | omega) ?_
    refine zwp_IE (sp_25 hW hk.2 o0 o1 hl (by omega) (by omega) hh0 hh1) ?_
    intro τ hs
    simp (disch := first | assumption | exact isR33 | exact isT104 | exact isF99 | exact isF101 | exact isR3 | omega | (refine isTk ?_; omega) | (refine isOk isR33 ?_; omega) | (refine isOk ?_ ?_; assumption; omega)) only [mm_r, mm_rl, mm_add, mm_sub, mm_mul, mm_addJ, mm_mulJ, mm_lt, mm_le, mm_eq, mm_z, mm_cl, mm_w, mm_wl, mm_ite, mm_i2l, mm_l2i, mm_ltJ, mm_leJ, mm_eqJ, mm_clt, mm_cle, mm_cgt, mm_cge, mm_ceq, mm_b, mm_nb, mm_nb0, mm_nb1, mm_vb0, mm_vb1, mm_vbc, mm_vy0, mm_vy1, mm_at, mm_ne, mm_nj, mm_Lw, mm_Nw, mm_atJ, mm_neJ, mm_njJ, zbI_s, zbV_s, zbJ_s, cond_t, Bool.true_and, Bool.and_true, if_true, if_false, not_true, not_false_iff, Classical.not_not, zel_r, zel_42, zel_12, zel_71, zel_80, zel_89, zel_110, zel_188, zel_103, zel_195, zr_o, zr_1, zr_2, zr_3, zr_4, zr_5, zr_6, zr_7, zr_8, zr_9, zq_o, zq_v, zt_o, zt_1, zt_2, zt_3, zt_4, zt_5, zf_o, zf_1, za_w1, za_w2, za_w3, za_cm, za_sl, Int.toNat_natCast, Int.toNat_natCast_add_one, mm_t0, mm_t1, mm_t2, mm_t3, mm_t4, mm_t5, mm_t6, mm_t7, mm_t8, mm_t9, mm_t10, mm_t11, mm_t12, mm_t13, za_1, za_64, za_65, za_66, za_67, za_68, za_71, za_80, za_89, za_98, za_103, za_110, za_121, za_122, za_123, za_124, za_125, za_126, za_188, za_193, za_194, za_195, za_286, za_288, za_289, za_290, za_291, za_292, za_293, za_294, za_295, za_296, za_297, za_298, za_299, za_300, za_301, za_302, za_303, za_304, za_305, za_306, za_307, za_308, za_309, za_310, za_311, za_312]
    refine zwp_ite (fun q => ?_) (fun q => ?_)
    · rw [if_neg q]
      exact lp_126 hW o0 o1 hh0 hh1 k (n + 1) τ (by omega) (hk.same hW hs) (by rw [hs.k]; exact hl)
    · rw [if_pos (Classical.not_not.mp q)]
      exact zwp_ret ⟨rfl, hk.same hW hs⟩
theorem cq_earliest {σ : zM} {W : Int → Int} {o h : Int} (hW : WOK W) (hC : ctC σ W) (ho0 : -2147483648 ≤ o) (ho1 : o < 2147483648) (hh0 : -2147483648 ≤ h) (hh1 : h < 2147483648) : zwp (zcall 126 [.ref 0, .int (Int32.ofInt o), .int (Int32.ofInt h)] σ) (fun v τ => v = some (.int (Int32.ofInt (Eear W o h))) ∧ cK σ τ W) := by
  have h9 := hW.1.2.2.1
  have h1 := hW.1.2.1
  unfold Eear
  refine zwp_of (fun r h => zcc_126 (ze_126_0 _ _ _ r h)) ?_
  rw [sp_151w hW hC.1 ho0 ho1 hh0 hh1]
  simp only [zbI_s, mm_z, mm_b]
  refine zwp_ite (fun q => ?_) (fun q => ?_)
  · have q := Classical.not_not.mp q
    rw [if_pos q]
    refine zwp_V _ (sp_15 hW hC q.1.1 q.1.2) ?_
    rintro τ ⟨hk, hl, -, -⟩
    exact lp_126 (σ0 := σ) hW q.1.1 q.1.2 hh0 hh1 (W 1).toNat 0 τ (by omega) hk hl
  · rw [if_neg (fun p => q (fun z => z p))]
    exact zwp_ret ⟨rfl, cK.rf hC⟩
