/-! THE TEXT: the class reads roads, floods, wishes -/
theorem e00 : (Int32.ofInt 0 = 0) = True := eq_true rfl
theorem bd_79 {σ : zM} {f p : Int} {W : Int → Int} (_hb : bdC σ f p W) : zcall 79 [.ref 3, .long ((Int32.ofInt (-1)).toInt64)] σ = some (some (.int (Int32.ofInt 0)), σ) := by
  rw [mm_i2l (by decide) (by decide), sp_79 isR3 (by decide) (by decide), if_neg (by omega)]
theorem cd1 {σ0 τ : zM} {k : zM → Option zR} {R : rdZ} (h : CR σ0 (k τ) R) : CR σ0 (zbV (zcall 61 [.ref 2, .int (Int32.ofInt 1)] τ) k) R := by
  have e : zcall 61 [.ref 2, .int (Int32.ofInt 1)] τ = some (none, τ) := by
    refine zcc_61 (ze_61_0 _ _ _ ?_)
    rw [if_pos (by decide)]
  rw [e, zbV_s]
  exact h
theorem cd0 {σ0 τ : zM} {T : Int → Int} {sz p : Int} {s : tk} {W : Int → Int} {k : zM → Option zR} (h : gC τ T sz s W) (h5 : W 5 ≤ 10) (hf : rdF σ0 τ) (h7 : zN τ 2 7 = p) (hno : ∀ υ, bdC υ 2 p W → rdF σ0 υ → CR σ0 (k υ) (er 2 p)) : CR σ0 (zbV (zcall 61 [.ref 2, .int (Int32.ofInt 0)] τ) k) (er 2 p) := by
  have b0 := mm_lo τ 2 7
  have b1 := mm_hi τ 2 7
  have e : zcall 61 [.ref 2, .int (Int32.ofInt 0)] τ = some (none, zw (zw τ 2 8 2) 2 9 p) := by
    refine zcc_61 (ze_61_0 _ _ _ ?_)
    rw [if_neg (by decide), mm_r τ 2 7, h7, sp_54 h.2.2.1.1, zbV_s]
  have hbd := h.bad (f := 2) (p := p) h5 (by decide) (by decide) (by decide) (by omega) (by omega)
  rw [e, zbV_s]
  exact hno _ hbd.1 (hf.tr hbd.2)
theorem cLz {a0 a1 a2 : Int} : ¬ (a0 = a1 ∨ a2 ≠ -1) → a0 ≠ a1 ∧ a2 = -1 := fun h => by omega
/-- the road is kept -/
theorem ck_Ro {σ0 τ : zM} {T : Int → Int} {sz a b h : Int} {s : tk} {W : Int → Int} (g : gC τ T sz s W) (hW : WOK W) (hf : rdF σ0 τ) (n1 : W 2 < 12) (a0 : -1000 ≤ a) (a1 : a ≤ 1000) (b0 : -1000 ≤ b) (b1 : b ≤ 1000) (h0 : -1000 ≤ h) (h1 : h ≤ 1000) : CR σ0 (if ¬ (zI τ 2 8) = 0 then some (none, τ) else cond (zarr (3 + 1) 100 (zI τ 3 4)) (zlet (zsI τ (3 + 1) (zI τ 3 4).toNatClampNeg (Int32.ofInt a)) (fun τ9 => cond (zarr (3 + 2) 100 (zI τ9 3 4)) (zlet (zsI τ9 (3 + 2) (zI τ9 3 4).toNatClampNeg (Int32.ofInt b)) (fun τ10 => cond (zarr (3 + 3) 100 (zI τ10 3 4)) (zlet (zsI τ10 (3 + 3) (zI τ10 3 4).toNatClampNeg (Int32.ofInt h)) (fun τ11 => zlet (zsI τ11 3 4 ((zI τ11 3 4) + (Int32.ofInt (1)))) (fun τ12 => some (none, τ12)))) none)) none)) none) (okR s (uRo W a b h)) := by
  have h5 := hW.2.2.1
  have n0 := hW.1.1.2.2.1
  have k4 := g.2.2.2.2.2.1.2.2.2.2.1
  have k41 : ∀ x, zN (zw τ 4 (W 2).toNat x) 3 4 = W 2 := fun x => (mm_ne (by decide)).trans k4
  have k42 : ∀ x y, zN (zw (zw τ 4 (W 2).toNat x) 5 (W 2).toNat y) 3 4 = W 2 := fun x y => (mm_ne (by decide)).trans (k41 x)
  have k43 : ∀ x y z, zN (zw (zw (zw τ 4 (W 2).toNat x) 5 (W 2).toNat y) 6 (W 2).toNat z) 3 4 = W 2 := fun x y z => (mm_ne (by decide)).trans (k42 x y)
  refine zwp_f g.nz ?_
  rw [mm_r τ 3 4, k4]
  refine zwp_cd (zr_1 isR3 (by omega) (by omega)) ?_
  refine zwp_letE (τ' := zw τ 4 (W 2).toNat a) (by simp (disch := first | assumption | exact isR33 | exact isT104 | exact isF99 | exact isF101 | exact isR3 | omega | (refine isTk ?_; omega) | (refine isOk isR33 ?_; omega) | (refine isOk ?_ ?_; assumption; omega)) only [mm_r, mm_rl, mm_add, mm_sub, mm_mul, mm_addJ, mm_mulJ, mm_lt, mm_le, mm_eq, mm_z, mm_cl, mm_w, mm_wl, mm_ite, mm_i2l, mm_l2i, mm_ltJ, mm_leJ, mm_eqJ, mm_clt, mm_cle, mm_cgt, mm_cge, mm_ceq, mm_b, mm_nb, mm_nb0, mm_nb1, mm_vb0, mm_vb1, mm_vbc, mm_vy0, mm_vy1, mm_at, mm_ne, mm_nj, mm_Lw, mm_Nw, mm_atJ, mm_neJ, mm_njJ, zbI_s, zbV_s, zbJ_s, cond_t, Bool.true_and, Bool.and_true, if_true, if_false, not_true, not_false_iff, Classical.not_not, zel_r, zel_42, zel_12, zel_71, zel_80, zel_89, zel_110, zel_188, zel_103, zel_195, zr_o, zr_1, zr_2, zr_3, zr_4, zr_5, zr_6, zr_7, zr_8, zr_9, zq_o, zq_v, zt_o, zt_1, zt_2, zt_3, zt_4, zt_5, zf_o, zf_1, za_w1, za_w2, za_w3, za_cm, za_sl, Int.toNat_natCast, Int.toNat_natCast_add_one, mm_t0, mm_t1, mm_t2, mm_t3, mm_t4, mm_t5, mm_t6, mm_t7, mm_t8, mm_t9, mm_t10, mm_t11, mm_t12, mm_t13, za_1, za_64, za_65, za_66, za_67, za_68, za_71, za_80, za_89, za_98, za_103, za_110, za_121, za_122, za_123, za_124, za_125, za_126, za_188, za_193, za_194, za_195, za_286, za_288, za_289, za_290, za_291, za_292, za_293, za_294, za_295, za_296, za_297, za_298, za_299, za_300, za_301, za_302, za_303, za_304, za_305, za_306, za_307, za_308, za_309, za_310, za_311, za_312]) ?_
  rw [mm_r (zw τ 4 (W 2).toNat a) 3 4, k41]
  refine zwp_cd (zr_2 isR3 (by omega) (by omega)) ?_
  refine zwp_letE (τ' := zw (zw τ 4 (W 2).toNat a) 5 (W 2).toNat b) (by simp (disch := first | assumption | exact isR33 | exact isT104 | exact isF99 | exact isF101 | exact isR3 | omega | (refine isTk ?_; omega) | (refine isOk isR33 ?_; omega) | (refine isOk ?_ ?_; assumption; omega)) only [mm_r, mm_rl, mm_add, mm_sub, mm_mul, mm_addJ, mm_mulJ, mm_lt, mm_le, mm_eq, mm_z, mm_cl, mm_w, mm_wl, mm_ite, mm_i2l, mm_l2i, mm_ltJ, mm_leJ, mm_eqJ, mm_clt, mm_cle, mm_cgt, mm_cge, mm_ceq, mm_b, mm_nb, mm_nb0, mm_nb1, mm_vb0, mm_vb1, mm_vbc, mm_vy0, mm_vy1, mm_at, mm_ne, mm_nj, mm_Lw, mm_Nw, mm_atJ, mm_neJ, mm_njJ, zbI_s, zbV_s, zbJ_s, cond_t, Bool.true_and, Bool.and_true, if_true, if_false, not_true, not_false_iff, Classical.not_not, zel_r, zel_42, zel_12, zel_71, zel_80, zel_89, zel_110, zel_188, zel_103, zel_195, zr_o, zr_1, zr_2, zr_3, zr_4, zr_5, zr_6, zr_7, zr_8, zr_9, zq_o, zq_v, zt_o, zt_1, zt_2, zt_3, zt_4, zt_5, zf_o, zf_1, za_w1, za_w2, za_w3, za_cm, za_sl, Int.toNat_natCast, Int.toNat_natCast_add_one, mm_t0, mm_t1, mm_t2, mm_t3, mm_t4, mm_t5, mm_t6, mm_t7, mm_t8, mm_t9, mm_t10, mm_t11, mm_t12, mm_t13, za_1, za_64, za_65, za_66, za_67, za_68, za_71, za_80, za_89, za_98, za_103, za_110, za_121, za_122, za_123, za_124, za_125, za_126, za_188, za_193, za_194, za_195, za_286, za_288, za_289, za_290, za_291, za_292, za_293, za_294, za_295, za_296, za_297, za_298, za_299, za_300, za_301, za_302, za_303, za_304, za_305, za_306, za_307, za_308, za_309, za_310, za_311, za_312]) ?_
  rw [mm_r (zw (zw τ 4 (W 2).toNat a) 5 (W 2).toNat b) 3 4, k42]
  refine zwp_cd (zr_3 isR3 (by omega) (by omega)) ?_
  refine zwp_letE (τ' := zw (zw (zw τ 4 (W 2).toNat a) 5 (W 2).toNat b) 6 (W 2).toNat h) (by simp (disch := first | assumption | exact isR33 | exact isT104 | exact isF99 | exact isF101 | exact isR3 | omega | (refine isTk ?_; omega) | (refine isOk isR33 ?_; omega) | (refine isOk ?_ ?_; assumption; omega)) only [mm_r, mm_rl, mm_add, mm_sub, mm_mul, mm_addJ, mm_mulJ, mm_lt, mm_le, mm_eq, mm_z, mm_cl, mm_w, mm_wl, mm_ite, mm_i2l, mm_l2i, mm_ltJ, mm_leJ, mm_eqJ, mm_clt, mm_cle, mm_cgt, mm_cge, mm_ceq, mm_b, mm_nb, mm_nb0, mm_nb1, mm_vb0, mm_vb1, mm_vbc, mm_vy0, mm_vy1, mm_at, mm_ne, mm_nj, mm_Lw, mm_Nw, mm_atJ, mm_neJ, mm_njJ, zbI_s, zbV_s, zbJ_s, cond_t, Bool.true_and, Bool.and_true, if_true, if_false, not_true, not_false_iff, Classical.not_not, zel_r, zel_42, zel_12, zel_71, zel_80, zel_89, zel_110, zel_188, zel_103, zel_195, zr_o, zr_1, zr_2, zr_3, zr_4, zr_5, zr_6, zr_7, zr_8, zr_9, zq_o, zq_v, zt_o, zt_1, zt_2, zt_3, zt_4, zt_5, zf_o, zf_1, za_w1, za_w2, za_w3, za_cm, za_sl, Int.toNat_natCast, Int.toNat_natCast_add_one, mm_t0, mm_t1, mm_t2, mm_t3, mm_t4, mm_t5, mm_t6, mm_t7, mm_t8, mm_t9, mm_t10, mm_t11, mm_t12, mm_t13, za_1, za_64, za_65, za_66, za_67, za_68, za_71, za_80, za_89, za_98, za_103, za_110, za_121, za_122, za_123, za_124, za_125, za_126, za_188, za_193, za_194, za_195, za_286, za_288, za_289, za_290, za_291, za_292, za_293, za_294, za_295, za_296, za_297, za_298, za_299, za_300, za_301, za_302, za_303, za_304, za_305, za_306, za_307, za_308, za_309, za_310, za_311, za_312]) ?_
  refine zwp_letE (τ' := zw (zw (zw (zw τ 4 (W 2).toNat a) 5 (W 2).toNat b) 6 (W 2).toNat h) 3 4 (W 2 + 1)) (by simp (disch := first | assumption | exact isR33 | exact isT104 | exact isF99 | exact isF101 | exact isR3 | omega | (refine isTk ?_; omega) | (refine isOk isR33 ?_; omega) | (refine isOk ?_ ?_; assumption; omega)) only [mm_r, mm_rl, mm_add, mm_sub, mm_mul, mm_addJ, mm_mulJ, mm_lt, mm_le, mm_eq, mm_z, mm_cl, mm_w, mm_wl, mm_ite, mm_i2l, mm_l2i, mm_ltJ, mm_leJ, mm_eqJ, mm_clt, mm_cle, mm_cgt, mm_cge, mm_ceq, mm_b, mm_nb, mm_nb0, mm_nb1, mm_vb0, mm_vb1, mm_vbc, mm_vy0, mm_vy1, mm_at, mm_ne, mm_nj, mm_Lw, mm_Nw, mm_atJ, mm_neJ, mm_njJ, zbI_s, zbV_s, zbJ_s, cond_t, Bool.true_and, Bool.and_true, if_true, if_false, not_true, not_false_iff, Classical.not_not, zel_r, zel_42, zel_12, zel_71, zel_80, zel_89, zel_110, zel_188, zel_103, zel_195, zr_o, zr_1, zr_2, zr_3, zr_4, zr_5, zr_6, zr_7, zr_8, zr_9, zq_o, zq_v, zt_o, zt_1, zt_2, zt_3, zt_4, zt_5, zf_o, zf_1, za_w1, za_w2, za_w3, za_cm, za_sl, Int.toNat_natCast, Int.toNat_natCast_add_one, mm_t0, mm_t1, mm_t2, mm_t3, mm_t4, mm_t5, mm_t6, mm_t7, mm_t8, mm_t9, mm_t10, mm_t11, mm_t12, mm_t13, za_1, za_64, za_65, za_66, za_67, za_68, za_71, za_80, za_89, za_98, za_103, za_110, za_121, za_122, za_123, za_124, za_125, za_126, za_188, za_193, za_194, za_195, za_286, za_288, za_289, za_290, za_291, za_292, za_293, za_294, za_295, za_296, za_297, za_298, za_299, za_300, za_301, za_302, za_303, za_304, za_305, za_306, za_307, za_308, za_309, za_310, za_311, za_312, k43]) ?_
  have fS : mf (fun b => 3 ≤ b ∧ b ≤ 6) τ (zw (zw (zw (zw τ 4 (W 2).toNat a) 5 (W 2).toNat b) 6 (W 2).toNat h) 3 4 (W 2 + 1)) := ((((mf.rf (S := fun b => 3 ≤ b ∧ b ≤ 6)).zw 4 _ _ (by decide)).zw 5 _ _ (by decide)).zw 6 _ _ (by decide)).zw 3 _ _ (by decide)
  refine CR_ok g (hf.tr ⟨fS.mono (by omega), fS.1 2 (by decide) 2⟩) (fun k => fS.1 2 (by decide) k) ?_
  obtain ⟨⟨l0, l1', l2', l3, l4, l5, l6, l7⟩, lr, lf, lp, lo⟩ := g.2.2.2.2.2
  have hi := uRo_i (W := W) (a := a) (b := b) (h := h) n0
  have e : ∀ i, i ≠ 2 → (i < 8 + 3 * W 2 ∨ 8 + 3 * W 2 + 2 < i) → uRo W a b h i = W i := fun i q1 q2 => by rw [hi, if_neg q1, if_neg (by omega), if_neg (by omega), if_neg (by omega)]
  have e2 : uRo W a b h 2 = W 2 + 1 := by rw [hi, if_pos rfl]
  have m3 : ∀ k, k ≠ 4 → zN (zw (zw (zw (zw τ 4 (W 2).toNat a) 5 (W 2).toNat b) 6 (W 2).toNat h) 3 4 (W 2 + 1)) 3 k = zN τ 3 k := fun k hb => by rw [mm_nj hb, mm_ne (by decide), mm_ne (by decide), mm_ne (by decide)]
  refine ⟨⟨?_, ?_, ?_, ?_, ?_, ?_, ?_, ?_⟩, fun r r0 r1 => ?_, fun f f0 f1 => ?_, fun i i0 i1 => ?_, fun o o0 o1 => ?_⟩
  · rw [m3 0 (by decide), e 6 (by decide) (by omega)]; exact l0
  · rw [m3 1 (by decide), e 0 (by decide) (by omega)]; exact l1'
  · rw [m3 2 (by decide), e 1 (by decide) (by omega)]; exact l2'
  · rw [m3 3 (by decide), e 7 (by decide) (by omega)]; exact l3
  · rw [mm_at rfl rfl (by omega) (by omega), e2]
  · rw [m3 5 (by decide), e 3 (by decide) (by omega)]; exact l5
  · rw [m3 6 (by decide), e 4 (by decide) (by omega)]; exact l6
  · rw [m3 7 (by decide), e 5 (by decide) (by omega)]; exact l7
  · rw [e2] at r1
    by_cases z : r = W 2
    · subst z
      refine ⟨?_, ?_, ?_⟩
      · rw [mm_ne (by decide), mm_ne (by decide), mm_ne (by decide), mm_at rfl rfl (by omega) (by omega), hi, if_neg (by omega), if_pos rfl]
      · rw [mm_ne (by decide), mm_ne (by decide), mm_at rfl rfl (by omega) (by omega), hi, if_neg (by omega), if_neg (by omega), if_pos rfl]
      · rw [mm_ne (by decide), mm_at rfl rfl (by omega) (by omega), hi, if_neg (by omega), if_neg (by omega), if_neg (by omega), if_pos rfl]
    · have := lr r r0 (by omega)
      rw [e (8 + 3 * r) (by omega) (by omega), e (8 + 3 * r + 1) (by omega) (by omega), e (8 + 3 * r + 2) (by omega) (by omega)]
      refine ⟨?_, ?_, ?_⟩
      · rw [mm_ne (by decide), mm_ne (by decide), mm_ne (by decide), mm_nj (by omega)]
        exact this.1
      · rw [mm_ne (by decide), mm_ne (by decide), mm_nj (by omega), mm_ne (by decide)]
        exact this.2.1
      · rw [mm_ne (by decide), mm_nj (by omega), mm_ne (by decide), mm_ne (by decide)]
        exact this.2.2
  · rw [e 3 (by decide) (by omega)] at f1
    rw [fS.1 _ (by omega), fS.1 _ (by omega), fS.1 _ (by omega), e (44 + 3 * f) (by omega) (by omega), e (44 + 3 * f + 1) (by omega) (by omega), e (44 + 3 * f + 2) (by omega) (by omega)]
    exact lf f f0 f1
  · rw [e 4 (by decide) (by omega)] at i1
    rw [fS.1 _ (by omega), fS.1 _ (by omega), e (68 + 2 * i) (by omega) (by omega), e (68 + 2 * i + 1) (by omega) (by omega)]
    exact lp i i0 i1
  · rw [e 5 (by decide) (by omega)] at o1
    exact (cO_c (W := W) (W' := uRo W a b h) (fun k k0 k1 => e _ (by omega) (by omega)) (hW.2.2.2.2 o o0 o1).1.2.2.2.2.2.1 (lo o o0 o1)).fr (fun k => fS.1 _ (by omega) k) (fun k => fS.1 _ (by omega) k)
theorem cl_65 {σ : zM} {T : Int → Int} {sz : Int} {s : tk} {W : Int → Int} (h : gC σ T sz s W) (hW : WOK W) : CR σ (zcall 65 [.ref 2] σ) (rRoad T sz s W) := by
  have h5 := hW.2.2.1
  have h20 := hW.1.1.2.2.1
  have h2 := hW.1.1.2.2.2.1
  have h8 := hW.1.1.2.1
  have e4 := h.2.2.2.2.2.1.2.2.2.2.1
  unfold rRoad
  refine zwp_of (fun r h => zcc_65 (ze_65_0 _ r h)) ?_
  rw [mm_r σ 3 4, e4]
  refine c64 (n := W 2) (m := 12) h (by omega) (by omega) (by omega) (by decide) (by decide) rdF.rf (fun τ1 n1 g1 f1 => ?_) (fun τ hb hf => by (simp only [bd_54 hb.n, bd_56 hb.n, bd_57 hb.n, bd_58 hb.n, bd_59 hb.n, bd_60 hb.n, bd_61 hb.n, bd_80 hb h20 h2, zbV_s, zbI_s, bd_z hb.n, not_false_eq_true, if_true, if_false]; (repeat' split); (all_goals exact CR_bad hf hb)))
  refine c59 g1 hW f1 (fun τ2 a0 a1 g2 _ f2 _ => ?_) (fun τ f hb hf _ => by (simp only [bd_54 hb.n, bd_56 hb.n, bd_57 hb.n, bd_58 hb.n, bd_59 hb.n, bd_60 hb.n, bd_61 hb.n, bd_80 hb h20 h2, zbV_s, zbI_s, bd_z hb.n, not_false_eq_true, if_true, if_false]; (repeat' split); (all_goals exact CR_bad hf hb)))
  refine cw g2 (by omega) (by decide) f2 (fun τ3 g3 f3 _ => ?_) (fun τ hb hf => by (simp only [bd_54 hb.n, bd_56 hb.n, bd_57 hb.n, bd_58 hb.n, bd_59 hb.n, bd_60 hb.n, bd_61 hb.n, bd_80 hb h20 h2, zbV_s, zbI_s, bd_z hb.n, not_false_eq_true, if_true, if_false]; (repeat' split); (all_goals exact CR_bad hf hb)))
  refine c59 g3 hW f3 (fun τ4 b0 b1 g4 p4 f4 _ => ?_) (fun τ f hb hf _ => by (simp only [bd_54 hb.n, bd_56 hb.n, bd_57 hb.n, bd_58 hb.n, bd_59 hb.n, bd_60 hb.n, bd_61 hb.n, bd_80 hb h20 h2, zbV_s, zbI_s, bd_z hb.n, not_false_eq_true, if_true, if_false]; (repeat' split); (all_goals exact CR_bad hf hb)))
  generalize (nxt T sz s).2.2.2 = a at a0 a1 ⊢
  generalize (nxt T sz (nxt T sz (nxt T sz s))).2.2.2 = b at b0 b1 ⊢
  by_cases q : a = b
  · rw [if_pos (show a = b ∨ RD W a b ≠ -1 from .inl q)]
    refine zwp_t (by rw [q]) ?_
    exact cd0 g4 (by omega) f4 p4 (fun τ hb hf => by (simp only [bd_54 hb.n, bd_56 hb.n, bd_57 hb.n, bd_58 hb.n, bd_59 hb.n, bd_60 hb.n, bd_61 hb.n, bd_80 hb h20 h2, zbV_s, zbI_s, bd_z hb.n, not_false_eq_true, if_true, if_false]; (repeat' split); (all_goals exact CR_bad hf hb)))
  · refine zwp_f (by rw [mm_eq (by omega) (by omega) (by omega) (by omega)]; exact q) ?_
    rw [sp_80 isR3 g4.2.2.2.2.2 h20 h2 (by omega) (by omega) (by omega) (by omega), zbI_s]
    have rr := RD_lt h2 a b
    by_cases q2 : RD W a b = -1
    · rw [if_neg (show ¬ (a = b ∨ RD W a b ≠ -1) from fun p => by omega)]
      refine zwp_f (by rw [q2]; exact fun p => p rfl) ?_
      refine cd1 ?_
      refine cw g4 (by omega) (by decide) f4 (fun τ5 g5 f5 _ => ?_) (fun τ hb hf => by (simp only [bd_54 hb.n, bd_56 hb.n, bd_57 hb.n, bd_58 hb.n, bd_59 hb.n, bd_60 hb.n, bd_61 hb.n, bd_80 hb h20 h2, zbV_s, zbI_s, bd_z hb.n, not_false_eq_true, if_true, if_false]; (repeat' split); (all_goals exact CR_bad hf hb)))
      refine cn g5 (by omega) (by decide) (by decide) (by decide) (by decide) f5 (fun τ6 c0 c1 g6 _ f6 _ => ?_) (fun τ f hb hf _ => by (simp only [bd_54 hb.n, bd_56 hb.n, bd_57 hb.n, bd_58 hb.n, bd_59 hb.n, bd_60 hb.n, bd_61 hb.n, bd_80 hb h20 h2, zbV_s, zbI_s, bd_z hb.n, not_false_eq_true, if_true, if_false]; (repeat' split); (all_goals exact CR_bad hf hb)))
      exact ck_Ro g6 hW f6 n1 (by omega) (by omega) (by omega) (by omega) (by omega) (by omega)
    · rw [if_pos (show a = b ∨ RD W a b ≠ -1 from .inr q2)]
      refine zwp_t (by rw [mm_eq (by omega) (by omega) (by omega) (by omega)]; exact q2) ?_
      exact cd0 g4 (by omega) f4 p4 (fun τ hb hf => by (simp only [bd_54 hb.n, bd_56 hb.n, bd_57 hb.n, bd_58 hb.n, bd_59 hb.n, bd_60 hb.n, bd_61 hb.n, bd_80 hb h20 h2, zbV_s, zbI_s, bd_z hb.n, not_false_eq_true, if_true, if_false]; (repeat' split); (all_goals exact CR_bad hf hb)))
/-- the flood is kept -/
theorem ck_Fl {σ0 τ : zM} {T : Int → Int} {sz a b h : Int} {s : tk} {W : Int → Int} (g : gC τ T sz s W) (hW : WOK W) (hf : rdF σ0 τ) (n1 : W 3 < 8) (a0 : -1000 ≤ a) (a1 : a ≤ 1000) (b0 : -1000 ≤ b) (b1 : b ≤ 1000) (h0 : -1000 ≤ h) (h1 : h ≤ 1000) : CR σ0 (if ¬ (zI τ 2 8) = 0 then some (none, τ) else cond (zarr (3 + 4) 100 (zI τ 3 5)) (zlet (zsI τ (3 + 4) (zI τ 3 5).toNatClampNeg (Int32.ofInt a)) (fun τ9 => cond (zarr (3 + 5) 100 (zI τ9 3 5)) (zlet (zsI τ9 (3 + 5) (zI τ9 3 5).toNatClampNeg (Int32.ofInt b)) (fun τ10 => cond (zarr (3 + 6) 100 (zI τ10 3 5)) (zlet (zsI τ10 (3 + 6) (zI τ10 3 5).toNatClampNeg (Int32.ofInt h)) (fun τ11 => zlet (zsI τ11 3 5 ((zI τ11 3 5) + (Int32.ofInt (1)))) (fun τ12 => some (none, τ12)))) none)) none)) none) (okR s (uFl W a b h)) := by
  have h5 := hW.2.2.1
  have n0 := hW.1.2.2.2.1
  have k4 := g.2.2.2.2.2.1.2.2.2.2.2.1
  have k41 : ∀ x, zN (zw τ 7 (W 3).toNat x) 3 5 = W 3 := fun x => (mm_ne (by decide)).trans k4
  have k42 : ∀ x y, zN (zw (zw τ 7 (W 3).toNat x) 8 (W 3).toNat y) 3 5 = W 3 := fun x y => (mm_ne (by decide)).trans (k41 x)
  have k43 : ∀ x y z, zN (zw (zw (zw τ 7 (W 3).toNat x) 8 (W 3).toNat y) 9 (W 3).toNat z) 3 5 = W 3 := fun x y z => (mm_ne (by decide)).trans (k42 x y)
  refine zwp_f g.nz ?_
  rw [mm_r τ 3 5, k4]
  refine zwp_cd (zr_4 isR3 (by omega) (by omega)) ?_
  refine zwp_letE (τ' := zw τ 7 (W 3).toNat a) (by simp (disch := first | assumption | exact isR33 | exact isT104 | exact isF99 | exact isF101 | exact isR3 | omega | (refine isTk ?_; omega) | (refine isOk isR33 ?_; omega) | (refine isOk ?_ ?_; assumption; omega)) only [mm_r, mm_rl, mm_add, mm_sub, mm_mul, mm_addJ, mm_mulJ, mm_lt, mm_le, mm_eq, mm_z, mm_cl, mm_w, mm_wl, mm_ite, mm_i2l, mm_l2i, mm_ltJ, mm_leJ, mm_eqJ, mm_clt, mm_cle, mm_cgt, mm_cge, mm_ceq, mm_b, mm_nb, mm_nb0, mm_nb1, mm_vb0, mm_vb1, mm_vbc, mm_vy0, mm_vy1, mm_at, mm_ne, mm_nj, mm_Lw, mm_Nw, mm_atJ, mm_neJ, mm_njJ, zbI_s, zbV_s, zbJ_s, cond_t, Bool.true_and, Bool.and_true, if_true, if_false, not_true, not_false_iff, Classical.not_not, zel_r, zel_42, zel_12, zel_71, zel_80, zel_89, zel_110, zel_188, zel_103, zel_195, zr_o, zr_1, zr_2, zr_3, zr_4, zr_5, zr_6, zr_7, zr_8, zr_9, zq_o, zq_v, zt_o, zt_1, zt_2, zt_3, zt_4, zt_5, zf_o, zf_1, za_w1, za_w2, za_w3, za_cm, za_sl, Int.toNat_natCast, Int.toNat_natCast_add_one, mm_t0, mm_t1, mm_t2, mm_t3, mm_t4, mm_t5, mm_t6, mm_t7, mm_t8, mm_t9, mm_t10, mm_t11, mm_t12, mm_t13, za_1, za_64, za_65, za_66, za_67, za_68, za_71, za_80, za_89, za_98, za_103, za_110, za_121, za_122, za_123, za_124, za_125, za_126, za_188, za_193, za_194, za_195, za_286, za_288, za_289, za_290, za_291, za_292, za_293, za_294, za_295, za_296, za_297, za_298, za_299, za_300, za_301, za_302, za_303, za_304, za_305, za_306, za_307, za_308, za_309, za_310, za_311, za_312]) ?_
  rw [mm_r (zw τ 7 (W 3).toNat a) 3 5, k41]
  refine zwp_cd (zr_5 isR3 (by omega) (by omega)) ?_
  refine zwp_letE (τ' := zw (zw τ 7 (W 3).toNat a) 8 (W 3).toNat b) (by simp (disch := first | assumption | exact isR33 | exact isT104 | exact isF99 | exact isF101 | exact isR3 | omega | (refine isTk ?_; omega) | (refine isOk isR33 ?_; omega) | (refine isOk ?_ ?_; assumption; omega)) only [mm_r, mm_rl, mm_add, mm_sub, mm_mul, mm_addJ, mm_mulJ, mm_lt, mm_le, mm_eq, mm_z, mm_cl, mm_w, mm_wl, mm_ite, mm_i2l, mm_l2i, mm_ltJ, mm_leJ, mm_eqJ, mm_clt, mm_cle, mm_cgt, mm_cge, mm_ceq, mm_b, mm_nb, mm_nb0, mm_nb1, mm_vb0, mm_vb1, mm_vbc, mm_vy0, mm_vy1, mm_at, mm_ne, mm_nj, mm_Lw, mm_Nw, mm_atJ, mm_neJ, mm_njJ, zbI_s, zbV_s, zbJ_s, cond_t, Bool.true_and, Bool.and_true, if_true, if_false, not_true, not_false_iff, Classical.not_not, zel_r, zel_42, zel_12, zel_71, zel_80, zel_89, zel_110, zel_188, zel_103, zel_195, zr_o, zr_1, zr_2, zr_3, zr_4, zr_5, zr_6, zr_7, zr_8, zr_9, zq_o, zq_v, zt_o, zt_1, zt_2, zt_3, zt_4, zt_5, zf_o, zf_1, za_w1, za_w2, za_w3, za_cm, za_sl, Int.toNat_natCast, Int.toNat_natCast_add_one, mm_t0, mm_t1, mm_t2, mm_t3, mm_t4, mm_t5, mm_t6, mm_t7, mm_t8, mm_t9, mm_t10, mm_t11, mm_t12, mm_t13, za_1, za_64, za_65, za_66, za_67, za_68, za_71, za_80, za_89, za_98, za_103, za_110, za_121, za_122, za_123, za_124, za_125, za_126, za_188, za_193, za_194, za_195, za_286, za_288, za_289, za_290, za_291, za_292, za_293, za_294, za_295, za_296, za_297, za_298, za_299, za_300, za_301, za_302, za_303, za_304, za_305, za_306, za_307, za_308, za_309, za_310, za_311, za_312]) ?_
  rw [mm_r (zw (zw τ 7 (W 3).toNat a) 8 (W 3).toNat b) 3 5, k42]
  refine zwp_cd (zr_6 isR3 (by omega) (by omega)) ?_
  refine zwp_letE (τ' := zw (zw (zw τ 7 (W 3).toNat a) 8 (W 3).toNat b) 9 (W 3).toNat h) (by simp (disch := first | assumption | exact isR33 | exact isT104 | exact isF99 | exact isF101 | exact isR3 | omega | (refine isTk ?_; omega) | (refine isOk isR33 ?_; omega) | (refine isOk ?_ ?_; assumption; omega)) only [mm_r, mm_rl, mm_add, mm_sub, mm_mul, mm_addJ, mm_mulJ, mm_lt, mm_le, mm_eq, mm_z, mm_cl, mm_w, mm_wl, mm_ite, mm_i2l, mm_l2i, mm_ltJ, mm_leJ, mm_eqJ, mm_clt, mm_cle, mm_cgt, mm_cge, mm_ceq, mm_b, mm_nb, mm_nb0, mm_nb1, mm_vb0, mm_vb1, mm_vbc, mm_vy0, mm_vy1, mm_at, mm_ne, mm_nj, mm_Lw, mm_Nw, mm_atJ, mm_neJ, mm_njJ, zbI_s, zbV_s, zbJ_s, cond_t, Bool.true_and, Bool.and_true, if_true, if_false, not_true, not_false_iff, Classical.not_not, zel_r, zel_42, zel_12, zel_71, zel_80, zel_89, zel_110, zel_188, zel_103, zel_195, zr_o, zr_1, zr_2, zr_3, zr_4, zr_5, zr_6, zr_7, zr_8, zr_9, zq_o, zq_v, zt_o, zt_1, zt_2, zt_3, zt_4, zt_5, zf_o, zf_1, za_w1, za_w2, za_w3, za_cm, za_sl, Int.toNat_natCast, Int.toNat_natCast_add_one, mm_t0, mm_t1, mm_t2, mm_t3, mm_t4, mm_t5, mm_t6, mm_t7, mm_t8, mm_t9, mm_t10, mm_t11, mm_t12, mm_t13, za_1, za_64, za_65, za_66, za_67, za_68, za_71, za_80, za_89, za_98, za_103, za_110, za_121, za_122, za_123, za_124, za_125, za_126, za_188, za_193, za_194, za_195, za_286, za_288, za_289, za_290, za_291, za_292, za_293, za_294, za_295, za_296, za_297, za_298, za_299, za_300, za_301, za_302, za_303, za_304, za_305, za_306, za_307, za_308, za_309, za_310, za_311, za_312]) ?_
  refine zwp_letE (τ' := zw (zw (zw (zw τ 7 (W 3).toNat a) 8 (W 3).toNat b) 9 (W 3).toNat h) 3 5 (W 3 + 1)) (by simp (disch := first | assumption | exact isR33 | exact isT104 | exact isF99 | exact isF101 | exact isR3 | omega | (refine isTk ?_; omega) | (refine isOk isR33 ?_; omega) | (refine isOk ?_ ?_; assumption; omega)) only [mm_r, mm_rl, mm_add, mm_sub, mm_mul, mm_addJ, mm_mulJ, mm_lt, mm_le, mm_eq, mm_z, mm_cl, mm_w, mm_wl, mm_ite, mm_i2l, mm_l2i, mm_ltJ, mm_leJ, mm_eqJ, mm_clt, mm_cle, mm_cgt, mm_cge, mm_ceq, mm_b, mm_nb, mm_nb0, mm_nb1, mm_vb0, mm_vb1, mm_vbc, mm_vy0, mm_vy1, mm_at, mm_ne, mm_nj, mm_Lw, mm_Nw, mm_atJ, mm_neJ, mm_njJ, zbI_s, zbV_s, zbJ_s, cond_t, Bool.true_and, Bool.and_true, if_true, if_false, not_true, not_false_iff, Classical.not_not, zel_r, zel_42, zel_12, zel_71, zel_80, zel_89, zel_110, zel_188, zel_103, zel_195, zr_o, zr_1, zr_2, zr_3, zr_4, zr_5, zr_6, zr_7, zr_8, zr_9, zq_o, zq_v, zt_o, zt_1, zt_2, zt_3, zt_4, zt_5, zf_o, zf_1, za_w1, za_w2, za_w3, za_cm, za_sl, Int.toNat_natCast, Int.toNat_natCast_add_one, mm_t0, mm_t1, mm_t2, mm_t3, mm_t4, mm_t5, mm_t6, mm_t7, mm_t8, mm_t9, mm_t10, mm_t11, mm_t12, mm_t13, za_1, za_64, za_65, za_66, za_67, za_68, za_71, za_80, za_89, za_98, za_103, za_110, za_121, za_122, za_123, za_124, za_125, za_126, za_188, za_193, za_194, za_195, za_286, za_288, za_289, za_290, za_291, za_292, za_293, za_294, za_295, za_296, za_297, za_298, za_299, za_300, za_301, za_302, za_303, za_304, za_305, za_306, za_307, za_308, za_309, za_310, za_311, za_312, k43]) ?_
  have fS : mf (fun b => b = 3 ∨ 7 ≤ b ∧ b ≤ 9) τ (zw (zw (zw (zw τ 7 (W 3).toNat a) 8 (W 3).toNat b) 9 (W 3).toNat h) 3 5 (W 3 + 1)) := ((((mf.rf (S := fun b => b = 3 ∨ 7 ≤ b ∧ b ≤ 9)).zw 7 _ _ (by decide)).zw 8 _ _ (by decide)).zw 9 _ _ (by decide)).zw 3 _ _ (by decide)
  refine CR_ok g (hf.tr ⟨fS.mono (by omega), fS.1 2 (by decide) 2⟩) (fun k => fS.1 2 (by decide) k) ?_
  obtain ⟨⟨l0, l1', l2', l3, l4, l5, l6, l7⟩, lr, lf, lp, lo⟩ := g.2.2.2.2.2
  have hi := uFl_i (W := W) (r := a) (a := b) (b := h) n0
  have e : ∀ i, i ≠ 3 → (i < 44 + 3 * W 3 ∨ 44 + 3 * W 3 + 2 < i) → uFl W a b h i = W i := fun i q1 q2 => by rw [hi, if_neg q1, if_neg (by omega), if_neg (by omega), if_neg (by omega)]
  have e3 : uFl W a b h 3 = W 3 + 1 := by rw [hi, if_pos rfl]
  have m3 : ∀ k, k ≠ 5 → zN (zw (zw (zw (zw τ 7 (W 3).toNat a) 8 (W 3).toNat b) 9 (W 3).toNat h) 3 5 (W 3 + 1)) 3 k = zN τ 3 k := fun k hb => by rw [mm_nj hb, mm_ne (by decide), mm_ne (by decide), mm_ne (by decide)]
  refine ⟨⟨?_, ?_, ?_, ?_, ?_, ?_, ?_, ?_⟩, fun r r0 r1 => ?_, fun f f0 f1 => ?_, fun i i0 i1 => ?_, fun o o0 o1 => ?_⟩
  · rw [m3 0 (by decide), e 6 (by decide) (by omega)]; exact l0
  · rw [m3 1 (by decide), e 0 (by decide) (by omega)]; exact l1'
  · rw [m3 2 (by decide), e 1 (by decide) (by omega)]; exact l2'
  · rw [m3 3 (by decide), e 7 (by decide) (by omega)]; exact l3
  · rw [m3 4 (by decide), e 2 (by decide) (by omega)]; exact l4
  · rw [mm_at rfl rfl (by omega) (by omega), e3]
  · rw [m3 6 (by decide), e 4 (by decide) (by omega)]; exact l6
  · rw [m3 7 (by decide), e 5 (by decide) (by omega)]; exact l7
  · rw [e 2 (by decide) (by omega)] at r1
    have := hW.1.1.2.2.2.1
    rw [fS.1 _ (by omega), fS.1 _ (by omega), fS.1 _ (by omega), e (8 + 3 * r) (by omega) (by omega), e (8 + 3 * r + 1) (by omega) (by omega), e (8 + 3 * r + 2) (by omega) (by omega)]
    exact lr r r0 r1
  · rw [e3] at f1
    by_cases z : f = W 3
    · subst z
      refine ⟨?_, ?_, ?_⟩
      · rw [mm_ne (by decide), mm_ne (by decide), mm_ne (by decide), mm_at rfl rfl (by omega) (by omega), hi, if_neg (by omega), if_pos rfl]
      · rw [mm_ne (by decide), mm_ne (by decide), mm_at rfl rfl (by omega) (by omega), hi, if_neg (by omega), if_neg (by omega), if_pos rfl]
      · rw [mm_ne (by decide), mm_at rfl rfl (by omega) (by omega), hi, if_neg (by omega), if_neg (by omega), if_neg (by omega), if_pos rfl]
    · have := lf f f0 (by omega)
      rw [e (44 + 3 * f) (by omega) (by omega), e (44 + 3 * f + 1) (by omega) (by omega), e (44 + 3 * f + 2) (by omega) (by omega)]
      refine ⟨?_, ?_, ?_⟩
      · rw [mm_ne (by decide), mm_ne (by decide), mm_ne (by decide), mm_nj (by omega)]
        exact this.1
      · rw [mm_ne (by decide), mm_ne (by decide), mm_nj (by omega), mm_ne (by decide)]
        exact this.2.1
      · rw [mm_ne (by decide), mm_nj (by omega), mm_ne (by decide), mm_ne (by decide)]
        exact this.2.2
  · rw [e 4 (by decide) (by omega)] at i1
    rw [fS.1 _ (by omega), fS.1 _ (by omega), e (68 + 2 * i) (by omega) (by omega), e (68 + 2 * i + 1) (by omega) (by omega)]
    exact lp i i0 i1
  · rw [e 5 (by decide) (by omega)] at o1
    exact (cO_c (W := W) (W' := uFl W a b h) (fun k k0 k1 => e _ (by omega) (by omega)) (hW.2.2.2.2 o o0 o1).1.2.2.2.2.2.1 (lo o o0 o1)).fr (fun k => fS.1 _ (by omega) k) (fun k => fS.1 _ (by omega) k)
theorem cl_66 {σ : zM} {T : Int → Int} {sz : Int} {s : tk} {W : Int → Int} (h : gC σ T sz s W) (hW : WOK W) : CR σ (zcall 66 [.ref 2] σ) (rFlood T sz s W) := by
  have h5 := hW.2.2.1
  have h20 := hW.1.1.2.2.1
  have h2 := hW.1.1.2.2.2.1
  have h8 := hW.1.1.2.1
  have h1 := hW.1.2.1
  have h9 := hW.1.2.2.1
  have h30 := hW.1.2.2.2.1
  have h38 := hW.1.2.2.2.2
  have e5 := h.2.2.2.2.2.1.2.2.2.2.2.1
  unfold rFlood
  refine zwp_of (fun r h => zcc_66 (ze_66_0 _ r h)) ?_
  rw [mm_r σ 3 5, e5]
  refine c64 (n := W 3) (m := 8) h (by omega) (by omega) (by omega) (by decide) (by decide) rdF.rf (fun τ1 n1 g1 f1 => ?_) (fun τ hb hf => by (simp only [bd_54 hb.n, bd_56 hb.n, bd_57 hb.n, bd_58 hb.n, bd_59 hb.n, bd_60 hb.n, bd_61 hb.n, bd_80 hb h20 h2, zbV_s, zbI_s, bd_z hb.n, not_false_eq_true, if_true, if_false]; (repeat' split); (all_goals exact CR_bad hf hb)))
  refine c59 g1 hW f1 (fun τ2 a0 a1 g2 _ f2 _ => ?_) (fun τ f hb hf _ => by (simp only [bd_54 hb.n, bd_56 hb.n, bd_57 hb.n, bd_58 hb.n, bd_59 hb.n, bd_60 hb.n, bd_61 hb.n, bd_80 hb h20 h2, zbV_s, zbI_s, bd_z hb.n, not_false_eq_true, if_true, if_false]; (repeat' split); (all_goals exact CR_bad hf hb)))
  refine cw g2 (by omega) (by decide) f2 (fun τ3 g3 f3 _ => ?_) (fun τ hb hf => by (simp only [bd_54 hb.n, bd_56 hb.n, bd_57 hb.n, bd_58 hb.n, bd_59 hb.n, bd_60 hb.n, bd_61 hb.n, bd_80 hb h20 h2, zbV_s, zbI_s, bd_z hb.n, not_false_eq_true, if_true, if_false]; (repeat' split); (all_goals exact CR_bad hf hb)))
  refine c59 g3 hW f3 (fun τ4 b0 b1 g4 p4 f4 _ => ?_) (fun τ f hb hf _ => by (simp only [bd_54 hb.n, bd_56 hb.n, bd_57 hb.n, bd_58 hb.n, bd_59 hb.n, bd_60 hb.n, bd_61 hb.n, bd_80 hb h20 h2, zbV_s, zbI_s, bd_z hb.n, not_false_eq_true, if_true, if_false]; (repeat' split); (all_goals exact CR_bad hf hb)))
  generalize (nxt T sz s).2.2.2 = a at a0 a1 ⊢
  generalize (nxt T sz (nxt T sz (nxt T sz s))).2.2.2 = b at b0 b1 ⊢
  rw [sp_80 isR3 g4.2.2.2.2.2 h20 h2 (by omega) (by omega) (by omega) (by omega), zbI_s]
  have rr := RD_lt h2 a b
  by_cases q2 : RD W a b = -1
  · rw [if_pos q2]
    refine zwp_t (by rw [q2]) ?_
    exact cd0 g4 (by omega) f4 p4 (fun τ hb hf => by (simp only [bd_54 hb.n, bd_56 hb.n, bd_57 hb.n, bd_58 hb.n, bd_59 hb.n, bd_60 hb.n, bd_61 hb.n, bd_80 hb h20 h2, zbV_s, zbI_s, bd_z hb.n, not_false_eq_true, if_true, if_false]; (repeat' split); (all_goals exact CR_bad hf hb)))
  · rw [if_neg q2]
    refine zwp_f (by rw [mm_eq (by omega) (by omega) (by omega) (by omega)]; exact q2) ?_
    refine cd1 ?_
    refine cw g4 (by omega) (by decide) f4 (fun τ5 g5 f5 _ => ?_) (fun τ hb hf => by (simp only [bd_54 hb.n, bd_56 hb.n, bd_57 hb.n, bd_58 hb.n, bd_59 hb.n, bd_60 hb.n, bd_61 hb.n, bd_80 hb h20 h2, zbV_s, zbI_s, bd_z hb.n, not_false_eq_true, if_true, if_false]; (repeat' split); (all_goals exact CR_bad hf hb)))
    refine c60 g5 hW f5 (fun τ6 c0 c1 g6 _ f6 _ => ?_) (fun τ f hb hf _ => by (simp only [bd_54 hb.n, bd_56 hb.n, bd_57 hb.n, bd_58 hb.n, bd_59 hb.n, bd_60 hb.n, bd_61 hb.n, bd_80 hb h20 h2, zbV_s, zbI_s, bd_z hb.n, not_false_eq_true, if_true, if_false]; (repeat' split); (all_goals exact CR_bad hf hb)))
    refine cw g6 (by omega) (by decide) f6 (fun τ7 g7 f7 _ => ?_) (fun τ hb hf => by (simp only [bd_54 hb.n, bd_56 hb.n, bd_57 hb.n, bd_58 hb.n, bd_59 hb.n, bd_60 hb.n, bd_61 hb.n, bd_80 hb h20 h2, zbV_s, zbI_s, bd_z hb.n, not_false_eq_true, if_true, if_false]; (repeat' split); (all_goals exact CR_bad hf hb)))
    have k2 := g7.2.2.2.2.2.1.2.2.1
    rw [mm_r τ7 3 2, k2, mm_sub]
    refine cn g7 (by omega) c0 (by omega) (by omega) (by omega) f7 (fun τ8 d0 d1 g8 _ f8 _ => ?_) (fun τ f hb hf _ => by (simp only [bd_54 hb.n, bd_56 hb.n, bd_57 hb.n, bd_58 hb.n, bd_59 hb.n, bd_60 hb.n, bd_61 hb.n, bd_80 hb h20 h2, zbV_s, zbI_s, bd_z hb.n, not_false_eq_true, if_true, if_false]; (repeat' split); (all_goals exact CR_bad hf hb)))
    exact ck_Fl g8 hW f8 n1 (by omega) (by omega) (by omega) (by omega) (by omega) (by omega)
/-- the wish is kept -/
theorem ck_Wi {σ0 τ : zM} {T : Int → Int} {sz n x t h : Int} {s : tk} {W : Int → Int} (g : gC τ T sz s W) (hW : WOK W) (hf : rdF σ0 τ) (n0 : 0 ≤ n) (n1 : n < W 5) (x0 : 0 ≤ x) (x1 : x ≤ 1000) (t0 : 0 ≤ t) (t1 : t ≤ 1000) (h0 : 0 ≤ h) (h1 : h ≤ 1000) : CR σ0 (if ¬ (zI τ 2 8) = 0 then some (none, τ) else cond (zarr (3 + 9) 104 (Int32.ofInt n)) (cond (zobj (zel 104 (3 + 9) (Int32.ofInt n).toNatClampNeg) 3) (if vp_nar .boolean (Int32.ofInt (1)) = (Int32.ofInt (1)) then zlet (zsI τ (zel 104 (3 + 9) (Int32.ofInt n).toNatClampNeg) 9 (Int32.ofInt (1))) (fun τ33 => cond (zobj (zel 104 (3 + 9) (Int32.ofInt n).toNatClampNeg) 3) (zlet (zsI τ33 (zel 104 (3 + 9) (Int32.ofInt n).toNatClampNeg) 10 (Int32.ofInt x)) (fun τ34 => cond (zobj (zel 104 (3 + 9) (Int32.ofInt n).toNatClampNeg) 3) (zlet (zsI τ34 (zel 104 (3 + 9) (Int32.ofInt n).toNatClampNeg) 11 (Int32.ofInt t)) (fun τ35 => cond (zobj (zel 104 (3 + 9) (Int32.ofInt n).toNatClampNeg) 3) (zlet (zsI τ35 (zel 104 (3 + 9) (Int32.ofInt n).toNatClampNeg) 12 (Int32.ofInt h)) (fun τ36 => some (none, τ36))) none)) none)) none) else none) none) none) (okR s (uWi W n x t h)) := by
  have h5 := hW.2.2.1
  have eq : zel 104 (3 + 9) (Int32.ofInt n).toNatClampNeg = 3 + 10 + 2 * n.toNat := by
    rw [mm_cl (by omega) (by omega)]
    rfl
  have zo := zq_o (isOk isR3 (show n.toNat < 10 by omega))
  refine zwp_f g.nz ?_
  refine zwp_cd (zr_9 isR3 n0 (by omega)) ?_
  rw [eq]
  refine zwp_cd zo ?_
  refine zwp_t (by decide) ?_
  refine zwp_letE (τ' := zw τ (3 + 10 + 2 * n.toNat) 9 1) (by simp (disch := first | assumption | exact isR33 | exact isT104 | exact isF99 | exact isF101 | exact isR3 | omega | (refine isTk ?_; omega) | (refine isOk isR33 ?_; omega) | (refine isOk ?_ ?_; assumption; omega)) only [mm_r, mm_rl, mm_add, mm_sub, mm_mul, mm_addJ, mm_mulJ, mm_lt, mm_le, mm_eq, mm_z, mm_cl, mm_w, mm_wl, mm_ite, mm_i2l, mm_l2i, mm_ltJ, mm_leJ, mm_eqJ, mm_clt, mm_cle, mm_cgt, mm_cge, mm_ceq, mm_b, mm_nb, mm_nb0, mm_nb1, mm_vb0, mm_vb1, mm_vbc, mm_vy0, mm_vy1, mm_at, mm_ne, mm_nj, mm_Lw, mm_Nw, mm_atJ, mm_neJ, mm_njJ, zbI_s, zbV_s, zbJ_s, cond_t, Bool.true_and, Bool.and_true, if_true, if_false, not_true, not_false_iff, Classical.not_not, zel_r, zel_42, zel_12, zel_71, zel_80, zel_89, zel_110, zel_188, zel_103, zel_195, zr_o, zr_1, zr_2, zr_3, zr_4, zr_5, zr_6, zr_7, zr_8, zr_9, zq_o, zq_v, zt_o, zt_1, zt_2, zt_3, zt_4, zt_5, zf_o, zf_1, za_w1, za_w2, za_w3, za_cm, za_sl, Int.toNat_natCast, Int.toNat_natCast_add_one, mm_t0, mm_t1, mm_t2, mm_t3, mm_t4, mm_t5, mm_t6, mm_t7, mm_t8, mm_t9, mm_t10, mm_t11, mm_t12, mm_t13, za_1, za_64, za_65, za_66, za_67, za_68, za_71, za_80, za_89, za_98, za_103, za_110, za_121, za_122, za_123, za_124, za_125, za_126, za_188, za_193, za_194, za_195, za_286, za_288, za_289, za_290, za_291, za_292, za_293, za_294, za_295, za_296, za_297, za_298, za_299, za_300, za_301, za_302, za_303, za_304, za_305, za_306, za_307, za_308, za_309, za_310, za_311, za_312]) ?_
  refine zwp_cd zo ?_
  refine zwp_letE (τ' := zw (zw τ (3 + 10 + 2 * n.toNat) 9 1) (3 + 10 + 2 * n.toNat) 10 x) (by simp (disch := first | assumption | exact isR33 | exact isT104 | exact isF99 | exact isF101 | exact isR3 | omega | (refine isTk ?_; omega) | (refine isOk isR33 ?_; omega) | (refine isOk ?_ ?_; assumption; omega)) only [mm_r, mm_rl, mm_add, mm_sub, mm_mul, mm_addJ, mm_mulJ, mm_lt, mm_le, mm_eq, mm_z, mm_cl, mm_w, mm_wl, mm_ite, mm_i2l, mm_l2i, mm_ltJ, mm_leJ, mm_eqJ, mm_clt, mm_cle, mm_cgt, mm_cge, mm_ceq, mm_b, mm_nb, mm_nb0, mm_nb1, mm_vb0, mm_vb1, mm_vbc, mm_vy0, mm_vy1, mm_at, mm_ne, mm_nj, mm_Lw, mm_Nw, mm_atJ, mm_neJ, mm_njJ, zbI_s, zbV_s, zbJ_s, cond_t, Bool.true_and, Bool.and_true, if_true, if_false, not_true, not_false_iff, Classical.not_not, zel_r, zel_42, zel_12, zel_71, zel_80, zel_89, zel_110, zel_188, zel_103, zel_195, zr_o, zr_1, zr_2, zr_3, zr_4, zr_5, zr_6, zr_7, zr_8, zr_9, zq_o, zq_v, zt_o, zt_1, zt_2, zt_3, zt_4, zt_5, zf_o, zf_1, za_w1, za_w2, za_w3, za_cm, za_sl, Int.toNat_natCast, Int.toNat_natCast_add_one, mm_t0, mm_t1, mm_t2, mm_t3, mm_t4, mm_t5, mm_t6, mm_t7, mm_t8, mm_t9, mm_t10, mm_t11, mm_t12, mm_t13, za_1, za_64, za_65, za_66, za_67, za_68, za_71, za_80, za_89, za_98, za_103, za_110, za_121, za_122, za_123, za_124, za_125, za_126, za_188, za_193, za_194, za_195, za_286, za_288, za_289, za_290, za_291, za_292, za_293, za_294, za_295, za_296, za_297, za_298, za_299, za_300, za_301, za_302, za_303, za_304, za_305, za_306, za_307, za_308, za_309, za_310, za_311, za_312]) ?_
  refine zwp_cd zo ?_
  refine zwp_letE (τ' := zw (zw (zw τ (3 + 10 + 2 * n.toNat) 9 1) (3 + 10 + 2 * n.toNat) 10 x) (3 + 10 + 2 * n.toNat) 11 t) (by simp (disch := first | assumption | exact isR33 | exact isT104 | exact isF99 | exact isF101 | exact isR3 | omega | (refine isTk ?_; omega) | (refine isOk isR33 ?_; omega) | (refine isOk ?_ ?_; assumption; omega)) only [mm_r, mm_rl, mm_add, mm_sub, mm_mul, mm_addJ, mm_mulJ, mm_lt, mm_le, mm_eq, mm_z, mm_cl, mm_w, mm_wl, mm_ite, mm_i2l, mm_l2i, mm_ltJ, mm_leJ, mm_eqJ, mm_clt, mm_cle, mm_cgt, mm_cge, mm_ceq, mm_b, mm_nb, mm_nb0, mm_nb1, mm_vb0, mm_vb1, mm_vbc, mm_vy0, mm_vy1, mm_at, mm_ne, mm_nj, mm_Lw, mm_Nw, mm_atJ, mm_neJ, mm_njJ, zbI_s, zbV_s, zbJ_s, cond_t, Bool.true_and, Bool.and_true, if_true, if_false, not_true, not_false_iff, Classical.not_not, zel_r, zel_42, zel_12, zel_71, zel_80, zel_89, zel_110, zel_188, zel_103, zel_195, zr_o, zr_1, zr_2, zr_3, zr_4, zr_5, zr_6, zr_7, zr_8, zr_9, zq_o, zq_v, zt_o, zt_1, zt_2, zt_3, zt_4, zt_5, zf_o, zf_1, za_w1, za_w2, za_w3, za_cm, za_sl, Int.toNat_natCast, Int.toNat_natCast_add_one, mm_t0, mm_t1, mm_t2, mm_t3, mm_t4, mm_t5, mm_t6, mm_t7, mm_t8, mm_t9, mm_t10, mm_t11, mm_t12, mm_t13, za_1, za_64, za_65, za_66, za_67, za_68, za_71, za_80, za_89, za_98, za_103, za_110, za_121, za_122, za_123, za_124, za_125, za_126, za_188, za_193, za_194, za_195, za_286, za_288, za_289, za_290, za_291, za_292, za_293, za_294, za_295, za_296, za_297, za_298, za_299, za_300, za_301, za_302, za_303, za_304, za_305, za_306, za_307, za_308, za_309, za_310, za_311, za_312]) ?_
  refine zwp_cd zo ?_
  refine zwp_letE (τ' := zw (zw (zw (zw τ (3 + 10 + 2 * n.toNat) 9 1) (3 + 10 + 2 * n.toNat) 10 x) (3 + 10 + 2 * n.toNat) 11 t) (3 + 10 + 2 * n.toNat) 12 h) (by simp (disch := first | assumption | exact isR33 | exact isT104 | exact isF99 | exact isF101 | exact isR3 | omega | (refine isTk ?_; omega) | (refine isOk isR33 ?_; omega) | (refine isOk ?_ ?_; assumption; omega)) only [mm_r, mm_rl, mm_add, mm_sub, mm_mul, mm_addJ, mm_mulJ, mm_lt, mm_le, mm_eq, mm_z, mm_cl, mm_w, mm_wl, mm_ite, mm_i2l, mm_l2i, mm_ltJ, mm_leJ, mm_eqJ, mm_clt, mm_cle, mm_cgt, mm_cge, mm_ceq, mm_b, mm_nb, mm_nb0, mm_nb1, mm_vb0, mm_vb1, mm_vbc, mm_vy0, mm_vy1, mm_at, mm_ne, mm_nj, mm_Lw, mm_Nw, mm_atJ, mm_neJ, mm_njJ, zbI_s, zbV_s, zbJ_s, cond_t, Bool.true_and, Bool.and_true, if_true, if_false, not_true, not_false_iff, Classical.not_not, zel_r, zel_42, zel_12, zel_71, zel_80, zel_89, zel_110, zel_188, zel_103, zel_195, zr_o, zr_1, zr_2, zr_3, zr_4, zr_5, zr_6, zr_7, zr_8, zr_9, zq_o, zq_v, zt_o, zt_1, zt_2, zt_3, zt_4, zt_5, zf_o, zf_1, za_w1, za_w2, za_w3, za_cm, za_sl, Int.toNat_natCast, Int.toNat_natCast_add_one, mm_t0, mm_t1, mm_t2, mm_t3, mm_t4, mm_t5, mm_t6, mm_t7, mm_t8, mm_t9, mm_t10, mm_t11, mm_t12, mm_t13, za_1, za_64, za_65, za_66, za_67, za_68, za_71, za_80, za_89, za_98, za_103, za_110, za_121, za_122, za_123, za_124, za_125, za_126, za_188, za_193, za_194, za_195, za_286, za_288, za_289, za_290, za_291, za_292, za_293, za_294, za_295, za_296, za_297, za_298, za_299, za_300, za_301, za_302, za_303, za_304, za_305, za_306, za_307, za_308, za_309, za_310, za_311, za_312]) ?_
  generalize hq : 3 + 10 + 2 * n.toNat = q
  have fS : mf (fun b => b = q) τ (zw (zw (zw (zw τ q 9 1) q 10 x) q 11 t) q 12 h) := ((((mf.rf (S := fun b => b = q)).zw q _ _ rfl).zw q _ _ rfl).zw q _ _ rfl).zw q _ _ rfl
  refine CR_ok g (hf.tr ⟨fS.mono (by omega), fS.1 2 (by omega) 2⟩) (fun k => fS.1 2 (by omega) k) ?_
  obtain ⟨⟨l0, l1', l2', l3, l4, l5, l6, l7⟩, lr, lf, lp, lo⟩ := g.2.2.2.2.2
  have hi := uWi_i (W := W) (o := n) (x := x) (t := t) (h := h) n0
  have e : ∀ i, (i < 80 + 14 * n + 11 ∨ 80 + 14 * n + 13 < i) → uWi W n x t h i = W i := fun i q2 => by rw [hi, if_neg (by omega), if_neg (by omega), if_neg (by omega)]
  have m3 : ∀ k, k < 9 ∨ 12 < k → zN (zw (zw (zw (zw τ q 9 1) q 10 x) q 11 t) q 12 h) q k = zN τ q k := fun k hb => by rw [mm_nj (by omega), mm_nj (by omega), mm_nj (by omega), mm_nj (by omega)]
  refine ⟨⟨?_, ?_, ?_, ?_, ?_, ?_, ?_, ?_⟩, fun r r0 r1 => ?_, fun f f0 f1 => ?_, fun i i0 i1 => ?_, fun o o0 o1 => ?_⟩
  · rw [fS.1 3 (by omega), e 6 (by omega)]; exact l0
  · rw [fS.1 3 (by omega), e 0 (by omega)]; exact l1'
  · rw [fS.1 3 (by omega), e 1 (by omega)]; exact l2'
  · rw [fS.1 3 (by omega), e 7 (by omega)]; exact l3
  · rw [fS.1 3 (by omega), e 2 (by omega)]; exact l4
  · rw [fS.1 3 (by omega), e 3 (by omega)]; exact l5
  · rw [fS.1 3 (by omega), e 4 (by omega)]; exact l6
  · rw [fS.1 3 (by omega), e 5 (by omega)]; exact l7
  · rw [e 2 (by omega)] at r1
    have := hW.1.1.2.2.2.1
    rw [fS.1 _ (by omega), fS.1 _ (by omega), fS.1 _ (by omega), e (8 + 3 * r) (by omega), e (8 + 3 * r + 1) (by omega), e (8 + 3 * r + 2) (by omega)]
    exact lr r r0 r1
  · rw [e 3 (by omega)] at f1
    have := hW.1.2.2.2.2
    rw [fS.1 _ (by omega), fS.1 _ (by omega), fS.1 _ (by omega), e (44 + 3 * f) (by omega), e (44 + 3 * f + 1) (by omega), e (44 + 3 * f + 2) (by omega)]
    exact lf f f0 f1
  · rw [e 4 (by omega)] at i1
    rw [fS.1 _ (by omega), fS.1 _ (by omega), e (68 + 2 * i) (by omega), e (68 + 2 * i + 1) (by omega)]
    exact lp i i0 i1
  · rw [e 5 (by omega)] at o1
    have h7 := (hW.2.2.2.2 o o0 o1).1.2.2.2.2.2.1
    by_cases z : o = n
    · subst z
      rw [hq]
      obtain ⟨c0, c1, c2, c3, c4, c5, c6, c7, c8, c9, c10⟩ := lo o o0 o1
      rw [hq] at c0 c1 c2 c3 c4 c5 c6 c7 c8
      have k : ∀ j, j < 11 → oo (uWi W o x t h) o j = oo W o j := fun j j1 => e _ (by omega)
      have k11 : oo (uWi W o x t h) o 11 = x := by unfold oo; rw [hi, if_pos rfl]
      have k12 : oo (uWi W o x t h) o 12 = t := by unfold oo; rw [hi, if_neg (by omega), if_pos rfl]
      have k13 : oo (uWi W o x t h) o 13 = h := by unfold oo; rw [hi, if_neg (by omega), if_neg (by omega), if_pos rfl]
      unfold cO
      rw [k 0 (by decide), k 1 (by decide), k 2 (by decide), k 3 (by decide), k 4 (by decide), k 5 (by decide), k 6 (by decide), k 7 (by decide), k11, k12, k13, m3 0 (by decide), m3 1 (by decide), m3 2 (by decide), m3 3 (by decide), m3 4 (by decide), m3 5 (by decide), m3 6 (by decide), m3 7 (by decide)]
      refine ⟨c0, c1, c2, c3, c4, c5, c6, c7, fun v v0 v1 => ?_, ?_, fun _ => ⟨?_, ?_, ?_⟩⟩
      · rw [k (8 + v) (by omega), fS.1 (q + 1) (by omega)]
        exact c8 v v0 v1
      · rw [mm_nj (by decide), mm_nj (by decide), mm_nj (by decide), mm_at rfl rfl (by decide) (by decide), if_neg (by omega)]
      · rw [mm_nj (by decide), mm_nj (by decide), mm_at rfl rfl (by omega) (by omega)]
      · rw [mm_nj (by decide), mm_at rfl rfl (by omega) (by omega)]
      · rw [mm_at rfl rfl (by omega) (by omega)]
    · exact (cO_c (W := W) (W' := uWi W n x t h) (fun k k0 k1 => e _ (by omega)) h7 (lo o o0 o1)).fr (fun k => fS.1 _ (by omega) k) (fun k => fS.1 _ (by omega) k)
theorem cl_71 {σ : zM} {T : Int → Int} {sz : Int} {s : tk} {W : Int → Int} (h : gC σ T sz s W) (hW : WOK W) : CR σ (zcall 71 [.ref 2] σ) (rWish T sz s W) := by
  have h5 := hW.2.2.1
  have h20 := hW.1.1.2.2.1
  have h2 := hW.1.1.2.2.2.1
  have h8 := hW.1.1.2.1
  have h1 := hW.1.2.1
  have h9 := hW.1.2.2.1
  unfold rWish
  refine zwp_of (fun r h => zcc_71 (ze_71_0 _ r h)) ?_
  refine cw h (by omega) (by decide) rdF.rf (fun τ1 g1 f1 _ => ?_) (fun τ hb hf => by (simp only [bd_79 hb, e00, bd_54 hb.n, bd_56 hb.n, bd_57 hb.n, bd_58 hb.n, bd_59 hb.n, bd_60 hb.n, bd_61 hb.n, zbV_s, zbI_s, bd_z hb.n, not_false_eq_true, if_true, if_false]; (repeat' split); (all_goals exact CR_bad hf hb)))
  have k7 := g1.2.2.2.2.2.1.2.2.2.2.2.2.2
  rw [mm_r τ1 3 7, k7, mm_sub]
  refine cn g1 (by omega) (by decide) (by decide) (by omega) (by omega) f1 (fun τ2 n0 n1 g2 p2 f2 _ => ?_) (fun τ f hb hf _ => by (simp only [bd_79 hb, e00, bd_54 hb.n, bd_56 hb.n, bd_57 hb.n, bd_58 hb.n, bd_59 hb.n, bd_60 hb.n, bd_61 hb.n, zbV_s, zbI_s, bd_z hb.n, not_false_eq_true, if_true, if_false]; (repeat' split); (all_goals exact CR_bad hf hb)))
  generalize (nxt T sz s).2.2.2 = n at n0 n1 ⊢
  have k72 := g2.2.2.2.2.2.1.2.2.2.2.2.2.2
  have s79 := sp_79 (p := 3) (n := n) (σ := τ2) isR3 (by omega) (by omega)
  rw [k72, if_pos (⟨n0, by omega⟩ : 0 ≤ n ∧ n < W 5)] at s79
  rw [mm_i2l (by omega) (by omega), s79, zbI_s]
  refine zwp_f (by decide) ?_
  have eq : zel 104 (3 + 9) (Int32.ofInt n).toNatClampNeg = 3 + 10 + 2 * n.toNat := by
    rw [mm_cl (by omega) (by omega)]
    rfl
  have zo := zq_o (isOk isR3 (show n.toNat < 10 by omega))
  have e2 := (g2.2.2.2.2.2.2.2.2.2 n n0 (by omega)).2.2.1
  have b2 := (hW.un.2.2 n n0 (by omega)).2
  refine zwp_cd (zr_9 isR3 n0 (by omega)) ?_
  refine zwp_cd (by rw [eq]; exact zo) ?_
  rw [show zI τ2 (zel 104 (3 + 9) (Int32.ofInt n).toNatClampNeg) 2 = Int32.ofInt (oo W n 2) by rw [eq, mm_r, e2]]
  by_cases q : oo W n 2 = -1
  · rw [if_pos q]
    refine zwp_t (by rw [q]) ?_
    exact cd0 g2 (by omega) f2 p2 (fun τ hb hf => by (simp only [bd_79 hb, e00, bd_54 hb.n, bd_56 hb.n, bd_57 hb.n, bd_58 hb.n, bd_59 hb.n, bd_60 hb.n, bd_61 hb.n, zbV_s, zbI_s, bd_z hb.n, not_false_eq_true, if_true, if_false]; (repeat' split); (all_goals exact CR_bad hf hb)))
  · rw [if_neg q]
    refine zwp_f (by rw [mm_eq (by omega) (by omega) (by omega) (by omega)]; exact q) ?_
    refine cd1 ?_
    refine cw g2 (by omega) (by decide) f2 (fun τ3 g3 f3 _ => ?_) (fun τ hb hf => by (simp only [bd_79 hb, e00, bd_54 hb.n, bd_56 hb.n, bd_57 hb.n, bd_58 hb.n, bd_59 hb.n, bd_60 hb.n, bd_61 hb.n, zbV_s, zbI_s, bd_z hb.n, not_false_eq_true, if_true, if_false]; (repeat' split); (all_goals exact CR_bad hf hb)))
    refine cn g3 (by omega) (by decide) (by decide) (by decide) (by decide) f3 (fun τ4 x0 x1 g4 _ f4 _ => ?_) (fun τ f hb hf _ => by (simp only [bd_79 hb, e00, bd_54 hb.n, bd_56 hb.n, bd_57 hb.n, bd_58 hb.n, bd_59 hb.n, bd_60 hb.n, bd_61 hb.n, zbV_s, zbI_s, bd_z hb.n, not_false_eq_true, if_true, if_false]; (repeat' split); (all_goals exact CR_bad hf hb)))
    refine cw g4 (by omega) (by decide) f4 (fun τ5 g5 f5 _ => ?_) (fun τ hb hf => by (simp only [bd_79 hb, e00, bd_54 hb.n, bd_56 hb.n, bd_57 hb.n, bd_58 hb.n, bd_59 hb.n, bd_60 hb.n, bd_61 hb.n, zbV_s, zbI_s, bd_z hb.n, not_false_eq_true, if_true, if_false]; (repeat' split); (all_goals exact CR_bad hf hb)))
    refine c59 g5 hW f5 (fun τ6 t0 t1 g6 _ f6 _ => ?_) (fun τ f hb hf _ => by (simp only [bd_79 hb, e00, bd_54 hb.n, bd_56 hb.n, bd_57 hb.n, bd_58 hb.n, bd_59 hb.n, bd_60 hb.n, bd_61 hb.n, zbV_s, zbI_s, bd_z hb.n, not_false_eq_true, if_true, if_false]; (repeat' split); (all_goals exact CR_bad hf hb)))
    refine cw g6 (by omega) (by decide) f6 (fun τ7 g7 f7 _ => ?_) (fun τ hb hf => by (simp only [bd_79 hb, e00, bd_54 hb.n, bd_56 hb.n, bd_57 hb.n, bd_58 hb.n, bd_59 hb.n, bd_60 hb.n, bd_61 hb.n, zbV_s, zbI_s, bd_z hb.n, not_false_eq_true, if_true, if_false]; (repeat' split); (all_goals exact CR_bad hf hb)))
    refine c60 g7 hW f7 (fun τ8 y0 y1 g8 _ f8 _ => ?_) (fun τ f hb hf _ => by (simp only [bd_79 hb, e00, bd_54 hb.n, bd_56 hb.n, bd_57 hb.n, bd_58 hb.n, bd_59 hb.n, bd_60 hb.n, bd_61 hb.n, zbV_s, zbI_s, bd_z hb.n, not_false_eq_true, if_true, if_false]; (repeat' split); (all_goals exact CR_bad hf hb)))
    exact ck_Wi g8 hW f8 n0 (by omega) x0 (by omega) t0 (by omega) y0 (by omega)
