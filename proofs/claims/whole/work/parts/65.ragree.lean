/-! CALLS: agree, when, sure: the reference -/
theorem lp_260 {σ : zM} {W : Int → Int} {S : sls} {s : Int} (hW : WOK W) (hv : wv σ 288 = W) (hS : slM σ S) (hw : slW S) (h : isSl s) : ∀ (k i : Nat), (i : Int) + 4 * k = S.1 s → zwp (zev 260 43 [some (.ref 287), some (.int (Int32.ofInt s)), none, some (.int (Int32.ofInt i))] [] σ) (fun v τ => v = some (.int (Int32.ofInt (if qkB W (S.2.2 s) k i = true then 0 else -2))) ∧ τ = σ)
  | 0, i, e => by
    have r := hw s h.1 h.2
    have e9 := (hS s h.1 h.2).1
    refine zwp_of (fun r h => ze_260_43 _ _ _ r h) ?_
    refine zwp_cd (za_309 h.1 h.2) ?_
    refine zwp_t (by try simp (disch := first | assumption | exact isR33 | exact isT104 | exact isF99 | exact isF101 | exact isR3 | omega | (refine isTk ?_; omega) | (refine isOk isR33 ?_; omega) | (refine isOk ?_ ?_; assumption; omega)) only [mm_r, mm_rl, mm_add, mm_sub, mm_mul, mm_addJ, mm_mulJ, mm_lt, mm_le, mm_eq, mm_z, mm_cl, mm_w, mm_wl, mm_ite, mm_i2l, mm_l2i, mm_ltJ, mm_leJ, mm_eqJ, mm_clt, mm_cle, mm_cgt, mm_cge, mm_ceq, mm_b, mm_nb, mm_nb0, mm_nb1, mm_vb0, mm_vb1, mm_vbc, mm_vy0, mm_vy1, mm_at, mm_ne, mm_nj, mm_Lw, mm_Nw, mm_atJ, mm_neJ, mm_njJ, zbI_s, zbV_s, zbJ_s, cond_t, Bool.true_and, Bool.and_true, if_true, if_false, not_true, not_false_iff, Classical.not_not, zel_r, zel_42, zel_12, zel_71, zel_80, zel_89, zel_110, zel_188, zel_103, zel_195, zr_o, zr_1, zr_2, zr_3, zr_4, zr_5, zr_6, zr_7, zr_8, zr_9, zq_o, zq_v, zt_o, zt_1, zt_2, zt_3, zt_4, zt_5, zf_o, zf_1, za_w1, za_w2, za_w3, za_cm, za_sl, Int.toNat_natCast, Int.toNat_natCast_add_one, mm_t0, mm_t1, mm_t2, mm_t3, mm_t4, mm_t5, mm_t6, mm_t7, mm_t8, mm_t9, mm_t10, mm_t11, mm_t12, mm_t13, za_1, za_64, za_65, za_66, za_67, za_68, za_71, za_80, za_89, za_98, za_103, za_110, za_121, za_122, za_123, za_124, za_125, za_126, za_188, za_193, za_194, za_195, za_286, za_288, za_289, za_290, za_291, za_292, za_293, za_294, za_295, za_296, za_297, za_298, za_299, za_300, za_301, za_302, za_303, za_304, za_305, za_306, za_307, za_308, za_309, za_310, za_311, za_312, e9]
                     first | done | omega) ?_
    exact zwp_ret ⟨rfl, rfl⟩
  | k + 1, i, e => by
    have r := hw s h.1 h.2
    have e9 := (hS s h.1 h.2).1
    have e1 : zN σ 288 1 = W 1 := wv_k hv 1
    have e0 : zN σ 288 0 = W 0 := wv_k hv 0
    have h0 := hW.1.1.1
    have h1 := hW.1.2.1
    obtain ⟨g1, r1, r2⟩ := hS.at hw h (i := i) (by omega) (by omega)
    obtain ⟨g2, r3, r4⟩ := hS.at hw h (i := (i : Int) + 1) (by omega) (by omega)
    obtain ⟨g3, r5, r6⟩ := hS.at hw h (i := (i : Int) + 2) (by omega) (by omega)
    have s1 := sp_168 (n := S.2.2 s i) (σ := σ) r1 r2 (by omega)
    have s3 := sp_169 (n := S.2.2 s ((i : Int) + 2)) (σ := σ) r5 r6 (by omega)
    rw [e0] at s1
    rw [e1] at s3
    have eb : qkB W (S.2.2 s) (k + 1) i = (decide (inT W (S.2.2 s i)) && (decide (0 ≤ S.2.2 s ((i : Int) + 1) ∧ S.2.2 s ((i : Int) + 1) < 3) && (decide (inH W (S.2.2 s ((i : Int) + 2))) && qkB W (S.2.2 s) k ((i : Int) + 4)))) := rfl
    refine zwp_of (fun r h => ze_260_43 _ _ _ r h) ?_
    refine zwp_cd (za_309 h.1 h.2) ?_
    refine zwp_f (by try simp (disch := first | assumption | exact isR33 | exact isT104 | exact isF99 | exact isF101 | exact isR3 | omega | (refine isTk ?_; omega) | (refine isOk isR33 ?_; omega) | (refine isOk ?_ ?_; assumption; omega)) only [mm_r, mm_rl, mm_add, mm_sub, mm_mul, mm_addJ, mm_mulJ, mm_lt, mm_le, mm_eq, mm_z, mm_cl, mm_w, mm_wl, mm_ite, mm_i2l, mm_l2i, mm_ltJ, mm_leJ, mm_eqJ, mm_clt, mm_cle, mm_cgt, mm_cge, mm_ceq, mm_b, mm_nb, mm_nb0, mm_nb1, mm_vb0, mm_vb1, mm_vbc, mm_vy0, mm_vy1, mm_at, mm_ne, mm_nj, mm_Lw, mm_Nw, mm_atJ, mm_neJ, mm_njJ, zbI_s, zbV_s, zbJ_s, cond_t, Bool.true_and, Bool.and_true, if_true, if_false, not_true, not_false_iff, Classical.not_not, zel_r, zel_42, zel_12, zel_71, zel_80, zel_89, zel_110, zel_188, zel_103, zel_195, zr_o, zr_1, zr_2, zr_3, zr_4, zr_5, zr_6, zr_7, zr_8, zr_9, zq_o, zq_v, zt_o, zt_1, zt_2, zt_3, zt_4, zt_5, zf_o, zf_1, za_w1, za_w2, za_w3, za_cm, za_sl, Int.toNat_natCast, Int.toNat_natCast_add_one, mm_t0, mm_t1, mm_t2, mm_t3, mm_t4, mm_t5, mm_t6, mm_t7, mm_t8, mm_t9, mm_t10, mm_t11, mm_t12, mm_t13, za_1, za_64, za_65, za_66, za_67, za_68, za_71, za_80, za_89, za_98, za_103, za_110, za_121, za_122, za_123, za_124, za_125, za_126, za_188, za_193, za_194, za_195, za_286, za_288, za_289, za_290, za_291, za_292, za_293, za_294, za_295, za_296, za_297, za_298, za_299, za_300, za_301, za_302, za_303, za_304, za_305, za_306, za_307, za_308, za_309, za_310, za_311, za_312, e9]
                     first | done | omega) ?_
    rw [g1, zbJ_s, s1, zbI_s]
    by_cases q : inT W (S.2.2 s i)
    · rw [if_pos q]
      refine zwp_f (by decide) ?_
      rw [mm_add, g2, zbJ_s, sp_171 r3 r4, zbI_s]
      by_cases q2 : 0 ≤ S.2.2 s ((i : Int) + 1) ∧ S.2.2 s ((i : Int) + 1) < 3
      · rw [if_pos q2]
        refine zwp_f (by decide) ?_
        rw [mm_add, g3, zbJ_s, s3, zbI_s]
        by_cases q3 : inH W (S.2.2 s ((i : Int) + 2))
        · rw [if_pos q3]
          refine zwp_t (by decide) ?_
          rw [eb, decide_eq_true q, decide_eq_true q2, decide_eq_true q3, Bool.true_and, Bool.true_and, Bool.true_and, mm_add]
          exact lp_260 hW hv hS hw h k (i + 4) (by omega)
        · rw [if_neg q3, eb, decide_eq_false q3, Bool.false_and, Bool.and_false, Bool.and_false]
          refine zwp_f (by decide) ?_
          exact zwp_ret ⟨rfl, rfl⟩
      · rw [if_neg q2, eb, decide_eq_false q2, Bool.false_and, Bool.and_false]
        refine zwp_t (by decide) ?_
        exact zwp_ret ⟨rfl, rfl⟩
    · rw [if_neg q, eb, decide_eq_false q, Bool.false_and]
      refine zwp_t (by decide) ?_
      exact zwp_ret ⟨rfl, rfl⟩
theorem sp_260z {σ : zM} {s : Int} (s0 : -2147483648 ≤ s) (s1 : s < 2147483648) : zcall 260 [.ref 287, .int (Int32.ofInt s), .int (Int32.ofInt 0)] σ = some (some (.int (Int32.ofInt (-2))), σ) := by
  refine zcc_260 (ze_260_0 _ _ _ _ ?_)
  rw [sp_274s s0 s1, zbI_s]
  by_cases q : isSl s
  · rw [if_pos q, if_neg (by decide), if_neg (by decide)]
  · rw [if_neg q, if_pos (by decide)]
theorem sp_260 {σ : zM} {W : Int → Int} {S : sls} {s o : Int} (hW : WOK W) (hv : wv σ 288 = W) (hS : slM σ S) (hw : slW S) (s0 : -2147483648 ≤ s) (s1 : s < 2147483648) : zwp (zcall 260 [.ref 287, .int (Int32.ofInt s), .int (Int32.ofInt (if inO W o then 1 else 0))] σ) (fun v τ => v = some (.int (Int32.ofInt (Eq0 W S s o))) ∧ τ = σ) := by
  by_cases q2 : inO W o
  · rw [if_pos q2]
    refine zwp_of (fun r h => zcc_260 (ze_260_0 _ _ _ r h)) ?_
    rw [sp_274s s0 s1, zbI_s]
    by_cases q : isSl s
    · have r := hw s q.1 q.2
      have e := (hS s q.1 q.2).1
      rw [if_pos q]
      refine zwp_f (by decide) (zwp_t (by decide) ?_)
      refine zwp_cd (za_309 q.1 q.2) ?_
      by_cases q3 : S.1 s = -1
      · rw [Eq0_b ⟨q, q2⟩ q3]
        refine zwp_f (by try simp (disch := first | assumption | exact isR33 | exact isT104 | exact isF99 | exact isF101 | exact isR3 | omega | (refine isTk ?_; omega) | (refine isOk isR33 ?_; omega) | (refine isOk ?_ ?_; assumption; omega)) only [mm_r, mm_rl, mm_add, mm_sub, mm_mul, mm_addJ, mm_mulJ, mm_lt, mm_le, mm_eq, mm_z, mm_cl, mm_w, mm_wl, mm_ite, mm_i2l, mm_l2i, mm_ltJ, mm_leJ, mm_eqJ, mm_clt, mm_cle, mm_cgt, mm_cge, mm_ceq, mm_b, mm_nb, mm_nb0, mm_nb1, mm_vb0, mm_vb1, mm_vbc, mm_vy0, mm_vy1, mm_at, mm_ne, mm_nj, mm_Lw, mm_Nw, mm_atJ, mm_neJ, mm_njJ, zbI_s, zbV_s, zbJ_s, cond_t, Bool.true_and, Bool.and_true, if_true, if_false, not_true, not_false_iff, Classical.not_not, zel_r, zel_42, zel_12, zel_71, zel_80, zel_89, zel_110, zel_188, zel_103, zel_195, zr_o, zr_1, zr_2, zr_3, zr_4, zr_5, zr_6, zr_7, zr_8, zr_9, zq_o, zq_v, zt_o, zt_1, zt_2, zt_3, zt_4, zt_5, zf_o, zf_1, za_w1, za_w2, za_w3, za_cm, za_sl, Int.toNat_natCast, Int.toNat_natCast_add_one, mm_t0, mm_t1, mm_t2, mm_t3, mm_t4, mm_t5, mm_t6, mm_t7, mm_t8, mm_t9, mm_t10, mm_t11, mm_t12, mm_t13, za_1, za_64, za_65, za_66, za_67, za_68, za_71, za_80, za_89, za_98, za_103, za_110, za_121, za_122, za_123, za_124, za_125, za_126, za_188, za_193, za_194, za_195, za_286, za_288, za_289, za_290, za_291, za_292, za_293, za_294, za_295, za_296, za_297, za_298, za_299, za_300, za_301, za_302, za_303, za_304, za_305, za_306, za_307, za_308, za_309, za_310, za_311, za_312, e, q3]; first | done | omega) ?_
        exact zwp_ret ⟨rfl, rfl⟩
      · refine zwp_t (by try simp (disch := first | assumption | exact isR33 | exact isT104 | exact isF99 | exact isF101 | exact isR3 | omega | (refine isTk ?_; omega) | (refine isOk isR33 ?_; omega) | (refine isOk ?_ ?_; assumption; omega)) only [mm_r, mm_rl, mm_add, mm_sub, mm_mul, mm_addJ, mm_mulJ, mm_lt, mm_le, mm_eq, mm_z, mm_cl, mm_w, mm_wl, mm_ite, mm_i2l, mm_l2i, mm_ltJ, mm_leJ, mm_eqJ, mm_clt, mm_cle, mm_cgt, mm_cge, mm_ceq, mm_b, mm_nb, mm_nb0, mm_nb1, mm_vb0, mm_vb1, mm_vbc, mm_vy0, mm_vy1, mm_at, mm_ne, mm_nj, mm_Lw, mm_Nw, mm_atJ, mm_neJ, mm_njJ, zbI_s, zbV_s, zbJ_s, cond_t, Bool.true_and, Bool.and_true, if_true, if_false, not_true, not_false_iff, Classical.not_not, zel_r, zel_42, zel_12, zel_71, zel_80, zel_89, zel_110, zel_188, zel_103, zel_195, zr_o, zr_1, zr_2, zr_3, zr_4, zr_5, zr_6, zr_7, zr_8, zr_9, zq_o, zq_v, zt_o, zt_1, zt_2, zt_3, zt_4, zt_5, zf_o, zf_1, za_w1, za_w2, za_w3, za_cm, za_sl, Int.toNat_natCast, Int.toNat_natCast_add_one, mm_t0, mm_t1, mm_t2, mm_t3, mm_t4, mm_t5, mm_t6, mm_t7, mm_t8, mm_t9, mm_t10, mm_t11, mm_t12, mm_t13, za_1, za_64, za_65, za_66, za_67, za_68, za_71, za_80, za_89, za_98, za_103, za_110, za_121, za_122, za_123, za_124, za_125, za_126, za_188, za_193, za_194, za_195, za_286, za_288, za_289, za_290, za_291, za_292, za_293, za_294, za_295, za_296, za_297, za_298, za_299, za_300, za_301, za_302, za_303, za_304, za_305, za_306, za_307, za_308, za_309, za_310, za_311, za_312, e]; first | done | omega) ?_
        refine zwp_cd (za_309 q.1 q.2) ?_
        refine zwp_f (by decide) ?_
        rw [mm_cl (by omega) (by omega), mm_r, e]
        by_cases q4 : S.1 s % 4 = 0
        · refine zwp_t ((rem4i (by omega) (by omega)).mpr q4) ?_
          refine zwp_mono (lp_260 hW hv hS hw q (S.1 s / 4).toNat 0 (by omega)) ?_
          rintro v τ ⟨rfl, rfl⟩
          refine ⟨?_, rfl⟩
          by_cases z : qkB W (S.2.2 s) (S.1 s / 4).toNat 0 = true
          · have B : (if qkB W (S.2.2 s) (S.1 s / 4).toNat ((0 : Nat) : Int) = true then (0 : Int) else -2) = 0 := if_pos z
            rw [B, Eq0_d ⟨q, q2⟩ q3 ⟨q4, z⟩]
          · have B : (if qkB W (S.2.2 s) (S.1 s / 4).toNat ((0 : Nat) : Int) = true then (0 : Int) else -2) = -2 := if_neg z
            rw [B, Eq0_c ⟨q, q2⟩ q3 (fun p => z p.2)]
        · rw [Eq0_c ⟨q, q2⟩ q3 (fun p => q4 p.1)]
          refine zwp_f (fun p => q4 ((rem4i (by omega) (by omega)).mp p)) ?_
          exact zwp_ret ⟨rfl, rfl⟩
    · rw [Eq0_a (fun p => q p.1), if_neg q]
      refine zwp_t (by decide) ?_
      exact zwp_ret ⟨rfl, rfl⟩
  · rw [if_neg q2, Eq0_a (fun p => q2 p.2)]
    exact zwp_E (sp_260z s0 s1) ⟨rfl, rfl⟩
theorem lp_261 {σ : zM} {W : Int → Int} {c : Int → Int} {S : sls} {s : Int} (hW : WOK W) (hC : rcC σ W c (W 7)) (hS : slM σ S) (hw : slW S) (h : isSl s) : ∀ (k i : Nat), (i : Int) + 4 * k = S.1 s → qkB W (S.2.2 s) k i = true → zwp (zev 261 2 [some (.ref 287), some (.int (Int32.ofInt s)), some (.int (Int32.ofInt i))] [] σ) (fun v τ => v = some (.int (Int32.ofInt (if agq W (S.2.2 s) c k i = true then 1 else 0))) ∧ τ = σ)
  | 0, i, e, hb => by
    have r := hw s h.1 h.2
    have e9 := (hS s h.1 h.2).1
    refine zwp_of (fun r h => ze_261_2 _ _ _ r h) ?_
    refine zwp_cd (za_309 h.1 h.2) ?_
    refine zwp_t (by try simp (disch := first | assumption | exact isR33 | exact isT104 | exact isF99 | exact isF101 | exact isR3 | omega | (refine isTk ?_; omega) | (refine isOk isR33 ?_; omega) | (refine isOk ?_ ?_; assumption; omega)) only [mm_r, mm_rl, mm_add, mm_sub, mm_mul, mm_addJ, mm_mulJ, mm_lt, mm_le, mm_eq, mm_z, mm_cl, mm_w, mm_wl, mm_ite, mm_i2l, mm_l2i, mm_ltJ, mm_leJ, mm_eqJ, mm_clt, mm_cle, mm_cgt, mm_cge, mm_ceq, mm_b, mm_nb, mm_nb0, mm_nb1, mm_vb0, mm_vb1, mm_vbc, mm_vy0, mm_vy1, mm_at, mm_ne, mm_nj, mm_Lw, mm_Nw, mm_atJ, mm_neJ, mm_njJ, zbI_s, zbV_s, zbJ_s, cond_t, Bool.true_and, Bool.and_true, if_true, if_false, not_true, not_false_iff, Classical.not_not, zel_r, zel_42, zel_12, zel_71, zel_80, zel_89, zel_110, zel_188, zel_103, zel_195, zr_o, zr_1, zr_2, zr_3, zr_4, zr_5, zr_6, zr_7, zr_8, zr_9, zq_o, zq_v, zt_o, zt_1, zt_2, zt_3, zt_4, zt_5, zf_o, zf_1, za_w1, za_w2, za_w3, za_cm, za_sl, Int.toNat_natCast, Int.toNat_natCast_add_one, mm_t0, mm_t1, mm_t2, mm_t3, mm_t4, mm_t5, mm_t6, mm_t7, mm_t8, mm_t9, mm_t10, mm_t11, mm_t12, mm_t13, za_1, za_64, za_65, za_66, za_67, za_68, za_71, za_80, za_89, za_98, za_103, za_110, za_121, za_122, za_123, za_124, za_125, za_126, za_188, za_193, za_194, za_195, za_286, za_288, za_289, za_290, za_291, za_292, za_293, za_294, za_295, za_296, za_297, za_298, za_299, za_300, za_301, za_302, za_303, za_304, za_305, za_306, za_307, za_308, za_309, za_310, za_311, za_312, e9]
                     first | done | omega) ?_
    simp (disch := first | assumption | exact isR33 | exact isT104 | exact isF99 | exact isF101 | exact isR3 | omega | (refine isTk ?_; omega) | (refine isOk isR33 ?_; omega) | (refine isOk ?_ ?_; assumption; omega)) only [mm_r, mm_rl, mm_add, mm_sub, mm_mul, mm_addJ, mm_mulJ, mm_lt, mm_le, mm_eq, mm_z, mm_cl, mm_w, mm_wl, mm_ite, mm_i2l, mm_l2i, mm_ltJ, mm_leJ, mm_eqJ, mm_clt, mm_cle, mm_cgt, mm_cge, mm_ceq, mm_b, mm_nb, mm_nb0, mm_nb1, mm_vb0, mm_vb1, mm_vbc, mm_vy0, mm_vy1, mm_at, mm_ne, mm_nj, mm_Lw, mm_Nw, mm_atJ, mm_neJ, mm_njJ, zbI_s, zbV_s, zbJ_s, cond_t, Bool.true_and, Bool.and_true, if_true, if_false, not_true, not_false_iff, Classical.not_not, zel_r, zel_42, zel_12, zel_71, zel_80, zel_89, zel_110, zel_188, zel_103, zel_195, zr_o, zr_1, zr_2, zr_3, zr_4, zr_5, zr_6, zr_7, zr_8, zr_9, zq_o, zq_v, zt_o, zt_1, zt_2, zt_3, zt_4, zt_5, zf_o, zf_1, za_w1, za_w2, za_w3, za_cm, za_sl, Int.toNat_natCast, Int.toNat_natCast_add_one, mm_t0, mm_t1, mm_t2, mm_t3, mm_t4, mm_t5, mm_t6, mm_t7, mm_t8, mm_t9, mm_t10, mm_t11, mm_t12, mm_t13, za_1, za_64, za_65, za_66, za_67, za_68, za_71, za_80, za_89, za_98, za_103, za_110, za_121, za_122, za_123, za_124, za_125, za_126, za_188, za_193, za_194, za_195, za_286, za_288, za_289, za_290, za_291, za_292, za_293, za_294, za_295, za_296, za_297, za_298, za_299, za_300, za_301, za_302, za_303, za_304, za_305, za_306, za_307, za_308, za_309, za_310, za_311, za_312]
    exact zwp_ret ⟨rfl, rfl⟩
  | k + 1, i, e, hb => by
    have r := hw s h.1 h.2
    have e9 := (hS s h.1 h.2).1
    have h9 := hW.1.2.2.1
    have h8 := hW.1.1.2.1
    obtain ⟨g1, r1, r2⟩ := hS.at hw h (i := i) (by omega) (by omega)
    obtain ⟨g2, r3, r4⟩ := hS.at hw h (i := (i : Int) + 1) (by omega) (by omega)
    obtain ⟨g3, r5, r6⟩ := hS.at hw h (i := (i : Int) + 2) (by omega) (by omega)
    obtain ⟨g4, r7, r8⟩ := hS.at hw h (i := (i : Int) + 3) (by omega) (by omega)
    obtain ⟨b1, b2, b3, b4⟩ := qkB_s hb
    have rr := HH_rng hW.un c (W 7) (S.2.2 s i) (S.2.2 s ((i : Int) + 1)) (S.2.2 s ((i : Int) + 2))
    have eb : agq W (S.2.2 s) c (k + 1) i = (decide (HH W c (W 7) (S.2.2 s i) (S.2.2 s ((i : Int) + 1)) (S.2.2 s ((i : Int) + 2)) = S.2.2 s ((i : Int) + 3)) && agq W (S.2.2 s) c k ((i : Int) + 4)) := rfl
    rw [eb]
    refine zwp_of (fun r h => ze_261_2 _ _ _ r h) ?_
    refine zwp_cd (za_309 h.1 h.2) ?_
    refine zwp_f (by try simp (disch := first | assumption | exact isR33 | exact isT104 | exact isF99 | exact isF101 | exact isR3 | omega | (refine isTk ?_; omega) | (refine isOk isR33 ?_; omega) | (refine isOk ?_ ?_; assumption; omega)) only [mm_r, mm_rl, mm_add, mm_sub, mm_mul, mm_addJ, mm_mulJ, mm_lt, mm_le, mm_eq, mm_z, mm_cl, mm_w, mm_wl, mm_ite, mm_i2l, mm_l2i, mm_ltJ, mm_leJ, mm_eqJ, mm_clt, mm_cle, mm_cgt, mm_cge, mm_ceq, mm_b, mm_nb, mm_nb0, mm_nb1, mm_vb0, mm_vb1, mm_vbc, mm_vy0, mm_vy1, mm_at, mm_ne, mm_nj, mm_Lw, mm_Nw, mm_atJ, mm_neJ, mm_njJ, zbI_s, zbV_s, zbJ_s, cond_t, Bool.true_and, Bool.and_true, if_true, if_false, not_true, not_false_iff, Classical.not_not, zel_r, zel_42, zel_12, zel_71, zel_80, zel_89, zel_110, zel_188, zel_103, zel_195, zr_o, zr_1, zr_2, zr_3, zr_4, zr_5, zr_6, zr_7, zr_8, zr_9, zq_o, zq_v, zt_o, zt_1, zt_2, zt_3, zt_4, zt_5, zf_o, zf_1, za_w1, za_w2, za_w3, za_cm, za_sl, Int.toNat_natCast, Int.toNat_natCast_add_one, mm_t0, mm_t1, mm_t2, mm_t3, mm_t4, mm_t5, mm_t6, mm_t7, mm_t8, mm_t9, mm_t10, mm_t11, mm_t12, mm_t13, za_1, za_64, za_65, za_66, za_67, za_68, za_71, za_80, za_89, za_98, za_103, za_110, za_121, za_122, za_123, za_124, za_125, za_126, za_188, za_193, za_194, za_195, za_286, za_288, za_289, za_290, za_291, za_292, za_293, za_294, za_295, za_296, za_297, za_298, za_299, za_300, za_301, za_302, za_303, za_304, za_305, za_306, za_307, za_308, za_309, za_310, za_311, za_312, e9]
                     first | done | omega) ?_
    rw [g1, zbJ_s, mm_add, g2, zbJ_s, mm_add, g3, zbJ_s, mm_l2i (by omega) (by omega), mm_l2i (by omega) (by omega), mm_l2i (by omega) (by omega), sp_220c hW.un hC (by omega) (by omega) (by omega) (by omega) (by omega) (by omega), zbI_s, mm_add, g4, zbJ_s, mm_i2l (by omega) (by omega)]
    by_cases q : HH W c (W 7) (S.2.2 s i) (S.2.2 s ((i : Int) + 1)) (S.2.2 s ((i : Int) + 2)) = S.2.2 s ((i : Int) + 3)
    · rw [decide_eq_true q, Bool.true_and]
      refine zwp_t (by rw [q]; exact (mm_ceq _ _).mpr rfl) ?_
      rw [mm_add]
      exact lp_261 hW hC hS hw h k (i + 4) (by omega) b4
    · rw [decide_eq_false q, Bool.false_and]
      refine zwp_f (fun p => q ?_) ?_
      · have p := (mm_ceq _ _).mp p
        rw [mm_eqJ (by omega) (by omega) (by omega) (by omega)] at p
        exact p
      · simp (disch := first | assumption | exact isR33 | exact isT104 | exact isF99 | exact isF101 | exact isR3 | omega | (refine isTk ?_; omega) | (refine isOk isR33 ?_; omega) | (refine isOk ?_ ?_; assumption; omega)) only [mm_r, mm_rl, mm_add, mm_sub, mm_mul, mm_addJ, mm_mulJ, mm_lt, mm_le, mm_eq, mm_z, mm_cl, mm_w, mm_wl, mm_ite, mm_i2l, mm_l2i, mm_ltJ, mm_leJ, mm_eqJ, mm_clt, mm_cle, mm_cgt, mm_cge, mm_ceq, mm_b, mm_nb, mm_nb0, mm_nb1, mm_vb0, mm_vb1, mm_vbc, mm_vy0, mm_vy1, mm_at, mm_ne, mm_nj, mm_Lw, mm_Nw, mm_atJ, mm_neJ, mm_njJ, zbI_s, zbV_s, zbJ_s, cond_t, Bool.true_and, Bool.and_true, if_true, if_false, not_true, not_false_iff, Classical.not_not, zel_r, zel_42, zel_12, zel_71, zel_80, zel_89, zel_110, zel_188, zel_103, zel_195, zr_o, zr_1, zr_2, zr_3, zr_4, zr_5, zr_6, zr_7, zr_8, zr_9, zq_o, zq_v, zt_o, zt_1, zt_2, zt_3, zt_4, zt_5, zf_o, zf_1, za_w1, za_w2, za_w3, za_cm, za_sl, Int.toNat_natCast, Int.toNat_natCast_add_one, mm_t0, mm_t1, mm_t2, mm_t3, mm_t4, mm_t5, mm_t6, mm_t7, mm_t8, mm_t9, mm_t10, mm_t11, mm_t12, mm_t13, za_1, za_64, za_65, za_66, za_67, za_68, za_71, za_80, za_89, za_98, za_103, za_110, za_121, za_122, za_123, za_124, za_125, za_126, za_188, za_193, za_194, za_195, za_286, za_288, za_289, za_290, za_291, za_292, za_293, za_294, za_295, za_296, za_297, za_298, za_299, za_300, za_301, za_302, za_303, za_304, za_305, za_306, za_307, za_308, za_309, za_310, za_311, za_312]
        exact zwp_ret ⟨rfl, rfl⟩
/-- the flags and what would hold -/
def fsR (σ : zM) (P : Int → Bool) (A : Int → Int) (n : Nat) : Prop := ∀ y : Nat, y < n → zN σ 306 y = (if P y = true then 1 else 0) ∧ zN σ 307 y = A y
theorem lp_262 {σ0 : zM} {W : Int → Int} {S : sls} {s o t g h : Int} (hW : WOK W) (hw0 : wv σ0 288 = W) (hw : slW S) (hs : isSl s) (o0 : 0 ≤ o) (o1 : o < W 5) (h4 : S.1 s % 4 = 0) (hn : S.1 s ≠ -1) (hb : qkB W (S.2.2 s) (S.1 s / 4).toNat 0 = true) (ht0 : -2147483648 ≤ t) (ht1 : t < 2147483648) (hg0 : -2147483648 ≤ g) (hg1 : g < 2147483648) (hh0 : -2147483648 ≤ h) (hh1 : h < 2147483648) : ∀ (k x : Nat) (σ : zM) (a : Int), (x : Int) + k = W 1 → goH σ W o a → mf (fun b => b = 288 ∨ 294 ≤ b ∧ b ≤ 307) σ0 σ → slM σ S → fsR σ (agB W S s o) (fun x => HH W (cS W o x) (W 7) t g h) x → zwp (zev 262 19 [some (.ref 287), some (.int (Int32.ofInt s)), some (.int (Int32.ofInt o)), some (.int (Int32.ofInt t)), some (.int (Int32.ofInt g)), some (.int (Int32.ofInt h)), some (.int (Int32.ofInt (oo W o 6))), some (.int (Int32.ofInt (zcnt (agB W S s o) x))), some (.int (Int32.ofInt x))] [] σ) (fun v τ => v = some (.int (Int32.ofInt (zcnt (agB W S s o) (W 1).toNat))) ∧ rK σ0 τ ∧ fsR τ (agB W S s o) (fun x => HH W (cS W o x) (W 7) t g h) (W 1).toNat)
  | 0, x, σ, a, e, hg, hf, hS, hr => by
    have h9 := hW.1.2.2.1
    have h5 := hW.2.2.1
    have b6 := (hW.2.2.2.2 o o0 o1).1.2.2.2.2.2.2.2
    have e1 : zN σ 288 1 = W 1 := (wv_k hg.1 1).trans (wS_A o0 (by decide) 1 (by decide))
    obtain rfl : x = (W 1).toNat := by omega
    refine zwp_of (fun r h => ze_262_19 _ _ _ _ _ _ _ _ _ r h) ?_
    refine zwp_cd (by simp (disch := first | assumption | exact isR33 | exact isT104 | exact isF99 | exact isF101 | exact isR3 | omega | (refine isTk ?_; omega) | (refine isOk isR33 ?_; omega) | (refine isOk ?_ ?_; assumption; omega)) only [mm_r, mm_rl, mm_add, mm_sub, mm_mul, mm_addJ, mm_mulJ, mm_lt, mm_le, mm_eq, mm_z, mm_cl, mm_w, mm_wl, mm_ite, mm_i2l, mm_l2i, mm_ltJ, mm_leJ, mm_eqJ, mm_clt, mm_cle, mm_cgt, mm_cge, mm_ceq, mm_b, mm_nb, mm_nb0, mm_nb1, mm_vb0, mm_vb1, mm_vbc, mm_vy0, mm_vy1, mm_at, mm_ne, mm_nj, mm_Lw, mm_Nw, mm_atJ, mm_neJ, mm_njJ, zbI_s, zbV_s, zbJ_s, cond_t, Bool.true_and, Bool.and_true, if_true, if_false, not_true, not_false_iff, Classical.not_not, zel_r, zel_42, zel_12, zel_71, zel_80, zel_89, zel_110, zel_188, zel_103, zel_195, zr_o, zr_1, zr_2, zr_3, zr_4, zr_5, zr_6, zr_7, zr_8, zr_9, zq_o, zq_v, zt_o, zt_1, zt_2, zt_3, zt_4, zt_5, zf_o, zf_1, za_w1, za_w2, za_w3, za_cm, za_sl, Int.toNat_natCast, Int.toNat_natCast_add_one, mm_t0, mm_t1, mm_t2, mm_t3, mm_t4, mm_t5, mm_t6, mm_t7, mm_t8, mm_t9, mm_t10, mm_t11, mm_t12, mm_t13, za_1, za_64, za_65, za_66, za_67, za_68, za_71, za_80, za_89, za_98, za_103, za_110, za_121, za_122, za_123, za_124, za_125, za_126, za_188, za_193, za_194, za_195, za_286, za_288, za_289, za_290, za_291, za_292, za_293, za_294, za_295, za_296, za_297, za_298, za_299, za_300, za_301, za_302, za_303, za_304, za_305, za_306, za_307, za_308, za_309, za_310, za_311, za_312]) ?_
    refine zwp_t (by try simp (disch := first | assumption | exact isR33 | exact isT104 | exact isF99 | exact isF101 | exact isR3 | omega | (refine isTk ?_; omega) | (refine isOk isR33 ?_; omega) | (refine isOk ?_ ?_; assumption; omega)) only [mm_r, mm_rl, mm_add, mm_sub, mm_mul, mm_addJ, mm_mulJ, mm_lt, mm_le, mm_eq, mm_z, mm_cl, mm_w, mm_wl, mm_ite, mm_i2l, mm_l2i, mm_ltJ, mm_leJ, mm_eqJ, mm_clt, mm_cle, mm_cgt, mm_cge, mm_ceq, mm_b, mm_nb, mm_nb0, mm_nb1, mm_vb0, mm_vb1, mm_vbc, mm_vy0, mm_vy1, mm_at, mm_ne, mm_nj, mm_Lw, mm_Nw, mm_atJ, mm_neJ, mm_njJ, zbI_s, zbV_s, zbJ_s, cond_t, Bool.true_and, Bool.and_true, if_true, if_false, not_true, not_false_iff, Classical.not_not, zel_r, zel_42, zel_12, zel_71, zel_80, zel_89, zel_110, zel_188, zel_103, zel_195, zr_o, zr_1, zr_2, zr_3, zr_4, zr_5, zr_6, zr_7, zr_8, zr_9, zq_o, zq_v, zt_o, zt_1, zt_2, zt_3, zt_4, zt_5, zf_o, zf_1, za_w1, za_w2, za_w3, za_cm, za_sl, Int.toNat_natCast, Int.toNat_natCast_add_one, mm_t0, mm_t1, mm_t2, mm_t3, mm_t4, mm_t5, mm_t6, mm_t7, mm_t8, mm_t9, mm_t10, mm_t11, mm_t12, mm_t13, za_1, za_64, za_65, za_66, za_67, za_68, za_71, za_80, za_89, za_98, za_103, za_110, za_121, za_122, za_123, za_124, za_125, za_126, za_188, za_193, za_194, za_195, za_286, za_288, za_289, za_290, za_291, za_292, za_293, za_294, za_295, za_296, za_297, za_298, za_299, za_300, za_301, za_302, za_303, za_304, za_305, za_306, za_307, za_308, za_309, za_310, za_311, za_312, e1]
                     first | done | omega) ?_
    rw [sp_174 o0 (by omega) (by decide) (by decide), zbV_s]
    have hf2 := hf.zw 288 (80 + 14 * o + 6).toNat (oo W o 6) (.inl rfl)
    refine zwp_ret ⟨rfl, ⟨hf2.mono (fun b hb => by unfold refS; omega), fun k _ => hf2.1 287 (by omega) k, ?_⟩, fun y hy => ?_⟩
    · rw [wv_set hg.1 o0 (by decide) (by omega) (by omega), wS_two, wS_self, hw0]
    · rw [mm_ne (by decide), mm_ne (by decide)]
      exact hr y hy
  | k + 1, x, σ, a, e, hg, hf, hS, hr => by
    have h9 := hW.1.2.2.1
    have h5 := hW.2.2.1
    have b6 := (hW.2.2.2.2 o o0 o1).1.2.2.2.2.2.2.2
    have r := hw s hs.1 hs.2
    have e1 : zN σ 288 1 = W 1 := (wv_k hg.1 1).trans (wS_A o0 (by decide) 1 (by decide))
    have rz := zcnt_rng (agB W S s o) x
    have ez : zcnt (agB W S s o) (x + 1) = zcnt (agB W S s o) x + (if agB W S s o x = true then 1 else 0) := rfl
    have eC : CMs W o x = CMh W (FL W noD) o x := if_pos ⟨by omega, by omega⟩
    have rr := HH_rng hW.un (cS W o x) (W 7) t g h
    refine zwp_of (fun r h => ze_262_19 _ _ _ _ _ _ _ _ _ r h) ?_
    refine zwp_cd (by simp (disch := first | assumption | exact isR33 | exact isT104 | exact isF99 | exact isF101 | exact isR3 | omega | (refine isTk ?_; omega) | (refine isOk isR33 ?_; omega) | (refine isOk ?_ ?_; assumption; omega)) only [mm_r, mm_rl, mm_add, mm_sub, mm_mul, mm_addJ, mm_mulJ, mm_lt, mm_le, mm_eq, mm_z, mm_cl, mm_w, mm_wl, mm_ite, mm_i2l, mm_l2i, mm_ltJ, mm_leJ, mm_eqJ, mm_clt, mm_cle, mm_cgt, mm_cge, mm_ceq, mm_b, mm_nb, mm_nb0, mm_nb1, mm_vb0, mm_vb1, mm_vbc, mm_vy0, mm_vy1, mm_at, mm_ne, mm_nj, mm_Lw, mm_Nw, mm_atJ, mm_neJ, mm_njJ, zbI_s, zbV_s, zbJ_s, cond_t, Bool.true_and, Bool.and_true, if_true, if_false, not_true, not_false_iff, Classical.not_not, zel_r, zel_42, zel_12, zel_71, zel_80, zel_89, zel_110, zel_188, zel_103, zel_195, zr_o, zr_1, zr_2, zr_3, zr_4, zr_5, zr_6, zr_7, zr_8, zr_9, zq_o, zq_v, zt_o, zt_1, zt_2, zt_3, zt_4, zt_5, zf_o, zf_1, za_w1, za_w2, za_w3, za_cm, za_sl, Int.toNat_natCast, Int.toNat_natCast_add_one, mm_t0, mm_t1, mm_t2, mm_t3, mm_t4, mm_t5, mm_t6, mm_t7, mm_t8, mm_t9, mm_t10, mm_t11, mm_t12, mm_t13, za_1, za_64, za_65, za_66, za_67, za_68, za_71, za_80, za_89, za_98, za_103, za_110, za_121, za_122, za_123, za_124, za_125, za_126, za_188, za_193, za_194, za_195, za_286, za_288, za_289, za_290, za_291, za_292, za_293, za_294, za_295, za_296, za_297, za_298, za_299, za_300, za_301, za_302, za_303, za_304, za_305, za_306, za_307, za_308, za_309, za_310, za_311, za_312]) ?_
    refine zwp_f (by try simp (disch := first | assumption | exact isR33 | exact isT104 | exact isF99 | exact isF101 | exact isR3 | omega | (refine isTk ?_; omega) | (refine isOk isR33 ?_; omega) | (refine isOk ?_ ?_; assumption; omega)) only [mm_r, mm_rl, mm_add, mm_sub, mm_mul, mm_addJ, mm_mulJ, mm_lt, mm_le, mm_eq, mm_z, mm_cl, mm_w, mm_wl, mm_ite, mm_i2l, mm_l2i, mm_ltJ, mm_leJ, mm_eqJ, mm_clt, mm_cle, mm_cgt, mm_cge, mm_ceq, mm_b, mm_nb, mm_nb0, mm_nb1, mm_vb0, mm_vb1, mm_vbc, mm_vy0, mm_vy1, mm_at, mm_ne, mm_nj, mm_Lw, mm_Nw, mm_atJ, mm_neJ, mm_njJ, zbI_s, zbV_s, zbJ_s, cond_t, Bool.true_and, Bool.and_true, if_true, if_false, not_true, not_false_iff, Classical.not_not, zel_r, zel_42, zel_12, zel_71, zel_80, zel_89, zel_110, zel_188, zel_103, zel_195, zr_o, zr_1, zr_2, zr_3, zr_4, zr_5, zr_6, zr_7, zr_8, zr_9, zq_o, zq_v, zt_o, zt_1, zt_2, zt_3, zt_4, zt_5, zf_o, zf_1, za_w1, za_w2, za_w3, za_cm, za_sl, Int.toNat_natCast, Int.toNat_natCast_add_one, mm_t0, mm_t1, mm_t2, mm_t3, mm_t4, mm_t5, mm_t6, mm_t7, mm_t8, mm_t9, mm_t10, mm_t11, mm_t12, mm_t13, za_1, za_64, za_65, za_66, za_67, za_68, za_71, za_80, za_89, za_98, za_103, za_110, za_121, za_122, za_123, za_124, za_125, za_126, za_188, za_193, za_194, za_195, za_286, za_288, za_289, za_290, za_291, za_292, za_293, za_294, za_295, za_296, za_297, za_298, za_299, za_300, za_301, za_302, za_303, za_304, za_305, za_306, za_307, za_308, za_309, za_310, za_311, za_312, e1]
                     first | done | omega) ?_
    rw [sp_174 o0 (by omega) (by decide) (by decide), zbV_s]
    refine zwp_V _ (sp_209h hW o0 o1 (h := x) (by omega) (by omega) (hg.set o0 (by omega) (by omega))) ?_
    rintro τ ⟨hH2, hrc, hf2⟩
    rw [← eC] at hrc
    have hf3 : mf (fun b => b = 288 ∨ 294 ≤ b ∧ b ≤ 307) σ τ := ((mf.rf (S := fun b => b = 288 ∨ 294 ≤ b ∧ b ≤ 307)).zw 288 _ _ (.inl rfl)).tr (hf2.mono (by omega))
    have hS2 : slM τ S := hS.fr (fun b hb => ⟨fun k => hf3.1 b (by unfold slmS at hb; omega) k, fun k => hf3.2.1 b (by unfold slmS at hb; omega) k⟩)
    have hrc' : rcC τ W (cS W o x) (W 7) := hrc
    have k306 : ∀ k, zN τ 306 k = zN σ 306 k := fun k => (hf2.1 306 (by omega) k).trans (mm_ne (by decide))
    have k307 : ∀ k, zN τ 307 k = zN σ 307 k := fun k => (hf2.1 307 (by omega) k).trans (mm_ne (by decide))
    refine zwp_IE (P := fun υ => υ = τ) (E := if agB W S s o x = true then 1 else 0) ?_ ?_
    · refine zwp_of (fun r h => zcc_261 (ze_261_0 _ _ r h)) ?_
      exact lp_261 hW hrc' hS2 hw hs (S.1 s / 4).toNat 0 (by omega) hb
    · rintro υ rfl
      rw [mm_vbc]
      refine zwp_cd (za_306 (by omega) (by omega)) ?_
      rw [mm_cl (by omega) (by omega), Int.toNat_natCast, mm_w]
      refine zwp_let ?_
      have hrc2 : rcC (zw υ 306 x (if agB W S s o x = true then 1 else 0)) W (cS W o x) (W 7) := hrc'.fr (fun k => mm_ne (by decide)) (fun k => mm_ne (by decide)) (fun k => mm_ne (by decide))
      rw [sp_220c hW.un hrc2 ht0 ht1 hg0 hg1 hh0 hh1, zbI_s]
      refine zwp_cd (za_307 (by omega) (by omega)) ?_
      rw [mm_w]
      refine zwp_let (zwp_cd (za_306 (by omega) (by omega)) ?_)
      have rb : (if agB W S s o x = true then (1 : Int) else 0) = 0 ∨ (if agB W S s o x = true then (1 : Int) else 0) = 1 := by
        split
        · exact .inr rfl
        · exact .inl rfl
      rw [mm_r, mm_ne (by decide), mm_at rfl rfl (by omega) (by omega)]
      have l := lp_262 hW hw0 hw hs o0 o1 h4 hn hb ht0 ht1 hg0 hg1 hh0 hh1 k (x + 1) (zw (zw υ 306 x (if agB W S s o x = true then 1 else 0)) 307 x (HH W (cS W o x) (W 7) t g h)) x (by omega) (by
          obtain ⟨x1, x2, x3, x4, x5, x6⟩ := hH2
          refine ⟨(wv_eq fun k => (mm_ne (by decide)).trans (mm_ne (by decide))).trans x1, fun x y a b c d => (mm_ne (by decide)).trans ((mm_ne (by decide)).trans (x2 x y a b c d)), fun j j0 j1 jn => ?_, (mm_ne (by decide)).trans ((mm_ne (by decide)).trans x4), (mm_ne (by decide)).trans ((mm_ne (by decide)).trans x5), (mm_ne (by decide)).trans ((mm_ne (by decide)).trans x6)⟩
          obtain ⟨s1, s2, s3, s4⟩ := x3 j j0 j1 jn
          exact ⟨(mm_ne (by decide)).trans ((mm_ne (by decide)).trans s1), (mm_ne (by decide)).trans ((mm_ne (by decide)).trans s2), ⟨(mm_ne (by decide)).trans ((mm_ne (by decide)).trans s3.1), fun i i0 i1 => (mm_ne (by decide)).trans ((mm_ne (by decide)).trans (s3.2 i i0 i1))⟩, fun p => ⟨fun i i1 => (mm_ne (by decide)).trans ((mm_ne (by decide)).trans ((s4 p).1 i i1)), fun i i1 i2 => (mm_ne (by decide)).trans ((mm_ne (by decide)).trans ((s4 p).2 i i1 i2))⟩⟩) (((hf.tr hf3).zw 306 _ _ (by omega)).zw 307 _ _ (by omega)) (hS2.fr (fun b hb => ⟨fun k => (mm_ne (by unfold slmS at hb; omega)).trans (mm_ne (by unfold slmS at hb; omega)), fun k => rfl⟩)) (fun y hy => by
          by_cases z : y = x
          · subst z
            exact ⟨(mm_ne (by decide)).trans (mm_at rfl rfl (by omega) (by omega)), mm_at rfl rfl (by omega) (by omega)⟩
          · rw [mm_ne (by decide), mm_nj z, mm_nj z, mm_ne (by decide), k306, k307]
            exact hr y (by omega))
      by_cases q : agB W S s o x = true
      · rw [if_pos q] at ez
        rw [ez] at l
        refine zwp_f (by rw [if_pos q]; decide) ?_
        rw [mm_add, mm_add]
        exact l
      · rw [if_neg q] at ez
        rw [ez] at l
        refine zwp_t (by rw [if_neg q]; decide) ?_
        rw [mm_add, mm_add]
        exact l
theorem sp_262 {σ : zM} {W : Int → Int} {S : sls} {s o t g h : Int} (hB : rB0 σ W) (hS : slM σ S) (hw : slW S) (hE : Eq0 W S s o = 0) (ht0 : -2147483648 ≤ t) (ht1 : t < 2147483648) (hg0 : -2147483648 ≤ g) (hg1 : g < 2147483648) (hh0 : -2147483648 ≤ h) (hh1 : h < 2147483648) : zwp (zcall 262 [.ref 287, .int (Int32.ofInt s), .int (Int32.ofInt o), .int (Int32.ofInt t), .int (Int32.ofInt g), .int (Int32.ofInt h)] σ) (fun v τ => v = some (.int (Int32.ofInt (zcnt (agB W S s o) (W 1).toNat))) ∧ rK σ τ ∧ fsR τ (agB W S s o) (fun x => HH W (cS W o x) (W 7) t g h) (W 1).toNat) := by
  obtain ⟨⟨q, q2⟩, q3, q4, q5⟩ := Eq0_z hE
  have h1 := hB.2.1.1.2.1
  have h5 := hB.2.1.2.2.1
  refine zwp_of (fun r h => zcc_262 (ze_262_0 _ _ _ _ _ _ r h)) ?_
  refine zwp_V _ (sp_210c hB) ?_
  rintro τ ⟨hk, hg⟩
  have h24 : zN τ 287 24 = 0 := (hk.2.1 24 (by omega)).trans hB.2.2.1
  have hS2 : slM τ S := hS.fr (fun b hb => ⟨fun k => hk.1.1 b (by unfold slmS at hb; unfold refS; omega) k, fun k => hk.1.2.1 b (by unfold slmS at hb; unfold refS; omega) k⟩)
  rw [sp_173r q2.1 (by omega) (by decide) (by decide), zbI_s, rO_of hg.1.1]
  refine zwp_mono (lp_262 (σ0 := τ) hB.2.1 hg.1.1 hw q q2.1 q2.2 q4 q3 q5 ht0 ht1 hg0 hg1 hh0 hh1 (W 1).toNat 0 τ (oo W o 6) (by omega) (hg.H o q2.1 q2.2 h24) mf.rf hS2 (fun y hy => absurd hy (by omega))) ?_
  rintro v υ ⟨rfl, hk2, hr⟩
  exact ⟨rfl, hk.tr hk2, hr⟩
theorem rq_agree {σ : zM} {W : Int → Int} {S : sls} {s o : Int} (hB : rB0 σ W) (hS : slM σ S) (hw : slW S) (s0 : -2147483648 ≤ s) (s1 : s < 2147483648) (o0 : -2147483648 ≤ o) (o1 : o < 2147483648) : zwp (zcall 263 [.ref 287, .int (Int32.ofInt s), .int (Int32.ofInt o)] σ) (fun v τ => v = some (.int (Int32.ofInt (Eag W S s o))) ∧ rK σ τ) := by
  have e5 : zN σ 288 5 = W 5 := wv_k hB.1 5
  have h5 := hB.2.1.2.2.1
  have r := Eq0_rng W S s o
  have so := sp_170 (n := o) (σ := σ) (by omega) (by omega) (by omega)
  rw [e5] at so
  refine zwp_of (fun r h => zcc_263 (ze_263_0 _ _ _ r h)) ?_
  rw [mm_i2l o0 o1, so, zbI_s]
  refine zwp_IE (sp_260 hB.2.1 hB.1 hS hw s0 s1) ?_
  rintro τ rfl
  by_cases q : Eq0 W S s o = 0
  · rw [show Eag W S s o = zcnt (agB W S s o) (W 1).toNat from if_pos q]
    refine zwp_t (by rw [q]; decide) ?_
    refine zwp_IE (sp_262 hB hS hw q (by decide) (by decide) (by decide) (by decide) (by decide) (by decide)) ?_
    rintro τ ⟨hk, -⟩
    exact zwp_ret ⟨rfl, hk⟩
  · rw [show Eag W S s o = Eq0 W S s o from if_neg q]
    refine zwp_f (by try simp (disch := first | assumption | exact isR33 | exact isT104 | exact isF99 | exact isF101 | exact isR3 | omega | (refine isTk ?_; omega) | (refine isOk isR33 ?_; omega) | (refine isOk ?_ ?_; assumption; omega)) only [mm_r, mm_rl, mm_add, mm_sub, mm_mul, mm_addJ, mm_mulJ, mm_lt, mm_le, mm_eq, mm_z, mm_cl, mm_w, mm_wl, mm_ite, mm_i2l, mm_l2i, mm_ltJ, mm_leJ, mm_eqJ, mm_clt, mm_cle, mm_cgt, mm_cge, mm_ceq, mm_b, mm_nb, mm_nb0, mm_nb1, mm_vb0, mm_vb1, mm_vbc, mm_vy0, mm_vy1, mm_at, mm_ne, mm_nj, mm_Lw, mm_Nw, mm_atJ, mm_neJ, mm_njJ, zbI_s, zbV_s, zbJ_s, cond_t, Bool.true_and, Bool.and_true, if_true, if_false, not_true, not_false_iff, Classical.not_not, zel_r, zel_42, zel_12, zel_71, zel_80, zel_89, zel_110, zel_188, zel_103, zel_195, zr_o, zr_1, zr_2, zr_3, zr_4, zr_5, zr_6, zr_7, zr_8, zr_9, zq_o, zq_v, zt_o, zt_1, zt_2, zt_3, zt_4, zt_5, zf_o, zf_1, za_w1, za_w2, za_w3, za_cm, za_sl, Int.toNat_natCast, Int.toNat_natCast_add_one, mm_t0, mm_t1, mm_t2, mm_t3, mm_t4, mm_t5, mm_t6, mm_t7, mm_t8, mm_t9, mm_t10, mm_t11, mm_t12, mm_t13, za_1, za_64, za_65, za_66, za_67, za_68, za_71, za_80, za_89, za_98, za_103, za_110, za_121, za_122, za_123, za_124, za_125, za_126, za_188, za_193, za_194, za_195, za_286, za_288, za_289, za_290, za_291, za_292, za_293, za_294, za_295, za_296, za_297, za_298, za_299, za_300, za_301, za_302, za_303, za_304, za_305, za_306, za_307, za_308, za_309, za_310, za_311, za_312]; first | done | omega) ?_
    exact zwp_ret ⟨rfl, rK.rf⟩
theorem lp_264 {σ : zM} {W : Int → Int} {P : Int → Bool} {A : Int → Int} {n : Int} (hW : WOK W) (hv : zN σ 288 1 = W 1) (hr : fsR σ P A (W 1).toNat) (n0 : -2147483648 ≤ n) (n1 : n < 2147483648) : ∀ (k x : Nat), (x : Int) + k = W 1 → nth P (W 1).toNat n = zfst (fun x => P x && decide (zcnt P x.toNat = n)) k x → zwp (zev 264 37 [some (.ref 287), none, none, some (.int (Int32.ofInt n)), none, some (.int (Int32.ofInt (zcnt P x))), some (.int (Int32.ofInt x))] [] σ) (fun v τ => v = some (.int (Int32.ofInt (nth P (W 1).toNat n))) ∧ τ = σ)
  | 0, x, e, hz => by
    have h9 := hW.1.2.2.1
    rw [hz]
    refine zwp_of (fun r h => ze_264_37 _ _ _ _ r h) ?_
    refine zwp_cd (by simp (disch := first | assumption | exact isR33 | exact isT104 | exact isF99 | exact isF101 | exact isR3 | omega | (refine isTk ?_; omega) | (refine isOk isR33 ?_; omega) | (refine isOk ?_ ?_; assumption; omega)) only [mm_r, mm_rl, mm_add, mm_sub, mm_mul, mm_addJ, mm_mulJ, mm_lt, mm_le, mm_eq, mm_z, mm_cl, mm_w, mm_wl, mm_ite, mm_i2l, mm_l2i, mm_ltJ, mm_leJ, mm_eqJ, mm_clt, mm_cle, mm_cgt, mm_cge, mm_ceq, mm_b, mm_nb, mm_nb0, mm_nb1, mm_vb0, mm_vb1, mm_vbc, mm_vy0, mm_vy1, mm_at, mm_ne, mm_nj, mm_Lw, mm_Nw, mm_atJ, mm_neJ, mm_njJ, zbI_s, zbV_s, zbJ_s, cond_t, Bool.true_and, Bool.and_true, if_true, if_false, not_true, not_false_iff, Classical.not_not, zel_r, zel_42, zel_12, zel_71, zel_80, zel_89, zel_110, zel_188, zel_103, zel_195, zr_o, zr_1, zr_2, zr_3, zr_4, zr_5, zr_6, zr_7, zr_8, zr_9, zq_o, zq_v, zt_o, zt_1, zt_2, zt_3, zt_4, zt_5, zf_o, zf_1, za_w1, za_w2, za_w3, za_cm, za_sl, Int.toNat_natCast, Int.toNat_natCast_add_one, mm_t0, mm_t1, mm_t2, mm_t3, mm_t4, mm_t5, mm_t6, mm_t7, mm_t8, mm_t9, mm_t10, mm_t11, mm_t12, mm_t13, za_1, za_64, za_65, za_66, za_67, za_68, za_71, za_80, za_89, za_98, za_103, za_110, za_121, za_122, za_123, za_124, za_125, za_126, za_188, za_193, za_194, za_195, za_286, za_288, za_289, za_290, za_291, za_292, za_293, za_294, za_295, za_296, za_297, za_298, za_299, za_300, za_301, za_302, za_303, za_304, za_305, za_306, za_307, za_308, za_309, za_310, za_311, za_312]) ?_
    refine zwp_t (by try simp (disch := first | assumption | exact isR33 | exact isT104 | exact isF99 | exact isF101 | exact isR3 | omega | (refine isTk ?_; omega) | (refine isOk isR33 ?_; omega) | (refine isOk ?_ ?_; assumption; omega)) only [mm_r, mm_rl, mm_add, mm_sub, mm_mul, mm_addJ, mm_mulJ, mm_lt, mm_le, mm_eq, mm_z, mm_cl, mm_w, mm_wl, mm_ite, mm_i2l, mm_l2i, mm_ltJ, mm_leJ, mm_eqJ, mm_clt, mm_cle, mm_cgt, mm_cge, mm_ceq, mm_b, mm_nb, mm_nb0, mm_nb1, mm_vb0, mm_vb1, mm_vbc, mm_vy0, mm_vy1, mm_at, mm_ne, mm_nj, mm_Lw, mm_Nw, mm_atJ, mm_neJ, mm_njJ, zbI_s, zbV_s, zbJ_s, cond_t, Bool.true_and, Bool.and_true, if_true, if_false, not_true, not_false_iff, Classical.not_not, zel_r, zel_42, zel_12, zel_71, zel_80, zel_89, zel_110, zel_188, zel_103, zel_195, zr_o, zr_1, zr_2, zr_3, zr_4, zr_5, zr_6, zr_7, zr_8, zr_9, zq_o, zq_v, zt_o, zt_1, zt_2, zt_3, zt_4, zt_5, zf_o, zf_1, za_w1, za_w2, za_w3, za_cm, za_sl, Int.toNat_natCast, Int.toNat_natCast_add_one, mm_t0, mm_t1, mm_t2, mm_t3, mm_t4, mm_t5, mm_t6, mm_t7, mm_t8, mm_t9, mm_t10, mm_t11, mm_t12, mm_t13, za_1, za_64, za_65, za_66, za_67, za_68, za_71, za_80, za_89, za_98, za_103, za_110, za_121, za_122, za_123, za_124, za_125, za_126, za_188, za_193, za_194, za_195, za_286, za_288, za_289, za_290, za_291, za_292, za_293, za_294, za_295, za_296, za_297, za_298, za_299, za_300, za_301, za_302, za_303, za_304, za_305, za_306, za_307, za_308, za_309, za_310, za_311, za_312, hv]
                     first | done | omega) ?_
    exact zwp_ret ⟨rfl, rfl⟩
  | k + 1, x, e, hz => by
    have h9 := hW.1.2.2.1
    have ez : zcnt P (x + 1) = zcnt P x + (if P x = true then 1 else 0) := rfl
    have rz := zcnt_rng P x
    have ef : zfst (fun x => P x && decide (zcnt P x.toNat = n)) (k + 1) x = if (P x && decide (zcnt P (x : Int).toNat = n)) = true then (x : Int) else zfst (fun x => P x && decide (zcnt P x.toNat = n)) k ((x : Int) + 1) := rfl
    rw [ef, Int.toNat_natCast] at hz
    obtain ⟨f1, f2⟩ := hr x (by omega)
    refine zwp_of (fun r h => ze_264_37 _ _ _ _ r h) ?_
    refine zwp_cd (by simp (disch := first | assumption | exact isR33 | exact isT104 | exact isF99 | exact isF101 | exact isR3 | omega | (refine isTk ?_; omega) | (refine isOk isR33 ?_; omega) | (refine isOk ?_ ?_; assumption; omega)) only [mm_r, mm_rl, mm_add, mm_sub, mm_mul, mm_addJ, mm_mulJ, mm_lt, mm_le, mm_eq, mm_z, mm_cl, mm_w, mm_wl, mm_ite, mm_i2l, mm_l2i, mm_ltJ, mm_leJ, mm_eqJ, mm_clt, mm_cle, mm_cgt, mm_cge, mm_ceq, mm_b, mm_nb, mm_nb0, mm_nb1, mm_vb0, mm_vb1, mm_vbc, mm_vy0, mm_vy1, mm_at, mm_ne, mm_nj, mm_Lw, mm_Nw, mm_atJ, mm_neJ, mm_njJ, zbI_s, zbV_s, zbJ_s, cond_t, Bool.true_and, Bool.and_true, if_true, if_false, not_true, not_false_iff, Classical.not_not, zel_r, zel_42, zel_12, zel_71, zel_80, zel_89, zel_110, zel_188, zel_103, zel_195, zr_o, zr_1, zr_2, zr_3, zr_4, zr_5, zr_6, zr_7, zr_8, zr_9, zq_o, zq_v, zt_o, zt_1, zt_2, zt_3, zt_4, zt_5, zf_o, zf_1, za_w1, za_w2, za_w3, za_cm, za_sl, Int.toNat_natCast, Int.toNat_natCast_add_one, mm_t0, mm_t1, mm_t2, mm_t3, mm_t4, mm_t5, mm_t6, mm_t7, mm_t8, mm_t9, mm_t10, mm_t11, mm_t12, mm_t13, za_1, za_64, za_65, za_66, za_67, za_68, za_71, za_80, za_89, za_98, za_103, za_110, za_121, za_122, za_123, za_124, za_125, za_126, za_188, za_193, za_194, za_195, za_286, za_288, za_289, za_290, za_291, za_292, za_293, za_294, za_295, za_296, za_297, za_298, za_299, za_300, za_301, za_302, za_303, za_304, za_305, za_306, za_307, za_308, za_309, za_310, za_311, za_312]) ?_
    refine zwp_f (by try simp (disch := first | assumption | exact isR33 | exact isT104 | exact isF99 | exact isF101 | exact isR3 | omega | (refine isTk ?_; omega) | (refine isOk isR33 ?_; omega) | (refine isOk ?_ ?_; assumption; omega)) only [mm_r, mm_rl, mm_add, mm_sub, mm_mul, mm_addJ, mm_mulJ, mm_lt, mm_le, mm_eq, mm_z, mm_cl, mm_w, mm_wl, mm_ite, mm_i2l, mm_l2i, mm_ltJ, mm_leJ, mm_eqJ, mm_clt, mm_cle, mm_cgt, mm_cge, mm_ceq, mm_b, mm_nb, mm_nb0, mm_nb1, mm_vb0, mm_vb1, mm_vbc, mm_vy0, mm_vy1, mm_at, mm_ne, mm_nj, mm_Lw, mm_Nw, mm_atJ, mm_neJ, mm_njJ, zbI_s, zbV_s, zbJ_s, cond_t, Bool.true_and, Bool.and_true, if_true, if_false, not_true, not_false_iff, Classical.not_not, zel_r, zel_42, zel_12, zel_71, zel_80, zel_89, zel_110, zel_188, zel_103, zel_195, zr_o, zr_1, zr_2, zr_3, zr_4, zr_5, zr_6, zr_7, zr_8, zr_9, zq_o, zq_v, zt_o, zt_1, zt_2, zt_3, zt_4, zt_5, zf_o, zf_1, za_w1, za_w2, za_w3, za_cm, za_sl, Int.toNat_natCast, Int.toNat_natCast_add_one, mm_t0, mm_t1, mm_t2, mm_t3, mm_t4, mm_t5, mm_t6, mm_t7, mm_t8, mm_t9, mm_t10, mm_t11, mm_t12, mm_t13, za_1, za_64, za_65, za_66, za_67, za_68, za_71, za_80, za_89, za_98, za_103, za_110, za_121, za_122, za_123, za_124, za_125, za_126, za_188, za_193, za_194, za_195, za_286, za_288, za_289, za_290, za_291, za_292, za_293, za_294, za_295, za_296, za_297, za_298, za_299, za_300, za_301, za_302, za_303, za_304, za_305, za_306, za_307, za_308, za_309, za_310, za_311, za_312, hv]
                     first | done | omega) ?_
    refine zwp_cd (za_306 (by omega) (by omega)) ?_
    rw [mm_cl (by omega) (by omega), Int.toNat_natCast, mm_r, f1]
    by_cases q : P x = true
    · rw [if_pos q] at ez
      refine zwp_t (by rw [if_pos q]; decide) ?_
      by_cases z : zcnt P x = n
      · rw [q, decide_eq_true z, Bool.true_and, if_pos rfl] at hz
        refine zwp_f (by rw [z]; exact fun p => p rfl) ?_
        rw [hz]
        exact zwp_ret ⟨rfl, rfl⟩
      · rw [decide_eq_false z, Bool.and_false, if_neg (by decide)] at hz
        refine zwp_t (by try simp (disch := first | assumption | exact isR33 | exact isT104 | exact isF99 | exact isF101 | exact isR3 | omega | (refine isTk ?_; omega) | (refine isOk isR33 ?_; omega) | (refine isOk ?_ ?_; assumption; omega)) only [mm_r, mm_rl, mm_add, mm_sub, mm_mul, mm_addJ, mm_mulJ, mm_lt, mm_le, mm_eq, mm_z, mm_cl, mm_w, mm_wl, mm_ite, mm_i2l, mm_l2i, mm_ltJ, mm_leJ, mm_eqJ, mm_clt, mm_cle, mm_cgt, mm_cge, mm_ceq, mm_b, mm_nb, mm_nb0, mm_nb1, mm_vb0, mm_vb1, mm_vbc, mm_vy0, mm_vy1, mm_at, mm_ne, mm_nj, mm_Lw, mm_Nw, mm_atJ, mm_neJ, mm_njJ, zbI_s, zbV_s, zbJ_s, cond_t, Bool.true_and, Bool.and_true, if_true, if_false, not_true, not_false_iff, Classical.not_not, zel_r, zel_42, zel_12, zel_71, zel_80, zel_89, zel_110, zel_188, zel_103, zel_195, zr_o, zr_1, zr_2, zr_3, zr_4, zr_5, zr_6, zr_7, zr_8, zr_9, zq_o, zq_v, zt_o, zt_1, zt_2, zt_3, zt_4, zt_5, zf_o, zf_1, za_w1, za_w2, za_w3, za_cm, za_sl, Int.toNat_natCast, Int.toNat_natCast_add_one, mm_t0, mm_t1, mm_t2, mm_t3, mm_t4, mm_t5, mm_t6, mm_t7, mm_t8, mm_t9, mm_t10, mm_t11, mm_t12, mm_t13, za_1, za_64, za_65, za_66, za_67, za_68, za_71, za_80, za_89, za_98, za_103, za_110, za_121, za_122, za_123, za_124, za_125, za_126, za_188, za_193, za_194, za_195, za_286, za_288, za_289, za_290, za_291, za_292, za_293, za_294, za_295, za_296, za_297, za_298, za_299, za_300, za_301, za_302, za_303, za_304, za_305, za_306, za_307, za_308, za_309, za_310, za_311, za_312]; first | done | omega) ?_
        rw [mm_add, mm_add, ← ez]
        exact lp_264 hW hv hr n0 n1 k (x + 1) (by omega) hz
    · rw [if_neg q, Int.add_zero] at ez
      rw [if_neg (by rw [Bool.and_eq_true]; exact fun p => q p.1)] at hz
      refine zwp_f (by rw [if_neg q]; decide) ?_
      rw [mm_add, ← ez]
      exact lp_264 hW hv hr n0 n1 k (x + 1) (by omega) hz
theorem rq_when {σ : zM} {W : Int → Int} {S : sls} {s o n : Int} (hB : rB0 σ W) (hS : slM σ S) (hw : slW S) (s0 : -2147483648 ≤ s) (s1 : s < 2147483648) (o0 : -2147483648 ≤ o) (o1 : o < 2147483648) (n0 : -2147483648 ≤ n) (n1 : n < 2147483648) : zwp (zcall 264 [.ref 287, .int (Int32.ofInt s), .int (Int32.ofInt o), .int (Int32.ofInt n)] σ) (fun v τ => v = some (.int (Int32.ofInt (Ewh W S s o n))) ∧ rK σ τ) := by
  have e5 : zN σ 288 5 = W 5 := wv_k hB.1 5
  have h5 := hB.2.1.2.2.1
  have h1 := hB.2.1.1.2.1
  have r := Eq0_rng W S s o
  have so := sp_170 (n := o) (σ := σ) (by omega) (by omega) (by omega)
  rw [e5] at so
  refine zwp_of (fun r h => zcc_264 (ze_264_0 _ _ _ _ r h)) ?_
  rw [mm_i2l o0 o1, so, zbI_s]
  refine zwp_IE (sp_260 hB.2.1 hB.1 hS hw s0 s1) ?_
  rintro τ rfl
  by_cases q : Eq0 W S s o = 0
  · rw [show Ewh W S s o n = nth (agB W S s o) (W 1).toNat n from if_pos q]
    refine zwp_t (by rw [q]; decide) ?_
    refine zwp_IE (sp_262 hB hS hw q (by decide) (by decide) (by decide) (by decide) (by decide) (by decide)) ?_
    rintro υ ⟨hk, hr⟩
    refine zwp_mono (lp_264 hB.2.1 (wv_k (hk.2.2.trans hB.1) 1) hr n0 n1 (W 1).toNat 0 (by omega) rfl) ?_
    rintro v τ ⟨rfl, rfl⟩
    exact ⟨rfl, hk⟩
  · rw [show Ewh W S s o n = Eq0 W S s o from if_neg q]
    refine zwp_f (by try simp (disch := first | assumption | exact isR33 | exact isT104 | exact isF99 | exact isF101 | exact isR3 | omega | (refine isTk ?_; omega) | (refine isOk isR33 ?_; omega) | (refine isOk ?_ ?_; assumption; omega)) only [mm_r, mm_rl, mm_add, mm_sub, mm_mul, mm_addJ, mm_mulJ, mm_lt, mm_le, mm_eq, mm_z, mm_cl, mm_w, mm_wl, mm_ite, mm_i2l, mm_l2i, mm_ltJ, mm_leJ, mm_eqJ, mm_clt, mm_cle, mm_cgt, mm_cge, mm_ceq, mm_b, mm_nb, mm_nb0, mm_nb1, mm_vb0, mm_vb1, mm_vbc, mm_vy0, mm_vy1, mm_at, mm_ne, mm_nj, mm_Lw, mm_Nw, mm_atJ, mm_neJ, mm_njJ, zbI_s, zbV_s, zbJ_s, cond_t, Bool.true_and, Bool.and_true, if_true, if_false, not_true, not_false_iff, Classical.not_not, zel_r, zel_42, zel_12, zel_71, zel_80, zel_89, zel_110, zel_188, zel_103, zel_195, zr_o, zr_1, zr_2, zr_3, zr_4, zr_5, zr_6, zr_7, zr_8, zr_9, zq_o, zq_v, zt_o, zt_1, zt_2, zt_3, zt_4, zt_5, zf_o, zf_1, za_w1, za_w2, za_w3, za_cm, za_sl, Int.toNat_natCast, Int.toNat_natCast_add_one, mm_t0, mm_t1, mm_t2, mm_t3, mm_t4, mm_t5, mm_t6, mm_t7, mm_t8, mm_t9, mm_t10, mm_t11, mm_t12, mm_t13, za_1, za_64, za_65, za_66, za_67, za_68, za_71, za_80, za_89, za_98, za_103, za_110, za_121, za_122, za_123, za_124, za_125, za_126, za_188, za_193, za_194, za_195, za_286, za_288, za_289, za_290, za_291, za_292, za_293, za_294, za_295, za_296, za_297, za_298, za_299, za_300, za_301, za_302, za_303, za_304, za_305, za_306, za_307, za_308, za_309, za_310, za_311, za_312]; first | done | omega) ?_
    exact zwp_ret ⟨rfl, rK.rf⟩
