/-! CALLS: agree, when, sure: the class -/
def qkB (W : Int → Int) (V : Int → Int) : Nat → Int → Bool
  | 0, _ => true
  | k + 1, i => decide (inT W (V i)) && (decide (0 ≤ V (i + 1) ∧ V (i + 1) < 3) && (decide (inH W (V (i + 2))) && qkB W V k (i + 4)))
theorem qkB_s {W : Int → Int} {V : Int → Int} {k : Nat} {i : Int} (h : qkB W V (k + 1) i = true) : inT W (V i) ∧ (0 ≤ V (i + 1) ∧ V (i + 1) < 3) ∧ inH W (V (i + 2)) ∧ qkB W V k (i + 4) = true := by
  have h' : (decide (inT W (V i)) && (decide (0 ≤ V (i + 1) ∧ V (i + 1) < 3) && (decide (inH W (V (i + 2))) && qkB W V k (i + 4)))) = true := h
  rw [Bool.and_eq_true, Bool.and_eq_true, Bool.and_eq_true] at h'
  exact ⟨of_decide_eq_true h'.1, of_decide_eq_true h'.2.1, of_decide_eq_true h'.2.2.1, h'.2.2.2⟩
/-- all answered so -/
def agq (W : Int → Int) (V c : Int → Int) : Nat → Int → Bool
  | 0, _ => true
  | k + 1, i => decide (HH W c (W 7) (V i) (V (i + 1)) (V (i + 2)) = V (i + 3)) && agq W V c k (i + 4)
def cS (W : Int → Int) (o x : Int) : Int → Int := cup (CM W noD) o (CMs W o x)
def agB (W : Int → Int) (S : sls) (s o x : Int) : Bool := agq W (S.2.2 s) (cS W o x) (S.1 s / 4).toNat 0
/-- what may be asked -/
def Eq0 (W : Int → Int) (S : sls) (s o : Int) : Int := if isSl s ∧ inO W o then (if S.1 s = -1 then -6 else if S.1 s % 4 = 0 ∧ qkB W (S.2.2 s) (S.1 s / 4).toNat 0 = true then 0 else -2) else -2
theorem Eq0_a {W : Int → Int} {S : sls} {s o : Int} (q : ¬ (isSl s ∧ inO W o)) : Eq0 W S s o = -2 := if_neg q
theorem Eq0_b {W : Int → Int} {S : sls} {s o : Int} (q : isSl s ∧ inO W o) (h : S.1 s = -1) : Eq0 W S s o = -6 := (if_pos q).trans (if_pos h)
theorem Eq0_c {W : Int → Int} {S : sls} {s o : Int} (q : isSl s ∧ inO W o) (h : S.1 s ≠ -1) (h2 : ¬ (S.1 s % 4 = 0 ∧ qkB W (S.2.2 s) (S.1 s / 4).toNat 0 = true)) : Eq0 W S s o = -2 := (if_pos q).trans ((if_neg h).trans (if_neg h2))
theorem Eq0_d {W : Int → Int} {S : sls} {s o : Int} (q : isSl s ∧ inO W o) (h : S.1 s ≠ -1) (h2 : S.1 s % 4 = 0 ∧ qkB W (S.2.2 s) (S.1 s / 4).toNat 0 = true) : Eq0 W S s o = 0 := (if_pos q).trans ((if_neg h).trans (if_pos h2))
theorem Eq0_z {W : Int → Int} {S : sls} {s o : Int} (h : Eq0 W S s o = 0) : (isSl s ∧ inO W o) ∧ S.1 s ≠ -1 ∧ S.1 s % 4 = 0 ∧ qkB W (S.2.2 s) (S.1 s / 4).toNat 0 = true := by
  by_cases q : isSl s ∧ inO W o
  · by_cases q2 : S.1 s = -1
    · rw [Eq0_b q q2] at h
      exact absurd h (by decide)
    · by_cases q3 : S.1 s % 4 = 0 ∧ qkB W (S.2.2 s) (S.1 s / 4).toNat 0 = true
      · exact ⟨q, q2, q3⟩
      · rw [Eq0_c q q2 q3] at h
        exact absurd h (by decide)
  · rw [Eq0_a q] at h
    exact absurd h (by decide)
theorem lp_153 {σ : zM} {W : Int → Int} {S : sls} {s : Int} (hW : WOK W) (hL : cL σ 33 W) (hS : slC σ S) (hw : slW S) (h : isSl s) : ∀ (k i : Nat), (i : Int) + 4 * k = S.1 s → zwp (zev 153 20 [some (.ref 0), some (.int (Int32.ofInt s)), some (.int (Int32.ofInt (S.1 s))), some (.int (Int32.ofInt i))] [] σ) (fun v τ => v = some (.int (Int32.ofInt (if qkB W (S.2.2 s) k i = true then 1 else 0))) ∧ τ = σ)
  | 0, i, e => by
    have r := hw s h.1 h.2
    refine zwp_of (fun r h => ze_153_20 _ _ _ _ r h) ?_
    refine zwp_t (by try simp (disch := first | assumption | exact isR33 | exact isT104 | exact isF99 | exact isF101 | exact isR3 | omega | (refine isTk ?_; omega) | (refine isOk isR33 ?_; omega) | (refine isOk ?_ ?_; assumption; omega)) only [mm_r, mm_rl, mm_add, mm_sub, mm_mul, mm_addJ, mm_mulJ, mm_lt, mm_le, mm_eq, mm_z, mm_cl, mm_w, mm_wl, mm_ite, mm_i2l, mm_l2i, mm_ltJ, mm_leJ, mm_eqJ, mm_clt, mm_cle, mm_cgt, mm_cge, mm_ceq, mm_b, mm_nb, mm_nb0, mm_nb1, mm_vb0, mm_vb1, mm_vbc, mm_vy0, mm_vy1, mm_at, mm_ne, mm_nj, mm_Lw, mm_Nw, mm_atJ, mm_neJ, mm_njJ, zbI_s, zbV_s, zbJ_s, cond_t, Bool.true_and, Bool.and_true, if_true, if_false, not_true, not_false_iff, Classical.not_not, zel_r, zel_42, zel_12, zel_71, zel_80, zel_89, zel_110, zel_188, zel_103, zel_195, zr_o, zr_1, zr_2, zr_3, zr_4, zr_5, zr_6, zr_7, zr_8, zr_9, zq_o, zq_v, zt_o, zt_1, zt_2, zt_3, zt_4, zt_5, zf_o, zf_1, za_w1, za_w2, za_w3, za_cm, za_sl, Int.toNat_natCast, Int.toNat_natCast_add_one, mm_t0, mm_t1, mm_t2, mm_t3, mm_t4, mm_t5, mm_t6, mm_t7, mm_t8, mm_t9, mm_t10, mm_t11, mm_t12, mm_t13, za_1, za_64, za_65, za_66, za_67, za_68, za_71, za_80, za_89, za_98, za_103, za_110, za_121, za_122, za_123, za_124, za_125, za_126, za_188, za_193, za_194, za_195, za_286, za_288, za_289, za_290, za_291, za_292, za_293, za_294, za_295, za_296, za_297, za_298, za_299, za_300, za_301, za_302, za_303, za_304, za_305, za_306, za_307, za_308, za_309, za_310, za_311, za_312]
                     first | done | omega) ?_
    simp (disch := first | assumption | exact isR33 | exact isT104 | exact isF99 | exact isF101 | exact isR3 | omega | (refine isTk ?_; omega) | (refine isOk isR33 ?_; omega) | (refine isOk ?_ ?_; assumption; omega)) only [mm_r, mm_rl, mm_add, mm_sub, mm_mul, mm_addJ, mm_mulJ, mm_lt, mm_le, mm_eq, mm_z, mm_cl, mm_w, mm_wl, mm_ite, mm_i2l, mm_l2i, mm_ltJ, mm_leJ, mm_eqJ, mm_clt, mm_cle, mm_cgt, mm_cge, mm_ceq, mm_b, mm_nb, mm_nb0, mm_nb1, mm_vb0, mm_vb1, mm_vbc, mm_vy0, mm_vy1, mm_at, mm_ne, mm_nj, mm_Lw, mm_Nw, mm_atJ, mm_neJ, mm_njJ, zbI_s, zbV_s, zbJ_s, cond_t, Bool.true_and, Bool.and_true, if_true, if_false, not_true, not_false_iff, Classical.not_not, zel_r, zel_42, zel_12, zel_71, zel_80, zel_89, zel_110, zel_188, zel_103, zel_195, zr_o, zr_1, zr_2, zr_3, zr_4, zr_5, zr_6, zr_7, zr_8, zr_9, zq_o, zq_v, zt_o, zt_1, zt_2, zt_3, zt_4, zt_5, zf_o, zf_1, za_w1, za_w2, za_w3, za_cm, za_sl, Int.toNat_natCast, Int.toNat_natCast_add_one, mm_t0, mm_t1, mm_t2, mm_t3, mm_t4, mm_t5, mm_t6, mm_t7, mm_t8, mm_t9, mm_t10, mm_t11, mm_t12, mm_t13, za_1, za_64, za_65, za_66, za_67, za_68, za_71, za_80, za_89, za_98, za_103, za_110, za_121, za_122, za_123, za_124, za_125, za_126, za_188, za_193, za_194, za_195, za_286, za_288, za_289, za_290, za_291, za_292, za_293, za_294, za_295, za_296, za_297, za_298, za_299, za_300, za_301, za_302, za_303, za_304, za_305, za_306, za_307, za_308, za_309, za_310, za_311, za_312]
    exact zwp_ret ⟨rfl, rfl⟩
  | k + 1, i, e => by
    have r := hw s h.1 h.2
    have e1 := hL.1.2.1
    have e2 := hL.1.2.2.1
    obtain ⟨g1, r1, r2⟩ := hS.at hw h (i := i) (by omega) (by omega)
    obtain ⟨g2, r3, r4⟩ := hS.at hw h (i := (i : Int) + 1) (by omega) (by omega)
    obtain ⟨g3, r5, r6⟩ := hS.at hw h (i := (i : Int) + 2) (by omega) (by omega)
    have s1 := sp_77 (p := 33) (n := S.2.2 s i) (σ := σ) isR33 r1 r2
    have s3 := sp_78 (p := 33) (n := S.2.2 s ((i : Int) + 2)) (σ := σ) isR33 r5 r6
    rw [e1] at s1
    rw [e2] at s3
    have eb : qkB W (S.2.2 s) (k + 1) i = (decide (inT W (S.2.2 s i)) && (decide (0 ≤ S.2.2 s ((i : Int) + 1) ∧ S.2.2 s ((i : Int) + 1) < 3) && (decide (inH W (S.2.2 s ((i : Int) + 2))) && qkB W (S.2.2 s) k ((i : Int) + 4)))) := rfl
    refine zwp_of (fun r h => ze_153_20 _ _ _ _ r h) ?_
    refine zwp_f (by try simp (disch := first | assumption | exact isR33 | exact isT104 | exact isF99 | exact isF101 | exact isR3 | omega | (refine isTk ?_; omega) | (refine isOk isR33 ?_; omega) | (refine isOk ?_ ?_; assumption; omega)) only [mm_r, mm_rl, mm_add, mm_sub, mm_mul, mm_addJ, mm_mulJ, mm_lt, mm_le, mm_eq, mm_z, mm_cl, mm_w, mm_wl, mm_ite, mm_i2l, mm_l2i, mm_ltJ, mm_leJ, mm_eqJ, mm_clt, mm_cle, mm_cgt, mm_cge, mm_ceq, mm_b, mm_nb, mm_nb0, mm_nb1, mm_vb0, mm_vb1, mm_vbc, mm_vy0, mm_vy1, mm_at, mm_ne, mm_nj, mm_Lw, mm_Nw, mm_atJ, mm_neJ, mm_njJ, zbI_s, zbV_s, zbJ_s, cond_t, Bool.true_and, Bool.and_true, if_true, if_false, not_true, not_false_iff, Classical.not_not, zel_r, zel_42, zel_12, zel_71, zel_80, zel_89, zel_110, zel_188, zel_103, zel_195, zr_o, zr_1, zr_2, zr_3, zr_4, zr_5, zr_6, zr_7, zr_8, zr_9, zq_o, zq_v, zt_o, zt_1, zt_2, zt_3, zt_4, zt_5, zf_o, zf_1, za_w1, za_w2, za_w3, za_cm, za_sl, Int.toNat_natCast, Int.toNat_natCast_add_one, mm_t0, mm_t1, mm_t2, mm_t3, mm_t4, mm_t5, mm_t6, mm_t7, mm_t8, mm_t9, mm_t10, mm_t11, mm_t12, mm_t13, za_1, za_64, za_65, za_66, za_67, za_68, za_71, za_80, za_89, za_98, za_103, za_110, za_121, za_122, za_123, za_124, za_125, za_126, za_188, za_193, za_194, za_195, za_286, za_288, za_289, za_290, za_291, za_292, za_293, za_294, za_295, za_296, za_297, za_298, za_299, za_300, za_301, za_302, za_303, za_304, za_305, za_306, za_307, za_308, za_309, za_310, za_311, za_312]
                     first | done | omega) ?_
    rw [g1, zbJ_s, s1, zbI_s]
    by_cases q : inT W (S.2.2 s i)
    · rw [if_pos q]
      refine zwp_f (by decide) ?_
      rw [mm_add, g2, zbJ_s, sp_155 r3 r4, zbI_s]
      by_cases q2 : 0 ≤ S.2.2 s ((i : Int) + 1) ∧ S.2.2 s ((i : Int) + 1) < 3
      · rw [if_pos q2]
        refine zwp_f (by decide) ?_
        rw [mm_add, g3, zbJ_s, s3, zbI_s]
        by_cases q3 : inH W (S.2.2 s ((i : Int) + 2))
        · rw [if_pos q3]
          refine zwp_t (by decide) ?_
          rw [eb, decide_eq_true q, decide_eq_true q2, decide_eq_true q3, Bool.true_and, Bool.true_and, Bool.true_and, mm_add]
          exact lp_153 hW hL hS hw h k (i + 4) (by omega)
        · rw [if_neg q3, eb, decide_eq_false q3, Bool.false_and, Bool.and_false, Bool.and_false]
          refine zwp_f (by decide) ?_
          simp (disch := first | assumption | exact isR33 | exact isT104 | exact isF99 | exact isF101 | exact isR3 | omega | (refine isTk ?_; omega) | (refine isOk isR33 ?_; omega) | (refine isOk ?_ ?_; assumption; omega)) only [mm_r, mm_rl, mm_add, mm_sub, mm_mul, mm_addJ, mm_mulJ, mm_lt, mm_le, mm_eq, mm_z, mm_cl, mm_w, mm_wl, mm_ite, mm_i2l, mm_l2i, mm_ltJ, mm_leJ, mm_eqJ, mm_clt, mm_cle, mm_cgt, mm_cge, mm_ceq, mm_b, mm_nb, mm_nb0, mm_nb1, mm_vb0, mm_vb1, mm_vbc, mm_vy0, mm_vy1, mm_at, mm_ne, mm_nj, mm_Lw, mm_Nw, mm_atJ, mm_neJ, mm_njJ, zbI_s, zbV_s, zbJ_s, cond_t, Bool.true_and, Bool.and_true, if_true, if_false, not_true, not_false_iff, Classical.not_not, zel_r, zel_42, zel_12, zel_71, zel_80, zel_89, zel_110, zel_188, zel_103, zel_195, zr_o, zr_1, zr_2, zr_3, zr_4, zr_5, zr_6, zr_7, zr_8, zr_9, zq_o, zq_v, zt_o, zt_1, zt_2, zt_3, zt_4, zt_5, zf_o, zf_1, za_w1, za_w2, za_w3, za_cm, za_sl, Int.toNat_natCast, Int.toNat_natCast_add_one, mm_t0, mm_t1, mm_t2, mm_t3, mm_t4, mm_t5, mm_t6, mm_t7, mm_t8, mm_t9, mm_t10, mm_t11, mm_t12, mm_t13, za_1, za_64, za_65, za_66, za_67, za_68, za_71, za_80, za_89, za_98, za_103, za_110, za_121, za_122, za_123, za_124, za_125, za_126, za_188, za_193, za_194, za_195, za_286, za_288, za_289, za_290, za_291, za_292, za_293, za_294, za_295, za_296, za_297, za_298, za_299, za_300, za_301, za_302, za_303, za_304, za_305, za_306, za_307, za_308, za_309, za_310, za_311, za_312]
          exact zwp_ret ⟨rfl, rfl⟩
      · rw [if_neg q2, eb, decide_eq_false q2, Bool.false_and, Bool.and_false]
        refine zwp_t (by decide) ?_
        simp (disch := first | assumption | exact isR33 | exact isT104 | exact isF99 | exact isF101 | exact isR3 | omega | (refine isTk ?_; omega) | (refine isOk isR33 ?_; omega) | (refine isOk ?_ ?_; assumption; omega)) only [mm_r, mm_rl, mm_add, mm_sub, mm_mul, mm_addJ, mm_mulJ, mm_lt, mm_le, mm_eq, mm_z, mm_cl, mm_w, mm_wl, mm_ite, mm_i2l, mm_l2i, mm_ltJ, mm_leJ, mm_eqJ, mm_clt, mm_cle, mm_cgt, mm_cge, mm_ceq, mm_b, mm_nb, mm_nb0, mm_nb1, mm_vb0, mm_vb1, mm_vbc, mm_vy0, mm_vy1, mm_at, mm_ne, mm_nj, mm_Lw, mm_Nw, mm_atJ, mm_neJ, mm_njJ, zbI_s, zbV_s, zbJ_s, cond_t, Bool.true_and, Bool.and_true, if_true, if_false, not_true, not_false_iff, Classical.not_not, zel_r, zel_42, zel_12, zel_71, zel_80, zel_89, zel_110, zel_188, zel_103, zel_195, zr_o, zr_1, zr_2, zr_3, zr_4, zr_5, zr_6, zr_7, zr_8, zr_9, zq_o, zq_v, zt_o, zt_1, zt_2, zt_3, zt_4, zt_5, zf_o, zf_1, za_w1, za_w2, za_w3, za_cm, za_sl, Int.toNat_natCast, Int.toNat_natCast_add_one, mm_t0, mm_t1, mm_t2, mm_t3, mm_t4, mm_t5, mm_t6, mm_t7, mm_t8, mm_t9, mm_t10, mm_t11, mm_t12, mm_t13, za_1, za_64, za_65, za_66, za_67, za_68, za_71, za_80, za_89, za_98, za_103, za_110, za_121, za_122, za_123, za_124, za_125, za_126, za_188, za_193, za_194, za_195, za_286, za_288, za_289, za_290, za_291, za_292, za_293, za_294, za_295, za_296, za_297, za_298, za_299, za_300, za_301, za_302, za_303, za_304, za_305, za_306, za_307, za_308, za_309, za_310, za_311, za_312]
        exact zwp_ret ⟨rfl, rfl⟩
    · rw [if_neg q, eb, decide_eq_false q, Bool.false_and]
      refine zwp_t (by decide) ?_
      simp (disch := first | assumption | exact isR33 | exact isT104 | exact isF99 | exact isF101 | exact isR3 | omega | (refine isTk ?_; omega) | (refine isOk isR33 ?_; omega) | (refine isOk ?_ ?_; assumption; omega)) only [mm_r, mm_rl, mm_add, mm_sub, mm_mul, mm_addJ, mm_mulJ, mm_lt, mm_le, mm_eq, mm_z, mm_cl, mm_w, mm_wl, mm_ite, mm_i2l, mm_l2i, mm_ltJ, mm_leJ, mm_eqJ, mm_clt, mm_cle, mm_cgt, mm_cge, mm_ceq, mm_b, mm_nb, mm_nb0, mm_nb1, mm_vb0, mm_vb1, mm_vbc, mm_vy0, mm_vy1, mm_at, mm_ne, mm_nj, mm_Lw, mm_Nw, mm_atJ, mm_neJ, mm_njJ, zbI_s, zbV_s, zbJ_s, cond_t, Bool.true_and, Bool.and_true, if_true, if_false, not_true, not_false_iff, Classical.not_not, zel_r, zel_42, zel_12, zel_71, zel_80, zel_89, zel_110, zel_188, zel_103, zel_195, zr_o, zr_1, zr_2, zr_3, zr_4, zr_5, zr_6, zr_7, zr_8, zr_9, zq_o, zq_v, zt_o, zt_1, zt_2, zt_3, zt_4, zt_5, zf_o, zf_1, za_w1, za_w2, za_w3, za_cm, za_sl, Int.toNat_natCast, Int.toNat_natCast_add_one, mm_t0, mm_t1, mm_t2, mm_t3, mm_t4, mm_t5, mm_t6, mm_t7, mm_t8, mm_t9, mm_t10, mm_t11, mm_t12, mm_t13, za_1, za_64, za_65, za_66, za_67, za_68, za_71, za_80, za_89, za_98, za_103, za_110, za_121, za_122, za_123, za_124, za_125, za_126, za_188, za_193, za_194, za_195, za_286, za_288, za_289, za_290, za_291, za_292, za_293, za_294, za_295, za_296, za_297, za_298, za_299, za_300, za_301, za_302, za_303, za_304, za_305, za_306, za_307, za_308, za_309, za_310, za_311, za_312]
      exact zwp_ret ⟨rfl, rfl⟩
theorem sp_153 {σ : zM} {W : Int → Int} {S : sls} {s : Int} (hW : WOK W) (hL : cL σ 33 W) (hS : slC σ S) (hw : slW S) (h : isSl s) (hn : S.1 s ≠ -1) : zwp (zcall 153 [.ref 0, .int (Int32.ofInt s)] σ) (fun v τ => v = some (.int (Int32.ofInt (if S.1 s % 4 = 0 ∧ qkB W (S.2.2 s) (S.1 s / 4).toNat 0 = true then 1 else 0))) ∧ τ = σ) := by
  have r := hw s h.1 h.2
  have e := (hS s h.1 h.2).1
  refine zwp_of (fun r h => zcc_153 (ze_153_0 _ _ r h)) ?_
  refine zwp_cd (za_194 h.1 h.2) ?_
  refine zwp_f (by decide) ?_
  rw [mm_cl (by omega) (by omega), mm_r, e]
  by_cases q : S.1 s % 4 = 0
  · refine zwp_t ((rem4i (by omega) (by omega)).mpr q) ?_
    refine zwp_mono (lp_153 hW hL hS hw h (S.1 s / 4).toNat 0 (by omega)) ?_
    rintro v τ ⟨rfl, rfl⟩
    refine ⟨?_, rfl⟩
    by_cases z : qkB W (S.2.2 s) (S.1 s / 4).toNat 0 = true
    · have A : (if S.1 s % 4 = 0 ∧ qkB W (S.2.2 s) (S.1 s / 4).toNat 0 = true then (1 : Int) else 0) = 1 := if_pos ⟨q, z⟩
      have B : (if qkB W (S.2.2 s) (S.1 s / 4).toNat ((0 : Nat) : Int) = true then (1 : Int) else 0) = 1 := if_pos z
      rw [A, B]
    · have A : (if S.1 s % 4 = 0 ∧ qkB W (S.2.2 s) (S.1 s / 4).toNat 0 = true then (1 : Int) else 0) = 0 := if_neg (fun p => z p.2)
      have B : (if qkB W (S.2.2 s) (S.1 s / 4).toNat ((0 : Nat) : Int) = true then (1 : Int) else 0) = 0 := if_neg z
      rw [A, B]
  · rw [if_neg (fun p => q p.1 : ¬ (S.1 s % 4 = 0 ∧ qkB W (S.2.2 s) (S.1 s / 4).toNat 0 = true))]
    refine zwp_f (fun p => q ((rem4i (by omega) (by omega)).mp p)) ?_
    simp (disch := first | assumption | exact isR33 | exact isT104 | exact isF99 | exact isF101 | exact isR3 | omega | (refine isTk ?_; omega) | (refine isOk isR33 ?_; omega) | (refine isOk ?_ ?_; assumption; omega)) only [mm_r, mm_rl, mm_add, mm_sub, mm_mul, mm_addJ, mm_mulJ, mm_lt, mm_le, mm_eq, mm_z, mm_cl, mm_w, mm_wl, mm_ite, mm_i2l, mm_l2i, mm_ltJ, mm_leJ, mm_eqJ, mm_clt, mm_cle, mm_cgt, mm_cge, mm_ceq, mm_b, mm_nb, mm_nb0, mm_nb1, mm_vb0, mm_vb1, mm_vbc, mm_vy0, mm_vy1, mm_at, mm_ne, mm_nj, mm_Lw, mm_Nw, mm_atJ, mm_neJ, mm_njJ, zbI_s, zbV_s, zbJ_s, cond_t, Bool.true_and, Bool.and_true, if_true, if_false, not_true, not_false_iff, Classical.not_not, zel_r, zel_42, zel_12, zel_71, zel_80, zel_89, zel_110, zel_188, zel_103, zel_195, zr_o, zr_1, zr_2, zr_3, zr_4, zr_5, zr_6, zr_7, zr_8, zr_9, zq_o, zq_v, zt_o, zt_1, zt_2, zt_3, zt_4, zt_5, zf_o, zf_1, za_w1, za_w2, za_w3, za_cm, za_sl, Int.toNat_natCast, Int.toNat_natCast_add_one, mm_t0, mm_t1, mm_t2, mm_t3, mm_t4, mm_t5, mm_t6, mm_t7, mm_t8, mm_t9, mm_t10, mm_t11, mm_t12, mm_t13, za_1, za_64, za_65, za_66, za_67, za_68, za_71, za_80, za_89, za_98, za_103, za_110, za_121, za_122, za_123, za_124, za_125, za_126, za_188, za_193, za_194, za_195, za_286, za_288, za_289, za_290, za_291, za_292, za_293, za_294, za_295, za_296, za_297, za_298, za_299, za_300, za_301, za_302, za_303, za_304, za_305, za_306, za_307, za_308, za_309, za_310, za_311, za_312]
    exact zwp_ret ⟨rfl, rfl⟩
theorem sp_154 {σ : zM} {W : Int → Int} {S : sls} {s o : Int} (hW : WOK W) (hC : ctC σ W) (hS : slC σ S) (hw : slW S) (s0 : -2147483648 ≤ s) (s1 : s < 2147483648) (o0 : -2147483648 ≤ o) (o1 : o < 2147483648) : zwp (zcall 154 [.ref 0, .int (Int32.ofInt s), .int (Int32.ofInt o)] σ) (fun v τ => v = some (.int (Int32.ofInt (Eq0 W S s o))) ∧ τ = σ) := by
  have e7 := hC.1.1.2.2.2.2.2.2.2
  have so := sp_79 (p := 33) (n := o) (σ := σ) isR33 (by omega) (by omega)
  rw [e7] at so
  refine zwp_of (fun r h => zcc_154 (ze_154_0 _ _ _ r h)) ?_
  rw [sp_82 s0 s1, zbI_s]
  by_cases q : isSl s
  · have r := hw s q.1 q.2
    have e := (hS s q.1 q.2).1
    rw [if_pos q]
    refine zwp_f (by decide) ?_
    rw [mm_i2l o0 o1, so, zbI_s]
    by_cases q2 : inO W o
    · rw [if_pos q2]
      refine zwp_t (by decide) ?_
      rw [sp_83 q.1 q.2, zbI_s, e]
      by_cases q3 : S.1 s = -1
      · rw [Eq0_b ⟨q, q2⟩ q3, if_neg (show ¬ (S.1 s ≠ -1) from fun p => p q3)]
        refine zwp_f (by decide) ?_
        exact zwp_ret ⟨rfl, rfl⟩
      · rw [if_pos q3]
        refine zwp_t (by decide) ?_
        refine zwp_IE (sp_153 hW hC.1 hS hw q q3) ?_
        rintro τ rfl
        by_cases q4 : S.1 s % 4 = 0 ∧ qkB W (S.2.2 s) (S.1 s / 4).toNat 0 = true
        · rw [Eq0_d ⟨q, q2⟩ q3 q4, if_pos q4]
          refine zwp_f (by decide) ?_
          exact zwp_ret ⟨rfl, rfl⟩
        · rw [Eq0_c ⟨q, q2⟩ q3 q4, if_neg q4]
          refine zwp_t (by decide) ?_
          exact zwp_ret ⟨rfl, rfl⟩
    · rw [Eq0_a (fun p => q2 p.2), if_neg q2]
      refine zwp_f (by decide) ?_
      exact zwp_ret ⟨rfl, rfl⟩
  · rw [Eq0_a (fun p => q p.1), if_neg q]
    refine zwp_t (by decide) ?_
    exact zwp_ret ⟨rfl, rfl⟩
theorem lp_36 {σ0 : zM} {W : Int → Int} {S : sls} {s o x : Int} (hW : WOK W) (hw : slW S) (h : isSl s) (o0 : 0 ≤ o) (o1 : o < W 5) (x0 : 0 ≤ x) (x1 : x < W 1) : ∀ (k i : Nat) (σ : zM), (i : Int) + 4 * k = S.1 s → qkB W (S.2.2 s) k i = true → same σ0 σ → ctC σ W → slC σ S → zN σ 121 o.toNat ≠ 0 → zwp (zev 36 3 [some (.ref 69), some (.int (Int32.ofInt o)), some (.int (Int32.ofInt x)), some (.ref 187), some (.int (Int32.ofInt s)), some (.int (Int32.ofInt i)), none, none, none] [] σ) (fun v τ => v = some (.int (Int32.ofInt (if agq W (S.2.2 s) (cS W o x) k i = true then 1 else 0))) ∧ same σ0 τ)
  | 0, i, σ, e, hb, hs, hC, hS, hl => by
    have r := hw s h.1 h.2
    have e9 := (hS s h.1 h.2).1
    refine zwp_of (fun r h => ze_36_3 _ _ _ _ _ r h) ?_
    refine zwp_cd (za_194 h.1 h.2) ?_
    refine zwp_t (by try simp (disch := first | assumption | exact isR33 | exact isT104 | exact isF99 | exact isF101 | exact isR3 | omega | (refine isTk ?_; omega) | (refine isOk isR33 ?_; omega) | (refine isOk ?_ ?_; assumption; omega)) only [mm_r, mm_rl, mm_add, mm_sub, mm_mul, mm_addJ, mm_mulJ, mm_lt, mm_le, mm_eq, mm_z, mm_cl, mm_w, mm_wl, mm_ite, mm_i2l, mm_l2i, mm_ltJ, mm_leJ, mm_eqJ, mm_clt, mm_cle, mm_cgt, mm_cge, mm_ceq, mm_b, mm_nb, mm_nb0, mm_nb1, mm_vb0, mm_vb1, mm_vbc, mm_vy0, mm_vy1, mm_at, mm_ne, mm_nj, mm_Lw, mm_Nw, mm_atJ, mm_neJ, mm_njJ, zbI_s, zbV_s, zbJ_s, cond_t, Bool.true_and, Bool.and_true, if_true, if_false, not_true, not_false_iff, Classical.not_not, zel_r, zel_42, zel_12, zel_71, zel_80, zel_89, zel_110, zel_188, zel_103, zel_195, zr_o, zr_1, zr_2, zr_3, zr_4, zr_5, zr_6, zr_7, zr_8, zr_9, zq_o, zq_v, zt_o, zt_1, zt_2, zt_3, zt_4, zt_5, zf_o, zf_1, za_w1, za_w2, za_w3, za_cm, za_sl, Int.toNat_natCast, Int.toNat_natCast_add_one, mm_t0, mm_t1, mm_t2, mm_t3, mm_t4, mm_t5, mm_t6, mm_t7, mm_t8, mm_t9, mm_t10, mm_t11, mm_t12, mm_t13, za_1, za_64, za_65, za_66, za_67, za_68, za_71, za_80, za_89, za_98, za_103, za_110, za_121, za_122, za_123, za_124, za_125, za_126, za_188, za_193, za_194, za_195, za_286, za_288, za_289, za_290, za_291, za_292, za_293, za_294, za_295, za_296, za_297, za_298, za_299, za_300, za_301, za_302, za_303, za_304, za_305, za_306, za_307, za_308, za_309, za_310, za_311, za_312, e9]
                     first | done | omega) ?_
    simp (disch := first | assumption | exact isR33 | exact isT104 | exact isF99 | exact isF101 | exact isR3 | omega | (refine isTk ?_; omega) | (refine isOk isR33 ?_; omega) | (refine isOk ?_ ?_; assumption; omega)) only [mm_r, mm_rl, mm_add, mm_sub, mm_mul, mm_addJ, mm_mulJ, mm_lt, mm_le, mm_eq, mm_z, mm_cl, mm_w, mm_wl, mm_ite, mm_i2l, mm_l2i, mm_ltJ, mm_leJ, mm_eqJ, mm_clt, mm_cle, mm_cgt, mm_cge, mm_ceq, mm_b, mm_nb, mm_nb0, mm_nb1, mm_vb0, mm_vb1, mm_vbc, mm_vy0, mm_vy1, mm_at, mm_ne, mm_nj, mm_Lw, mm_Nw, mm_atJ, mm_neJ, mm_njJ, zbI_s, zbV_s, zbJ_s, cond_t, Bool.true_and, Bool.and_true, if_true, if_false, not_true, not_false_iff, Classical.not_not, zel_r, zel_42, zel_12, zel_71, zel_80, zel_89, zel_110, zel_188, zel_103, zel_195, zr_o, zr_1, zr_2, zr_3, zr_4, zr_5, zr_6, zr_7, zr_8, zr_9, zq_o, zq_v, zt_o, zt_1, zt_2, zt_3, zt_4, zt_5, zf_o, zf_1, za_w1, za_w2, za_w3, za_cm, za_sl, Int.toNat_natCast, Int.toNat_natCast_add_one, mm_t0, mm_t1, mm_t2, mm_t3, mm_t4, mm_t5, mm_t6, mm_t7, mm_t8, mm_t9, mm_t10, mm_t11, mm_t12, mm_t13, za_1, za_64, za_65, za_66, za_67, za_68, za_71, za_80, za_89, za_98, za_103, za_110, za_121, za_122, za_123, za_124, za_125, za_126, za_188, za_193, za_194, za_195, za_286, za_288, za_289, za_290, za_291, za_292, za_293, za_294, za_295, za_296, za_297, za_298, za_299, za_300, za_301, za_302, za_303, za_304, za_305, za_306, za_307, za_308, za_309, za_310, za_311, za_312]
    exact zwp_ret ⟨rfl, hs⟩
  | k + 1, i, σ, e, hb, hs, hC, hS, hl => by
    have r := hw s h.1 h.2
    have e9 := (hS s h.1 h.2).1
    have h9 := hW.1.2.2.1
    have h8 := hW.1.1.2.1
    obtain ⟨g1, r1, r2⟩ := hS.at hw h (i := i) (by omega) (by omega)
    obtain ⟨g2, r3, r4⟩ := hS.at hw h (i := (i : Int) + 1) (by omega) (by omega)
    obtain ⟨g3, r5, r6⟩ := hS.at hw h (i := (i : Int) + 2) (by omega) (by omega)
    obtain ⟨b1, b2, b3, b4⟩ := qkB_s hb
    have rr := HH_rng hW.un (cS W o x) (W 7) (S.2.2 s i) (S.2.2 s ((i : Int) + 1)) (S.2.2 s ((i : Int) + 2))
    have eb : agq W (S.2.2 s) (cS W o x) (k + 1) i = (decide (HH W (cS W o x) (W 7) (S.2.2 s i) (S.2.2 s ((i : Int) + 1)) (S.2.2 s ((i : Int) + 2)) = S.2.2 s ((i : Int) + 3)) && agq W (S.2.2 s) (cS W o x) k ((i : Int) + 4)) := rfl
    rw [eb]
    refine zwp_of (fun r h => ze_36_3 _ _ _ _ _ r h) ?_
    refine zwp_cd (za_194 h.1 h.2) ?_
    refine zwp_f (by try simp (disch := first | assumption | exact isR33 | exact isT104 | exact isF99 | exact isF101 | exact isR3 | omega | (refine isTk ?_; omega) | (refine isOk isR33 ?_; omega) | (refine isOk ?_ ?_; assumption; omega)) only [mm_r, mm_rl, mm_add, mm_sub, mm_mul, mm_addJ, mm_mulJ, mm_lt, mm_le, mm_eq, mm_z, mm_cl, mm_w, mm_wl, mm_ite, mm_i2l, mm_l2i, mm_ltJ, mm_leJ, mm_eqJ, mm_clt, mm_cle, mm_cgt, mm_cge, mm_ceq, mm_b, mm_nb, mm_nb0, mm_nb1, mm_vb0, mm_vb1, mm_vbc, mm_vy0, mm_vy1, mm_at, mm_ne, mm_nj, mm_Lw, mm_Nw, mm_atJ, mm_neJ, mm_njJ, zbI_s, zbV_s, zbJ_s, cond_t, Bool.true_and, Bool.and_true, if_true, if_false, not_true, not_false_iff, Classical.not_not, zel_r, zel_42, zel_12, zel_71, zel_80, zel_89, zel_110, zel_188, zel_103, zel_195, zr_o, zr_1, zr_2, zr_3, zr_4, zr_5, zr_6, zr_7, zr_8, zr_9, zq_o, zq_v, zt_o, zt_1, zt_2, zt_3, zt_4, zt_5, zf_o, zf_1, za_w1, za_w2, za_w3, za_cm, za_sl, Int.toNat_natCast, Int.toNat_natCast_add_one, mm_t0, mm_t1, mm_t2, mm_t3, mm_t4, mm_t5, mm_t6, mm_t7, mm_t8, mm_t9, mm_t10, mm_t11, mm_t12, mm_t13, za_1, za_64, za_65, za_66, za_67, za_68, za_71, za_80, za_89, za_98, za_103, za_110, za_121, za_122, za_123, za_124, za_125, za_126, za_188, za_193, za_194, za_195, za_286, za_288, za_289, za_290, za_291, za_292, za_293, za_294, za_295, za_296, za_297, za_298, za_299, za_300, za_301, za_302, za_303, za_304, za_305, za_306, za_307, za_308, za_309, za_310, za_311, za_312, e9]
                     first | done | omega) ?_
    rw [g1, zbJ_s, mm_add, g2, zbJ_s, mm_add, g3, zbJ_s, mm_l2i (by omega) (by omega), mm_l2i (by omega) (by omega), mm_l2i (by omega) (by omega)]
    refine zwp_IE (sp_23 (o := o) (s := x) hW hC o0 o1 hl (by omega) (by omega) (by omega) (by omega) (by omega) (by omega) (by omega) (by omega)) ?_
    intro τ hs2
    have hS2 : slC τ S := hS.fr (fun b _ => ⟨fun k => hs2.k b k, fun k => hs2.2.1 b (fun p => p) k⟩)
    obtain ⟨g4, r7, r8⟩ := hS2.at hw h (i := (i : Int) + 3) (by omega) (by omega)
    change zwp (zbJ _ _) _
    rw [mm_add, g4, zbJ_s]
    change zwp (if lg_cmp (Int32.ofInt (HH W (cS W o x) (W 7) (S.2.2 s i) (S.2.2 s ((i : Int) + 1)) (S.2.2 s ((i : Int) + 2)))).toInt64 (Int64.ofInt (S.2.2 s ((i : Int) + 3))) = 0 then _ else _) _
    rw [mm_i2l (by omega) (by omega)]
    by_cases q : HH W (cS W o x) (W 7) (S.2.2 s i) (S.2.2 s ((i : Int) + 1)) (S.2.2 s ((i : Int) + 2)) = S.2.2 s ((i : Int) + 3)
    · rw [decide_eq_true q, Bool.true_and]
      refine zwp_t (by rw [q]; exact (mm_ceq _ _).mpr rfl) ?_
      rw [mm_add]
      exact lp_36 hW hw h o0 o1 x0 x1 k (i + 4) τ (by omega) b4 (hs.tr hs2) (hs2.ct hW hC) hS2 (by rw [hs2.k]; exact hl)
    · rw [decide_eq_false q, Bool.false_and]
      refine zwp_f (fun p => q ?_) ?_
      · have p := (mm_ceq _ _).mp p
        rw [mm_eqJ (by omega) (by omega) (by omega) (by omega)] at p
        exact p
      · simp (disch := first | assumption | exact isR33 | exact isT104 | exact isF99 | exact isF101 | exact isR3 | omega | (refine isTk ?_; omega) | (refine isOk isR33 ?_; omega) | (refine isOk ?_ ?_; assumption; omega)) only [mm_r, mm_rl, mm_add, mm_sub, mm_mul, mm_addJ, mm_mulJ, mm_lt, mm_le, mm_eq, mm_z, mm_cl, mm_w, mm_wl, mm_ite, mm_i2l, mm_l2i, mm_ltJ, mm_leJ, mm_eqJ, mm_clt, mm_cle, mm_cgt, mm_cge, mm_ceq, mm_b, mm_nb, mm_nb0, mm_nb1, mm_vb0, mm_vb1, mm_vbc, mm_vy0, mm_vy1, mm_at, mm_ne, mm_nj, mm_Lw, mm_Nw, mm_atJ, mm_neJ, mm_njJ, zbI_s, zbV_s, zbJ_s, cond_t, Bool.true_and, Bool.and_true, if_true, if_false, not_true, not_false_iff, Classical.not_not, zel_r, zel_42, zel_12, zel_71, zel_80, zel_89, zel_110, zel_188, zel_103, zel_195, zr_o, zr_1, zr_2, zr_3, zr_4, zr_5, zr_6, zr_7, zr_8, zr_9, zq_o, zq_v, zt_o, zt_1, zt_2, zt_3, zt_4, zt_5, zf_o, zf_1, za_w1, za_w2, za_w3, za_cm, za_sl, Int.toNat_natCast, Int.toNat_natCast_add_one, mm_t0, mm_t1, mm_t2, mm_t3, mm_t4, mm_t5, mm_t6, mm_t7, mm_t8, mm_t9, mm_t10, mm_t11, mm_t12, mm_t13, za_1, za_64, za_65, za_66, za_67, za_68, za_71, za_80, za_89, za_98, za_103, za_110, za_121, za_122, za_123, za_124, za_125, za_126, za_188, za_193, za_194, za_195, za_286, za_288, za_289, za_290, za_291, za_292, za_293, za_294, za_295, za_296, za_297, za_298, za_299, za_300, za_301, za_302, za_303, za_304, za_305, za_306, za_307, za_308, za_309, za_310, za_311, za_312]
        exact zwp_ret ⟨rfl, hs.tr hs2⟩
/-- the hours that agree, in the class's row -/
def agR (σ : zM) (P : Int → Bool) (n : Nat) : Prop := ∀ y : Nat, y < n → P y = true → zN σ 126 (zcnt P y).toNat = y
theorem lp_35 {σ0 : zM} {W : Int → Int} {S : sls} {s o : Int} (hW : WOK W) (hw : slW S) (h : isSl s) (o0 : 0 ≤ o) (o1 : o < W 5) (h4 : S.1 s % 4 = 0) (hn : S.1 s ≠ -1) (hb : qkB W (S.2.2 s) (S.1 s / 4).toNat 0 = true) : ∀ (k x : Nat) (σ : zM), (x : Int) + k = W 1 → cK σ0 σ W → slC σ S → zN σ 121 o.toNat ≠ 0 → agR σ (agB W S s o) x → zwp (zev 35 11 [some (.ref 69), some (.int (Int32.ofInt o)), some (.ref 187), some (.int (Int32.ofInt s)), some (.int (Int32.ofInt (zcnt (agB W S s o) x))), some (.int (Int32.ofInt x))] [] σ) (fun v τ => v = some (.int (Int32.ofInt (zcnt (agB W S s o) (W 1).toNat))) ∧ cK σ0 τ W ∧ slC τ S ∧ zN τ 121 o.toNat ≠ 0 ∧ agR τ (agB W S s o) (W 1).toNat)
  | 0, x, σ, e, hk, hS, hl, hr => by
    have h9 := hW.1.2.2.1
    have e2 := hk.2.1.1.2.2.1
    obtain rfl : x = (W 1).toNat := by omega
    refine zwp_of (fun r h => ze_35_11 _ _ _ _ _ r h) ?_
    refine zwp_t (by try simp (disch := first | assumption | exact isR33 | exact isT104 | exact isF99 | exact isF101 | exact isR3 | omega | (refine isTk ?_; omega) | (refine isOk isR33 ?_; omega) | (refine isOk ?_ ?_; assumption; omega)) only [mm_r, mm_rl, mm_add, mm_sub, mm_mul, mm_addJ, mm_mulJ, mm_lt, mm_le, mm_eq, mm_z, mm_cl, mm_w, mm_wl, mm_ite, mm_i2l, mm_l2i, mm_ltJ, mm_leJ, mm_eqJ, mm_clt, mm_cle, mm_cgt, mm_cge, mm_ceq, mm_b, mm_nb, mm_nb0, mm_nb1, mm_vb0, mm_vb1, mm_vbc, mm_vy0, mm_vy1, mm_at, mm_ne, mm_nj, mm_Lw, mm_Nw, mm_atJ, mm_neJ, mm_njJ, zbI_s, zbV_s, zbJ_s, cond_t, Bool.true_and, Bool.and_true, if_true, if_false, not_true, not_false_iff, Classical.not_not, zel_r, zel_42, zel_12, zel_71, zel_80, zel_89, zel_110, zel_188, zel_103, zel_195, zr_o, zr_1, zr_2, zr_3, zr_4, zr_5, zr_6, zr_7, zr_8, zr_9, zq_o, zq_v, zt_o, zt_1, zt_2, zt_3, zt_4, zt_5, zf_o, zf_1, za_w1, za_w2, za_w3, za_cm, za_sl, Int.toNat_natCast, Int.toNat_natCast_add_one, mm_t0, mm_t1, mm_t2, mm_t3, mm_t4, mm_t5, mm_t6, mm_t7, mm_t8, mm_t9, mm_t10, mm_t11, mm_t12, mm_t13, za_1, za_64, za_65, za_66, za_67, za_68, za_71, za_80, za_89, za_98, za_103, za_110, za_121, za_122, za_123, za_124, za_125, za_126, za_188, za_193, za_194, za_195, za_286, za_288, za_289, za_290, za_291, za_292, za_293, za_294, za_295, za_296, za_297, za_298, za_299, za_300, za_301, za_302, za_303, za_304, za_305, za_306, za_307, za_308, za_309, za_310, za_311, za_312, e2]
                     first | done | omega) ?_
    exact zwp_ret ⟨rfl, hk, hS, hl, hr⟩
  | k + 1, x, σ, e, hk, hS, hl, hr => by
    have h9 := hW.1.2.2.1
    have r := hw s h.1 h.2
    have e2 := hk.2.1.1.2.2.1
    have rz := zcnt_rng (agB W S s o) x
    have ez : zcnt (agB W S s o) (x + 1) = zcnt (agB W S s o) x + (if agB W S s o x = true then 1 else 0) := rfl
    refine zwp_of (fun r h => ze_35_11 _ _ _ _ _ r h) ?_
    refine zwp_f (by try simp (disch := first | assumption | exact isR33 | exact isT104 | exact isF99 | exact isF101 | exact isR3 | omega | (refine isTk ?_; omega) | (refine isOk isR33 ?_; omega) | (refine isOk ?_ ?_; assumption; omega)) only [mm_r, mm_rl, mm_add, mm_sub, mm_mul, mm_addJ, mm_mulJ, mm_lt, mm_le, mm_eq, mm_z, mm_cl, mm_w, mm_wl, mm_ite, mm_i2l, mm_l2i, mm_ltJ, mm_leJ, mm_eqJ, mm_clt, mm_cle, mm_cgt, mm_cge, mm_ceq, mm_b, mm_nb, mm_nb0, mm_nb1, mm_vb0, mm_vb1, mm_vbc, mm_vy0, mm_vy1, mm_at, mm_ne, mm_nj, mm_Lw, mm_Nw, mm_atJ, mm_neJ, mm_njJ, zbI_s, zbV_s, zbJ_s, cond_t, Bool.true_and, Bool.and_true, if_true, if_false, not_true, not_false_iff, Classical.not_not, zel_r, zel_42, zel_12, zel_71, zel_80, zel_89, zel_110, zel_188, zel_103, zel_195, zr_o, zr_1, zr_2, zr_3, zr_4, zr_5, zr_6, zr_7, zr_8, zr_9, zq_o, zq_v, zt_o, zt_1, zt_2, zt_3, zt_4, zt_5, zf_o, zf_1, za_w1, za_w2, za_w3, za_cm, za_sl, Int.toNat_natCast, Int.toNat_natCast_add_one, mm_t0, mm_t1, mm_t2, mm_t3, mm_t4, mm_t5, mm_t6, mm_t7, mm_t8, mm_t9, mm_t10, mm_t11, mm_t12, mm_t13, za_1, za_64, za_65, za_66, za_67, za_68, za_71, za_80, za_89, za_98, za_103, za_110, za_121, za_122, za_123, za_124, za_125, za_126, za_188, za_193, za_194, za_195, za_286, za_288, za_289, za_290, za_291, za_292, za_293, za_294, za_295, za_296, za_297, za_298, za_299, za_300, za_301, za_302, za_303, za_304, za_305, za_306, za_307, za_308, za_309, za_310, za_311, za_312, e2]
                     first | done | omega) ?_
    refine zwp_IE (P := fun τ => same σ τ) (E := if agB W S s o x = true then 1 else 0) ?_ ?_
    · refine zwp_of (fun r h => zcc_36 (ze_36_0 _ _ _ _ r h)) ?_
      exact lp_36 (σ0 := σ) (x := x) hW hw h o0 o1 (by omega) (by omega) (S.1 s / 4).toNat 0 σ (by omega) hb same.rf hk.2 hS hl
    · intro τ hs
      have hk2 := hk.same hW hs
      have hS2 : slC τ S := hS.fr (fun b _ => ⟨fun k => hs.k b k, fun k => hs.2.1 b (fun p => p) k⟩)
      have hl2 : zN τ 121 o.toNat ≠ 0 := by rw [hs.k]; exact hl
      by_cases q : agB W S s o x = true
      · rw [if_pos q] at ez ⊢
        refine zwp_f (by decide) ?_
        refine zwp_cd (za_126 (by omega) (by omega)) ?_
        rw [mm_cl (by omega) (by omega), mm_w, mm_add, mm_add, ← ez]
        refine zwp_let ?_
        refine lp_35 hW hw h o0 o1 h4 hn hb k (x + 1) _ (by omega) ⟨hk2.1.zw 126 _ _ (by unfold clsS; omega), hk2.2.fr hW (fun b hb k => mm_ne (by omega))⟩ (hS2.fr (fun b hb => ⟨fun k => mm_ne (by unfold slcS at hb; omega), fun k => rfl⟩)) (by rw [mm_ne (by decide)]; exact hl2) (fun y hy hp => ?_)
        by_cases z : y = x
        · subst z
          exact mm_at rfl rfl (by omega) (by omega)
        · have lt : zcnt (agB W S s o) y < zcnt (agB W S s o) x := by
            have m : ∀ n : Nat, y < n → zcnt (agB W S s o) y < zcnt (agB W S s o) n := fun n => by
              induction n with
              | zero => intro q; omega
              | succ n ih =>
                intro q
                have en : zcnt (agB W S s o) (n + 1) = zcnt (agB W S s o) n + (if agB W S s o n = true then 1 else 0) := rfl
                by_cases yn : y = n
                · subst yn
                  rw [en, if_pos hp]
                  omega
                · have := ih (by omega)
                  rw [en]
                  split <;> omega
            exact m x (by omega)
          have r0 := zcnt_rng (agB W S s o) y
          rw [mm_nj (by omega), hs.k]
          exact hr y (by omega) hp
      · rw [if_neg q] at ez ⊢
        refine zwp_t (by decide) ?_
        rw [mm_add]
        have l := lp_35 hW hw h o0 o1 h4 hn hb k (x + 1) τ (by omega) hk2 hS2 hl2 (fun y hy hp => by
          by_cases z : y = x
          · subst z
            exact absurd hp q
          · rw [hs.k]
            exact hr y (by omega) hp)
        rw [ez, Int.add_zero] at l
        exact l
