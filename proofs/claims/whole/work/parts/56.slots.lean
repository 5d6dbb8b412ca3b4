/-! SLOTS: row, write, paste -/
abbrev sls : Type := (Int → Int) × (Int → Int) × (Int → Int → Int)
def slW (S : sls) : Prop := ∀ s, 0 ≤ s → s < 4 → -1 ≤ S.1 s ∧ S.1 s ≤ 60 ∧ 0 ≤ S.2.1 s ∧ S.2.1 s ≤ 3
def slC (σ : zM) (S : sls) : Prop := ∀ s, 0 ≤ s → s < 4 → zN σ 194 s.toNat = S.1 s ∧ zN σ 193 s.toNat = S.2.1 s ∧ ∀ i, 0 ≤ i → i < 60 → zL σ (189 + s.toNat) i.toNat = S.2.2 s i
def slM (σ : zM) (S : sls) : Prop := ∀ s, 0 ≤ s → s < 4 → zN σ 309 s.toNat = S.1 s ∧ zN σ 310 s.toNat = S.2.1 s ∧ ∀ i, 0 ≤ i → i < 60 → zL σ 311 (60 * s + i).toNat = S.2.2 s i
def slcS (b : Nat) : Prop := 189 ≤ b ∧ b ≤ 194
def slmS (b : Nat) : Prop := 309 ≤ b ∧ b ≤ 312
abbrev isSl (s : Int) : Prop := 0 ≤ s ∧ s < 4
theorem lp_281 {a N : Nat} {σ0 : zM} (hz : zsh[a]? = some (103, N)) (hN : N < 1000000) : ∀ (k i : Nat) (σ : zM), i + k = N → mf (fun b => b = a) σ0 σ → (∀ j : Nat, j < i → zL σ a j = 0) → zwp (zev 281 6 [some (.ref a), some (.long (Int64.ofInt 0)), none, some (.int (Int32.ofInt i)), some (.int (Int32.ofInt N))] [] σ) (fun v τ => v = none ∧ mf (fun b => b = a) σ0 τ ∧ ∀ j : Nat, j < N → zL τ a j = 0)
  | 0, i, σ, e, hf, h => by
    obtain rfl : i = N := by omega
    refine zwp_of (fun r h => ze_281_6 _ _ _ _ _ r h) ?_
    simp (disch := first | assumption | exact isR33 | exact isT104 | exact isF99 | exact isF101 | exact isR3 | omega | (refine isTk ?_; omega) | (refine isOk isR33 ?_; omega) | (refine isOk ?_ ?_; assumption; omega)) only [mm_r, mm_rl, mm_add, mm_sub, mm_mul, mm_addJ, mm_mulJ, mm_lt, mm_le, mm_eq, mm_z, mm_cl, mm_w, mm_wl, mm_ite, mm_i2l, mm_l2i, mm_ltJ, mm_leJ, mm_eqJ, mm_clt, mm_cle, mm_cgt, mm_cge, mm_ceq, mm_b, mm_nb, mm_nb0, mm_nb1, mm_vb0, mm_vb1, mm_vbc, mm_vy0, mm_vy1, mm_at, mm_ne, mm_nj, mm_Lw, mm_Nw, mm_atJ, mm_neJ, mm_njJ, zbI_s, zbV_s, zbJ_s, cond_t, Bool.true_and, Bool.and_true, if_true, if_false, not_true, not_false_iff, Classical.not_not, zel_r, zel_42, zel_12, zel_71, zel_80, zel_89, zel_110, zel_188, zel_103, zel_195, zr_o, zr_1, zr_2, zr_3, zr_4, zr_5, zr_6, zr_7, zr_8, zr_9, zq_o, zq_v, zt_o, zt_1, zt_2, zt_3, zt_4, zt_5, zf_o, zf_1, za_w1, za_w2, za_w3, za_cm, za_sl, Int.toNat_natCast, Int.toNat_natCast_add_one, mm_t0, mm_t1, mm_t2, mm_t3, mm_t4, mm_t5, mm_t6, mm_t7, mm_t8, mm_t9, mm_t10, mm_t11, mm_t12, mm_t13, za_1, za_64, za_65, za_66, za_67, za_68, za_71, za_80, za_89, za_98, za_103, za_110, za_121, za_122, za_123, za_124, za_125, za_126, za_188, za_193, za_194, za_195, za_286, za_288, za_289, za_290, za_291, za_292, za_293, za_294, za_295, za_296, za_297, za_298, za_299, za_300, za_301, za_302, za_303, za_304, za_305, za_306, za_307, za_308, za_309, za_310, za_311, za_312]
    rw [if_pos (by omega)]
    exact zwp_ret ⟨rfl, hf, h⟩
  | k + 1, i, σ, e, hf, h => by
    have hz2 : zarr a 103 (Int32.ofInt i) = true := zarr_of hz (by omega) (by omega) (by omega)
    refine zwp_of (fun r h => ze_281_6 _ _ _ _ _ r h) ?_
    simp (disch := first | assumption | exact isR33 | exact isT104 | exact isF99 | exact isF101 | exact isR3 | omega | (refine isTk ?_; omega) | (refine isOk isR33 ?_; omega) | (refine isOk ?_ ?_; assumption; omega)) only [mm_r, mm_rl, mm_add, mm_sub, mm_mul, mm_addJ, mm_mulJ, mm_lt, mm_le, mm_eq, mm_z, mm_cl, mm_w, mm_wl, mm_ite, mm_i2l, mm_l2i, mm_ltJ, mm_leJ, mm_eqJ, mm_clt, mm_cle, mm_cgt, mm_cge, mm_ceq, mm_b, mm_nb, mm_nb0, mm_nb1, mm_vb0, mm_vb1, mm_vbc, mm_vy0, mm_vy1, mm_at, mm_ne, mm_nj, mm_Lw, mm_Nw, mm_atJ, mm_neJ, mm_njJ, zbI_s, zbV_s, zbJ_s, cond_t, Bool.true_and, Bool.and_true, if_true, if_false, not_true, not_false_iff, Classical.not_not, zel_r, zel_42, zel_12, zel_71, zel_80, zel_89, zel_110, zel_188, zel_103, zel_195, zr_o, zr_1, zr_2, zr_3, zr_4, zr_5, zr_6, zr_7, zr_8, zr_9, zq_o, zq_v, zt_o, zt_1, zt_2, zt_3, zt_4, zt_5, zf_o, zf_1, za_w1, za_w2, za_w3, za_cm, za_sl, Int.toNat_natCast, Int.toNat_natCast_add_one, mm_t0, mm_t1, mm_t2, mm_t3, mm_t4, mm_t5, mm_t6, mm_t7, mm_t8, mm_t9, mm_t10, mm_t11, mm_t12, mm_t13, za_1, za_64, za_65, za_66, za_67, za_68, za_71, za_80, za_89, za_98, za_103, za_110, za_121, za_122, za_123, za_124, za_125, za_126, za_188, za_193, za_194, za_195, za_286, za_288, za_289, za_290, za_291, za_292, za_293, za_294, za_295, za_296, za_297, za_298, za_299, za_300, za_301, za_302, za_303, za_304, za_305, za_306, za_307, za_308, za_309, za_310, za_311, za_312, hz2]
    rw [if_neg (by omega)]
    refine zwp_let (lp_281 hz hN k (i + 1) _ (by omega) (hf.zwl _ _ _ rfl) (fun j hj => ?_))
    by_cases q : j = i
    · exact mm_atJ rfl q (by decide) (by decide)
    · rw [mm_njJ q]
      exact h j (by omega)
theorem sp_281 {a N : Nat} {σ : zM} (hz : zsh[a]? = some (103, N)) (hN : N < 1000000) : zwp (zcall 281 [.ref a, .long (Int64.ofInt 0)] σ) (fun v τ => v = none ∧ mf (fun b => b = a) σ τ ∧ ∀ j : Nat, j < N → zL τ a j = 0) := by
  have h1 : zrow a = true := by
    unfold zrow
    rw [hz]
    rfl
  have h2 : zlng a = N := by
    unfold zlng
    rw [hz]
  refine zwp_of (fun r h => zcc_281 (ze_281_0 _ _ _ r h)) ?_
  rw [h1, h2, cond_t, mm_nat]
  exact lp_281 hz hN N 0 σ (by omega) mf.rf (fun j hj => absurd hj (by omega))
/-- a slot anew -/
def sRow (S : sls) (s w n : Int) : sls := (fun k => if k = s then n else S.1 k, fun k => if k = s then w else S.2.1 k, fun k i => if k = s then 0 else S.2.2 k i)
theorem sRow_W {S : sls} (hW : slW S) {s w n : Int} (w0 : 0 ≤ w) (w1 : w ≤ 3) (n0 : 0 ≤ n) (n1 : n ≤ 60) : slW (sRow S s w n) := fun k k0 k1 => by
  have := hW k k0 k1
  show -1 ≤ (if k = s then n else S.1 k) ∧ (if k = s then n else S.1 k) ≤ 60 ∧ 0 ≤ (if k = s then w else S.2.1 k) ∧ (if k = s then w else S.2.1 k) ≤ 3
  by_cases q : k = s
  · rw [if_pos q, if_pos q]
    omega
  · rw [if_neg q, if_neg q]
    exact this
theorem sp_85 {s w n : Int} {σ : zM} {S : sls} (hS : slC σ S) (h : isSl s) (w0 : 0 ≤ w) (w1 : w ≤ 3) (n0 : 0 ≤ n) (n1 : n ≤ 60) : zwp (zcall 85 [.ref 187, .int (Int32.ofInt s), .int (Int32.ofInt w), .int (Int32.ofInt n)] σ) (fun v τ => v = none ∧ mf slcS σ τ ∧ slC τ (sRow S s w n)) := by
  have z := zo_s s.toNat (by omega)
  refine zwp_of (fun r h => zcc_85 (ze_85_0 _ _ _ _ r h)) ?_
  refine zwp_cd (by simp (disch := first | assumption | exact isR33 | exact isT104 | exact isF99 | exact isF101 | exact isR3 | omega | (refine isTk ?_; omega) | (refine isOk isR33 ?_; omega) | (refine isOk ?_ ?_; assumption; omega)) only [mm_r, mm_rl, mm_add, mm_sub, mm_mul, mm_addJ, mm_mulJ, mm_lt, mm_le, mm_eq, mm_z, mm_cl, mm_w, mm_wl, mm_ite, mm_i2l, mm_l2i, mm_ltJ, mm_leJ, mm_eqJ, mm_clt, mm_cle, mm_cgt, mm_cge, mm_ceq, mm_b, mm_nb, mm_nb0, mm_nb1, mm_vb0, mm_vb1, mm_vbc, mm_vy0, mm_vy1, mm_at, mm_ne, mm_nj, mm_Lw, mm_Nw, mm_atJ, mm_neJ, mm_njJ, zbI_s, zbV_s, zbJ_s, cond_t, Bool.true_and, Bool.and_true, if_true, if_false, not_true, not_false_iff, Classical.not_not, zel_r, zel_42, zel_12, zel_71, zel_80, zel_89, zel_110, zel_188, zel_103, zel_195, zr_o, zr_1, zr_2, zr_3, zr_4, zr_5, zr_6, zr_7, zr_8, zr_9, zq_o, zq_v, zt_o, zt_1, zt_2, zt_3, zt_4, zt_5, zf_o, zf_1, za_w1, za_w2, za_w3, za_cm, za_sl, Int.toNat_natCast, Int.toNat_natCast_add_one, mm_t0, mm_t1, mm_t2, mm_t3, mm_t4, mm_t5, mm_t6, mm_t7, mm_t8, mm_t9, mm_t10, mm_t11, mm_t12, mm_t13, za_1, za_64, za_65, za_66, za_67, za_68, za_71, za_80, za_89, za_98, za_103, za_110, za_121, za_122, za_123, za_124, za_125, za_126, za_188, za_193, za_194, za_195, za_286, za_288, za_289, za_290, za_291, za_292, za_293, za_294, za_295, za_296, za_297, za_298, za_299, za_300, za_301, za_302, za_303, za_304, za_305, za_306, za_307, za_308, za_309, za_310, za_311, za_312]) ?_
  rw [mm_cl (by omega) (by omega), zel_188]
  refine zwp_V _ (sp_281 z (by decide)) ?_
  rintro τ ⟨hf, hz⟩
  refine zwp_cd (by simp (disch := first | assumption | exact isR33 | exact isT104 | exact isF99 | exact isF101 | exact isR3 | omega | (refine isTk ?_; omega) | (refine isOk isR33 ?_; omega) | (refine isOk ?_ ?_; assumption; omega)) only [mm_r, mm_rl, mm_add, mm_sub, mm_mul, mm_addJ, mm_mulJ, mm_lt, mm_le, mm_eq, mm_z, mm_cl, mm_w, mm_wl, mm_ite, mm_i2l, mm_l2i, mm_ltJ, mm_leJ, mm_eqJ, mm_clt, mm_cle, mm_cgt, mm_cge, mm_ceq, mm_b, mm_nb, mm_nb0, mm_nb1, mm_vb0, mm_vb1, mm_vbc, mm_vy0, mm_vy1, mm_at, mm_ne, mm_nj, mm_Lw, mm_Nw, mm_atJ, mm_neJ, mm_njJ, zbI_s, zbV_s, zbJ_s, cond_t, Bool.true_and, Bool.and_true, if_true, if_false, not_true, not_false_iff, Classical.not_not, zel_r, zel_42, zel_12, zel_71, zel_80, zel_89, zel_110, zel_188, zel_103, zel_195, zr_o, zr_1, zr_2, zr_3, zr_4, zr_5, zr_6, zr_7, zr_8, zr_9, zq_o, zq_v, zt_o, zt_1, zt_2, zt_3, zt_4, zt_5, zf_o, zf_1, za_w1, za_w2, za_w3, za_cm, za_sl, Int.toNat_natCast, Int.toNat_natCast_add_one, mm_t0, mm_t1, mm_t2, mm_t3, mm_t4, mm_t5, mm_t6, mm_t7, mm_t8, mm_t9, mm_t10, mm_t11, mm_t12, mm_t13, za_1, za_64, za_65, za_66, za_67, za_68, za_71, za_80, za_89, za_98, za_103, za_110, za_121, za_122, za_123, za_124, za_125, za_126, za_188, za_193, za_194, za_195, za_286, za_288, za_289, za_290, za_291, za_292, za_293, za_294, za_295, za_296, za_297, za_298, za_299, za_300, za_301, za_302, za_303, za_304, za_305, za_306, za_307, za_308, za_309, za_310, za_311, za_312]) ?_
  refine zwp_letE (τ' := zw τ 193 s.toNat w) (by simp (disch := first | assumption | exact isR33 | exact isT104 | exact isF99 | exact isF101 | exact isR3 | omega | (refine isTk ?_; omega) | (refine isOk isR33 ?_; omega) | (refine isOk ?_ ?_; assumption; omega)) only [mm_r, mm_rl, mm_add, mm_sub, mm_mul, mm_addJ, mm_mulJ, mm_lt, mm_le, mm_eq, mm_z, mm_cl, mm_w, mm_wl, mm_ite, mm_i2l, mm_l2i, mm_ltJ, mm_leJ, mm_eqJ, mm_clt, mm_cle, mm_cgt, mm_cge, mm_ceq, mm_b, mm_nb, mm_nb0, mm_nb1, mm_vb0, mm_vb1, mm_vbc, mm_vy0, mm_vy1, mm_at, mm_ne, mm_nj, mm_Lw, mm_Nw, mm_atJ, mm_neJ, mm_njJ, zbI_s, zbV_s, zbJ_s, cond_t, Bool.true_and, Bool.and_true, if_true, if_false, not_true, not_false_iff, Classical.not_not, zel_r, zel_42, zel_12, zel_71, zel_80, zel_89, zel_110, zel_188, zel_103, zel_195, zr_o, zr_1, zr_2, zr_3, zr_4, zr_5, zr_6, zr_7, zr_8, zr_9, zq_o, zq_v, zt_o, zt_1, zt_2, zt_3, zt_4, zt_5, zf_o, zf_1, za_w1, za_w2, za_w3, za_cm, za_sl, Int.toNat_natCast, Int.toNat_natCast_add_one, mm_t0, mm_t1, mm_t2, mm_t3, mm_t4, mm_t5, mm_t6, mm_t7, mm_t8, mm_t9, mm_t10, mm_t11, mm_t12, mm_t13, za_1, za_64, za_65, za_66, za_67, za_68, za_71, za_80, za_89, za_98, za_103, za_110, za_121, za_122, za_123, za_124, za_125, za_126, za_188, za_193, za_194, za_195, za_286, za_288, za_289, za_290, za_291, za_292, za_293, za_294, za_295, za_296, za_297, za_298, za_299, za_300, za_301, za_302, za_303, za_304, za_305, za_306, za_307, za_308, za_309, za_310, za_311, za_312]) ?_
  refine zwp_cd (by simp (disch := first | assumption | exact isR33 | exact isT104 | exact isF99 | exact isF101 | exact isR3 | omega | (refine isTk ?_; omega) | (refine isOk isR33 ?_; omega) | (refine isOk ?_ ?_; assumption; omega)) only [mm_r, mm_rl, mm_add, mm_sub, mm_mul, mm_addJ, mm_mulJ, mm_lt, mm_le, mm_eq, mm_z, mm_cl, mm_w, mm_wl, mm_ite, mm_i2l, mm_l2i, mm_ltJ, mm_leJ, mm_eqJ, mm_clt, mm_cle, mm_cgt, mm_cge, mm_ceq, mm_b, mm_nb, mm_nb0, mm_nb1, mm_vb0, mm_vb1, mm_vbc, mm_vy0, mm_vy1, mm_at, mm_ne, mm_nj, mm_Lw, mm_Nw, mm_atJ, mm_neJ, mm_njJ, zbI_s, zbV_s, zbJ_s, cond_t, Bool.true_and, Bool.and_true, if_true, if_false, not_true, not_false_iff, Classical.not_not, zel_r, zel_42, zel_12, zel_71, zel_80, zel_89, zel_110, zel_188, zel_103, zel_195, zr_o, zr_1, zr_2, zr_3, zr_4, zr_5, zr_6, zr_7, zr_8, zr_9, zq_o, zq_v, zt_o, zt_1, zt_2, zt_3, zt_4, zt_5, zf_o, zf_1, za_w1, za_w2, za_w3, za_cm, za_sl, Int.toNat_natCast, Int.toNat_natCast_add_one, mm_t0, mm_t1, mm_t2, mm_t3, mm_t4, mm_t5, mm_t6, mm_t7, mm_t8, mm_t9, mm_t10, mm_t11, mm_t12, mm_t13, za_1, za_64, za_65, za_66, za_67, za_68, za_71, za_80, za_89, za_98, za_103, za_110, za_121, za_122, za_123, za_124, za_125, za_126, za_188, za_193, za_194, za_195, za_286, za_288, za_289, za_290, za_291, za_292, za_293, za_294, za_295, za_296, za_297, za_298, za_299, za_300, za_301, za_302, za_303, za_304, za_305, za_306, za_307, za_308, za_309, za_310, za_311, za_312]) ?_
  refine zwp_letE (τ' := zw (zw τ 193 s.toNat w) 194 s.toNat n) (by simp (disch := first | assumption | exact isR33 | exact isT104 | exact isF99 | exact isF101 | exact isR3 | omega | (refine isTk ?_; omega) | (refine isOk isR33 ?_; omega) | (refine isOk ?_ ?_; assumption; omega)) only [mm_r, mm_rl, mm_add, mm_sub, mm_mul, mm_addJ, mm_mulJ, mm_lt, mm_le, mm_eq, mm_z, mm_cl, mm_w, mm_wl, mm_ite, mm_i2l, mm_l2i, mm_ltJ, mm_leJ, mm_eqJ, mm_clt, mm_cle, mm_cgt, mm_cge, mm_ceq, mm_b, mm_nb, mm_nb0, mm_nb1, mm_vb0, mm_vb1, mm_vbc, mm_vy0, mm_vy1, mm_at, mm_ne, mm_nj, mm_Lw, mm_Nw, mm_atJ, mm_neJ, mm_njJ, zbI_s, zbV_s, zbJ_s, cond_t, Bool.true_and, Bool.and_true, if_true, if_false, not_true, not_false_iff, Classical.not_not, zel_r, zel_42, zel_12, zel_71, zel_80, zel_89, zel_110, zel_188, zel_103, zel_195, zr_o, zr_1, zr_2, zr_3, zr_4, zr_5, zr_6, zr_7, zr_8, zr_9, zq_o, zq_v, zt_o, zt_1, zt_2, zt_3, zt_4, zt_5, zf_o, zf_1, za_w1, za_w2, za_w3, za_cm, za_sl, Int.toNat_natCast, Int.toNat_natCast_add_one, mm_t0, mm_t1, mm_t2, mm_t3, mm_t4, mm_t5, mm_t6, mm_t7, mm_t8, mm_t9, mm_t10, mm_t11, mm_t12, mm_t13, za_1, za_64, za_65, za_66, za_67, za_68, za_71, za_80, za_89, za_98, za_103, za_110, za_121, za_122, za_123, za_124, za_125, za_126, za_188, za_193, za_194, za_195, za_286, za_288, za_289, za_290, za_291, za_292, za_293, za_294, za_295, za_296, za_297, za_298, za_299, za_300, za_301, za_302, za_303, za_304, za_305, za_306, za_307, za_308, za_309, za_310, za_311, za_312]) ?_
  refine zwp_ret ⟨rfl, (((hf.mono (fun b hb => by unfold slcS; omega)).zw 193 _ _ (by unfold slcS; omega)).zw 194 _ _ (by unfold slcS; omega)), fun k k0 k1 => ?_⟩
  obtain ⟨e1, e2, e3⟩ := hS k k0 k1
  show _ = (if k = s then n else S.1 k) ∧ _ = (if k = s then w else S.2.1 k) ∧ ∀ i, 0 ≤ i → i < 60 → _ = if k = s then 0 else S.2.2 k i
  by_cases q : k = s
  · subst q
    rw [if_pos rfl, if_pos rfl, mm_at rfl rfl (by omega) (by omega), mm_ne (by omega), mm_at rfl rfl (by omega) (by omega)]
    refine ⟨rfl, rfl, fun i i0 i1 => ?_⟩
    rw [if_pos rfl, mm_Lw, mm_Lw]
    exact hz i.toNat (by omega)
  · rw [if_neg q, if_neg q, mm_nj (by omega), mm_ne (by omega), mm_ne (by omega), mm_nj (by omega)]
    refine ⟨(hf.1 194 (by omega) _).trans e1, (hf.1 193 (by omega) _).trans e2, fun i i0 i1 => ?_⟩
    rw [if_neg q, mm_Lw, mm_Lw]
    exact (hf.2.1 _ (by omega) _).trans (e3 i i0 i1)
def Erow (s w n : Int) : Int := if isSl s ∧ 0 ≤ w ∧ w ≤ 3 ∧ n ≤ 60 then (if 0 ≤ n then 0 else -3) else -2
def Srow (S : sls) (s w n : Int) : sls := if isSl s ∧ 0 ≤ w ∧ w ≤ 3 ∧ n ≤ 60 ∧ 0 ≤ n then sRow S s w n else S
theorem Srow_W {S : sls} (hW : slW S) {s w n : Int} : slW (Srow S s w n) := by
  unfold Srow
  by_cases q : isSl s ∧ 0 ≤ w ∧ w ≤ 3 ∧ n ≤ 60 ∧ 0 ≤ n
  · rw [if_pos q]
    exact sRow_W hW q.2.1 q.2.2.1 q.2.2.2.2 q.2.2.2.1
  · rw [if_neg q]
    exact hW
theorem cq_row {s w n : Int} {σ : zM} {S : sls} (hS : slC σ S) (s0 : -2147483648 ≤ s) (s1 : s < 2147483648) (w0 : -2147483648 ≤ w) (w1 : w < 2147483648) (n0 : -2147483648 ≤ n) (n1 : n < 2147483648) : zwp (zcall 147 [.ref 0, .int (Int32.ofInt s), .int (Int32.ofInt w), .int (Int32.ofInt n)] σ) (fun v τ => v = some (.int (Int32.ofInt (Erow s w n))) ∧ mf slcS σ τ ∧ slC τ (Srow S s w n)) := by
  unfold Erow Srow
  refine zwp_of (fun r h => zcc_147 (ze_147_0 _ _ _ _ r h)) ?_
  simp (disch := first | assumption | exact isR33 | exact isT104 | exact isF99 | exact isF101 | exact isR3 | omega | (refine isTk ?_; omega) | (refine isOk isR33 ?_; omega) | (refine isOk ?_ ?_; assumption; omega)) only [mm_r, mm_rl, mm_add, mm_sub, mm_mul, mm_addJ, mm_mulJ, mm_lt, mm_le, mm_eq, mm_z, mm_cl, mm_w, mm_wl, mm_ite, mm_i2l, mm_l2i, mm_ltJ, mm_leJ, mm_eqJ, mm_clt, mm_cle, mm_cgt, mm_cge, mm_ceq, mm_b, mm_nb, mm_nb0, mm_nb1, mm_vb0, mm_vb1, mm_vbc, mm_vy0, mm_vy1, mm_at, mm_ne, mm_nj, mm_Lw, mm_Nw, mm_atJ, mm_neJ, mm_njJ, zbI_s, zbV_s, zbJ_s, cond_t, Bool.true_and, Bool.and_true, if_true, if_false, not_true, not_false_iff, Classical.not_not, zel_r, zel_42, zel_12, zel_71, zel_80, zel_89, zel_110, zel_188, zel_103, zel_195, zr_o, zr_1, zr_2, zr_3, zr_4, zr_5, zr_6, zr_7, zr_8, zr_9, zq_o, zq_v, zt_o, zt_1, zt_2, zt_3, zt_4, zt_5, zf_o, zf_1, za_w1, za_w2, za_w3, za_cm, za_sl, Int.toNat_natCast, Int.toNat_natCast_add_one, mm_t0, mm_t1, mm_t2, mm_t3, mm_t4, mm_t5, mm_t6, mm_t7, mm_t8, mm_t9, mm_t10, mm_t11, mm_t12, mm_t13, za_1, za_64, za_65, za_66, za_67, za_68, za_71, za_80, za_89, za_98, za_103, za_110, za_121, za_122, za_123, za_124, za_125, za_126, za_188, za_193, za_194, za_195, za_286, za_288, za_289, za_290, za_291, za_292, za_293, za_294, za_295, za_296, za_297, za_298, za_299, za_300, za_301, za_302, za_303, za_304, za_305, za_306, za_307, za_308, za_309, za_310, za_311, za_312, sp_82]
  refine zwp_ite (fun q => ?_) (fun q => ?_)
  · rw [if_neg (fun p => q p.1), if_neg (fun p => q p.1)]
    exact zwp_ret ⟨rfl, mf.rf, hS⟩
  · have q := Classical.not_not.mp q
    refine zwp_ite (fun q2 => ?_) (fun q2 => ?_)
    · rw [if_neg (fun p => by have := p.2.1; omega), if_neg (fun p => by have := p.2.1; omega)]
      exact zwp_ret ⟨rfl, mf.rf, hS⟩
    · refine zwp_ite (fun q3 => ?_) (fun q3 => ?_)
      · rw [if_neg (fun p => by have := p.2.2.1; omega), if_neg (fun p => by have := p.2.2.1; omega)]
        exact zwp_ret ⟨rfl, mf.rf, hS⟩
      · refine zwp_ite (fun q4 => ?_) (fun q4 => ?_)
        · rw [if_pos (⟨q, by omega, by omega, q4⟩ : isSl s ∧ 0 ≤ w ∧ w ≤ 3 ∧ n ≤ 60)]
          refine zwp_ite (fun q5 => ?_) (fun q5 => ?_)
          · rw [if_pos q5, if_pos (⟨q, by omega, by omega, q4, q5⟩ : isSl s ∧ 0 ≤ w ∧ w ≤ 3 ∧ n ≤ 60 ∧ 0 ≤ n)]
            refine zwp_V _ (sp_85 hS q (by omega) (by omega) q5 q4) ?_
            rintro τ ⟨h1, h2⟩
            exact zwp_ret ⟨rfl, h1, h2⟩
          · rw [if_neg q5, if_neg (fun p => q5 p.2.2.2.2)]
            exact zwp_ret ⟨rfl, mf.rf, hS⟩
        · rw [if_neg (fun p => q4 p.2.2.2), if_neg (fun p => q4 p.2.2.2.1)]
          exact zwp_ret ⟨rfl, mf.rf, hS⟩
theorem sp_274s {s : Int} {σ : zM} (s0 : -2147483648 ≤ s) (s1 : s < 2147483648) : zcall 274 [.int (Int32.ofInt s)] σ = some (some (.int (Int32.ofInt (if isSl s then 1 else 0))), σ) := by
  rw [sp_274 s0 s1]
  by_cases q : isSl s
  · rw [if_pos q, if_pos (by omega)]
  · rw [if_neg q, if_neg (by omega)]
theorem lp_276 {s : Int} {σ0 : zM} (h : isSl s) : ∀ (k i : Nat) (σ : zM), i + k = 60 → mf (fun b => b = 311) σ0 σ → (∀ j : Int, 0 ≤ j → j < 240 → zL σ 311 j.toNat = if 60 * s ≤ j ∧ j < 60 * s + i then 0 else zL σ0 311 j.toNat) → zwp (zev 276 52 [some (.ref 287), some (.int (Int32.ofInt s)), none, none, some (.int (Int32.ofInt i))] [] σ) (fun v τ => v = some (.int (Int32.ofInt 0)) ∧ mf (fun b => b = 311) σ0 τ ∧ ∀ j : Int, 0 ≤ j → j < 240 → zL τ 311 j.toNat = if 60 * s ≤ j ∧ j < 60 * s + 60 then 0 else zL σ0 311 j.toNat)
  | 0, i, σ, e, hf, hz => by
    obtain rfl : i = 60 := by omega
    refine zwp_of (fun r h => ze_276_52 _ _ _ r h) ?_
    refine zwp_t (by try simp (disch := first | assumption | exact isR33 | exact isT104 | exact isF99 | exact isF101 | exact isR3 | omega | (refine isTk ?_; omega) | (refine isOk isR33 ?_; omega) | (refine isOk ?_ ?_; assumption; omega)) only [mm_r, mm_rl, mm_add, mm_sub, mm_mul, mm_addJ, mm_mulJ, mm_lt, mm_le, mm_eq, mm_z, mm_cl, mm_w, mm_wl, mm_ite, mm_i2l, mm_l2i, mm_ltJ, mm_leJ, mm_eqJ, mm_clt, mm_cle, mm_cgt, mm_cge, mm_ceq, mm_b, mm_nb, mm_nb0, mm_nb1, mm_vb0, mm_vb1, mm_vbc, mm_vy0, mm_vy1, mm_at, mm_ne, mm_nj, mm_Lw, mm_Nw, mm_atJ, mm_neJ, mm_njJ, zbI_s, zbV_s, zbJ_s, cond_t, Bool.true_and, Bool.and_true, if_true, if_false, not_true, not_false_iff, Classical.not_not, zel_r, zel_42, zel_12, zel_71, zel_80, zel_89, zel_110, zel_188, zel_103, zel_195, zr_o, zr_1, zr_2, zr_3, zr_4, zr_5, zr_6, zr_7, zr_8, zr_9, zq_o, zq_v, zt_o, zt_1, zt_2, zt_3, zt_4, zt_5, zf_o, zf_1, za_w1, za_w2, za_w3, za_cm, za_sl, Int.toNat_natCast, Int.toNat_natCast_add_one, mm_t0, mm_t1, mm_t2, mm_t3, mm_t4, mm_t5, mm_t6, mm_t7, mm_t8, mm_t9, mm_t10, mm_t11, mm_t12, mm_t13, za_1, za_64, za_65, za_66, za_67, za_68, za_71, za_80, za_89, za_98, za_103, za_110, za_121, za_122, za_123, za_124, za_125, za_126, za_188, za_193, za_194, za_195, za_286, za_288, za_289, za_290, za_291, za_292, za_293, za_294, za_295, za_296, za_297, za_298, za_299, za_300, za_301, za_302, za_303, za_304, za_305, za_306, za_307, za_308, za_309, za_310, za_311, za_312]
                     first | done | omega) ?_
    exact zwp_ret ⟨rfl, hf, hz⟩
  | k + 1, i, σ, e, hf, hz => by
    refine zwp_of (fun r h => ze_276_52 _ _ _ r h) ?_
    refine zwp_f (by try simp (disch := first | assumption | exact isR33 | exact isT104 | exact isF99 | exact isF101 | exact isR3 | omega | (refine isTk ?_; omega) | (refine isOk isR33 ?_; omega) | (refine isOk ?_ ?_; assumption; omega)) only [mm_r, mm_rl, mm_add, mm_sub, mm_mul, mm_addJ, mm_mulJ, mm_lt, mm_le, mm_eq, mm_z, mm_cl, mm_w, mm_wl, mm_ite, mm_i2l, mm_l2i, mm_ltJ, mm_leJ, mm_eqJ, mm_clt, mm_cle, mm_cgt, mm_cge, mm_ceq, mm_b, mm_nb, mm_nb0, mm_nb1, mm_vb0, mm_vb1, mm_vbc, mm_vy0, mm_vy1, mm_at, mm_ne, mm_nj, mm_Lw, mm_Nw, mm_atJ, mm_neJ, mm_njJ, zbI_s, zbV_s, zbJ_s, cond_t, Bool.true_and, Bool.and_true, if_true, if_false, not_true, not_false_iff, Classical.not_not, zel_r, zel_42, zel_12, zel_71, zel_80, zel_89, zel_110, zel_188, zel_103, zel_195, zr_o, zr_1, zr_2, zr_3, zr_4, zr_5, zr_6, zr_7, zr_8, zr_9, zq_o, zq_v, zt_o, zt_1, zt_2, zt_3, zt_4, zt_5, zf_o, zf_1, za_w1, za_w2, za_w3, za_cm, za_sl, Int.toNat_natCast, Int.toNat_natCast_add_one, mm_t0, mm_t1, mm_t2, mm_t3, mm_t4, mm_t5, mm_t6, mm_t7, mm_t8, mm_t9, mm_t10, mm_t11, mm_t12, mm_t13, za_1, za_64, za_65, za_66, za_67, za_68, za_71, za_80, za_89, za_98, za_103, za_110, za_121, za_122, za_123, za_124, za_125, za_126, za_188, za_193, za_194, za_195, za_286, za_288, za_289, za_290, za_291, za_292, za_293, za_294, za_295, za_296, za_297, za_298, za_299, za_300, za_301, za_302, za_303, za_304, za_305, za_306, za_307, za_308, za_309, za_310, za_311, za_312]
                     first | done | omega) ?_
    refine zwp_cd (by simp (disch := first | assumption | exact isR33 | exact isT104 | exact isF99 | exact isF101 | exact isR3 | omega | (refine isTk ?_; omega) | (refine isOk isR33 ?_; omega) | (refine isOk ?_ ?_; assumption; omega)) only [mm_r, mm_rl, mm_add, mm_sub, mm_mul, mm_addJ, mm_mulJ, mm_lt, mm_le, mm_eq, mm_z, mm_cl, mm_w, mm_wl, mm_ite, mm_i2l, mm_l2i, mm_ltJ, mm_leJ, mm_eqJ, mm_clt, mm_cle, mm_cgt, mm_cge, mm_ceq, mm_b, mm_nb, mm_nb0, mm_nb1, mm_vb0, mm_vb1, mm_vbc, mm_vy0, mm_vy1, mm_at, mm_ne, mm_nj, mm_Lw, mm_Nw, mm_atJ, mm_neJ, mm_njJ, zbI_s, zbV_s, zbJ_s, cond_t, Bool.true_and, Bool.and_true, if_true, if_false, not_true, not_false_iff, Classical.not_not, zel_r, zel_42, zel_12, zel_71, zel_80, zel_89, zel_110, zel_188, zel_103, zel_195, zr_o, zr_1, zr_2, zr_3, zr_4, zr_5, zr_6, zr_7, zr_8, zr_9, zq_o, zq_v, zt_o, zt_1, zt_2, zt_3, zt_4, zt_5, zf_o, zf_1, za_w1, za_w2, za_w3, za_cm, za_sl, Int.toNat_natCast, Int.toNat_natCast_add_one, mm_t0, mm_t1, mm_t2, mm_t3, mm_t4, mm_t5, mm_t6, mm_t7, mm_t8, mm_t9, mm_t10, mm_t11, mm_t12, mm_t13, za_1, za_64, za_65, za_66, za_67, za_68, za_71, za_80, za_89, za_98, za_103, za_110, za_121, za_122, za_123, za_124, za_125, za_126, za_188, za_193, za_194, za_195, za_286, za_288, za_289, za_290, za_291, za_292, za_293, za_294, za_295, za_296, za_297, za_298, za_299, za_300, za_301, za_302, za_303, za_304, za_305, za_306, za_307, za_308, za_309, za_310, za_311, za_312]) ?_
    refine zwp_letE (τ' := zwl σ 311 (60 * s + i).toNat 0) (by simp (disch := first | assumption | exact isR33 | exact isT104 | exact isF99 | exact isF101 | exact isR3 | omega | (refine isTk ?_; omega) | (refine isOk isR33 ?_; omega) | (refine isOk ?_ ?_; assumption; omega)) only [mm_r, mm_rl, mm_add, mm_sub, mm_mul, mm_addJ, mm_mulJ, mm_lt, mm_le, mm_eq, mm_z, mm_cl, mm_w, mm_wl, mm_ite, mm_i2l, mm_l2i, mm_ltJ, mm_leJ, mm_eqJ, mm_clt, mm_cle, mm_cgt, mm_cge, mm_ceq, mm_b, mm_nb, mm_nb0, mm_nb1, mm_vb0, mm_vb1, mm_vbc, mm_vy0, mm_vy1, mm_at, mm_ne, mm_nj, mm_Lw, mm_Nw, mm_atJ, mm_neJ, mm_njJ, zbI_s, zbV_s, zbJ_s, cond_t, Bool.true_and, Bool.and_true, if_true, if_false, not_true, not_false_iff, Classical.not_not, zel_r, zel_42, zel_12, zel_71, zel_80, zel_89, zel_110, zel_188, zel_103, zel_195, zr_o, zr_1, zr_2, zr_3, zr_4, zr_5, zr_6, zr_7, zr_8, zr_9, zq_o, zq_v, zt_o, zt_1, zt_2, zt_3, zt_4, zt_5, zf_o, zf_1, za_w1, za_w2, za_w3, za_cm, za_sl, Int.toNat_natCast, Int.toNat_natCast_add_one, mm_t0, mm_t1, mm_t2, mm_t3, mm_t4, mm_t5, mm_t6, mm_t7, mm_t8, mm_t9, mm_t10, mm_t11, mm_t12, mm_t13, za_1, za_64, za_65, za_66, za_67, za_68, za_71, za_80, za_89, za_98, za_103, za_110, za_121, za_122, za_123, za_124, za_125, za_126, za_188, za_193, za_194, za_195, za_286, za_288, za_289, za_290, za_291, za_292, za_293, za_294, za_295, za_296, za_297, za_298, za_299, za_300, za_301, za_302, za_303, za_304, za_305, za_306, za_307, za_308, za_309, za_310, za_311, za_312]) ?_
    rw [mm_add]
    refine lp_276 h k (i + 1) _ (by omega) (hf.zwl 311 _ _ rfl) (fun j j0 j1 => ?_)
    by_cases q : j = 60 * s + i
    · rw [q, if_pos (by omega)]
      exact mm_atJ rfl rfl (by decide) (by decide)
    · rw [mm_njJ (by omega), hz j j0 j1]
      by_cases q2 : 60 * s ≤ j ∧ j < 60 * s + (i : Int)
      · rw [if_pos q2, if_pos (by omega)]
      · rw [if_neg q2, if_neg (by omega)]
theorem rq_row {s w n : Int} {σ : zM} {S : sls} (hS : slM σ S) (s0 : -2147483648 ≤ s) (s1 : s < 2147483648) (w0 : -2147483648 ≤ w) (w1 : w < 2147483648) (n0 : -2147483648 ≤ n) (n1 : n < 2147483648) : zwp (zcall 276 [.ref 287, .int (Int32.ofInt s), .int (Int32.ofInt w), .int (Int32.ofInt n)] σ) (fun v τ => v = some (.int (Int32.ofInt (Erow s w n))) ∧ mf slmS σ τ ∧ slM τ (Srow S s w n)) := by
  unfold Erow Srow
  refine zwp_of (fun r h => zcc_276 (ze_276_0 _ _ _ _ r h)) ?_
  simp (disch := first | assumption | exact isR33 | exact isT104 | exact isF99 | exact isF101 | exact isR3 | omega | (refine isTk ?_; omega) | (refine isOk isR33 ?_; omega) | (refine isOk ?_ ?_; assumption; omega)) only [mm_r, mm_rl, mm_add, mm_sub, mm_mul, mm_addJ, mm_mulJ, mm_lt, mm_le, mm_eq, mm_z, mm_cl, mm_w, mm_wl, mm_ite, mm_i2l, mm_l2i, mm_ltJ, mm_leJ, mm_eqJ, mm_clt, mm_cle, mm_cgt, mm_cge, mm_ceq, mm_b, mm_nb, mm_nb0, mm_nb1, mm_vb0, mm_vb1, mm_vbc, mm_vy0, mm_vy1, mm_at, mm_ne, mm_nj, mm_Lw, mm_Nw, mm_atJ, mm_neJ, mm_njJ, zbI_s, zbV_s, zbJ_s, cond_t, Bool.true_and, Bool.and_true, if_true, if_false, not_true, not_false_iff, Classical.not_not, zel_r, zel_42, zel_12, zel_71, zel_80, zel_89, zel_110, zel_188, zel_103, zel_195, zr_o, zr_1, zr_2, zr_3, zr_4, zr_5, zr_6, zr_7, zr_8, zr_9, zq_o, zq_v, zt_o, zt_1, zt_2, zt_3, zt_4, zt_5, zf_o, zf_1, za_w1, za_w2, za_w3, za_cm, za_sl, Int.toNat_natCast, Int.toNat_natCast_add_one, mm_t0, mm_t1, mm_t2, mm_t3, mm_t4, mm_t5, mm_t6, mm_t7, mm_t8, mm_t9, mm_t10, mm_t11, mm_t12, mm_t13, za_1, za_64, za_65, za_66, za_67, za_68, za_71, za_80, za_89, za_98, za_103, za_110, za_121, za_122, za_123, za_124, za_125, za_126, za_188, za_193, za_194, za_195, za_286, za_288, za_289, za_290, za_291, za_292, za_293, za_294, za_295, za_296, za_297, za_298, za_299, za_300, za_301, za_302, za_303, za_304, za_305, za_306, za_307, za_308, za_309, za_310, za_311, za_312, sp_274s, sp_163]
  refine zwp_ite (fun q => ?_) (fun q => ?_)
  · rw [if_neg (fun p => q p.1), if_neg (fun p => q p.1)]
    exact zwp_ret ⟨rfl, mf.rf, hS⟩
  · have q := Classical.not_not.mp q
    refine zwp_ite (fun q2 => ?_) (fun q2 => ?_)
    · rw [if_neg (fun p => q2 ⟨p.2.1, p.2.2.1⟩), if_neg (fun p => q2 ⟨p.2.1, p.2.2.1⟩)]
      exact zwp_ret ⟨rfl, mf.rf, hS⟩
    · have q2 := Classical.not_not.mp q2
      refine zwp_ite (fun q4 => ?_) (fun q4 => ?_)
      · rw [if_pos (⟨q, q2.1, q2.2, q4⟩ : isSl s ∧ 0 ≤ w ∧ w ≤ 3 ∧ n ≤ 60)]
        refine zwp_ite (fun q5 => ?_) (fun q5 => ?_)
        · rw [if_pos q5, if_pos (⟨q, q2.1, q2.2, q4, q5⟩ : isSl s ∧ 0 ≤ w ∧ w ≤ 3 ∧ n ≤ 60 ∧ 0 ≤ n)]
          refine zwp_let (zwp_let ?_)
          refine zwp_mono (lp_276 (σ0 := zw (zw σ 309 s.toNat n) 310 s.toNat w) q 60 0 _ (by omega) mf.rf (fun j j0 j1 => by rw [if_neg (by omega)])) ?_
          rintro v τ ⟨hv, hf, hz⟩
          refine ⟨hv, (((mf.rf (S := slmS)).zw 309 _ _ (by unfold slmS; omega)).zw 310 _ _ (by unfold slmS; omega)).tr (hf.mono (fun b hb => by unfold slmS; omega)), fun k k0 k1 => ?_⟩
          obtain ⟨e1, e2, e3⟩ := hS k k0 k1
          show _ = (if k = s then n else S.1 k) ∧ _ = (if k = s then w else S.2.1 k) ∧ ∀ i, 0 ≤ i → i < 60 → _ = if k = s then 0 else S.2.2 k i
          rw [hf.1 309 (by omega), hf.1 310 (by omega)]
          by_cases z : k = s
          · subst z
            rw [if_pos rfl, if_pos rfl, mm_ne (by omega), mm_at rfl rfl (by omega) (by omega), mm_at rfl rfl (by omega) (by omega)]
            refine ⟨rfl, rfl, fun i i0 i1 => ?_⟩
            rw [if_pos rfl, hz _ (by omega) (by omega), if_pos (by omega)]
          · rw [if_neg z, if_neg z, mm_ne (by omega), mm_nj (by omega), mm_nj (by omega), mm_ne (by omega)]
            refine ⟨e1, e2, fun i i0 i1 => ?_⟩
            rw [if_neg z, hz _ (by omega) (by omega), if_neg (by omega), mm_Lw, mm_Lw]
            exact e3 i i0 i1
        · rw [if_neg q5, if_neg (fun p => q5 p.2.2.2.2)]
          exact zwp_ret ⟨rfl, mf.rf, hS⟩
      · rw [if_neg (fun p => q4 p.2.2.2), if_neg (fun p => q4 p.2.2.2.1)]
        exact zwp_ret ⟨rfl, mf.rf, hS⟩
