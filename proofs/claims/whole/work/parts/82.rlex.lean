/-! THE TEXT: the reference scans -/
def ub (x : Int) : Int := if x < 0 then x + 256 else x
theorem ub_tab : ∀ n : Nat, n < 256 → (Int32.ofInt ((n : Int) - 128) &&& Int32.ofInt 255) = Int32.ofInt (ub ((n : Int) - 128)) := by decide +kernel
theorem ub_and {x : Int} (h0 : -128 ≤ x) (h1 : x < 128) : (Int32.ofInt x &&& Int32.ofInt 255) = Int32.ofInt (ub x) := by
  have := ub_tab (x + 128).toNat (by omega)
  rw [show (((x + 128).toNat : Nat) : Int) - 128 = x by omega] at this
  exact this
def mi5 (n : Int) : Int := if n < 99999 then n else 99999
theorem mi5_rng {n : Int} (h : 0 ≤ n) : 0 ≤ mi5 n ∧ mi5 n ≤ 99999 := by
  unfold mi5
  split <;> omega
def seeT (T : Int → Int) (sz a : Int) : Int := if a < sz then ub (T a) else -1
theorem sp_177 {σ : zM} {T : Int → Int} {sz a : Int} (hT : tpC σ 291 T sz) (hz : zN σ 287 7 = sz) (a0 : 0 ≤ a) (a1 : a ≤ sz) : zcall 177 [.ref 287, .int (Int32.ofInt a)] σ = some (some (.int (Int32.ofInt (seeT T sz a))), σ) := by
  have hs := hT.1
  refine zcc_177 (ze_177_0 _ _ _ ?_)
  unfold seeT
  rw [mm_r σ 287 7, hz]
  by_cases q : a < sz
  · obtain ⟨c1, c2, c3⟩ := hT.2 a a0 q
    rw [if_neg (show ¬ Int32.ofInt sz ≤ Int32.ofInt a by rw [mm_le (by omega) (by omega) (by omega) (by omega)]; omega), if_pos q, za_291 (by omega) (by omega), cond_t, mm_cl (by omega) (by omega), mm_r σ 291, c1, ub_and c2 c3]
  · rw [if_pos (show Int32.ofInt sz ≤ Int32.ofInt a by rw [mm_le (by omega) (by omega) (by omega) (by omega)]; omega), if_neg q]
theorem seeT_rng {σ : zM} {T : Int → Int} {sz a : Int} (hT : tpC σ 291 T sz) (a0 : 0 ≤ a) : -1 ≤ seeT T sz a ∧ seeT T sz a < 256 := by
  unfold seeT
  split
  · next q =>
    have := hT.2 a a0 q
    unfold ub
    split <;> omega
  · omega
theorem seeT_in {σ : zM} {T : Int → Int} {sz a : Int} (hT : tpC σ 291 T sz) (a0 : 0 ≤ a) {x y : Int} (x0 : 0 ≤ x) (y1 : y < 128) : (x ≤ seeT T sz a ∧ seeT T sz a ≤ y) ↔ a < sz ∧ x ≤ T a ∧ T a ≤ y := by
  unfold seeT
  by_cases q : a < sz
  · have := hT.2 a a0 q
    rw [if_pos q]
    unfold ub
    split <;> omega
  · rw [if_neg q]
    omega
def tkR (σ : zM) (s : tk) : Prop := zN σ 287 10 = s.1 ∧ zN σ 287 9 = s.2.1 ∧ zN σ 287 8 = s.2.2.1 ∧ (s.1 = 2 → zN σ 287 11 = mi5 s.2.2.2)
/-- a scan changes the Model's token alone -/
def srF (σ τ : zM) : Prop := mf (fun b => b = 287) σ τ ∧ ∀ k, k < 8 ∨ 11 < k → zN τ 287 k = zN σ 287 k
theorem srF.rf {σ : zM} : srF σ σ := ⟨mf.rf, fun _ _ => rfl⟩
theorem srF.tr {σ τ υ : zM} (h : srF σ τ) (g : srF τ υ) : srF σ υ := ⟨h.1.tr g.1, fun k hk => (g.2 k hk).trans (h.2 k hk)⟩
theorem srF.w {σ τ : zM} (h : srF σ τ) {k : Nat} (v : Int) (hk : 8 ≤ k ∧ k ≤ 11) : srF σ (zw τ 287 k v) := ⟨h.1.zw 287 _ _ rfl, fun j hj => (mm_nj (by omega)).trans (h.2 j hj)⟩
theorem srF.T {σ τ : zM} (h : srF σ τ) {T : Int → Int} {sz : Int} (hT : tpC σ 291 T sz) : tpC τ 291 T sz := hT.fr (h.1.1 291 (by decide))
theorem lp_178_83 {σ0 : zM} {T : Int → Int} {sz : Int} (hT : tpC σ0 291 T sz) (hz : zN σ0 287 7 = sz) {Q : Option Value → zM → Prop} : ∀ (k : Nat) (a : Int) (σ : zM), (sz - a).toNat = k → 0 ≤ a → a ≤ sz → srF σ0 σ → zN σ 287 8 = a → zN σ 287 9 = zN σ0 287 9 → zN σ 287 11 = zN σ0 287 11 → (∀ τ, srF σ0 τ → zN τ 287 8 = wen T sz k a → zN τ 287 9 = zN σ0 287 9 → zN τ 287 11 = zN σ0 287 11 → zN τ 287 10 = 1 → Q none τ) → zwp (zev 178 83 [some (.ref 287), none] [] σ) Q
  | k, a, σ, e, a0, a1, hf, h8, h9, h11, hQ => by
    have hs := hT.1
    have hT' := hf.T hT
    have hz' : zN σ 287 7 = sz := (hf.2 7 (by omega)).trans hz
    have si := seeT_in hT a0 (x := 97) (y := 122) (by decide) (by decide)
    have sr := seeT_rng hT a0
    refine zwp_of (fun r h => ze_178_83 _ r h) ?_
    rw [mm_r σ 287 8, h8, sp_177 hT' hz' a0 a1, zbI_s, mm_i2l (by omega) (by omega), sp_163 (by omega) (by omega) (by omega) (by omega) (by omega) (by omega), zbI_s]
    simp only [mm_z, mm_b]
    by_cases q : 97 ≤ seeT T sz a ∧ seeT T sz a ≤ 122
    · refine zwp_f (fun p => p q) ?_
      have q' := si.mp q
      refine zwp_letE (τ' := zw σ 287 8 (a + 1)) (by simp (disch := first | assumption | exact isR33 | exact isT104 | exact isF99 | exact isF101 | exact isR3 | omega | (refine isTk ?_; omega) | (refine isOk isR33 ?_; omega) | (refine isOk ?_ ?_; assumption; omega)) only [mm_r, mm_rl, mm_add, mm_sub, mm_mul, mm_addJ, mm_mulJ, mm_lt, mm_le, mm_eq, mm_z, mm_cl, mm_w, mm_wl, mm_ite, mm_i2l, mm_l2i, mm_ltJ, mm_leJ, mm_eqJ, mm_clt, mm_cle, mm_cgt, mm_cge, mm_ceq, mm_b, mm_nb, mm_nb0, mm_nb1, mm_vb0, mm_vb1, mm_vbc, mm_vy0, mm_vy1, mm_at, mm_ne, mm_nj, mm_Lw, mm_Nw, mm_atJ, mm_neJ, mm_njJ, zbI_s, zbV_s, zbJ_s, cond_t, Bool.true_and, Bool.and_true, if_true, if_false, not_true, not_false_iff, Classical.not_not, zel_r, zel_42, zel_12, zel_71, zel_80, zel_89, zel_110, zel_188, zel_103, zel_195, zr_o, zr_1, zr_2, zr_3, zr_4, zr_5, zr_6, zr_7, zr_8, zr_9, zq_o, zq_v, zt_o, zt_1, zt_2, zt_3, zt_4, zt_5, zf_o, zf_1, za_w1, za_w2, za_w3, za_cm, za_sl, Int.toNat_natCast, Int.toNat_natCast_add_one, mm_t0, mm_t1, mm_t2, mm_t3, mm_t4, mm_t5, mm_t6, mm_t7, mm_t8, mm_t9, mm_t10, mm_t11, mm_t12, mm_t13, za_1, za_64, za_65, za_66, za_67, za_68, za_71, za_80, za_89, za_98, za_103, za_110, za_121, za_122, za_123, za_124, za_125, za_126, za_188, za_193, za_194, za_195, za_286, za_288, za_289, za_290, za_291, za_292, za_293, za_294, za_295, za_296, za_297, za_298, za_299, za_300, za_301, za_302, za_303, za_304, za_305, za_306, za_307, za_308, za_309, za_310, za_311, za_312, h8]) ?_
      cases k with
      | zero => omega
      | succ k =>
        rw [wen, if_pos q'] at hQ
        exact lp_178_83 hT hz k (a + 1) _ (by omega) (by omega) (by omega) (hf.w _ (by omega)) (mm_at rfl rfl (by omega) (by omega)) ((mm_nj (by decide)).trans h9) ((mm_nj (by decide)).trans h11) hQ
    · refine zwp_t q ?_
      have q' := fun p => q (si.mpr p)
      refine zwp_letE (τ' := zw σ 287 10 1) (by simp (disch := first | assumption | exact isR33 | exact isT104 | exact isF99 | exact isF101 | exact isR3 | omega | (refine isTk ?_; omega) | (refine isOk isR33 ?_; omega) | (refine isOk ?_ ?_; assumption; omega)) only [mm_r, mm_rl, mm_add, mm_sub, mm_mul, mm_addJ, mm_mulJ, mm_lt, mm_le, mm_eq, mm_z, mm_cl, mm_w, mm_wl, mm_ite, mm_i2l, mm_l2i, mm_ltJ, mm_leJ, mm_eqJ, mm_clt, mm_cle, mm_cgt, mm_cge, mm_ceq, mm_b, mm_nb, mm_nb0, mm_nb1, mm_vb0, mm_vb1, mm_vbc, mm_vy0, mm_vy1, mm_at, mm_ne, mm_nj, mm_Lw, mm_Nw, mm_atJ, mm_neJ, mm_njJ, zbI_s, zbV_s, zbJ_s, cond_t, Bool.true_and, Bool.and_true, if_true, if_false, not_true, not_false_iff, Classical.not_not, zel_r, zel_42, zel_12, zel_71, zel_80, zel_89, zel_110, zel_188, zel_103, zel_195, zr_o, zr_1, zr_2, zr_3, zr_4, zr_5, zr_6, zr_7, zr_8, zr_9, zq_o, zq_v, zt_o, zt_1, zt_2, zt_3, zt_4, zt_5, zf_o, zf_1, za_w1, za_w2, za_w3, za_cm, za_sl, Int.toNat_natCast, Int.toNat_natCast_add_one, mm_t0, mm_t1, mm_t2, mm_t3, mm_t4, mm_t5, mm_t6, mm_t7, mm_t8, mm_t9, mm_t10, mm_t11, mm_t12, mm_t13, za_1, za_64, za_65, za_66, za_67, za_68, za_71, za_80, za_89, za_98, za_103, za_110, za_121, za_122, za_123, za_124, za_125, za_126, za_188, za_193, za_194, za_195, za_286, za_288, za_289, za_290, za_291, za_292, za_293, za_294, za_295, za_296, za_297, za_298, za_299, za_300, za_301, za_302, za_303, za_304, za_305, za_306, za_307, za_308, za_309, za_310, za_311, za_312]) ?_
      refine zwp_ret (hQ _ (hf.w _ (by omega)) ?_ ((mm_nj (by decide)).trans h9) ((mm_nj (by decide)).trans h11) (mm_at rfl rfl (by decide) (by decide)))
      rw [mm_nj (by decide), h8]
      cases k with
      | zero => rfl
      | succ k => rw [wen, if_neg q']
theorem mi5_s {n d : Int} (h : 0 ≤ n) (d0 : 0 ≤ d) (d1 : d ≤ 9) : (if 10 * mi5 n + d < 99999 then 10 * mi5 n + d else 99999) = mi5 (10 * n + d) := by
  unfold mi5
  repeat' split
  all_goals omega
theorem lp_178_144 {σ0 : zM} {T : Int → Int} {sz : Int} (hT : tpC σ0 291 T sz) (hz : zN σ0 287 7 = sz) {Q : Option Value → zM → Prop} : ∀ (k : Nat) (a n : Int) (σ : zM), (sz - a).toNat = k → 0 ≤ a → a ≤ sz → 0 ≤ n → srF σ0 σ → zN σ 287 8 = a → zN σ 287 9 = zN σ0 287 9 → zN σ 287 11 = mi5 n → (∀ τ, srF σ0 τ → zN τ 287 8 = nen T sz k a → zN τ 287 9 = zN σ0 287 9 → zN τ 287 11 = mi5 (nvl T sz k a n) → zN τ 287 10 = 2 → Q none τ) → zwp (zev 178 144 [some (.ref 287), none] [] σ) Q
  | k, a, n, σ, e, a0, a1, n0, hf, h8, h9, h11, hQ => by
    have hs := hT.1
    have hT' := hf.T hT
    have hz' : zN σ 287 7 = sz := (hf.2 7 (by omega)).trans hz
    have si := seeT_in hT a0 (x := 48) (y := 57) (by decide) (by decide)
    have sr := seeT_rng hT a0
    have m5 := mi5_rng n0
    refine zwp_of (fun r h => ze_178_144 _ r h) ?_
    rw [mm_r σ 287 8, h8, sp_177 hT' hz' a0 a1, zbI_s, mm_i2l (by omega) (by omega), sp_163 (by omega) (by omega) (by omega) (by omega) (by omega) (by omega), zbI_s]
    simp only [mm_z, mm_b]
    by_cases q : 48 ≤ seeT T sz a ∧ seeT T sz a ≤ 57
    · refine zwp_f (fun p => p q) ?_
      have q' := si.mp q
      have hst : seeT T sz a = T a := by
        have := hT.2 a a0 q'.1
        unfold seeT ub
        rw [if_pos q'.1, if_neg (by omega)]
      have e5 : (if 10 * mi5 n + T a - 48 < 99999 then 10 * mi5 n + T a - 48 else 99999) = mi5 (10 * n + T a - 48) := by
        have := mi5_s n0 (d := T a - 48) (by omega) (by omega)
        rw [show 10 * mi5 n + T a - 48 = 10 * mi5 n + (T a - 48) by omega, show 10 * n + T a - 48 = 10 * n + (T a - 48) by omega]
        exact this
      have r5 := mi5_rng (n := 10 * n + T a - 48) (by omega)
      rw [mm_r σ 287 8, h8, sp_177 hT' hz' a0 a1, zbI_s, hst]
      refine zwp_letE (τ' := zw σ 287 11 (mi5 (10 * n + T a - 48))) (by simp (disch := first | assumption | exact isR33 | exact isT104 | exact isF99 | exact isF101 | exact isR3 | omega | (refine isTk ?_; omega) | (refine isOk isR33 ?_; omega) | (refine isOk ?_ ?_; assumption; omega)) only [mm_r, mm_rl, mm_add, mm_sub, mm_mul, mm_addJ, mm_mulJ, mm_lt, mm_le, mm_eq, mm_z, mm_cl, mm_w, mm_wl, mm_ite, mm_i2l, mm_l2i, mm_ltJ, mm_leJ, mm_eqJ, mm_clt, mm_cle, mm_cgt, mm_cge, mm_ceq, mm_b, mm_nb, mm_nb0, mm_nb1, mm_vb0, mm_vb1, mm_vbc, mm_vy0, mm_vy1, mm_at, mm_ne, mm_nj, mm_Lw, mm_Nw, mm_atJ, mm_neJ, mm_njJ, zbI_s, zbV_s, zbJ_s, cond_t, Bool.true_and, Bool.and_true, if_true, if_false, not_true, not_false_iff, Classical.not_not, zel_r, zel_42, zel_12, zel_71, zel_80, zel_89, zel_110, zel_188, zel_103, zel_195, zr_o, zr_1, zr_2, zr_3, zr_4, zr_5, zr_6, zr_7, zr_8, zr_9, zq_o, zq_v, zt_o, zt_1, zt_2, zt_3, zt_4, zt_5, zf_o, zf_1, za_w1, za_w2, za_w3, za_cm, za_sl, Int.toNat_natCast, Int.toNat_natCast_add_one, mm_t0, mm_t1, mm_t2, mm_t3, mm_t4, mm_t5, mm_t6, mm_t7, mm_t8, mm_t9, mm_t10, mm_t11, mm_t12, mm_t13, za_1, za_64, za_65, za_66, za_67, za_68, za_71, za_80, za_89, za_98, za_103, za_110, za_121, za_122, za_123, za_124, za_125, za_126, za_188, za_193, za_194, za_195, za_286, za_288, za_289, za_290, za_291, za_292, za_293, za_294, za_295, za_296, za_297, za_298, za_299, za_300, za_301, za_302, za_303, za_304, za_305, za_306, za_307, za_308, za_309, za_310, za_311, za_312, h11, e5]) ?_
      have h8' : zN (zw σ 287 11 (mi5 (10 * n + T a - 48))) 287 8 = a := (mm_nj (by decide)).trans h8
      refine zwp_letE (τ' := zw (zw σ 287 11 (mi5 (10 * n + T a - 48))) 287 8 (a + 1)) (by simp (disch := first | assumption | exact isR33 | exact isT104 | exact isF99 | exact isF101 | exact isR3 | omega | (refine isTk ?_; omega) | (refine isOk isR33 ?_; omega) | (refine isOk ?_ ?_; assumption; omega)) only [mm_r, mm_rl, mm_add, mm_sub, mm_mul, mm_addJ, mm_mulJ, mm_lt, mm_le, mm_eq, mm_z, mm_cl, mm_w, mm_wl, mm_ite, mm_i2l, mm_l2i, mm_ltJ, mm_leJ, mm_eqJ, mm_clt, mm_cle, mm_cgt, mm_cge, mm_ceq, mm_b, mm_nb, mm_nb0, mm_nb1, mm_vb0, mm_vb1, mm_vbc, mm_vy0, mm_vy1, mm_at, mm_ne, mm_nj, mm_Lw, mm_Nw, mm_atJ, mm_neJ, mm_njJ, zbI_s, zbV_s, zbJ_s, cond_t, Bool.true_and, Bool.and_true, if_true, if_false, not_true, not_false_iff, Classical.not_not, zel_r, zel_42, zel_12, zel_71, zel_80, zel_89, zel_110, zel_188, zel_103, zel_195, zr_o, zr_1, zr_2, zr_3, zr_4, zr_5, zr_6, zr_7, zr_8, zr_9, zq_o, zq_v, zt_o, zt_1, zt_2, zt_3, zt_4, zt_5, zf_o, zf_1, za_w1, za_w2, za_w3, za_cm, za_sl, Int.toNat_natCast, Int.toNat_natCast_add_one, mm_t0, mm_t1, mm_t2, mm_t3, mm_t4, mm_t5, mm_t6, mm_t7, mm_t8, mm_t9, mm_t10, mm_t11, mm_t12, mm_t13, za_1, za_64, za_65, za_66, za_67, za_68, za_71, za_80, za_89, za_98, za_103, za_110, za_121, za_122, za_123, za_124, za_125, za_126, za_188, za_193, za_194, za_195, za_286, za_288, za_289, za_290, za_291, za_292, za_293, za_294, za_295, za_296, za_297, za_298, za_299, za_300, za_301, za_302, za_303, za_304, za_305, za_306, za_307, za_308, za_309, za_310, za_311, za_312, h8']) ?_
      cases k with
      | zero => omega
      | succ k =>
        rw [nen, nvl, if_pos q', if_pos q'] at hQ
        refine lp_178_144 hT hz k (a + 1) (10 * n + T a - 48) _ (by omega) (by omega) (by omega) (by omega) ((hf.w _ (by omega)).w _ (by omega)) (mm_at rfl rfl (by omega) (by omega)) ?_ ?_ hQ
        · rw [mm_nj (by decide), mm_nj (by decide)]
          exact h9
        · rw [mm_nj (by decide), mm_at rfl rfl (by omega) (by omega)]
    · refine zwp_t q ?_
      have q' := fun p => q (si.mpr p)
      refine zwp_letE (τ' := zw σ 287 10 2) (by simp (disch := first | assumption | exact isR33 | exact isT104 | exact isF99 | exact isF101 | exact isR3 | omega | (refine isTk ?_; omega) | (refine isOk isR33 ?_; omega) | (refine isOk ?_ ?_; assumption; omega)) only [mm_r, mm_rl, mm_add, mm_sub, mm_mul, mm_addJ, mm_mulJ, mm_lt, mm_le, mm_eq, mm_z, mm_cl, mm_w, mm_wl, mm_ite, mm_i2l, mm_l2i, mm_ltJ, mm_leJ, mm_eqJ, mm_clt, mm_cle, mm_cgt, mm_cge, mm_ceq, mm_b, mm_nb, mm_nb0, mm_nb1, mm_vb0, mm_vb1, mm_vbc, mm_vy0, mm_vy1, mm_at, mm_ne, mm_nj, mm_Lw, mm_Nw, mm_atJ, mm_neJ, mm_njJ, zbI_s, zbV_s, zbJ_s, cond_t, Bool.true_and, Bool.and_true, if_true, if_false, not_true, not_false_iff, Classical.not_not, zel_r, zel_42, zel_12, zel_71, zel_80, zel_89, zel_110, zel_188, zel_103, zel_195, zr_o, zr_1, zr_2, zr_3, zr_4, zr_5, zr_6, zr_7, zr_8, zr_9, zq_o, zq_v, zt_o, zt_1, zt_2, zt_3, zt_4, zt_5, zf_o, zf_1, za_w1, za_w2, za_w3, za_cm, za_sl, Int.toNat_natCast, Int.toNat_natCast_add_one, mm_t0, mm_t1, mm_t2, mm_t3, mm_t4, mm_t5, mm_t6, mm_t7, mm_t8, mm_t9, mm_t10, mm_t11, mm_t12, mm_t13, za_1, za_64, za_65, za_66, za_67, za_68, za_71, za_80, za_89, za_98, za_103, za_110, za_121, za_122, za_123, za_124, za_125, za_126, za_188, za_193, za_194, za_195, za_286, za_288, za_289, za_290, za_291, za_292, za_293, za_294, za_295, za_296, za_297, za_298, za_299, za_300, za_301, za_302, za_303, za_304, za_305, za_306, za_307, za_308, za_309, za_310, za_311, za_312]) ?_
      refine zwp_ret (hQ _ (hf.w _ (by omega)) ?_ ((mm_nj (by decide)).trans h9) ?_ (mm_at rfl rfl (by decide) (by decide)))
      · rw [mm_nj (by decide), h8]
        cases k with
        | zero => rfl
        | succ k => rw [nen, if_neg q']
      · rw [mm_nj (by decide), h11]
        cases k with
        | zero => rfl
        | succ k => rw [nvl, if_neg q']
theorem lp_178 {σ0 : zM} {T : Int → Int} {sz v : Int} (hT : tpC σ0 291 T sz) (hz : zN σ0 287 7 = sz) : ∀ (k : Nat) (a : Int) (σ : zM), (sz - a).toNat = k → 0 ≤ a → a ≤ sz → srF σ0 σ → zN σ 287 8 = a → zN σ 287 11 = zN σ0 287 11 → zwp (zev 178 0 [some (.ref 287), none] [] σ) (fun w τ => w = none ∧ srF σ0 τ ∧ tkR τ (scA T sz (skp T sz k a) v))
  | k, a, σ, e, a0, a1, hf, h8, h11 => by
    have hs := hT.1
    have hT' := hf.T hT
    have hz' : zN σ 287 7 = sz := (hf.2 7 (by omega)).trans hz
    have sr := seeT_rng hT a0
    have s32 := seeT_in hT a0 (x := 32) (y := 32) (by decide) (by decide)
    have s10 := seeT_in hT a0 (x := 10) (y := 10) (by decide) (by decide)
    refine zwp_of (fun r h => ze_178_0 _ r h) ?_
    rw [mm_r σ 287 8, h8, sp_177 hT' hz' a0 a1, zbI_s]
    by_cases q : seeT T sz a = 32
    · refine zwp_t (by rw [q]) ?_
      refine zwp_letE (τ' := zw σ 287 8 (a + 1)) (by simp (disch := first | assumption | exact isR33 | exact isT104 | exact isF99 | exact isF101 | exact isR3 | omega | (refine isTk ?_; omega) | (refine isOk isR33 ?_; omega) | (refine isOk ?_ ?_; assumption; omega)) only [mm_r, mm_rl, mm_add, mm_sub, mm_mul, mm_addJ, mm_mulJ, mm_lt, mm_le, mm_eq, mm_z, mm_cl, mm_w, mm_wl, mm_ite, mm_i2l, mm_l2i, mm_ltJ, mm_leJ, mm_eqJ, mm_clt, mm_cle, mm_cgt, mm_cge, mm_ceq, mm_b, mm_nb, mm_nb0, mm_nb1, mm_vb0, mm_vb1, mm_vbc, mm_vy0, mm_vy1, mm_at, mm_ne, mm_nj, mm_Lw, mm_Nw, mm_atJ, mm_neJ, mm_njJ, zbI_s, zbV_s, zbJ_s, cond_t, Bool.true_and, Bool.and_true, if_true, if_false, not_true, not_false_iff, Classical.not_not, zel_r, zel_42, zel_12, zel_71, zel_80, zel_89, zel_110, zel_188, zel_103, zel_195, zr_o, zr_1, zr_2, zr_3, zr_4, zr_5, zr_6, zr_7, zr_8, zr_9, zq_o, zq_v, zt_o, zt_1, zt_2, zt_3, zt_4, zt_5, zf_o, zf_1, za_w1, za_w2, za_w3, za_cm, za_sl, Int.toNat_natCast, Int.toNat_natCast_add_one, mm_t0, mm_t1, mm_t2, mm_t3, mm_t4, mm_t5, mm_t6, mm_t7, mm_t8, mm_t9, mm_t10, mm_t11, mm_t12, mm_t13, za_1, za_64, za_65, za_66, za_67, za_68, za_71, za_80, za_89, za_98, za_103, za_110, za_121, za_122, za_123, za_124, za_125, za_126, za_188, za_193, za_194, za_195, za_286, za_288, za_289, za_290, za_291, za_292, za_293, za_294, za_295, za_296, za_297, za_298, za_299, za_300, za_301, za_302, za_303, za_304, za_305, za_306, za_307, za_308, za_309, za_310, za_311, za_312, h8]) ?_
      have q' := s32.mp (by omega)
      cases k with
      | zero => omega
      | succ k =>
        rw [skp, if_pos ⟨q'.1, .inl (by omega)⟩]
        exact lp_178 hT hz k (a + 1) _ (by omega) (by omega) (by omega) (hf.w _ (by omega)) (mm_at rfl rfl (by omega) (by omega)) ((mm_nj (by decide)).trans h11)
    · refine zwp_f (by rw [mm_eq (by omega) (by omega) (by omega) (by omega)]; exact q) ?_
      rw [mm_r σ 287 8, h8, sp_177 hT' hz' a0 a1, zbI_s]
      by_cases q2 : seeT T sz a = 10
      · refine zwp_f (by rw [q2]; exact fun p => p rfl) ?_
        refine zwp_letE (τ' := zw σ 287 8 (a + 1)) (by simp (disch := first | assumption | exact isR33 | exact isT104 | exact isF99 | exact isF101 | exact isR3 | omega | (refine isTk ?_; omega) | (refine isOk isR33 ?_; omega) | (refine isOk ?_ ?_; assumption; omega)) only [mm_r, mm_rl, mm_add, mm_sub, mm_mul, mm_addJ, mm_mulJ, mm_lt, mm_le, mm_eq, mm_z, mm_cl, mm_w, mm_wl, mm_ite, mm_i2l, mm_l2i, mm_ltJ, mm_leJ, mm_eqJ, mm_clt, mm_cle, mm_cgt, mm_cge, mm_ceq, mm_b, mm_nb, mm_nb0, mm_nb1, mm_vb0, mm_vb1, mm_vbc, mm_vy0, mm_vy1, mm_at, mm_ne, mm_nj, mm_Lw, mm_Nw, mm_atJ, mm_neJ, mm_njJ, zbI_s, zbV_s, zbJ_s, cond_t, Bool.true_and, Bool.and_true, if_true, if_false, not_true, not_false_iff, Classical.not_not, zel_r, zel_42, zel_12, zel_71, zel_80, zel_89, zel_110, zel_188, zel_103, zel_195, zr_o, zr_1, zr_2, zr_3, zr_4, zr_5, zr_6, zr_7, zr_8, zr_9, zq_o, zq_v, zt_o, zt_1, zt_2, zt_3, zt_4, zt_5, zf_o, zf_1, za_w1, za_w2, za_w3, za_cm, za_sl, Int.toNat_natCast, Int.toNat_natCast_add_one, mm_t0, mm_t1, mm_t2, mm_t3, mm_t4, mm_t5, mm_t6, mm_t7, mm_t8, mm_t9, mm_t10, mm_t11, mm_t12, mm_t13, za_1, za_64, za_65, za_66, za_67, za_68, za_71, za_80, za_89, za_98, za_103, za_110, za_121, za_122, za_123, za_124, za_125, za_126, za_188, za_193, za_194, za_195, za_286, za_288, za_289, za_290, za_291, za_292, za_293, za_294, za_295, za_296, za_297, za_298, za_299, za_300, za_301, za_302, za_303, za_304, za_305, za_306, za_307, za_308, za_309, za_310, za_311, za_312, h8]) ?_
        have q' := s10.mp (by omega)
        cases k with
        | zero => omega
        | succ k =>
          rw [skp, if_pos ⟨q'.1, .inr (by omega)⟩]
          exact lp_178 hT hz k (a + 1) _ (by omega) (by omega) (by omega) (hf.w _ (by omega)) (mm_at rfl rfl (by omega) (by omega)) ((mm_nj (by decide)).trans h11)
      · refine zwp_t (by rw [mm_eq (by omega) (by omega) (by omega) (by omega)]; exact q2) ?_
        have hk : skp T sz k a = a := by
          cases k with
          | zero => rfl
          | succ k =>
            rw [skp, if_neg (fun p => by
              rcases p with ⟨p1, p2 | p2⟩
              · have := s32.mpr ⟨p1, by omega, by omega⟩
                omega
              · have := s10.mpr ⟨p1, by omega, by omega⟩
                omega)]
        rw [hk]
        refine zwp_letE (τ' := zw σ 287 9 a) (by simp (disch := first | assumption | exact isR33 | exact isT104 | exact isF99 | exact isF101 | exact isR3 | omega | (refine isTk ?_; omega) | (refine isOk isR33 ?_; omega) | (refine isOk ?_ ?_; assumption; omega)) only [mm_r, mm_rl, mm_add, mm_sub, mm_mul, mm_addJ, mm_mulJ, mm_lt, mm_le, mm_eq, mm_z, mm_cl, mm_w, mm_wl, mm_ite, mm_i2l, mm_l2i, mm_ltJ, mm_leJ, mm_eqJ, mm_clt, mm_cle, mm_cgt, mm_cge, mm_ceq, mm_b, mm_nb, mm_nb0, mm_nb1, mm_vb0, mm_vb1, mm_vbc, mm_vy0, mm_vy1, mm_at, mm_ne, mm_nj, mm_Lw, mm_Nw, mm_atJ, mm_neJ, mm_njJ, zbI_s, zbV_s, zbJ_s, cond_t, Bool.true_and, Bool.and_true, if_true, if_false, not_true, not_false_iff, Classical.not_not, zel_r, zel_42, zel_12, zel_71, zel_80, zel_89, zel_110, zel_188, zel_103, zel_195, zr_o, zr_1, zr_2, zr_3, zr_4, zr_5, zr_6, zr_7, zr_8, zr_9, zq_o, zq_v, zt_o, zt_1, zt_2, zt_3, zt_4, zt_5, zf_o, zf_1, za_w1, za_w2, za_w3, za_cm, za_sl, Int.toNat_natCast, Int.toNat_natCast_add_one, mm_t0, mm_t1, mm_t2, mm_t3, mm_t4, mm_t5, mm_t6, mm_t7, mm_t8, mm_t9, mm_t10, mm_t11, mm_t12, mm_t13, za_1, za_64, za_65, za_66, za_67, za_68, za_71, za_80, za_89, za_98, za_103, za_110, za_121, za_122, za_123, za_124, za_125, za_126, za_188, za_193, za_194, za_195, za_286, za_288, za_289, za_290, za_291, za_292, za_293, za_294, za_295, za_296, za_297, za_298, za_299, za_300, za_301, za_302, za_303, za_304, za_305, za_306, za_307, za_308, za_309, za_310, za_311, za_312, h8]) ?_
        have f9 : srF σ0 (zw σ 287 9 a) := hf.w _ (by omega)
        have hT9 := f9.T hT
        have z9 : zN (zw σ 287 9 a) 287 7 = sz := (f9.2 7 (by omega)).trans hz
        have h89 : zN (zw σ 287 9 a) 287 8 = a := (mm_nj (by decide)).trans h8
        have h99 : zN (zw σ 287 9 a) 287 9 = a := mm_at rfl rfl (by omega) (by omega)
        generalize zw σ 287 9 a = τ at f9 hT9 z9 h89 h99 ⊢
        rw [mm_r τ 287 8, h89, sp_177 hT9 z9 a0 a1, zbI_s]
        unfold scA
        by_cases q3 : a < sz
        · rw [if_neg (show ¬ sz ≤ a by omega)]
          have ta := hT.2 a a0 q3
          have hne : seeT T sz a ≠ -1 := by
            unfold seeT ub
            rw [if_pos q3]
            split <;> omega
          refine zwp_t (by rw [mm_eq (by omega) (by omega) (by omega) (by omega)]; exact hne) ?_
          have si := seeT_in hT a0 (x := 97) (y := 122) (by decide) (by decide)
          have sd := seeT_in hT a0 (x := 48) (y := 57) (by decide) (by decide)
          have s59 := seeT_in hT a0 (x := 59) (y := 59) (by decide) (by decide)
          rw [mm_i2l (by omega) (by omega), sp_163 (by omega) (by omega) (by omega) (by omega) (by omega) (by omega), zbI_s]
          simp only [mm_z, mm_b]
          by_cases q4 : 97 ≤ seeT T sz a ∧ seeT T sz a ≤ 122
          · refine zwp_f (fun p => p q4) ?_
            rw [if_pos (si.mp q4).2]
            exact lp_178_83 hT9 z9 _ a τ rfl a0 a1 srF.rf h89 rfl rfl (fun υ g1 g2 g3 g4 g5 => ⟨rfl, f9.tr g1, g5, g3.trans h99, g2, fun p => by have p : (1 : Int) = 2 := p; omega⟩)
          · refine zwp_t q4 ?_
            rw [if_neg (fun p => q4 (si.mpr ⟨q3, p⟩)), sp_163 (by omega) (by omega) (by omega) (by omega) (by omega) (by omega), zbI_s]
            simp only [mm_b]
            by_cases q5 : 48 ≤ seeT T sz a ∧ seeT T sz a ≤ 57
            · refine zwp_f (fun p => p q5) ?_
              rw [if_pos (sd.mp q5).2]
              refine zwp_letE (τ' := zw τ 287 11 0) (by simp (disch := first | assumption | exact isR33 | exact isT104 | exact isF99 | exact isF101 | exact isR3 | omega | (refine isTk ?_; omega) | (refine isOk isR33 ?_; omega) | (refine isOk ?_ ?_; assumption; omega)) only [mm_r, mm_rl, mm_add, mm_sub, mm_mul, mm_addJ, mm_mulJ, mm_lt, mm_le, mm_eq, mm_z, mm_cl, mm_w, mm_wl, mm_ite, mm_i2l, mm_l2i, mm_ltJ, mm_leJ, mm_eqJ, mm_clt, mm_cle, mm_cgt, mm_cge, mm_ceq, mm_b, mm_nb, mm_nb0, mm_nb1, mm_vb0, mm_vb1, mm_vbc, mm_vy0, mm_vy1, mm_at, mm_ne, mm_nj, mm_Lw, mm_Nw, mm_atJ, mm_neJ, mm_njJ, zbI_s, zbV_s, zbJ_s, cond_t, Bool.true_and, Bool.and_true, if_true, if_false, not_true, not_false_iff, Classical.not_not, zel_r, zel_42, zel_12, zel_71, zel_80, zel_89, zel_110, zel_188, zel_103, zel_195, zr_o, zr_1, zr_2, zr_3, zr_4, zr_5, zr_6, zr_7, zr_8, zr_9, zq_o, zq_v, zt_o, zt_1, zt_2, zt_3, zt_4, zt_5, zf_o, zf_1, za_w1, za_w2, za_w3, za_cm, za_sl, Int.toNat_natCast, Int.toNat_natCast_add_one, mm_t0, mm_t1, mm_t2, mm_t3, mm_t4, mm_t5, mm_t6, mm_t7, mm_t8, mm_t9, mm_t10, mm_t11, mm_t12, mm_t13, za_1, za_64, za_65, za_66, za_67, za_68, za_71, za_80, za_89, za_98, za_103, za_110, za_121, za_122, za_123, za_124, za_125, za_126, za_188, za_193, za_194, za_195, za_286, za_288, za_289, za_290, za_291, za_292, za_293, za_294, za_295, za_296, za_297, za_298, za_299, za_300, za_301, za_302, za_303, za_304, za_305, za_306, za_307, za_308, za_309, za_310, za_311, za_312]) ?_
              exact lp_178_144 (σ0 := zw τ 287 11 0) (hT9.fr fun k => mm_ne (by decide)) ((mm_nj (by decide)).trans z9) _ a 0 _ rfl a0 a1 (by decide) srF.rf ((mm_nj (by decide)).trans h89) rfl (mm_at rfl rfl (by decide) (by decide)) (fun υ g1 g2 g3 g4 g5 => ⟨rfl, (f9.w 0 (by omega)).tr g1, g5, g3.trans ((mm_nj (by decide)).trans h99), g2, fun _ => g4⟩)
            · refine zwp_t q5 ?_
              rw [if_neg (fun p => q5 (sd.mpr ⟨q3, p⟩))]
              have hsg : ∀ x, (x = 3 ∨ x = 4) → (x = if T a = 59 then 3 else 4) → (fun w υ => w = none ∧ srF σ0 υ ∧ tkR υ (if T a = 59 then 3 else 4, a, a + 1, v)) (none : Option Value) (zw (zw τ 287 10 x) 287 8 (a + 1)) := by
                intro x hx hx2
                rw [← hx2]
                refine ⟨rfl, (f9.w _ (by omega)).w _ (by omega), ?_, ?_, mm_at rfl rfl (by omega) (by omega), ?_⟩
                · rw [mm_nj (by decide), mm_at rfl rfl (by omega) (by omega)]
                · rw [mm_nj (by decide), mm_nj (by decide)]
                  exact h99
                · intro p
                  have p : x = 2 := p
                  omega
              by_cases q6 : T a = 59
              · have : seeT T sz a = 59 := by have := s59.mpr ⟨q3, by omega, by omega⟩; omega
                refine zwp_f (by rw [this]; exact fun p => p rfl) ?_
                refine zwp_letE (τ' := zw τ 287 10 3) (by simp (disch := first | assumption | exact isR33 | exact isT104 | exact isF99 | exact isF101 | exact isR3 | omega | (refine isTk ?_; omega) | (refine isOk isR33 ?_; omega) | (refine isOk ?_ ?_; assumption; omega)) only [mm_r, mm_rl, mm_add, mm_sub, mm_mul, mm_addJ, mm_mulJ, mm_lt, mm_le, mm_eq, mm_z, mm_cl, mm_w, mm_wl, mm_ite, mm_i2l, mm_l2i, mm_ltJ, mm_leJ, mm_eqJ, mm_clt, mm_cle, mm_cgt, mm_cge, mm_ceq, mm_b, mm_nb, mm_nb0, mm_nb1, mm_vb0, mm_vb1, mm_vbc, mm_vy0, mm_vy1, mm_at, mm_ne, mm_nj, mm_Lw, mm_Nw, mm_atJ, mm_neJ, mm_njJ, zbI_s, zbV_s, zbJ_s, cond_t, Bool.true_and, Bool.and_true, if_true, if_false, not_true, not_false_iff, Classical.not_not, zel_r, zel_42, zel_12, zel_71, zel_80, zel_89, zel_110, zel_188, zel_103, zel_195, zr_o, zr_1, zr_2, zr_3, zr_4, zr_5, zr_6, zr_7, zr_8, zr_9, zq_o, zq_v, zt_o, zt_1, zt_2, zt_3, zt_4, zt_5, zf_o, zf_1, za_w1, za_w2, za_w3, za_cm, za_sl, Int.toNat_natCast, Int.toNat_natCast_add_one, mm_t0, mm_t1, mm_t2, mm_t3, mm_t4, mm_t5, mm_t6, mm_t7, mm_t8, mm_t9, mm_t10, mm_t11, mm_t12, mm_t13, za_1, za_64, za_65, za_66, za_67, za_68, za_71, za_80, za_89, za_98, za_103, za_110, za_121, za_122, za_123, za_124, za_125, za_126, za_188, za_193, za_194, za_195, za_286, za_288, za_289, za_290, za_291, za_292, za_293, za_294, za_295, za_296, za_297, za_298, za_299, za_300, za_301, za_302, za_303, za_304, za_305, za_306, za_307, za_308, za_309, za_310, za_311, za_312]) ?_
                have e8 : zN (zw τ 287 10 3) 287 8 = a := (mm_nj (by decide)).trans h89
                refine zwp_letE (τ' := zw (zw τ 287 10 3) 287 8 (a + 1)) (by simp (disch := first | assumption | exact isR33 | exact isT104 | exact isF99 | exact isF101 | exact isR3 | omega | (refine isTk ?_; omega) | (refine isOk isR33 ?_; omega) | (refine isOk ?_ ?_; assumption; omega)) only [mm_r, mm_rl, mm_add, mm_sub, mm_mul, mm_addJ, mm_mulJ, mm_lt, mm_le, mm_eq, mm_z, mm_cl, mm_w, mm_wl, mm_ite, mm_i2l, mm_l2i, mm_ltJ, mm_leJ, mm_eqJ, mm_clt, mm_cle, mm_cgt, mm_cge, mm_ceq, mm_b, mm_nb, mm_nb0, mm_nb1, mm_vb0, mm_vb1, mm_vbc, mm_vy0, mm_vy1, mm_at, mm_ne, mm_nj, mm_Lw, mm_Nw, mm_atJ, mm_neJ, mm_njJ, zbI_s, zbV_s, zbJ_s, cond_t, Bool.true_and, Bool.and_true, if_true, if_false, not_true, not_false_iff, Classical.not_not, zel_r, zel_42, zel_12, zel_71, zel_80, zel_89, zel_110, zel_188, zel_103, zel_195, zr_o, zr_1, zr_2, zr_3, zr_4, zr_5, zr_6, zr_7, zr_8, zr_9, zq_o, zq_v, zt_o, zt_1, zt_2, zt_3, zt_4, zt_5, zf_o, zf_1, za_w1, za_w2, za_w3, za_cm, za_sl, Int.toNat_natCast, Int.toNat_natCast_add_one, mm_t0, mm_t1, mm_t2, mm_t3, mm_t4, mm_t5, mm_t6, mm_t7, mm_t8, mm_t9, mm_t10, mm_t11, mm_t12, mm_t13, za_1, za_64, za_65, za_66, za_67, za_68, za_71, za_80, za_89, za_98, za_103, za_110, za_121, za_122, za_123, za_124, za_125, za_126, za_188, za_193, za_194, za_195, za_286, za_288, za_289, za_290, za_291, za_292, za_293, za_294, za_295, za_296, za_297, za_298, za_299, za_300, za_301, za_302, za_303, za_304, za_305, za_306, za_307, za_308, za_309, za_310, za_311, za_312, e8]) ?_
                exact zwp_ret (hsg 3 (.inl rfl) (if_pos q6).symm)
              · have : seeT T sz a ≠ 59 := fun p => by have := s59.mp (by omega); omega
                refine zwp_t (by rw [mm_eq (by omega) (by omega) (by omega) (by omega)]; exact this) ?_
                refine zwp_letE (τ' := zw τ 287 10 4) (by simp (disch := first | assumption | exact isR33 | exact isT104 | exact isF99 | exact isF101 | exact isR3 | omega | (refine isTk ?_; omega) | (refine isOk isR33 ?_; omega) | (refine isOk ?_ ?_; assumption; omega)) only [mm_r, mm_rl, mm_add, mm_sub, mm_mul, mm_addJ, mm_mulJ, mm_lt, mm_le, mm_eq, mm_z, mm_cl, mm_w, mm_wl, mm_ite, mm_i2l, mm_l2i, mm_ltJ, mm_leJ, mm_eqJ, mm_clt, mm_cle, mm_cgt, mm_cge, mm_ceq, mm_b, mm_nb, mm_nb0, mm_nb1, mm_vb0, mm_vb1, mm_vbc, mm_vy0, mm_vy1, mm_at, mm_ne, mm_nj, mm_Lw, mm_Nw, mm_atJ, mm_neJ, mm_njJ, zbI_s, zbV_s, zbJ_s, cond_t, Bool.true_and, Bool.and_true, if_true, if_false, not_true, not_false_iff, Classical.not_not, zel_r, zel_42, zel_12, zel_71, zel_80, zel_89, zel_110, zel_188, zel_103, zel_195, zr_o, zr_1, zr_2, zr_3, zr_4, zr_5, zr_6, zr_7, zr_8, zr_9, zq_o, zq_v, zt_o, zt_1, zt_2, zt_3, zt_4, zt_5, zf_o, zf_1, za_w1, za_w2, za_w3, za_cm, za_sl, Int.toNat_natCast, Int.toNat_natCast_add_one, mm_t0, mm_t1, mm_t2, mm_t3, mm_t4, mm_t5, mm_t6, mm_t7, mm_t8, mm_t9, mm_t10, mm_t11, mm_t12, mm_t13, za_1, za_64, za_65, za_66, za_67, za_68, za_71, za_80, za_89, za_98, za_103, za_110, za_121, za_122, za_123, za_124, za_125, za_126, za_188, za_193, za_194, za_195, za_286, za_288, za_289, za_290, za_291, za_292, za_293, za_294, za_295, za_296, za_297, za_298, za_299, za_300, za_301, za_302, za_303, za_304, za_305, za_306, za_307, za_308, za_309, za_310, za_311, za_312]) ?_
                have e8 : zN (zw τ 287 10 4) 287 8 = a := (mm_nj (by decide)).trans h89
                refine zwp_letE (τ' := zw (zw τ 287 10 4) 287 8 (a + 1)) (by simp (disch := first | assumption | exact isR33 | exact isT104 | exact isF99 | exact isF101 | exact isR3 | omega | (refine isTk ?_; omega) | (refine isOk isR33 ?_; omega) | (refine isOk ?_ ?_; assumption; omega)) only [mm_r, mm_rl, mm_add, mm_sub, mm_mul, mm_addJ, mm_mulJ, mm_lt, mm_le, mm_eq, mm_z, mm_cl, mm_w, mm_wl, mm_ite, mm_i2l, mm_l2i, mm_ltJ, mm_leJ, mm_eqJ, mm_clt, mm_cle, mm_cgt, mm_cge, mm_ceq, mm_b, mm_nb, mm_nb0, mm_nb1, mm_vb0, mm_vb1, mm_vbc, mm_vy0, mm_vy1, mm_at, mm_ne, mm_nj, mm_Lw, mm_Nw, mm_atJ, mm_neJ, mm_njJ, zbI_s, zbV_s, zbJ_s, cond_t, Bool.true_and, Bool.and_true, if_true, if_false, not_true, not_false_iff, Classical.not_not, zel_r, zel_42, zel_12, zel_71, zel_80, zel_89, zel_110, zel_188, zel_103, zel_195, zr_o, zr_1, zr_2, zr_3, zr_4, zr_5, zr_6, zr_7, zr_8, zr_9, zq_o, zq_v, zt_o, zt_1, zt_2, zt_3, zt_4, zt_5, zf_o, zf_1, za_w1, za_w2, za_w3, za_cm, za_sl, Int.toNat_natCast, Int.toNat_natCast_add_one, mm_t0, mm_t1, mm_t2, mm_t3, mm_t4, mm_t5, mm_t6, mm_t7, mm_t8, mm_t9, mm_t10, mm_t11, mm_t12, mm_t13, za_1, za_64, za_65, za_66, za_67, za_68, za_71, za_80, za_89, za_98, za_103, za_110, za_121, za_122, za_123, za_124, za_125, za_126, za_188, za_193, za_194, za_195, za_286, za_288, za_289, za_290, za_291, za_292, za_293, za_294, za_295, za_296, za_297, za_298, za_299, za_300, za_301, za_302, za_303, za_304, za_305, za_306, za_307, za_308, za_309, za_310, za_311, za_312, e8]) ?_
                exact zwp_ret (hsg 4 (.inr rfl) (if_neg q6).symm)
        · rw [if_pos (show sz ≤ a by omega)]
          have : seeT T sz a = -1 := by
            unfold seeT
            rw [if_neg q3]
          refine zwp_f (by rw [this]; exact fun p => p rfl) ?_
          refine zwp_letE (τ' := zw τ 287 10 0) (by simp (disch := first | assumption | exact isR33 | exact isT104 | exact isF99 | exact isF101 | exact isR3 | omega | (refine isTk ?_; omega) | (refine isOk isR33 ?_; omega) | (refine isOk ?_ ?_; assumption; omega)) only [mm_r, mm_rl, mm_add, mm_sub, mm_mul, mm_addJ, mm_mulJ, mm_lt, mm_le, mm_eq, mm_z, mm_cl, mm_w, mm_wl, mm_ite, mm_i2l, mm_l2i, mm_ltJ, mm_leJ, mm_eqJ, mm_clt, mm_cle, mm_cgt, mm_cge, mm_ceq, mm_b, mm_nb, mm_nb0, mm_nb1, mm_vb0, mm_vb1, mm_vbc, mm_vy0, mm_vy1, mm_at, mm_ne, mm_nj, mm_Lw, mm_Nw, mm_atJ, mm_neJ, mm_njJ, zbI_s, zbV_s, zbJ_s, cond_t, Bool.true_and, Bool.and_true, if_true, if_false, not_true, not_false_iff, Classical.not_not, zel_r, zel_42, zel_12, zel_71, zel_80, zel_89, zel_110, zel_188, zel_103, zel_195, zr_o, zr_1, zr_2, zr_3, zr_4, zr_5, zr_6, zr_7, zr_8, zr_9, zq_o, zq_v, zt_o, zt_1, zt_2, zt_3, zt_4, zt_5, zf_o, zf_1, za_w1, za_w2, za_w3, za_cm, za_sl, Int.toNat_natCast, Int.toNat_natCast_add_one, mm_t0, mm_t1, mm_t2, mm_t3, mm_t4, mm_t5, mm_t6, mm_t7, mm_t8, mm_t9, mm_t10, mm_t11, mm_t12, mm_t13, za_1, za_64, za_65, za_66, za_67, za_68, za_71, za_80, za_89, za_98, za_103, za_110, za_121, za_122, za_123, za_124, za_125, za_126, za_188, za_193, za_194, za_195, za_286, za_288, za_289, za_290, za_291, za_292, za_293, za_294, za_295, za_296, za_297, za_298, za_299, za_300, za_301, za_302, za_303, za_304, za_305, za_306, za_307, za_308, za_309, za_310, za_311, za_312]) ?_
          refine zwp_ret ⟨rfl, f9.w _ (by omega), mm_at rfl rfl (by decide) (by decide), (mm_nj (by decide)).trans h99, ?_, fun p => by have p : (0 : Int) = 2 := p; omega⟩
          rw [mm_nj (by decide), h89]
          show a = sz
          omega
/-- the reference scans -/
theorem sp_178 {σ : zM} {T : Int → Int} {sz st v : Int} (hT : tpC σ 291 T sz) (hz : zN σ 287 7 = sz) (h8 : zN σ 287 8 = st) (s0 : 0 ≤ st) (s1 : st ≤ sz) : zwp (zcall 178 [.ref 287] σ) (fun w τ => w = none ∧ srF σ τ ∧ tkR τ (scn T sz st v)) := by
  refine zwp_of (fun r h => zcc_178 h) ?_
  exact lp_178 hT hz _ st σ rfl s0 s1 srF.rf h8 rfl
