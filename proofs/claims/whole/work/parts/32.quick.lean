/-! QUICKEST WAYS: the reference's -/
/-- a row of the memory as whole numbers -/
def wv (σ : zM) (a : Nat) : Int → Int := fun j => zN σ a j.toNat
theorem wv_eq {σ τ : zM} {a : Nat} (h : ∀ k, zN τ a k = zN σ a k) : wv τ a = wv σ a := funext fun j => h j.toNat
theorem mf.wv {S : Nat → Prop} {σ τ : zM} (h : mf S σ τ) (a : Nat) (ha : ¬ S a) : wv τ a = wv σ a := wv_eq fun k => h.1 a ha k
theorem za_220 {a : Nat} {n : Int} (h : zsh[a]? = some (100, 220)) (h0 : 0 ≤ n) (h1 : n < 220) : zarr a 100 (Int32.ofInt n) = true := zarr_of h (by decide) h0 h1
theorem lp_188 {a : Nat} {x y : Int} {σ : zM} {n : Nat} (hz : zsh[a]? = some (100, 220)) (hx0 : -2147483648 ≤ x) (hx1 : x < 2147483648) (hy0 : -2147483648 ≤ y) (hy1 : y < 2147483648) (hn : zN σ a 2 = n) (h12 : n ≤ 12) : ∀ k i : Nat, i + k = n → zev 188 2 [some (.ref a), some (.int (Int32.ofInt x)), some (.int (Int32.ofInt y)), some (.int (Int32.ofInt i)), none] [] σ = some (some (.int (Int32.ofInt (zfst (rdP (wv σ a) x y) k i))), σ)
  | 0, i, e => by
    refine ze_188_2 _ _ _ _ _ _ ?_
    simp (disch := first | assumption | exact isR33 | exact isT104 | exact isF99 | exact isF101 | exact isR3 | omega | (refine isTk ?_; omega) | (refine isOk isR33 ?_; omega) | (refine isOk ?_ ?_; assumption; omega)) only [mm_r, mm_rl, mm_add, mm_sub, mm_mul, mm_addJ, mm_mulJ, mm_lt, mm_le, mm_eq, mm_z, mm_cl, mm_w, mm_wl, mm_ite, mm_i2l, mm_l2i, mm_ltJ, mm_leJ, mm_eqJ, mm_clt, mm_cle, mm_cgt, mm_cge, mm_ceq, mm_b, mm_nb, mm_nb0, mm_nb1, mm_vb0, mm_vb1, mm_vbc, mm_vy0, mm_vy1, mm_at, mm_ne, mm_nj, mm_Lw, mm_Nw, mm_atJ, mm_neJ, mm_njJ, zbI_s, zbV_s, zbJ_s, cond_t, Bool.true_and, Bool.and_true, if_true, if_false, not_true, not_false_iff, zel_r, zel_42, zel_12, zel_71, zel_80, zel_89, zel_110, zel_188, zel_103, zel_195, zr_o, zr_1, zr_2, zr_3, zr_4, zr_5, zr_6, zr_7, zr_8, zr_9, zq_o, zq_v, zt_o, zt_1, zt_2, zt_3, zt_4, zt_5, zf_o, zf_1, za_w1, za_w2, za_w3, za_cm, za_sl, Int.toNat_natCast, mm_t0, mm_t1, mm_t2, mm_t3, mm_t4, mm_t5, mm_t6, mm_t7, mm_t8, mm_t9, mm_t10, mm_t11, mm_t12, mm_t13, za_1, za_64, za_65, za_66, za_67, za_68, za_71, za_80, za_89, za_98, za_103, za_110, za_121, za_122, za_123, za_124, za_125, za_126, za_188, za_193, za_194, za_195, za_286, za_288, za_289, za_290, za_291, za_292, za_293, za_294, za_295, za_296, za_297, za_298, za_299, za_300, za_301, za_302, za_303, za_304, za_305, za_306, za_307, za_308, za_309, za_310, za_311, za_312, za_220 hz]
    rw [if_pos (by omega)]
    rfl
  | k + 1, i, e => by
    have ih := lp_188 (x := x) (y := y) hz hx0 hx1 hy0 hy1 hn h12 k (i + 1) (by omega)
    have b1 := mm_lo σ a (8 + 3 * (i : Int)).toNat
    have b2 := mm_hi σ a (8 + 3 * (i : Int)).toNat
    have b3 := mm_lo σ a (8 + 3 * (i : Int) + 1).toNat
    have b4 := mm_hi σ a (8 + 3 * (i : Int) + 1).toNat
    have e1 : rdP (wv σ a) x y i = decide (zN σ a (8 + 3 * (i : Int)).toNat = x ∧ zN σ a (8 + 3 * (i : Int) + 1).toNat = y ∨ zN σ a (8 + 3 * (i : Int)).toNat = y ∧ zN σ a (8 + 3 * (i : Int) + 1).toNat = x) := rfl
    rw [zfst, e1]
    simp only [decide_eq_true_eq]
    refine ze_188_2 _ _ _ _ _ _ ?_
    simp (disch := first | assumption | exact isR33 | exact isT104 | exact isF99 | exact isF101 | exact isR3 | omega | (refine isTk ?_; omega) | (refine isOk isR33 ?_; omega) | (refine isOk ?_ ?_; assumption; omega)) only [mm_r, mm_rl, mm_add, mm_sub, mm_mul, mm_addJ, mm_mulJ, mm_lt, mm_le, mm_eq, mm_z, mm_cl, mm_w, mm_wl, mm_ite, mm_i2l, mm_l2i, mm_ltJ, mm_leJ, mm_eqJ, mm_clt, mm_cle, mm_cgt, mm_cge, mm_ceq, mm_b, mm_nb, mm_nb0, mm_nb1, mm_vb0, mm_vb1, mm_vbc, mm_vy0, mm_vy1, mm_at, mm_ne, mm_nj, mm_Lw, mm_Nw, mm_atJ, mm_neJ, mm_njJ, zbI_s, zbV_s, zbJ_s, cond_t, Bool.true_and, Bool.and_true, if_true, if_false, not_true, not_false_iff, zel_r, zel_42, zel_12, zel_71, zel_80, zel_89, zel_110, zel_188, zel_103, zel_195, zr_o, zr_1, zr_2, zr_3, zr_4, zr_5, zr_6, zr_7, zr_8, zr_9, zq_o, zq_v, zt_o, zt_1, zt_2, zt_3, zt_4, zt_5, zf_o, zf_1, za_w1, za_w2, za_w3, za_cm, za_sl, Int.toNat_natCast, mm_t0, mm_t1, mm_t2, mm_t3, mm_t4, mm_t5, mm_t6, mm_t7, mm_t8, mm_t9, mm_t10, mm_t11, mm_t12, mm_t13, za_1, za_64, za_65, za_66, za_67, za_68, za_71, za_80, za_89, za_98, za_103, za_110, za_121, za_122, za_123, za_124, za_125, za_126, za_188, za_193, za_194, za_195, za_286, za_288, za_289, za_290, za_291, za_292, za_293, za_294, za_295, za_296, za_297, za_298, za_299, za_300, za_301, za_302, za_303, za_304, za_305, za_306, za_307, za_308, za_309, za_310, za_311, za_312, za_220 hz]
    rw [if_neg (by omega)]
    repeat' split
    all_goals first | exact ih | rfl | (exfalso; omega)
theorem sp_188 {a : Nat} {x y : Int} {σ : zM} (hz : zsh[a]? = some (100, 220)) (hx0 : -2147483648 ≤ x) (hx1 : x < 2147483648) (hy0 : -2147483648 ≤ y) (hy1 : y < 2147483648) (h0 : 0 ≤ zN σ a 2) (h12 : zN σ a 2 ≤ 12) : zcall 188 [.ref a, .int (Int32.ofInt x), .int (Int32.ofInt y)] σ = some (some (.int (Int32.ofInt (RD (wv σ a) x y))), σ) := by
  refine zcc_188 (ze_188_0 _ _ _ _ _ ?_)
  exact lp_188 (n := (zN σ a 2).toNat) hz hx0 hx1 hy0 hy1 (by omega) (by omega) (zN σ a 2).toNat 0 (by omega)
theorem zs_288 : zsh[288]? = some (100, 220) := by decide +kernel
theorem zs_293 : zsh[293]? = some (100, 220) := by decide +kernel
theorem sp_198 {x y : Int} {σ : zM} (hx0 : -2147483648 ≤ x) (hx1 : x < 2147483648) (hy0 : -2147483648 ≤ y) (hy1 : y < 2147483648) (h0 : 0 ≤ zN σ 288 2) (h12 : zN σ 288 2 ≤ 12) : zcall 198 [.ref 287, .int (Int32.ofInt x), .int (Int32.ofInt y)] σ = some (some (.int (Int32.ofInt (RD (wv σ 288) x y))), σ) := by
  refine zcc_198 (ze_198_0 _ _ _ _ ?_)
  rw [sp_188 zs_288 hx0 hx1 hy0 hy1 h0 h12]
  rfl
/-- a table of towns by towns in the reference's row, in the class's rows -/
def matR (σ : zM) (x y : Int) : Int := zN σ 294 (8 * x + y).toNat
def matC (σ : zM) (p : Nat) (x y : Int) : Int := zN σ (p + x.toNat) y.toNat
def mE (T : Nat) (M d : Int → Int → Int) : Prop := ∀ x y : Int, 0 ≤ x → x < (T : Int) → 0 ≤ y → y < (T : Int) → M x y = d x y
def bnd (T : Nat) (d : Int → Int → Int) : Prop := ∀ x y : Int, 0 ≤ x → x < (T : Int) → 0 ≤ y → y < (T : Int) → 0 ≤ d x y ∧ d x y ≤ 1000000
theorem bnd_fw {T : Nat} {m a b : Int} {d : Int → Int → Int} (h : bnd T d) (m0 : 0 ≤ m) (m1 : m < T) (a0 : 0 ≤ a) (a1 : a < T) (b0 : 0 ≤ b) (b1 : b < T) : bnd T (fw m a b d) := by
  intro x y x0 x1 y0 y1
  have h1 := h x y x0 x1 y0 y1
  have h2 := h a b a0 a1 b0 b1
  have h3 := h a m a0 a1 m0 m1
  have h4 := h m b m0 m1 b0 b1
  unfold fw mn
  repeat' split
  all_goals omega
theorem bnd_fwB {T : Nat} {m a : Int} {d : Int → Int → Int} (h : bnd T d) (m0 : 0 ≤ m) (m1 : m < T) (a0 : 0 ≤ a) (a1 : a < T) : ∀ n : Nat, n ≤ T → bnd T (fwB m a n d)
  | 0, _ => h
  | n + 1, hn => bnd_fw (bnd_fwB h m0 m1 a0 a1 n (by omega)) m0 m1 a0 a1 (by omega) (by omega)
theorem bnd_fwA {T : Nat} {m : Int} {d : Int → Int → Int} (h : bnd T d) (m0 : 0 ≤ m) (m1 : m < T) : ∀ n : Nat, n ≤ T → bnd T (fwA T m n d)
  | 0, _ => h
  | n + 1, hn => bnd_fwB (bnd_fwA h m0 m1 n (by omega)) m0 m1 (by omega) (by omega) T (Nat.le_refl _)
theorem bnd_fwM {T : Nat} {d : Int → Int → Int} (h : bnd T d) : ∀ n : Nat, n ≤ T → bnd T (fwM T n d)
  | 0, _ => h
  | n + 1, hn => bnd_fwA (bnd_fwM h n (by omega)) (by omega) (by omega) T (Nat.le_refl _)
theorem lp_200_106 {σ0 : zM} {T : Nat} {m a : Int} {Q : Option Value → zM → Prop} {d : Int → Int → Int} (hT0 : zN σ0 288 0 = T) (hT : T ≤ 8) (m0 : 0 ≤ m) (m1 : m < T) (a0 : 0 ≤ a) (a1 : a < T) (hb : bnd T d)
    (K : ∀ τ, mf (fun r => r = 294) σ0 τ → mE T (matR τ) (fwB m a T d) → zwp (zev 200 96 [some (.ref 287), some (.int (Int32.ofInt m)), some (.int (Int32.ofInt (a + 1))), none] [] τ) Q) :
    ∀ (k j : Nat) (σ : zM), j + k = T → mf (fun r => r = 294) σ0 σ → mE T (matR σ) (fwB m a j d) → zwp (zev 200 106 [some (.ref 287), some (.int (Int32.ofInt m)), some (.int (Int32.ofInt a)), some (.int (Int32.ofInt j))] [] σ) Q
  | 0, j, σ, e, hf, hE => by
    have e0 : zN σ 288 0 = T := (hf.1 288 (by decide) 0).trans hT0
    obtain rfl : j = T := by omega
    refine zwp_of (fun r h => ze_200_106 _ _ _ _ r h) ?_
    rw [sp_167, zbI_s, e0]
    simp (disch := first | assumption | exact isR33 | exact isT104 | exact isF99 | exact isF101 | exact isR3 | omega | (refine isTk ?_; omega) | (refine isOk isR33 ?_; omega) | (refine isOk ?_ ?_; assumption; omega)) only [mm_r, mm_rl, mm_add, mm_sub, mm_mul, mm_addJ, mm_mulJ, mm_lt, mm_le, mm_eq, mm_z, mm_cl, mm_w, mm_wl, mm_ite, mm_i2l, mm_l2i, mm_ltJ, mm_leJ, mm_eqJ, mm_clt, mm_cle, mm_cgt, mm_cge, mm_ceq, mm_b, mm_nb, mm_nb0, mm_nb1, mm_vb0, mm_vb1, mm_vbc, mm_vy0, mm_vy1, mm_at, mm_ne, mm_nj, mm_Lw, mm_Nw, mm_atJ, mm_neJ, mm_njJ, zbI_s, zbV_s, zbJ_s, cond_t, Bool.true_and, Bool.and_true, if_true, if_false, not_true, not_false_iff, zel_r, zel_42, zel_12, zel_71, zel_80, zel_89, zel_110, zel_188, zel_103, zel_195, zr_o, zr_1, zr_2, zr_3, zr_4, zr_5, zr_6, zr_7, zr_8, zr_9, zq_o, zq_v, zt_o, zt_1, zt_2, zt_3, zt_4, zt_5, zf_o, zf_1, za_w1, za_w2, za_w3, za_cm, za_sl, Int.toNat_natCast, mm_t0, mm_t1, mm_t2, mm_t3, mm_t4, mm_t5, mm_t6, mm_t7, mm_t8, mm_t9, mm_t10, mm_t11, mm_t12, mm_t13, za_1, za_64, za_65, za_66, za_67, za_68, za_71, za_80, za_89, za_98, za_103, za_110, za_121, za_122, za_123, za_124, za_125, za_126, za_188, za_193, za_194, za_195, za_286, za_288, za_289, za_290, za_291, za_292, za_293, za_294, za_295, za_296, za_297, za_298, za_299, za_300, za_301, za_302, za_303, za_304, za_305, za_306, za_307, za_308, za_309, za_310, za_311, za_312]
    rw [if_pos (by omega)]
    exact K σ hf hE
  | k + 1, j, σ, e, hf, hE => by
    have e0 : zN σ 288 0 = T := (hf.1 288 (by decide) 0).trans hT0
    have hb' := bnd_fwB hb m0 m1 a0 a1 j (by omega)
    have v1 : zN σ 294 (8 * a + j).toNat = fwB m a j d a j := hE a j a0 a1 (by omega) (by omega)
    have v2 : zN σ 294 (8 * a + m).toNat = fwB m a j d a m := hE a m a0 a1 m0 m1
    have v3 : zN σ 294 (8 * m + j).toNat = fwB m a j d m j := hE m j m0 m1 (by omega) (by omega)
    have c1 := hb' a j a0 a1 (by omega) (by omega)
    have c2 := hb' a m a0 a1 m0 m1
    have c3 := hb' m j m0 m1 (by omega) (by omega)
    refine zwp_of (fun r h => ze_200_106 _ _ _ _ r h) ?_
    rw [sp_167, zbI_s, e0]
    simp (disch := first | assumption | exact isR33 | exact isT104 | exact isF99 | exact isF101 | exact isR3 | omega | (refine isTk ?_; omega) | (refine isOk isR33 ?_; omega) | (refine isOk ?_ ?_; assumption; omega)) only [mm_r, mm_rl, mm_add, mm_sub, mm_mul, mm_addJ, mm_mulJ, mm_lt, mm_le, mm_eq, mm_z, mm_cl, mm_w, mm_wl, mm_ite, mm_i2l, mm_l2i, mm_ltJ, mm_leJ, mm_eqJ, mm_clt, mm_cle, mm_cgt, mm_cge, mm_ceq, mm_b, mm_nb, mm_nb0, mm_nb1, mm_vb0, mm_vb1, mm_vbc, mm_vy0, mm_vy1, mm_at, mm_ne, mm_nj, mm_Lw, mm_Nw, mm_atJ, mm_neJ, mm_njJ, zbI_s, zbV_s, zbJ_s, cond_t, Bool.true_and, Bool.and_true, if_true, if_false, not_true, not_false_iff, zel_r, zel_42, zel_12, zel_71, zel_80, zel_89, zel_110, zel_188, zel_103, zel_195, zr_o, zr_1, zr_2, zr_3, zr_4, zr_5, zr_6, zr_7, zr_8, zr_9, zq_o, zq_v, zt_o, zt_1, zt_2, zt_3, zt_4, zt_5, zf_o, zf_1, za_w1, za_w2, za_w3, za_cm, za_sl, Int.toNat_natCast, mm_t0, mm_t1, mm_t2, mm_t3, mm_t4, mm_t5, mm_t6, mm_t7, mm_t8, mm_t9, mm_t10, mm_t11, mm_t12, mm_t13, za_1, za_64, za_65, za_66, za_67, za_68, za_71, za_80, za_89, za_98, za_103, za_110, za_121, za_122, za_123, za_124, za_125, za_126, za_188, za_193, za_194, za_195, za_286, za_288, za_289, za_290, za_291, za_292, za_293, za_294, za_295, za_296, za_297, za_298, za_299, za_300, za_301, za_302, za_303, za_304, za_305, za_306, za_307, za_308, za_309, za_310, za_311, za_312, v1, v2, v3]
    rw [if_neg (by omega)]
    refine zwp_let ?_
    refine lp_200_106 hT0 hT m0 m1 a0 a1 hb K k (j + 1) _ (by omega) (hf.zw 294 _ _ rfl) (fun x y x0 x1 y0 y1 => ?_)
    show zN (zw σ 294 _ _) 294 _ = fw m a j (fwB m a j d) x y
    unfold fw mn
    by_cases q : x = a ∧ y = j
    · obtain ⟨rfl, rfl⟩ := q
      refine (mm_at rfl rfl ?_ ?_).trans (if_pos ⟨rfl, rfl⟩).symm
      · split <;> omega
      · split <;> omega
    · rw [if_neg q, mm_nj (by omega)]
      exact hE x y x0 x1 y0 y1
theorem lp_200_96 {σ0 : zM} {T : Nat} {m : Int} {Q : Option Value → zM → Prop} {d : Int → Int → Int} (hT0 : zN σ0 288 0 = T) (hT : T ≤ 8) (m0 : 0 ≤ m) (m1 : m < T) (hb : bnd T d)
    (K : ∀ τ, mf (fun r => r = 294) σ0 τ → mE T (matR τ) (fwA T m T d) → zwp (zev 200 86 [some (.ref 287), some (.int (Int32.ofInt (m + 1))), none, none] [] τ) Q) :
    ∀ (k j : Nat) (σ : zM), j + k = T → mf (fun r => r = 294) σ0 σ → mE T (matR σ) (fwA T m j d) → zwp (zev 200 96 [some (.ref 287), some (.int (Int32.ofInt m)), some (.int (Int32.ofInt j)), none] [] σ) Q
  | 0, j, σ, e, hf, hE => by
    have e0 : zN σ 288 0 = T := (hf.1 288 (by decide) 0).trans hT0
    obtain rfl : j = T := by omega
    refine zwp_of (fun r h => ze_200_96 _ _ _ r h) ?_
    rw [sp_167, zbI_s, e0]
    simp (disch := first | assumption | exact isR33 | exact isT104 | exact isF99 | exact isF101 | exact isR3 | omega | (refine isTk ?_; omega) | (refine isOk isR33 ?_; omega) | (refine isOk ?_ ?_; assumption; omega)) only [mm_r, mm_rl, mm_add, mm_sub, mm_mul, mm_addJ, mm_mulJ, mm_lt, mm_le, mm_eq, mm_z, mm_cl, mm_w, mm_wl, mm_ite, mm_i2l, mm_l2i, mm_ltJ, mm_leJ, mm_eqJ, mm_clt, mm_cle, mm_cgt, mm_cge, mm_ceq, mm_b, mm_nb, mm_nb0, mm_nb1, mm_vb0, mm_vb1, mm_vbc, mm_vy0, mm_vy1, mm_at, mm_ne, mm_nj, mm_Lw, mm_Nw, mm_atJ, mm_neJ, mm_njJ, zbI_s, zbV_s, zbJ_s, cond_t, Bool.true_and, Bool.and_true, if_true, if_false, not_true, not_false_iff, zel_r, zel_42, zel_12, zel_71, zel_80, zel_89, zel_110, zel_188, zel_103, zel_195, zr_o, zr_1, zr_2, zr_3, zr_4, zr_5, zr_6, zr_7, zr_8, zr_9, zq_o, zq_v, zt_o, zt_1, zt_2, zt_3, zt_4, zt_5, zf_o, zf_1, za_w1, za_w2, za_w3, za_cm, za_sl, Int.toNat_natCast, mm_t0, mm_t1, mm_t2, mm_t3, mm_t4, mm_t5, mm_t6, mm_t7, mm_t8, mm_t9, mm_t10, mm_t11, mm_t12, mm_t13, za_1, za_64, za_65, za_66, za_67, za_68, za_71, za_80, za_89, za_98, za_103, za_110, za_121, za_122, za_123, za_124, za_125, za_126, za_188, za_193, za_194, za_195, za_286, za_288, za_289, za_290, za_291, za_292, za_293, za_294, za_295, za_296, za_297, za_298, za_299, za_300, za_301, za_302, za_303, za_304, za_305, za_306, za_307, za_308, za_309, za_310, za_311, za_312]
    rw [if_pos (by omega)]
    exact K σ hf hE
  | k + 1, j, σ, e, hf, hE => by
    have e0 : zN σ 288 0 = T := (hf.1 288 (by decide) 0).trans hT0
    refine zwp_of (fun r h => ze_200_96 _ _ _ r h) ?_
    rw [sp_167, zbI_s, e0]
    simp (disch := first | assumption | exact isR33 | exact isT104 | exact isF99 | exact isF101 | exact isR3 | omega | (refine isTk ?_; omega) | (refine isOk isR33 ?_; omega) | (refine isOk ?_ ?_; assumption; omega)) only [mm_r, mm_rl, mm_add, mm_sub, mm_mul, mm_addJ, mm_mulJ, mm_lt, mm_le, mm_eq, mm_z, mm_cl, mm_w, mm_wl, mm_ite, mm_i2l, mm_l2i, mm_ltJ, mm_leJ, mm_eqJ, mm_clt, mm_cle, mm_cgt, mm_cge, mm_ceq, mm_b, mm_nb, mm_nb0, mm_nb1, mm_vb0, mm_vb1, mm_vbc, mm_vy0, mm_vy1, mm_at, mm_ne, mm_nj, mm_Lw, mm_Nw, mm_atJ, mm_neJ, mm_njJ, zbI_s, zbV_s, zbJ_s, cond_t, Bool.true_and, Bool.and_true, if_true, if_false, not_true, not_false_iff, zel_r, zel_42, zel_12, zel_71, zel_80, zel_89, zel_110, zel_188, zel_103, zel_195, zr_o, zr_1, zr_2, zr_3, zr_4, zr_5, zr_6, zr_7, zr_8, zr_9, zq_o, zq_v, zt_o, zt_1, zt_2, zt_3, zt_4, zt_5, zf_o, zf_1, za_w1, za_w2, za_w3, za_cm, za_sl, Int.toNat_natCast, mm_t0, mm_t1, mm_t2, mm_t3, mm_t4, mm_t5, mm_t6, mm_t7, mm_t8, mm_t9, mm_t10, mm_t11, mm_t12, mm_t13, za_1, za_64, za_65, za_66, za_67, za_68, za_71, za_80, za_89, za_98, za_103, za_110, za_121, za_122, za_123, za_124, za_125, za_126, za_188, za_193, za_194, za_195, za_286, za_288, za_289, za_290, za_291, za_292, za_293, za_294, za_295, za_296, za_297, za_298, za_299, za_300, za_301, za_302, za_303, za_304, za_305, za_306, za_307, za_308, za_309, za_310, za_311, za_312]
    rw [if_neg (by omega)]
    exact lp_200_106 hT0 hT m0 m1 (by omega) (by omega) (bnd_fwA hb m0 m1 j (by omega)) (fun τ hf' hE' => lp_200_96 hT0 hT m0 m1 hb K k (j + 1) τ (by omega) hf' hE') T 0 σ (by omega) hf hE
theorem lp_200_86 {σ0 : zM} {T : Nat} {Q : Option Value → zM → Prop} {d : Int → Int → Int} (hT0 : zN σ0 288 0 = T) (hT : T ≤ 8) (hb : bnd T d)
    (K : ∀ τ, mf (fun r => r = 294) σ0 τ → mE T (matR τ) (fwM T T d) → Q none τ) :
    ∀ (k j : Nat) (σ : zM), j + k = T → mf (fun r => r = 294) σ0 σ → mE T (matR σ) (fwM T j d) → zwp (zev 200 86 [some (.ref 287), some (.int (Int32.ofInt j)), none, none] [] σ) Q
  | 0, j, σ, e, hf, hE => by
    have e0 : zN σ 288 0 = T := (hf.1 288 (by decide) 0).trans hT0
    obtain rfl : j = T := by omega
    refine zwp_of (fun r h => ze_200_86 _ _ r h) ?_
    rw [sp_167, zbI_s, e0]
    simp (disch := first | assumption | exact isR33 | exact isT104 | exact isF99 | exact isF101 | exact isR3 | omega | (refine isTk ?_; omega) | (refine isOk isR33 ?_; omega) | (refine isOk ?_ ?_; assumption; omega)) only [mm_r, mm_rl, mm_add, mm_sub, mm_mul, mm_addJ, mm_mulJ, mm_lt, mm_le, mm_eq, mm_z, mm_cl, mm_w, mm_wl, mm_ite, mm_i2l, mm_l2i, mm_ltJ, mm_leJ, mm_eqJ, mm_clt, mm_cle, mm_cgt, mm_cge, mm_ceq, mm_b, mm_nb, mm_nb0, mm_nb1, mm_vb0, mm_vb1, mm_vbc, mm_vy0, mm_vy1, mm_at, mm_ne, mm_nj, mm_Lw, mm_Nw, mm_atJ, mm_neJ, mm_njJ, zbI_s, zbV_s, zbJ_s, cond_t, Bool.true_and, Bool.and_true, if_true, if_false, not_true, not_false_iff, zel_r, zel_42, zel_12, zel_71, zel_80, zel_89, zel_110, zel_188, zel_103, zel_195, zr_o, zr_1, zr_2, zr_3, zr_4, zr_5, zr_6, zr_7, zr_8, zr_9, zq_o, zq_v, zt_o, zt_1, zt_2, zt_3, zt_4, zt_5, zf_o, zf_1, za_w1, za_w2, za_w3, za_cm, za_sl, Int.toNat_natCast, mm_t0, mm_t1, mm_t2, mm_t3, mm_t4, mm_t5, mm_t6, mm_t7, mm_t8, mm_t9, mm_t10, mm_t11, mm_t12, mm_t13, za_1, za_64, za_65, za_66, za_67, za_68, za_71, za_80, za_89, za_98, za_103, za_110, za_121, za_122, za_123, za_124, za_125, za_126, za_188, za_193, za_194, za_195, za_286, za_288, za_289, za_290, za_291, za_292, za_293, za_294, za_295, za_296, za_297, za_298, za_299, za_300, za_301, za_302, za_303, za_304, za_305, za_306, za_307, za_308, za_309, za_310, za_311, za_312]
    rw [if_pos (by omega)]
    exact zwp_ret (K σ hf hE)
  | k + 1, j, σ, e, hf, hE => by
    have e0 : zN σ 288 0 = T := (hf.1 288 (by decide) 0).trans hT0
    refine zwp_of (fun r h => ze_200_86 _ _ r h) ?_
    rw [sp_167, zbI_s, e0]
    simp (disch := first | assumption | exact isR33 | exact isT104 | exact isF99 | exact isF101 | exact isR3 | omega | (refine isTk ?_; omega) | (refine isOk isR33 ?_; omega) | (refine isOk ?_ ?_; assumption; omega)) only [mm_r, mm_rl, mm_add, mm_sub, mm_mul, mm_addJ, mm_mulJ, mm_lt, mm_le, mm_eq, mm_z, mm_cl, mm_w, mm_wl, mm_ite, mm_i2l, mm_l2i, mm_ltJ, mm_leJ, mm_eqJ, mm_clt, mm_cle, mm_cgt, mm_cge, mm_ceq, mm_b, mm_nb, mm_nb0, mm_nb1, mm_vb0, mm_vb1, mm_vbc, mm_vy0, mm_vy1, mm_at, mm_ne, mm_nj, mm_Lw, mm_Nw, mm_atJ, mm_neJ, mm_njJ, zbI_s, zbV_s, zbJ_s, cond_t, Bool.true_and, Bool.and_true, if_true, if_false, not_true, not_false_iff, zel_r, zel_42, zel_12, zel_71, zel_80, zel_89, zel_110, zel_188, zel_103, zel_195, zr_o, zr_1, zr_2, zr_3, zr_4, zr_5, zr_6, zr_7, zr_8, zr_9, zq_o, zq_v, zt_o, zt_1, zt_2, zt_3, zt_4, zt_5, zf_o, zf_1, za_w1, za_w2, za_w3, za_cm, za_sl, Int.toNat_natCast, mm_t0, mm_t1, mm_t2, mm_t3, mm_t4, mm_t5, mm_t6, mm_t7, mm_t8, mm_t9, mm_t10, mm_t11, mm_t12, mm_t13, za_1, za_64, za_65, za_66, za_67, za_68, za_71, za_80, za_89, za_98, za_103, za_110, za_121, za_122, za_123, za_124, za_125, za_126, za_188, za_193, za_194, za_195, za_286, za_288, za_289, za_290, za_291, za_292, za_293, za_294, za_295, za_296, za_297, za_298, za_299, za_300, za_301, za_302, za_303, za_304, za_305, za_306, za_307, za_308, za_309, za_310, za_311, za_312]
    rw [if_neg (by omega)]
    exact lp_200_96 hT0 hT (by omega) (by omega) (bnd_fwM hb j (by omega)) (fun τ hf' hE' => lp_200_86 hT0 hT hb K k (j + 1) τ (by omega) hf' hE') T 0 σ (by omega) hf hE
/-- so far told: the rows ahead of a, and of row a what is ahead of b -/
def mP (T : Nat) (a b : Int) (M d : Int → Int → Int) : Prop := ∀ x y : Int, 0 ≤ x → x < (T : Int) → 0 ≤ y → y < (T : Int) → (x < a ∨ x = a ∧ y < b) → M x y = d x y
theorem lp_200_12 {σ0 : zM} {T : Nat} {a : Int} {Q : Option Value → zM → Prop} (hW : wRd (wv σ0 288)) (hT0 : zN σ0 288 0 = T) (hT : T ≤ 8) (a0 : 0 ≤ a) (a1 : a < T)
    (K : ∀ τ, mf (fun r => r = 294) σ0 τ → mP T (a + 1) 0 (matR τ) (D0 (wv σ0 288)) → zwp (zev 200 2 [some (.ref 287), some (.int (Int32.ofInt (a + 1))), none, none] [] τ) Q) :
    ∀ (k j : Nat) (σ : zM), j + k = T → mf (fun r => r = 294) σ0 σ → mP T a j (matR σ) (D0 (wv σ0 288)) → zwp (zev 200 12 [some (.ref 287), some (.int (Int32.ofInt a)), some (.int (Int32.ofInt j)), none] [] σ) Q
  | 0, j, σ, e, hf, hE => by
    have e0 : zN σ 288 0 = T := (hf.1 288 (by decide) 0).trans hT0
    refine zwp_of (fun r h => ze_200_12 _ _ _ r h) ?_
    rw [sp_167, zbI_s, e0]
    simp (disch := first | assumption | exact isR33 | exact isT104 | exact isF99 | exact isF101 | exact isR3 | omega | (refine isTk ?_; omega) | (refine isOk isR33 ?_; omega) | (refine isOk ?_ ?_; assumption; omega)) only [mm_r, mm_rl, mm_add, mm_sub, mm_mul, mm_addJ, mm_mulJ, mm_lt, mm_le, mm_eq, mm_z, mm_cl, mm_w, mm_wl, mm_ite, mm_i2l, mm_l2i, mm_ltJ, mm_leJ, mm_eqJ, mm_clt, mm_cle, mm_cgt, mm_cge, mm_ceq, mm_b, mm_nb, mm_nb0, mm_nb1, mm_vb0, mm_vb1, mm_vbc, mm_vy0, mm_vy1, mm_at, mm_ne, mm_nj, mm_Lw, mm_Nw, mm_atJ, mm_neJ, mm_njJ, zbI_s, zbV_s, zbJ_s, cond_t, Bool.true_and, Bool.and_true, if_true, if_false, not_true, not_false_iff, zel_r, zel_42, zel_12, zel_71, zel_80, zel_89, zel_110, zel_188, zel_103, zel_195, zr_o, zr_1, zr_2, zr_3, zr_4, zr_5, zr_6, zr_7, zr_8, zr_9, zq_o, zq_v, zt_o, zt_1, zt_2, zt_3, zt_4, zt_5, zf_o, zf_1, za_w1, za_w2, za_w3, za_cm, za_sl, Int.toNat_natCast, mm_t0, mm_t1, mm_t2, mm_t3, mm_t4, mm_t5, mm_t6, mm_t7, mm_t8, mm_t9, mm_t10, mm_t11, mm_t12, mm_t13, za_1, za_64, za_65, za_66, za_67, za_68, za_71, za_80, za_89, za_98, za_103, za_110, za_121, za_122, za_123, za_124, za_125, za_126, za_188, za_193, za_194, za_195, za_286, za_288, za_289, za_290, za_291, za_292, za_293, za_294, za_295, za_296, za_297, za_298, za_299, za_300, za_301, za_302, za_303, za_304, za_305, za_306, za_307, za_308, za_309, za_310, za_311, za_312]
    rw [if_pos (by omega)]
    exact K σ hf (fun x y x0 x1 y0 y1 h => hE x y x0 x1 y0 y1 (by omega))
  | k + 1, j, σ, e, hf, hE => by
    have e0 : zN σ 288 0 = T := (hf.1 288 (by decide) 0).trans hT0
    have ew : wv σ 288 = wv σ0 288 := hf.wv 288 (by decide)
    have n0 : 0 ≤ zN σ 288 2 := by
      rw [hf.1 288 (by decide) 2]
      exact hW.2.2.1
    have n1 : zN σ 288 2 ≤ 12 := by
      rw [hf.1 288 (by decide) 2]
      exact hW.2.2.2.1
    have go : ∀ v, v = D0 (wv σ0 288) a j → zwp (zev 200 12 [some (.ref 287), some (.int (Int32.ofInt a)), some (.int (Int32.ofInt (j + 1 : Nat))), none] [] (zw σ 294 (8 * a + j).toNat v)) Q := by
      intro v hv
      have hr := D0_rng hW a j
      refine lp_200_12 hW hT0 hT a0 a1 K k (j + 1) _ (by omega) (hf.zw 294 _ _ rfl) (fun x y x0 x1 y0 y1 h => ?_)
      show zN (zw σ 294 _ _) 294 _ = _
      by_cases q : x = a ∧ y = j
      · obtain ⟨rfl, rfl⟩ := q
        rw [mm_at rfl rfl (by omega) (by omega), hv]
      · rw [mm_nj (by omega)]
        exact hE x y x0 x1 y0 y1 (by omega)
    have hrd := RD_rng (wv σ0 288) a j
    have hn12 : (wv σ0 288 2).toNat ≤ 12 := by
      have := hW.2.2.2.1
      omega
    have hlo := mm_lo σ 288 (8 + 3 * (RD (wv σ0 288) a j) + 2).toNat
    have hhi := mm_hi σ 288 (8 + 3 * (RD (wv σ0 288) a j) + 2).toNat
    refine zwp_of (fun r h => ze_200_12 _ _ _ r h) ?_
    rw [sp_167, zbI_s, e0]
    by_cases q : a = j
    · simp (disch := first | assumption | exact isR33 | exact isT104 | exact isF99 | exact isF101 | exact isR3 | omega | (refine isTk ?_; omega) | (refine isOk isR33 ?_; omega) | (refine isOk ?_ ?_; assumption; omega)) only [mm_r, mm_rl, mm_add, mm_sub, mm_mul, mm_addJ, mm_mulJ, mm_lt, mm_le, mm_eq, mm_z, mm_cl, mm_w, mm_wl, mm_ite, mm_i2l, mm_l2i, mm_ltJ, mm_leJ, mm_eqJ, mm_clt, mm_cle, mm_cgt, mm_cge, mm_ceq, mm_b, mm_nb, mm_nb0, mm_nb1, mm_vb0, mm_vb1, mm_vbc, mm_vy0, mm_vy1, mm_at, mm_ne, mm_nj, mm_Lw, mm_Nw, mm_atJ, mm_neJ, mm_njJ, zbI_s, zbV_s, zbJ_s, cond_t, Bool.true_and, Bool.and_true, if_true, if_false, not_true, not_false_iff, zel_r, zel_42, zel_12, zel_71, zel_80, zel_89, zel_110, zel_188, zel_103, zel_195, zr_o, zr_1, zr_2, zr_3, zr_4, zr_5, zr_6, zr_7, zr_8, zr_9, zq_o, zq_v, zt_o, zt_1, zt_2, zt_3, zt_4, zt_5, zf_o, zf_1, za_w1, za_w2, za_w3, za_cm, za_sl, Int.toNat_natCast, mm_t0, mm_t1, mm_t2, mm_t3, mm_t4, mm_t5, mm_t6, mm_t7, mm_t8, mm_t9, mm_t10, mm_t11, mm_t12, mm_t13, za_1, za_64, za_65, za_66, za_67, za_68, za_71, za_80, za_89, za_98, za_103, za_110, za_121, za_122, za_123, za_124, za_125, za_126, za_188, za_193, za_194, za_195, za_286, za_288, za_289, za_290, za_291, za_292, za_293, za_294, za_295, za_296, za_297, za_298, za_299, za_300, za_301, za_302, za_303, za_304, za_305, za_306, za_307, za_308, za_309, za_310, za_311, za_312]
      rw [if_neg (by omega), if_neg (by omega), if_neg (by omega)]
      exact zwp_let (go 0 (by unfold D0; rw [if_pos q]))
    · rw [sp_198 (by omega) (by omega) (by omega) (by omega) n0 n1, zbI_s, ew]
      simp (disch := first | assumption | exact isR33 | exact isT104 | exact isF99 | exact isF101 | exact isR3 | omega | (refine isTk ?_; omega) | (refine isOk isR33 ?_; omega) | (refine isOk ?_ ?_; assumption; omega)) only [mm_r, mm_rl, mm_add, mm_sub, mm_mul, mm_addJ, mm_mulJ, mm_lt, mm_le, mm_eq, mm_z, mm_cl, mm_w, mm_wl, mm_ite, mm_i2l, mm_l2i, mm_ltJ, mm_leJ, mm_eqJ, mm_clt, mm_cle, mm_cgt, mm_cge, mm_ceq, mm_b, mm_nb, mm_nb0, mm_nb1, mm_vb0, mm_vb1, mm_vbc, mm_vy0, mm_vy1, mm_at, mm_ne, mm_nj, mm_Lw, mm_Nw, mm_atJ, mm_neJ, mm_njJ, zbI_s, zbV_s, zbJ_s, cond_t, Bool.true_and, Bool.and_true, if_true, if_false, not_true, not_false_iff, zel_r, zel_42, zel_12, zel_71, zel_80, zel_89, zel_110, zel_188, zel_103, zel_195, zr_o, zr_1, zr_2, zr_3, zr_4, zr_5, zr_6, zr_7, zr_8, zr_9, zq_o, zq_v, zt_o, zt_1, zt_2, zt_3, zt_4, zt_5, zf_o, zf_1, za_w1, za_w2, za_w3, za_cm, za_sl, Int.toNat_natCast, mm_t0, mm_t1, mm_t2, mm_t3, mm_t4, mm_t5, mm_t6, mm_t7, mm_t8, mm_t9, mm_t10, mm_t11, mm_t12, mm_t13, za_1, za_64, za_65, za_66, za_67, za_68, za_71, za_80, za_89, za_98, za_103, za_110, za_121, za_122, za_123, za_124, za_125, za_126, za_188, za_193, za_194, za_195, za_286, za_288, za_289, za_290, za_291, za_292, za_293, za_294, za_295, za_296, za_297, za_298, za_299, za_300, za_301, za_302, za_303, za_304, za_305, za_306, za_307, za_308, za_309, za_310, za_311, za_312]
      rw [if_neg (by omega), if_pos (by omega), if_pos (by omega)]
      by_cases q2 : RD (wv σ0 288) a j = -1
      · rw [if_neg (by omega)]
        exact zwp_let (go 1000000 (by unfold D0; rw [if_neg q, if_pos q2]))
      · rw [if_pos (by omega), sp_199 (by omega) (by omega), zbI_s]
        simp (disch := first | assumption | exact isR33 | exact isT104 | exact isF99 | exact isF101 | exact isR3 | omega | (refine isTk ?_; omega) | (refine isOk isR33 ?_; omega) | (refine isOk ?_ ?_; assumption; omega)) only [mm_r, mm_rl, mm_add, mm_sub, mm_mul, mm_addJ, mm_mulJ, mm_lt, mm_le, mm_eq, mm_z, mm_cl, mm_w, mm_wl, mm_ite, mm_i2l, mm_l2i, mm_ltJ, mm_leJ, mm_eqJ, mm_clt, mm_cle, mm_cgt, mm_cge, mm_ceq, mm_b, mm_nb, mm_nb0, mm_nb1, mm_vb0, mm_vb1, mm_vbc, mm_vy0, mm_vy1, mm_at, mm_ne, mm_nj, mm_Lw, mm_Nw, mm_atJ, mm_neJ, mm_njJ, zbI_s, zbV_s, zbJ_s, cond_t, Bool.true_and, Bool.and_true, if_true, if_false, not_true, not_false_iff, zel_r, zel_42, zel_12, zel_71, zel_80, zel_89, zel_110, zel_188, zel_103, zel_195, zr_o, zr_1, zr_2, zr_3, zr_4, zr_5, zr_6, zr_7, zr_8, zr_9, zq_o, zq_v, zt_o, zt_1, zt_2, zt_3, zt_4, zt_5, zf_o, zf_1, za_w1, za_w2, za_w3, za_cm, za_sl, Int.toNat_natCast, mm_t0, mm_t1, mm_t2, mm_t3, mm_t4, mm_t5, mm_t6, mm_t7, mm_t8, mm_t9, mm_t10, mm_t11, mm_t12, mm_t13, za_1, za_64, za_65, za_66, za_67, za_68, za_71, za_80, za_89, za_98, za_103, za_110, za_121, za_122, za_123, za_124, za_125, za_126, za_188, za_193, za_194, za_195, za_286, za_288, za_289, za_290, za_291, za_292, za_293, za_294, za_295, za_296, za_297, za_298, za_299, za_300, za_301, za_302, za_303, za_304, za_305, za_306, za_307, za_308, za_309, za_310, za_311, za_312]
        refine zwp_let (go _ ?_)
        unfold D0
        rw [if_neg q, if_neg q2]
        exact hf.1 288 (by decide) _
theorem lp_200_2 {σ0 : zM} {T : Nat} {Q : Option Value → zM → Prop} (hW : wRd (wv σ0 288)) (hT0 : zN σ0 288 0 = T) (hT : T ≤ 8)
    (K : ∀ τ, mf (fun r => r = 294) σ0 τ → mE T (matR τ) (D0 (wv σ0 288)) → zwp (zev 200 86 [some (.ref 287), some (.int (Int32.ofInt 0)), none, none] [] τ) Q) :
    ∀ (k j : Nat) (σ : zM), j + k = T → mf (fun r => r = 294) σ0 σ → mP T j 0 (matR σ) (D0 (wv σ0 288)) → zwp (zev 200 2 [some (.ref 287), some (.int (Int32.ofInt j)), none, none] [] σ) Q
  | 0, j, σ, e, hf, hE => by
    have e0 : zN σ 288 0 = T := (hf.1 288 (by decide) 0).trans hT0
    refine zwp_of (fun r h => ze_200_2 _ _ r h) ?_
    rw [sp_167, zbI_s, e0]
    simp (disch := first | assumption | exact isR33 | exact isT104 | exact isF99 | exact isF101 | exact isR3 | omega | (refine isTk ?_; omega) | (refine isOk isR33 ?_; omega) | (refine isOk ?_ ?_; assumption; omega)) only [mm_r, mm_rl, mm_add, mm_sub, mm_mul, mm_addJ, mm_mulJ, mm_lt, mm_le, mm_eq, mm_z, mm_cl, mm_w, mm_wl, mm_ite, mm_i2l, mm_l2i, mm_ltJ, mm_leJ, mm_eqJ, mm_clt, mm_cle, mm_cgt, mm_cge, mm_ceq, mm_b, mm_nb, mm_nb0, mm_nb1, mm_vb0, mm_vb1, mm_vbc, mm_vy0, mm_vy1, mm_at, mm_ne, mm_nj, mm_Lw, mm_Nw, mm_atJ, mm_neJ, mm_njJ, zbI_s, zbV_s, zbJ_s, cond_t, Bool.true_and, Bool.and_true, if_true, if_false, not_true, not_false_iff, zel_r, zel_42, zel_12, zel_71, zel_80, zel_89, zel_110, zel_188, zel_103, zel_195, zr_o, zr_1, zr_2, zr_3, zr_4, zr_5, zr_6, zr_7, zr_8, zr_9, zq_o, zq_v, zt_o, zt_1, zt_2, zt_3, zt_4, zt_5, zf_o, zf_1, za_w1, za_w2, za_w3, za_cm, za_sl, Int.toNat_natCast, mm_t0, mm_t1, mm_t2, mm_t3, mm_t4, mm_t5, mm_t6, mm_t7, mm_t8, mm_t9, mm_t10, mm_t11, mm_t12, mm_t13, za_1, za_64, za_65, za_66, za_67, za_68, za_71, za_80, za_89, za_98, za_103, za_110, za_121, za_122, za_123, za_124, za_125, za_126, za_188, za_193, za_194, za_195, za_286, za_288, za_289, za_290, za_291, za_292, za_293, za_294, za_295, za_296, za_297, za_298, za_299, za_300, za_301, za_302, za_303, za_304, za_305, za_306, za_307, za_308, za_309, za_310, za_311, za_312]
    rw [if_pos (by omega)]
    exact K σ hf (fun x y x0 x1 y0 y1 => hE x y x0 x1 y0 y1 (by omega))
  | k + 1, j, σ, e, hf, hE => by
    have e0 : zN σ 288 0 = T := (hf.1 288 (by decide) 0).trans hT0
    refine zwp_of (fun r h => ze_200_2 _ _ r h) ?_
    rw [sp_167, zbI_s, e0]
    simp (disch := first | assumption | exact isR33 | exact isT104 | exact isF99 | exact isF101 | exact isR3 | omega | (refine isTk ?_; omega) | (refine isOk isR33 ?_; omega) | (refine isOk ?_ ?_; assumption; omega)) only [mm_r, mm_rl, mm_add, mm_sub, mm_mul, mm_addJ, mm_mulJ, mm_lt, mm_le, mm_eq, mm_z, mm_cl, mm_w, mm_wl, mm_ite, mm_i2l, mm_l2i, mm_ltJ, mm_leJ, mm_eqJ, mm_clt, mm_cle, mm_cgt, mm_cge, mm_ceq, mm_b, mm_nb, mm_nb0, mm_nb1, mm_vb0, mm_vb1, mm_vbc, mm_vy0, mm_vy1, mm_at, mm_ne, mm_nj, mm_Lw, mm_Nw, mm_atJ, mm_neJ, mm_njJ, zbI_s, zbV_s, zbJ_s, cond_t, Bool.true_and, Bool.and_true, if_true, if_false, not_true, not_false_iff, zel_r, zel_42, zel_12, zel_71, zel_80, zel_89, zel_110, zel_188, zel_103, zel_195, zr_o, zr_1, zr_2, zr_3, zr_4, zr_5, zr_6, zr_7, zr_8, zr_9, zq_o, zq_v, zt_o, zt_1, zt_2, zt_3, zt_4, zt_5, zf_o, zf_1, za_w1, za_w2, za_w3, za_cm, za_sl, Int.toNat_natCast, mm_t0, mm_t1, mm_t2, mm_t3, mm_t4, mm_t5, mm_t6, mm_t7, mm_t8, mm_t9, mm_t10, mm_t11, mm_t12, mm_t13, za_1, za_64, za_65, za_66, za_67, za_68, za_71, za_80, za_89, za_98, za_103, za_110, za_121, za_122, za_123, za_124, za_125, za_126, za_188, za_193, za_194, za_195, za_286, za_288, za_289, za_290, za_291, za_292, za_293, za_294, za_295, za_296, za_297, za_298, za_299, za_300, za_301, za_302, za_303, za_304, za_305, za_306, za_307, za_308, za_309, za_310, za_311, za_312]
    rw [if_neg (by omega)]
    exact lp_200_12 hW hT0 hT (by omega) (by omega) (fun τ hf' hE' => lp_200_2 hW hT0 hT K k (j + 1) τ (by omega) hf' hE') T 0 σ (by omega) hf hE
/-- the reference fills its table -/
theorem sp_200 {σ : zM} (hW : wRd (wv σ 288)) : zwp (zcall 200 [.ref 287] σ) (fun v τ => v = none ∧ mf (fun r => r = 294) σ τ ∧ mE (zN σ 288 0).toNat (matR τ) (DD (wv σ 288))) := by
  have h0 : 0 ≤ zN σ 288 0 := hW.1
  have h8 : zN σ 288 0 ≤ 8 := hW.2.1
  have hb : bnd (zN σ 288 0).toNat (D0 (wv σ 288)) := fun x y _ _ _ _ => D0_rng hW x y
  refine zwp_of (fun r h => zcc_200 (ze_200_0 _ r h)) ?_
  exact lp_200_2 (T := (zN σ 288 0).toNat) hW (by omega) (by omega) (fun τ hf hE => lp_200_86 (T := (zN σ 288 0).toNat) (by omega) (by omega) hb (fun υ hf' hE' => ⟨rfl, hf', hE'⟩) (zN σ 288 0).toNat 0 τ (by omega) hf hE) (zN σ 288 0).toNat 0 σ (by omega) mf.rf (fun x y x0 x1 y0 y1 h => by omega)
theorem RD_aa {W : Int → Int} (hW : wRd W) (a : Int) : RD W a a = -1 := by
  rcases Decidable.em (RD W a a = -1) with h | h
  · exact h
  · have := RD_ok hW h
    omega
theorem lp_202 {a b : Int} {σ : zM} {T : Nat} (hW : wRd (wv σ 288)) (hT0 : zN σ 288 0 = T) (hE : mE T (matR σ) (DD (wv σ 288))) (a0 : 0 ≤ a) (a1 : a < T) (b0 : 0 ≤ b) (b1 : b < T) : ∀ k t : Nat, t + k = T → zfst (nxP (wv σ 288) a b) k t ≠ -1 → zev 202 2 [some (.ref 287), some (.int (Int32.ofInt a)), some (.int (Int32.ofInt b)), some (.int (Int32.ofInt t))] [] σ = some (some (.int (Int32.ofInt (zfst (nxP (wv σ 288) a b) k t))), σ)
  | 0, t, e, h => absurd rfl h
  | k + 1, t, e, h => by
    have hT8 : T ≤ 8 := by
      have h8 := hW.2.1
      change zN σ 288 0 ≤ 8 at h8
      omega
    have n0 : 0 ≤ zN σ 288 2 := hW.2.2.1
    have n1 : zN σ 288 2 ≤ 12 := hW.2.2.2.1
    rw [zfst] at h ⊢
    have hP : nxP (wv σ 288) a b t = decide (RD (wv σ 288) a t ≠ -1 ∧ RH (wv σ 288) (RD (wv σ 288) a t) + DD (wv σ 288) t b = DD (wv σ 288) a b) := rfl
    refine ze_202_2 _ _ _ _ _ ?_
    by_cases q : (t : Int) = a
    · have hr : RD (wv σ 288) a t = -1 := by
        rw [q]
        exact RD_aa hW a
      have hF : nxP (wv σ 288) a b t = false := by
        rw [hP]
        exact decide_eq_false (fun p => p.1 hr)
      rw [hF] at h ⊢
      rw [if_neg Bool.false_ne_true] at h ⊢
      simp (disch := first | assumption | exact isR33 | exact isT104 | exact isF99 | exact isF101 | exact isR3 | omega | (refine isTk ?_; omega) | (refine isOk isR33 ?_; omega) | (refine isOk ?_ ?_; assumption; omega)) only [mm_r, mm_rl, mm_add, mm_sub, mm_mul, mm_addJ, mm_mulJ, mm_lt, mm_le, mm_eq, mm_z, mm_cl, mm_w, mm_wl, mm_ite, mm_i2l, mm_l2i, mm_ltJ, mm_leJ, mm_eqJ, mm_clt, mm_cle, mm_cgt, mm_cge, mm_ceq, mm_b, mm_nb, mm_nb0, mm_nb1, mm_vb0, mm_vb1, mm_vbc, mm_vy0, mm_vy1, mm_at, mm_ne, mm_nj, mm_Lw, mm_Nw, mm_atJ, mm_neJ, mm_njJ, zbI_s, zbV_s, zbJ_s, cond_t, Bool.true_and, Bool.and_true, if_true, if_false, not_true, not_false_iff, zel_r, zel_42, zel_12, zel_71, zel_80, zel_89, zel_110, zel_188, zel_103, zel_195, zr_o, zr_1, zr_2, zr_3, zr_4, zr_5, zr_6, zr_7, zr_8, zr_9, zq_o, zq_v, zt_o, zt_1, zt_2, zt_3, zt_4, zt_5, zf_o, zf_1, za_w1, za_w2, za_w3, za_cm, za_sl, Int.toNat_natCast, mm_t0, mm_t1, mm_t2, mm_t3, mm_t4, mm_t5, mm_t6, mm_t7, mm_t8, mm_t9, mm_t10, mm_t11, mm_t12, mm_t13, za_1, za_64, za_65, za_66, za_67, za_68, za_71, za_80, za_89, za_98, za_103, za_110, za_121, za_122, za_123, za_124, za_125, za_126, za_188, za_193, za_194, za_195, za_286, za_288, za_289, za_290, za_291, za_292, za_293, za_294, za_295, za_296, za_297, za_298, za_299, za_300, za_301, za_302, za_303, za_304, za_305, za_306, za_307, za_308, za_309, za_310, za_311, za_312]
      rw [if_pos q]
      exact lp_202 hW hT0 hE a0 a1 b0 b1 k (t + 1) (by omega) h
    · rw [sp_198 (by omega) (by omega) (by omega) (by omega) n0 n1, zbI_s]
      by_cases q2 : RD (wv σ 288) a t = -1
      · have hF : nxP (wv σ 288) a b t = false := by
          rw [hP]
          exact decide_eq_false (fun p => p.1 q2)
        rw [hF] at h ⊢
        rw [if_neg Bool.false_ne_true] at h ⊢
        rw [q2]
        simp (disch := first | assumption | exact isR33 | exact isT104 | exact isF99 | exact isF101 | exact isR3 | omega | (refine isTk ?_; omega) | (refine isOk isR33 ?_; omega) | (refine isOk ?_ ?_; assumption; omega)) only [mm_r, mm_rl, mm_add, mm_sub, mm_mul, mm_addJ, mm_mulJ, mm_lt, mm_le, mm_eq, mm_z, mm_cl, mm_w, mm_wl, mm_ite, mm_i2l, mm_l2i, mm_ltJ, mm_leJ, mm_eqJ, mm_clt, mm_cle, mm_cgt, mm_cge, mm_ceq, mm_b, mm_nb, mm_nb0, mm_nb1, mm_vb0, mm_vb1, mm_vbc, mm_vy0, mm_vy1, mm_at, mm_ne, mm_nj, mm_Lw, mm_Nw, mm_atJ, mm_neJ, mm_njJ, zbI_s, zbV_s, zbJ_s, cond_t, Bool.true_and, Bool.and_true, if_true, if_false, not_true, not_false_iff, zel_r, zel_42, zel_12, zel_71, zel_80, zel_89, zel_110, zel_188, zel_103, zel_195, zr_o, zr_1, zr_2, zr_3, zr_4, zr_5, zr_6, zr_7, zr_8, zr_9, zq_o, zq_v, zt_o, zt_1, zt_2, zt_3, zt_4, zt_5, zf_o, zf_1, za_w1, za_w2, za_w3, za_cm, za_sl, Int.toNat_natCast, mm_t0, mm_t1, mm_t2, mm_t3, mm_t4, mm_t5, mm_t6, mm_t7, mm_t8, mm_t9, mm_t10, mm_t11, mm_t12, mm_t13, za_1, za_64, za_65, za_66, za_67, za_68, za_71, za_80, za_89, za_98, za_103, za_110, za_121, za_122, za_123, za_124, za_125, za_126, za_188, za_193, za_194, za_195, za_286, za_288, za_289, za_290, za_291, za_292, za_293, za_294, za_295, za_296, za_297, za_298, za_299, za_300, za_301, za_302, za_303, za_304, za_305, za_306, za_307, za_308, za_309, za_310, za_311, za_312]
        rw [if_neg q]
        exact lp_202 hW hT0 hE a0 a1 b0 b1 k (t + 1) (by omega) h
      · have hr := RD_ok hW q2
        have w2 : wv σ 288 2 ≤ 12 := hW.2.2.2.1
        have d1 : zN σ 294 (8 * (t : Int) + b).toNat = DD (wv σ 288) t b := hE t b (by omega) (by omega) b0 b1
        have d2 : zN σ 294 (8 * a + b).toNat = DD (wv σ 288) a b := hE a b a0 a1 b0 b1
        have hw0 : wv σ 288 0 = T := hT0
        have r1 := DD_rng hW (a := t) (b := b) (by omega) (by omega) b0 (by omega)
        have r2 := DD_rng hW (a := a) (b := b) a0 (by omega) b0 (by omega)
        have d3 : zN σ 288 (8 + 3 * RD (wv σ 288) a t + 2).toNat = RH (wv σ 288) (RD (wv σ 288) a t) := rfl
        rw [sp_198 (by omega) (by omega) (by omega) (by omega) n0 n1, zbI_s, sp_199 (by omega) (by omega), zbI_s, sp_201 (by omega) (by omega) (by omega) (by omega), zbI_s, sp_201 (by omega) (by omega) (by omega) (by omega), zbI_s, d1, d2, d3]
        simp (disch := first | assumption | exact isR33 | exact isT104 | exact isF99 | exact isF101 | exact isR3 | omega | (refine isTk ?_; omega) | (refine isOk isR33 ?_; omega) | (refine isOk ?_ ?_; assumption; omega)) only [mm_r, mm_rl, mm_add, mm_sub, mm_mul, mm_addJ, mm_mulJ, mm_lt, mm_le, mm_eq, mm_z, mm_cl, mm_w, mm_wl, mm_ite, mm_i2l, mm_l2i, mm_ltJ, mm_leJ, mm_eqJ, mm_clt, mm_cle, mm_cgt, mm_cge, mm_ceq, mm_b, mm_nb, mm_nb0, mm_nb1, mm_vb0, mm_vb1, mm_vbc, mm_vy0, mm_vy1, mm_at, mm_ne, mm_nj, mm_Lw, mm_Nw, mm_atJ, mm_neJ, mm_njJ, zbI_s, zbV_s, zbJ_s, cond_t, Bool.true_and, Bool.and_true, if_true, if_false, not_true, not_false_iff, zel_r, zel_42, zel_12, zel_71, zel_80, zel_89, zel_110, zel_188, zel_103, zel_195, zr_o, zr_1, zr_2, zr_3, zr_4, zr_5, zr_6, zr_7, zr_8, zr_9, zq_o, zq_v, zt_o, zt_1, zt_2, zt_3, zt_4, zt_5, zf_o, zf_1, za_w1, za_w2, za_w3, za_cm, za_sl, Int.toNat_natCast, mm_t0, mm_t1, mm_t2, mm_t3, mm_t4, mm_t5, mm_t6, mm_t7, mm_t8, mm_t9, mm_t10, mm_t11, mm_t12, mm_t13, za_1, za_64, za_65, za_66, za_67, za_68, za_71, za_80, za_89, za_98, za_103, za_110, za_121, za_122, za_123, za_124, za_125, za_126, za_188, za_193, za_194, za_195, za_286, za_288, za_289, za_290, za_291, za_292, za_293, za_294, za_295, za_296, za_297, za_298, za_299, za_300, za_301, za_302, za_303, za_304, za_305, za_306, za_307, za_308, za_309, za_310, za_311, za_312]
        rw [if_neg q, if_neg q2]
        by_cases q3 : RH (wv σ 288) (RD (wv σ 288) a t) + DD (wv σ 288) t b = DD (wv σ 288) a b
        · rw [if_pos q3, if_pos (by rw [hP]; exact decide_eq_true ⟨q2, q3⟩)]
        · have hF : nxP (wv σ 288) a b t = false := by
            rw [hP]
            exact decide_eq_false (fun p => q3 p.2)
          rw [hF] at h ⊢
          rw [if_neg Bool.false_ne_true] at h ⊢
          rw [if_neg q3]
          exact lp_202 hW hT0 hE a0 a1 b0 b1 k (t + 1) (by omega) h
theorem sp_202 {a b : Int} {σ : zM} {T : Nat} (hW : wRd (wv σ 288)) (hT0 : zN σ 288 0 = T) (hE : mE T (matR σ) (DD (wv σ 288))) (a0 : 0 ≤ a) (a1 : a < T) (b0 : 0 ≤ b) (b1 : b < T) (hab : a ≠ b) (hl : DD (wv σ 288) a b < 1000000) : zcall 202 [.ref 287, .int (Int32.ofInt a), .int (Int32.ofInt b)] σ = some (some (.int (Int32.ofInt (NX (wv σ 288) a b))), σ) := by
  have hw0 : wv σ 288 0 = T := hT0
  obtain ⟨e, n0, -⟩ := NX_ok hW a0 (by omega) b0 (by omega) hab hl
  have eT : (wv σ 288 0).toNat = T := by omega
  rw [eT] at e
  refine zcc_202 (ze_202_0 _ _ _ _ ?_)
  rw [e]
  exact lp_202 hW hT0 hE a0 a1 b0 b1 T 0 (by omega) (by rw [Int.natCast_zero, ← e]; omega)
/-- the way of the seat o in the reference's rows -/
def wR (σ : zM) (o : Int) (w : wy) : Prop := zN σ 298 o.toNat = w.1 ∧ ∀ i, 0 ≤ i → i < w.1 → zN σ 295 (32 * o + i).toNat = w.2 i
/-- only what belongs to the seat o changes in the rows of ways -/
def oF (o : Int) (σ τ : zM) : Prop := mf (fun r => r = 295 ∨ r = 298) σ τ ∧ (∀ j : Nat, (j : Int) ≠ o → zN τ 298 j = zN σ 298 j) ∧ ∀ j : Nat, ((j : Int) < 32 * o ∨ 32 * o + 32 ≤ j) → zN τ 295 j = zN σ 295 j
theorem oF.rf {o : Int} {σ : zM} : oF o σ σ := ⟨mf.rf, fun _ _ => rfl, fun _ _ => rfl⟩
theorem oF.tr {o : Int} {σ τ υ : zM} (h : oF o σ τ) (g : oF o τ υ) : oF o σ υ := ⟨h.1.tr g.1, fun j hj => (g.2.1 j hj).trans (h.2.1 j hj), fun j hj => (g.2.2 j hj).trans (h.2.2 j hj)⟩
/-- what the reference's table must be for ways to be laid -/
def qR (σ : zM) (W : Int → Int) : Prop := wv σ 288 = W ∧ wRd W ∧ mE (W 0).toNat (matR σ) (DD W)
theorem qR.fr {σ τ : zM} {W : Int → Int} (h : qR σ W) (h1 : ∀ k, zN τ 288 k = zN σ 288 k) (h2 : ∀ k, zN τ 294 k = zN σ 294 k) : qR τ W := ⟨(wv_eq h1).trans h.1, h.2.1, fun x y x0 x1 y0 y1 => (h2 _).trans (h.2.2 x y x0 x1 y0 y1)⟩
theorem wR.psh {σ : zM} {o : Int} {w : wy} {t : Int} (h : wR σ o w) (o0 : 0 ≤ o) (w0 : 0 ≤ w.1) (w1 : w.1 < 1000) (t0 : 0 ≤ t) (t1 : t < 1000) : wR (zw (zw σ 295 (32 * o + w.1).toNat t) 298 o.toNat (w.1 + 1)) o (psh w t) ∧ (w.1 < 32 → oF o σ (zw (zw σ 295 (32 * o + w.1).toNat t) 298 o.toNat (w.1 + 1))) := by
  refine ⟨⟨mm_at rfl rfl (by omega) (by omega), fun i i0 i1 => ?_⟩, fun w2 => ⟨(mf.rf.zw 295 _ _ (.inl rfl)).zw 298 _ _ (.inr rfl), fun j hj => ?_, fun j hj => ?_⟩⟩
  · have i1 : i < w.1 + 1 := i1
    show _ = if i = w.1 then t else w.2 i
    rw [mm_ne (by decide)]
    split
    · next e => rw [e, mm_at rfl rfl (by omega) (by omega)]
    · next e =>
      rw [mm_nj (by omega)]
      exact h.2 i i0 (by omega)
  · rw [mm_nj (by omega), mm_ne (by decide)]
  · rw [mm_ne (by decide), mm_nj (by omega)]
theorem lp_206 {o g : Int} {W : Int → Int} (o0 : 0 ≤ o) (o1 : o < 11) (g0 : 0 ≤ g) (g1 : g < W 0) : ∀ (k : Nat) (w : wy) (σ : zM), qR σ W → wyOk W w → 0 < w.1 → rk W g (lastT w) < k → DD W (lastT w) g < 1000000 → w.1 + rk W g (lastT w) ≤ 32 → wR σ o w → zwp (zev 206 33 [some (.ref 287), some (.int (Int32.ofInt o)), some (.int (Int32.ofInt g)), some (.int (Int32.ofInt (lastT w)))] [] σ) (fun v τ => v = some (.int (Int32.ofInt 1)) ∧ wR τ o (lead W g k w) ∧ oF o σ τ)
  | 0, w, σ, hq, hw, h0, hk, _, _, _ => by
    have ht := hw.2.1 (w.1 - 1) (by omega) (by omega)
    have := rk_rng hq.2.1 (a := lastT w) (b := g) ht.1 ht.2
    omega
  | k + 1, w, σ, hq, hw, h0, hk, hl, h32, hR => by
    have hW := hq.2.1
    have ht := hw.2.1 (w.1 - 1) (by omega) (by omega)
    change 0 ≤ lastT w ∧ lastT w < W 0 at ht
    have h8 := hW.2.1
    have hrk := rk_rng hW (a := lastT w) (b := g) ht.1 ht.2
    refine zwp_of (fun r h => ze_206_33 _ _ _ _ r h) ?_
    by_cases e : lastT w = g
    · have hl1 : lead W g (k + 1) w = w := by rw [lead, if_neg (by omega), if_pos e]
      rw [hl1]
      simp (disch := first | assumption | exact isR33 | exact isT104 | exact isF99 | exact isF101 | exact isR3 | omega | (refine isTk ?_; omega) | (refine isOk isR33 ?_; omega) | (refine isOk ?_ ?_; assumption; omega)) only [mm_r, mm_rl, mm_add, mm_sub, mm_mul, mm_addJ, mm_mulJ, mm_lt, mm_le, mm_eq, mm_z, mm_cl, mm_w, mm_wl, mm_ite, mm_i2l, mm_l2i, mm_ltJ, mm_leJ, mm_eqJ, mm_clt, mm_cle, mm_cgt, mm_cge, mm_ceq, mm_b, mm_nb, mm_nb0, mm_nb1, mm_vb0, mm_vb1, mm_vbc, mm_vy0, mm_vy1, mm_at, mm_ne, mm_nj, mm_Lw, mm_Nw, mm_atJ, mm_neJ, mm_njJ, zbI_s, zbV_s, zbJ_s, cond_t, Bool.true_and, Bool.and_true, if_true, if_false, not_true, not_false_iff, zel_r, zel_42, zel_12, zel_71, zel_80, zel_89, zel_110, zel_188, zel_103, zel_195, zr_o, zr_1, zr_2, zr_3, zr_4, zr_5, zr_6, zr_7, zr_8, zr_9, zq_o, zq_v, zt_o, zt_1, zt_2, zt_3, zt_4, zt_5, zf_o, zf_1, za_w1, za_w2, za_w3, za_cm, za_sl, Int.toNat_natCast, mm_t0, mm_t1, mm_t2, mm_t3, mm_t4, mm_t5, mm_t6, mm_t7, mm_t8, mm_t9, mm_t10, mm_t11, mm_t12, mm_t13, za_1, za_64, za_65, za_66, za_67, za_68, za_71, za_80, za_89, za_98, za_103, za_110, za_121, za_122, za_123, za_124, za_125, za_126, za_188, za_193, za_194, za_195, za_286, za_288, za_289, za_290, za_291, za_292, za_293, za_294, za_295, za_296, za_297, za_298, za_299, za_300, za_301, za_302, za_303, za_304, za_305, za_306, za_307, za_308, za_309, za_310, za_311, za_312]
      rw [if_pos e]
      exact zwp_ret ⟨rfl, hR, oF.rf⟩
    · obtain ⟨-, n0, n1, n2, n3, n4⟩ := NX_ok hW ht.1 ht.2 g0 g1 e hl
      have e0 : zN σ 288 0 = (W 0).toNat := by
        have : wv σ 288 0 = W 0 := by rw [hq.1]
        change zN σ 288 0 = W 0 at this
        omega
      have s202 := sp_202 (σ := σ) (a := lastT w) (b := g) (T := (W 0).toNat) (by rw [hq.1]; exact hW) e0 (by rw [hq.1]; exact hq.2.2) ht.1 (by omega) g0 (by omega) e (by rw [hq.1]; exact hl)
      rw [hq.1] at s202
      have hlt := rk_lt (W := W) (b := g) n0 n1 n4
      have hN : zN σ 298 o.toNat = w.1 := hR.1
      have hl2 : lead W g (k + 1) w = lead W g k (psh w (NX W (lastT w) g)) := by rw [lead, if_neg (by omega), if_neg e, if_neg (by omega)]
      have hrk2 := rk_rng hW (a := NX W (lastT w) g) (b := g) n0 n1
      rw [hl2, s202, zbI_s]
      simp (disch := first | assumption | exact isR33 | exact isT104 | exact isF99 | exact isF101 | exact isR3 | omega | (refine isTk ?_; omega) | (refine isOk isR33 ?_; omega) | (refine isOk ?_ ?_; assumption; omega)) only [mm_r, mm_rl, mm_add, mm_sub, mm_mul, mm_addJ, mm_mulJ, mm_lt, mm_le, mm_eq, mm_z, mm_cl, mm_w, mm_wl, mm_ite, mm_i2l, mm_l2i, mm_ltJ, mm_leJ, mm_eqJ, mm_clt, mm_cle, mm_cgt, mm_cge, mm_ceq, mm_b, mm_nb, mm_nb0, mm_nb1, mm_vb0, mm_vb1, mm_vbc, mm_vy0, mm_vy1, mm_at, mm_ne, mm_nj, mm_Lw, mm_Nw, mm_atJ, mm_neJ, mm_njJ, zbI_s, zbV_s, zbJ_s, cond_t, Bool.true_and, Bool.and_true, if_true, if_false, not_true, not_false_iff, zel_r, zel_42, zel_12, zel_71, zel_80, zel_89, zel_110, zel_188, zel_103, zel_195, zr_o, zr_1, zr_2, zr_3, zr_4, zr_5, zr_6, zr_7, zr_8, zr_9, zq_o, zq_v, zt_o, zt_1, zt_2, zt_3, zt_4, zt_5, zf_o, zf_1, za_w1, za_w2, za_w3, za_cm, za_sl, Int.toNat_natCast, mm_t0, mm_t1, mm_t2, mm_t3, mm_t4, mm_t5, mm_t6, mm_t7, mm_t8, mm_t9, mm_t10, mm_t11, mm_t12, mm_t13, za_1, za_64, za_65, za_66, za_67, za_68, za_71, za_80, za_89, za_98, za_103, za_110, za_121, za_122, za_123, za_124, za_125, za_126, za_188, za_193, za_194, za_195, za_286, za_288, za_289, za_290, za_291, za_292, za_293, za_294, za_295, za_296, za_297, za_298, za_299, za_300, za_301, za_302, za_303, za_304, za_305, za_306, za_307, za_308, za_309, za_310, za_311, za_312, hN]
      rw [if_neg e]
      refine zwp_let ?_
      simp (disch := first | assumption | exact isR33 | exact isT104 | exact isF99 | exact isF101 | exact isR3 | omega | (refine isTk ?_; omega) | (refine isOk isR33 ?_; omega) | (refine isOk ?_ ?_; assumption; omega)) only [mm_r, mm_rl, mm_add, mm_sub, mm_mul, mm_addJ, mm_mulJ, mm_lt, mm_le, mm_eq, mm_z, mm_cl, mm_w, mm_wl, mm_ite, mm_i2l, mm_l2i, mm_ltJ, mm_leJ, mm_eqJ, mm_clt, mm_cle, mm_cgt, mm_cge, mm_ceq, mm_b, mm_nb, mm_nb0, mm_nb1, mm_vb0, mm_vb1, mm_vbc, mm_vy0, mm_vy1, mm_at, mm_ne, mm_nj, mm_Lw, mm_Nw, mm_atJ, mm_neJ, mm_njJ, zbI_s, zbV_s, zbJ_s, cond_t, Bool.true_and, Bool.and_true, if_true, if_false, not_true, not_false_iff, zel_r, zel_42, zel_12, zel_71, zel_80, zel_89, zel_110, zel_188, zel_103, zel_195, zr_o, zr_1, zr_2, zr_3, zr_4, zr_5, zr_6, zr_7, zr_8, zr_9, zq_o, zq_v, zt_o, zt_1, zt_2, zt_3, zt_4, zt_5, zf_o, zf_1, za_w1, za_w2, za_w3, za_cm, za_sl, Int.toNat_natCast, mm_t0, mm_t1, mm_t2, mm_t3, mm_t4, mm_t5, mm_t6, mm_t7, mm_t8, mm_t9, mm_t10, mm_t11, mm_t12, mm_t13, za_1, za_64, za_65, za_66, za_67, za_68, za_71, za_80, za_89, za_98, za_103, za_110, za_121, za_122, za_123, za_124, za_125, za_126, za_188, za_193, za_194, za_195, za_286, za_288, za_289, za_290, za_291, za_292, za_293, za_294, za_295, za_296, za_297, za_298, za_299, za_300, za_301, za_302, za_303, za_304, za_305, za_306, za_307, za_308, za_309, za_310, za_311, za_312, hN]
      refine zwp_let ?_
      have hp := hR.psh (t := NX W (lastT w) g) o0 (by omega) (by omega) n0 (by omega)
      have ih := lp_206 o0 o1 g0 g1 k (psh w (NX W (lastT w) g)) (zw (zw σ 295 (32 * o + w.1).toNat (NX W (lastT w) g)) 298 o.toNat (w.1 + 1)) (hq.fr (fun j => by rw [mm_ne (by decide), mm_ne (by decide)]) (fun j => by rw [mm_ne (by decide), mm_ne (by decide)])) (psh_ok hw h0 n0 n1 n2) (by show 0 < w.1 + 1; omega) (by rw [psh_last]; omega) (by rw [psh_last]; omega) (by rw [psh_last]; show w.1 + 1 + _ ≤ 32; omega) hp.1
      rw [psh_last] at ih
      exact zwp_mono ih (fun v τ h => ⟨h.1, h.2.1, (hp.2 (by omega)).tr h.2.2⟩)
theorem sp_206 {o g : Int} {W : Int → Int} {σ : zM} {w : wy} (o0 : 0 ≤ o) (o1 : o < 11) (g0 : 0 ≤ g) (g1 : g < W 0) (hq : qR σ W) (hw : wyOk W w) (h0 : 0 < w.1) (h24 : w.1 ≤ 25) (hR : wR σ o w) : zwp (zcall 206 [.ref 287, .int (Int32.ofInt o), .int (Int32.ofInt g)] σ) (fun v τ => v = some (.int (Int32.ofInt (if (lead W g 8 w).1 = 0 then 0 else 1))) ∧ ((lead W g 8 w).1 ≠ 0 → wR τ o (lead W g 8 w)) ∧ oF o σ τ) := by
  have hW := hq.2.1
  have ht := hw.2.1 (w.1 - 1) (by omega) (by omega)
  change 0 ≤ lastT w ∧ lastT w < W 0 at ht
  have h8 := hW.2.1
  have hrk := rk_rng hW (a := lastT w) (b := g) ht.1 ht.2
  have hN : zN σ 298 o.toNat = w.1 := hR.1
  have hLt : zN σ 295 (32 * o + w.1 - 1).toNat = lastT w := by
    have := hR.2 (w.1 - 1) (by omega) (by omega)
    rw [show 32 * o + (w.1 - 1) = 32 * o + w.1 - 1 by omega] at this
    exact this
  have hd : zN σ 294 (8 * lastT w + g).toNat = DD W (lastT w) g := hq.2.2 _ _ ht.1 (by omega) g0 (by omega)
  have hdr := DD_rng hW ht.1 ht.2 g0 g1
  refine zwp_of (fun r h => zcc_206 (ze_206_0 _ _ _ r h)) ?_
  simp (disch := first | assumption | exact isR33 | exact isT104 | exact isF99 | exact isF101 | exact isR3 | omega | (refine isTk ?_; omega) | (refine isOk isR33 ?_; omega) | (refine isOk ?_ ?_; assumption; omega)) only [mm_r, mm_rl, mm_add, mm_sub, mm_mul, mm_addJ, mm_mulJ, mm_lt, mm_le, mm_eq, mm_z, mm_cl, mm_w, mm_wl, mm_ite, mm_i2l, mm_l2i, mm_ltJ, mm_leJ, mm_eqJ, mm_clt, mm_cle, mm_cgt, mm_cge, mm_ceq, mm_b, mm_nb, mm_nb0, mm_nb1, mm_vb0, mm_vb1, mm_vbc, mm_vy0, mm_vy1, mm_at, mm_ne, mm_nj, mm_Lw, mm_Nw, mm_atJ, mm_neJ, mm_njJ, zbI_s, zbV_s, zbJ_s, cond_t, Bool.true_and, Bool.and_true, if_true, if_false, not_true, not_false_iff, zel_r, zel_42, zel_12, zel_71, zel_80, zel_89, zel_110, zel_188, zel_103, zel_195, zr_o, zr_1, zr_2, zr_3, zr_4, zr_5, zr_6, zr_7, zr_8, zr_9, zq_o, zq_v, zt_o, zt_1, zt_2, zt_3, zt_4, zt_5, zf_o, zf_1, za_w1, za_w2, za_w3, za_cm, za_sl, Int.toNat_natCast, mm_t0, mm_t1, mm_t2, mm_t3, mm_t4, mm_t5, mm_t6, mm_t7, mm_t8, mm_t9, mm_t10, mm_t11, mm_t12, mm_t13, za_1, za_64, za_65, za_66, za_67, za_68, za_71, za_80, za_89, za_98, za_103, za_110, za_121, za_122, za_123, za_124, za_125, za_126, za_188, za_193, za_194, za_195, za_286, za_288, za_289, za_290, za_291, za_292, za_293, za_294, za_295, za_296, za_297, za_298, za_299, za_300, za_301, za_302, za_303, za_304, za_305, za_306, za_307, za_308, za_309, za_310, za_311, za_312, hN, hLt]
  rw [sp_201 (by omega) (by omega) (by omega) (by omega), zbI_s, hd]
  simp (disch := first | assumption | exact isR33 | exact isT104 | exact isF99 | exact isF101 | exact isR3 | omega | (refine isTk ?_; omega) | (refine isOk isR33 ?_; omega) | (refine isOk ?_ ?_; assumption; omega)) only [mm_r, mm_rl, mm_add, mm_sub, mm_mul, mm_addJ, mm_mulJ, mm_lt, mm_le, mm_eq, mm_z, mm_cl, mm_w, mm_wl, mm_ite, mm_i2l, mm_l2i, mm_ltJ, mm_leJ, mm_eqJ, mm_clt, mm_cle, mm_cgt, mm_cge, mm_ceq, mm_b, mm_nb, mm_nb0, mm_nb1, mm_vb0, mm_vb1, mm_vbc, mm_vy0, mm_vy1, mm_at, mm_ne, mm_nj, mm_Lw, mm_Nw, mm_atJ, mm_neJ, mm_njJ, zbI_s, zbV_s, zbJ_s, cond_t, Bool.true_and, Bool.and_true, if_true, if_false, not_true, not_false_iff, zel_r, zel_42, zel_12, zel_71, zel_80, zel_89, zel_110, zel_188, zel_103, zel_195, zr_o, zr_1, zr_2, zr_3, zr_4, zr_5, zr_6, zr_7, zr_8, zr_9, zq_o, zq_v, zt_o, zt_1, zt_2, zt_3, zt_4, zt_5, zf_o, zf_1, za_w1, za_w2, za_w3, za_cm, za_sl, Int.toNat_natCast, mm_t0, mm_t1, mm_t2, mm_t3, mm_t4, mm_t5, mm_t6, mm_t7, mm_t8, mm_t9, mm_t10, mm_t11, mm_t12, mm_t13, za_1, za_64, za_65, za_66, za_67, za_68, za_71, za_80, za_89, za_98, za_103, za_110, za_121, za_122, za_123, za_124, za_125, za_126, za_188, za_193, za_194, za_195, za_286, za_288, za_289, za_290, za_291, za_292, za_293, za_294, za_295, za_296, za_297, za_298, za_299, za_300, za_301, za_302, za_303, za_304, za_305, za_306, za_307, za_308, za_309, za_310, za_311, za_312]
  by_cases q : DD W (lastT w) g < 1000000
  · rw [if_pos q]
    have lo := lead_ok hW g0 g1 8 w hw h0 (by omega) q
    rw [if_neg (by omega)]
    refine zwp_mono (lp_206 o0 o1 g0 g1 8 w σ hq hw h0 (by omega) q (by omega) hR) (fun v τ h => ⟨h.1, fun _ => h.2.1, h.2.2⟩)
  · rw [if_neg q]
    have hne : lastT w ≠ g := fun e => by
      rw [e, DD_self hW g0 g1] at q
      omega
    have ln := lead_no (W := W) (g := g) 7 h0 hne (by omega)
    rw [ln, if_pos rfl]
    exact zwp_ret ⟨rfl, fun h => absurd rfl h, oF.rf⟩
