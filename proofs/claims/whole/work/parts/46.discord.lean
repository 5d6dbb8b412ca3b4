/-! CALLS: changes, discord, peace, just -/
def zsum (f : Int → Int) : Nat → Int
  | 0 => 0
  | n + 1 => zsum f n + f n
theorem zsum_rng {f : Int → Int} {M : Int} (hf : ∀ i, 0 ≤ f i ∧ f i ≤ M) : ∀ n : Nat, 0 ≤ zsum f n ∧ zsum f n ≤ M * n
  | 0 => ⟨Int.le_refl _, by show (0 : Int) ≤ M * 0; omega⟩
  | n + 1 => by
    have a := zsum_rng hf n
    have b := hf n
    have c : M * ((n + 1 : Nat) : Int) = M * n + M := by rw [Int.natCast_add, Int.mul_add]; simp
    rw [zsum, c]
    omega
theorem zsum_congr {f g : Int → Int} : ∀ n : Nat, (∀ i : Int, 0 ≤ i → i < n → f i = g i) → zsum f n = zsum g n
  | 0, _ => rfl
  | n + 1, h => by rw [zsum, zsum, zsum_congr n (fun i h0 h1 => h i h0 (by omega)), h n (by omega) (by omega)]
def dsc (W : Int → Int) (c : Int → Int) (sl g h : Int) : Int := zcnt (fun r => decide (HH W c sl (W (8 + 3 * r)) g h ≠ HH W c sl (W (8 + 3 * r + 1)) g h)) (W 2).toNat
theorem dsc_rng {W : Int → Int} (hW : WOK W) (c : Int → Int) (sl g h : Int) : 0 ≤ dsc W c sl g h ∧ dsc W c sl g h ≤ 12 := by
  have := zcnt_rng (fun r => decide (HH W c sl (W (8 + 3 * r)) g h ≠ HH W c sl (W (8 + 3 * r + 1)) g h)) (W 2).toNat
  have h2 := hW.1.1.2.2.2.1
  unfold dsc
  omega
def dsT (W : Int → Int) (c : Int → Int) (sl g : Int) : Int := zsum (fun h => dsc W c sl g h) (W 1).toNat
theorem dsT_rng {W : Int → Int} (hW : WOK W) (c : Int → Int) (sl g : Int) : 0 ≤ dsT W c sl g ∧ dsT W c sl g ≤ 1188 := by
  have := zsum_rng (f := fun h => dsc W c sl g h) (M := 12) (fun h => dsc_rng hW c sl g h) (W 1).toNat
  have h1 := hW.1.2.2.1
  unfold dsT
  omega
/-- where none comes, nothing changes -/
theorem HH_h {W : Int → Int} (hW : wUn W) {c : Int → Int} {sl t g h h' : Int} (hc : ∀ o, 0 ≤ o → o < W 5 → (c o ≤ h ↔ c o ≤ h')) : HH W c sl t g h = HH W c sl t g h' := hH_congr (fun o o0 o1 => by
  have := hc o o0 (by omega)
  unfold TT
  exact decide_eq_decide.mpr (by rw [this])) (fun _ _ _ => rfl) (fun _ _ _ => rfl) (fun _ _ _ => rfl) (fun _ _ _ => rfl) (fun o o0 o1 => by have := (hW.2.2 o o0 (by omega)).1; omega)
theorem HH_s {W : Int → Int} (hW : wUn W) {c : Int → Int} {sl sl' t g h : Int} (hc : ∀ o, 0 ≤ o → o < W 5 → (c o ≤ sl ↔ c o ≤ sl')) : HH W c sl t g h = HH W c sl' t g h := hH_congr (fun o o0 o1 => by
  have := hc o o0 (by omega)
  unfold TT
  exact decide_eq_decide.mpr (by rw [this])) (fun _ _ _ => rfl) (fun _ _ _ => rfl) (fun _ _ _ => rfl) (fun _ _ _ => rfl) (fun o o0 o1 => by have := (hW.2.2 o o0 (by omega)).1; omega)
theorem ccC.fr {σ τ : zM} {W : Int → Int} {c : Int → Int} {sl : Int} (h : ccC σ W c sl) (hf : ∀ b, 63 ≤ b → b < 69 → ∀ k, zN τ b k = zN σ b k) : ccC τ W c sl := ⟨(hf 63 (by omega) (by omega) 0).trans h.1, (hf 63 (by omega) (by omega) 1).trans h.2.1, fun o o0 o1 => ⟨(h.2.2 o o0 o1).1.fr (hf _ (by omega) (by omega) _) (hf _ (by omega) (by omega) _) (hf _ (by omega) (by omega) _) (hf _ (by omega) (by omega) _), (hf _ (by omega) (by omega) _).trans (h.2.2 o o0 o1).2⟩⟩
theorem lp_20_40 {σ : zM} {W : Int → Int} {f : Int → Int} (hW : WOK W) (hL : cL σ 33 W) (hv : ∀ x, 0 ≤ x → x < W 0 → zN σ 124 x.toNat = f x) : ∀ (k r : Nat), (r : Int) + k = W 2 → zev 20 40 [some (.ref 69), none, none, some (.int (Int32.ofInt (zcnt (fun r => decide (f (W (8 + 3 * r)) ≠ f (W (8 + 3 * r + 1)))) r))), some (.int (Int32.ofInt r))] [] σ = some (some (.int (Int32.ofInt (zcnt (fun r => decide (f (W (8 + 3 * r)) ≠ f (W (8 + 3 * r + 1)))) (W 2).toNat))), σ)
  | 0, r, e => by
    have h2 := hW.1.1.2.2.2.1
    have e4 := hL.1.2.2.2.2.1
    refine ze_20_40 _ _ _ _ ?_
    simp (disch := first | assumption | exact isR33 | exact isT104 | exact isF99 | exact isF101 | exact isR3 | omega | (refine isTk ?_; omega) | (refine isOk isR33 ?_; omega) | (refine isOk ?_ ?_; assumption; omega)) only [mm_r, mm_rl, mm_add, mm_sub, mm_mul, mm_addJ, mm_mulJ, mm_lt, mm_le, mm_eq, mm_z, mm_cl, mm_w, mm_wl, mm_ite, mm_i2l, mm_l2i, mm_ltJ, mm_leJ, mm_eqJ, mm_clt, mm_cle, mm_cgt, mm_cge, mm_ceq, mm_b, mm_nb, mm_nb0, mm_nb1, mm_vb0, mm_vb1, mm_vbc, mm_vy0, mm_vy1, mm_at, mm_ne, mm_nj, mm_Lw, mm_Nw, mm_atJ, mm_neJ, mm_njJ, zbI_s, zbV_s, zbJ_s, cond_t, Bool.true_and, Bool.and_true, if_true, if_false, not_true, not_false_iff, Classical.not_not, zel_r, zel_42, zel_12, zel_71, zel_80, zel_89, zel_110, zel_188, zel_103, zel_195, zr_o, zr_1, zr_2, zr_3, zr_4, zr_5, zr_6, zr_7, zr_8, zr_9, zq_o, zq_v, zt_o, zt_1, zt_2, zt_3, zt_4, zt_5, zf_o, zf_1, za_w1, za_w2, za_w3, za_cm, za_sl, Int.toNat_natCast, Int.toNat_natCast_add_one, mm_t0, mm_t1, mm_t2, mm_t3, mm_t4, mm_t5, mm_t6, mm_t7, mm_t8, mm_t9, mm_t10, mm_t11, mm_t12, mm_t13, za_1, za_64, za_65, za_66, za_67, za_68, za_71, za_80, za_89, za_98, za_103, za_110, za_121, za_122, za_123, za_124, za_125, za_126, za_188, za_193, za_194, za_195, za_286, za_288, za_289, za_290, za_291, za_292, za_293, za_294, za_295, za_296, za_297, za_298, za_299, za_300, za_301, za_302, za_303, za_304, za_305, za_306, za_307, za_308, za_309, za_310, za_311, za_312, e4]
    rw [if_pos (by omega), show (W 2).toNat = r by omega]
  | k + 1, r, e => by
    have h2 := hW.1.1.2.2.2.1
    have h8 := hW.1.1.2.1
    have e4 := hL.1.2.2.2.2.1
    have ih := lp_20_40 hW hL hv k (r + 1) (by omega)
    obtain ⟨a1, a2, -⟩ := hL.2.1 r (by omega) (by omega)
    obtain ⟨⟨b0, b1, b2, b3, -⟩, -⟩ := hW.1.1.2.2.2.2 r (by omega) (by omega)
    rw [Int.toNat_natCast] at a1 a2
    have v1 := hv _ b0 b1
    have v2 := hv _ b2 b3
    have l1 := mm_lo σ 124 (W (8 + 3 * (r : Int))).toNat
    have l2 := mm_hi σ 124 (W (8 + 3 * (r : Int))).toNat
    have l3 := mm_lo σ 124 (W (8 + 3 * (r : Int) + 1)).toNat
    have l4 := mm_hi σ 124 (W (8 + 3 * (r : Int) + 1)).toNat
    have zr := zcnt_rng (fun r => decide (f (W (8 + 3 * r)) ≠ f (W (8 + 3 * r + 1)))) r
    rw [v1] at l1 l2
    rw [v2] at l3 l4
    rw [zcnt] at ih
    refine ze_20_40 _ _ _ _ ?_
    simp (disch := first | assumption | exact isR33 | exact isT104 | exact isF99 | exact isF101 | exact isR3 | omega | (refine isTk ?_; omega) | (refine isOk isR33 ?_; omega) | (refine isOk ?_ ?_; assumption; omega)) only [mm_r, mm_rl, mm_add, mm_sub, mm_mul, mm_addJ, mm_mulJ, mm_lt, mm_le, mm_eq, mm_z, mm_cl, mm_w, mm_wl, mm_ite, mm_i2l, mm_l2i, mm_ltJ, mm_leJ, mm_eqJ, mm_clt, mm_cle, mm_cgt, mm_cge, mm_ceq, mm_b, mm_nb, mm_nb0, mm_nb1, mm_vb0, mm_vb1, mm_vbc, mm_vy0, mm_vy1, mm_at, mm_ne, mm_nj, mm_Lw, mm_Nw, mm_atJ, mm_neJ, mm_njJ, zbI_s, zbV_s, zbJ_s, cond_t, Bool.true_and, Bool.and_true, if_true, if_false, not_true, not_false_iff, Classical.not_not, zel_r, zel_42, zel_12, zel_71, zel_80, zel_89, zel_110, zel_188, zel_103, zel_195, zr_o, zr_1, zr_2, zr_3, zr_4, zr_5, zr_6, zr_7, zr_8, zr_9, zq_o, zq_v, zt_o, zt_1, zt_2, zt_3, zt_4, zt_5, zf_o, zf_1, za_w1, za_w2, za_w3, za_cm, za_sl, Int.toNat_natCast, Int.toNat_natCast_add_one, mm_t0, mm_t1, mm_t2, mm_t3, mm_t4, mm_t5, mm_t6, mm_t7, mm_t8, mm_t9, mm_t10, mm_t11, mm_t12, mm_t13, za_1, za_64, za_65, za_66, za_67, za_68, za_71, za_80, za_89, za_98, za_103, za_110, za_121, za_122, za_123, za_124, za_125, za_126, za_188, za_193, za_194, za_195, za_286, za_288, za_289, za_290, za_291, za_292, za_293, za_294, za_295, za_296, za_297, za_298, za_299, za_300, za_301, za_302, za_303, za_304, za_305, za_306, za_307, za_308, za_309, za_310, za_311, za_312, e4, a1, a2, v1, v2]
    rw [if_neg (by omega)]
    by_cases q : f (W (8 + 3 * (r : Int))) = f (W (8 + 3 * (r : Int) + 1))
    · rw [if_pos q]
      rw [if_neg (by rw [decide_eq_false (fun p => p q)]; exact Bool.false_ne_true), Int.add_zero] at ih
      exact ih
    · rw [if_neg q]
      rw [if_pos (decide_eq_true q)] at ih
      exact ih
theorem lp_20_2 {σ0 : zM} {W : Int → Int} {c : Int → Int} {sl g h : Int} (hW : WOK W) (hL0 : cL σ0 33 W) (hc0 : ccC σ0 W c sl) (hg0 : -2147483648 ≤ g) (hg1 : g < 2147483648) (hh0 : -2147483648 ≤ h) (hh1 : h < 2147483648) : ∀ (k t : Nat) (σ : zM), (t : Int) + k = W 0 → mf (fun b => b = 124) σ0 σ → (∀ x : Int, 0 ≤ x → x < (t : Int) → zN σ 124 x.toNat = HH W c sl x g h) → zwp (zev 20 2 [some (.ref 69), some (.int (Int32.ofInt g)), some (.int (Int32.ofInt h)), some (.int (Int32.ofInt t)), none] [] σ) (fun v τ => v = some (.int (Int32.ofInt (dsc W c sl g h))) ∧ mf (fun b => b = 124) σ0 τ)
  | 0, t, σ, e, hf, hv => by
    have h8 := hW.1.1.2.1
    have h5 := hW.2.2.1
    have hL := hL0.fr (by omega) fun a h1 h2 => hf.1 a (by omega)
    have e1 := hL.1.2.1
    have h2 := hW.1.1.2.2.1
    refine zwp_of (fun r h => ze_20_2 _ _ _ _ r h) ?_
    simp (disch := first | assumption | exact isR33 | exact isT104 | exact isF99 | exact isF101 | exact isR3 | omega | (refine isTk ?_; omega) | (refine isOk isR33 ?_; omega) | (refine isOk ?_ ?_; assumption; omega)) only [mm_r, mm_rl, mm_add, mm_sub, mm_mul, mm_addJ, mm_mulJ, mm_lt, mm_le, mm_eq, mm_z, mm_cl, mm_w, mm_wl, mm_ite, mm_i2l, mm_l2i, mm_ltJ, mm_leJ, mm_eqJ, mm_clt, mm_cle, mm_cgt, mm_cge, mm_ceq, mm_b, mm_nb, mm_nb0, mm_nb1, mm_vb0, mm_vb1, mm_vbc, mm_vy0, mm_vy1, mm_at, mm_ne, mm_nj, mm_Lw, mm_Nw, mm_atJ, mm_neJ, mm_njJ, zbI_s, zbV_s, zbJ_s, cond_t, Bool.true_and, Bool.and_true, if_true, if_false, not_true, not_false_iff, Classical.not_not, zel_r, zel_42, zel_12, zel_71, zel_80, zel_89, zel_110, zel_188, zel_103, zel_195, zr_o, zr_1, zr_2, zr_3, zr_4, zr_5, zr_6, zr_7, zr_8, zr_9, zq_o, zq_v, zt_o, zt_1, zt_2, zt_3, zt_4, zt_5, zf_o, zf_1, za_w1, za_w2, za_w3, za_cm, za_sl, Int.toNat_natCast, Int.toNat_natCast_add_one, mm_t0, mm_t1, mm_t2, mm_t3, mm_t4, mm_t5, mm_t6, mm_t7, mm_t8, mm_t9, mm_t10, mm_t11, mm_t12, mm_t13, za_1, za_64, za_65, za_66, za_67, za_68, za_71, za_80, za_89, za_98, za_103, za_110, za_121, za_122, za_123, za_124, za_125, za_126, za_188, za_193, za_194, za_195, za_286, za_288, za_289, za_290, za_291, za_292, za_293, za_294, za_295, za_296, za_297, za_298, za_299, za_300, za_301, za_302, za_303, za_304, za_305, za_306, za_307, za_308, za_309, za_310, za_311, za_312, e1]
    rw [if_pos (by omega)]
    exact zwp_E (lp_20_40 hW hL (fun x x0 x1 => hv x x0 (by omega)) (W 2).toNat 0 (by omega)) ⟨rfl, hf⟩
  | k + 1, t, σ, e, hf, hv => by
    have h8 := hW.1.1.2.1
    have h5 := hW.2.2.1
    have hL := hL0.fr (by omega) fun a h1 h2 => hf.1 a (by omega)
    have e1 := hL.1.2.1
    have hc := hc0.fr fun b b0 b1 => hf.1 b (by omega)
    have r := HH_rng hW.un c sl t g h
    refine zwp_of (fun r h => ze_20_2 _ _ _ _ r h) ?_
    rw [sp_6c hW.un hc (by omega) (by omega) hg0 hg1 hh0 hh1, zbI_s]
    simp (disch := first | assumption | exact isR33 | exact isT104 | exact isF99 | exact isF101 | exact isR3 | omega | (refine isTk ?_; omega) | (refine isOk isR33 ?_; omega) | (refine isOk ?_ ?_; assumption; omega)) only [mm_r, mm_rl, mm_add, mm_sub, mm_mul, mm_addJ, mm_mulJ, mm_lt, mm_le, mm_eq, mm_z, mm_cl, mm_w, mm_wl, mm_ite, mm_i2l, mm_l2i, mm_ltJ, mm_leJ, mm_eqJ, mm_clt, mm_cle, mm_cgt, mm_cge, mm_ceq, mm_b, mm_nb, mm_nb0, mm_nb1, mm_vb0, mm_vb1, mm_vbc, mm_vy0, mm_vy1, mm_at, mm_ne, mm_nj, mm_Lw, mm_Nw, mm_atJ, mm_neJ, mm_njJ, zbI_s, zbV_s, zbJ_s, cond_t, Bool.true_and, Bool.and_true, if_true, if_false, not_true, not_false_iff, Classical.not_not, zel_r, zel_42, zel_12, zel_71, zel_80, zel_89, zel_110, zel_188, zel_103, zel_195, zr_o, zr_1, zr_2, zr_3, zr_4, zr_5, zr_6, zr_7, zr_8, zr_9, zq_o, zq_v, zt_o, zt_1, zt_2, zt_3, zt_4, zt_5, zf_o, zf_1, za_w1, za_w2, za_w3, za_cm, za_sl, Int.toNat_natCast, Int.toNat_natCast_add_one, mm_t0, mm_t1, mm_t2, mm_t3, mm_t4, mm_t5, mm_t6, mm_t7, mm_t8, mm_t9, mm_t10, mm_t11, mm_t12, mm_t13, za_1, za_64, za_65, za_66, za_67, za_68, za_71, za_80, za_89, za_98, za_103, za_110, za_121, za_122, za_123, za_124, za_125, za_126, za_188, za_193, za_194, za_195, za_286, za_288, za_289, za_290, za_291, za_292, za_293, za_294, za_295, za_296, za_297, za_298, za_299, za_300, za_301, za_302, za_303, za_304, za_305, za_306, za_307, za_308, za_309, za_310, za_311, za_312, e1]
    rw [if_neg (by omega)]
    refine zwp_let ?_
    refine lp_20_2 hW hL0 hc0 hg0 hg1 hh0 hh1 k (t + 1) _ (by omega) (hf.zw 124 _ _ rfl) (fun x x0 x1 => ?_)
    by_cases q : x = t
    · rw [q, Int.toNat_natCast, mm_at rfl rfl (by omega) (by omega)]
    · rw [mm_nj (by omega)]
      exact hv x x0 (by omega)
theorem sp_20 {σ : zM} {W : Int → Int} {c : Int → Int} {sl g h : Int} (hW : WOK W) (hL : cL σ 33 W) (hc : ccC σ W c sl) (hg0 : -2147483648 ≤ g) (hg1 : g < 2147483648) (hh0 : -2147483648 ≤ h) (hh1 : h < 2147483648) : zwp (zcall 20 [.ref 69, .int (Int32.ofInt g), .int (Int32.ofInt h)] σ) (fun v τ => v = some (.int (Int32.ofInt (dsc W c sl g h))) ∧ mf (fun b => b = 124) σ τ) := by
  refine zwp_of (fun r h => zcc_20 (ze_20_0 _ _ _ r h)) ?_
  exact lp_20_2 hW hL hc hg0 hg1 hh0 hh1 (W 0).toNat 0 σ (by have := hW.1.1.1; omega) mf.rf (fun x x0 x1 => by omega)
theorem sp_7c {σ : zM} {W : Int → Int} {c : Int → Int} {sl h : Int} (hW : wUn W) (hC : ccC σ W c sl) (hh0 : -2147483648 ≤ h) (hh1 : h < 2147483648) : zcall 7 [.ref 63, .int (Int32.ofInt h)] σ = some (some (.int (Int32.ofInt (if zany (fun o => decide (c o = h)) (W 5).toNat = true then 1 else 0))), σ) := by
  have h5 := hW.1
  have h10 := hW.2.1
  rw [sp_7 (n := (W 5).toNat) hh0 hh1 (by rw [hC.1]; omega) (by omega)]
  have : zany (fun o => decide (zN σ 68 o.toNat = h)) (W 5).toNat = zany (fun o => decide (c o = h)) (W 5).toNat := zany_congr _ fun o o0 o1 => by rw [(hC.2.2 o o0 (by omega)).2]
  rw [this]
theorem none_h {W : Int → Int} (hW : wUn W) {c : Int → Int} {h : Int} (hz : zany (fun o => decide (c o = h)) (W 5).toNat = false) (o : Int) (o0 : 0 ≤ o) (o1 : o < W 5) : c o ≠ h := by
  have := zany_no hz o.toNat (by omega)
  rw [show ((o.toNat : Nat) : Int) = o by omega] at this
  exact of_decide_eq_false this
theorem dsc_h {W : Int → Int} (hW : WOK W) {c : Int → Int} {sl g h : Int} (hz : zany (fun o => decide (c o = h)) (W 5).toNat = false) : dsc W c sl g h = dsc W c sl g (h - 1) := by
  have hh := fun t => HH_h (sl := sl) (t := t) (g := g) hW.un (c := c) (h := h) (h' := h - 1) (fun o o0 o1 => by have := none_h hW.un hz o o0 o1; omega)
  unfold dsc
  refine zcnt_congr _ fun r _ _ => ?_
  rw [hh, hh]
theorem lp_19 {σ0 : zM} {W : Int → Int} {c : Int → Int} {sl g : Int} (hW : WOK W) (hL0 : cL σ0 33 W) (hc0 : ccC σ0 W c sl) (hg0 : -2147483648 ≤ g) (hg1 : g < 2147483648) : ∀ (k t : Nat) (now : Int) (σ : zM), (t : Int) + k = W 1 → (t ≠ 0 → now = dsc W c sl g (t - 1)) → 0 ≤ now → now ≤ 12 → mf (fun b => b = 123 ∨ b = 124) σ0 σ → (∀ x : Int, 0 ≤ x → x < (t : Int) → zN σ 123 x.toNat = dsc W c sl g x) → zwp (zev 19 7 [some (.ref 69), some (.int (Int32.ofInt g)), some (.int (Int32.ofInt (zsum (fun h => dsc W c sl g h) t))), some (.int (Int32.ofInt now)), some (.int (Int32.ofInt t))] [] σ) (fun v τ => v = some (.int (Int32.ofInt (dsT W c sl g))) ∧ mf (fun b => b = 123 ∨ b = 124) σ0 τ ∧ ∀ x : Int, 0 ≤ x → x < W 1 → zN τ 123 x.toNat = dsc W c sl g x)
  | 0, t, now, σ, e, hn, n0, n1, hf, hv => by
    have h5 := hW.2.2.1
    have h1 := hW.1.2.2.1
    have hL := hL0.fr (by omega) fun a h1 h2 => hf.1 a (by omega)
    have e2 := hL.1.2.2.1
    refine zwp_of (fun r h => ze_19_7 _ _ _ _ _ r h) ?_
    refine zwp_t (by try simp (disch := first | assumption | exact isR33 | exact isT104 | exact isF99 | exact isF101 | exact isR3 | omega | (refine isTk ?_; omega) | (refine isOk isR33 ?_; omega) | (refine isOk ?_ ?_; assumption; omega)) only [mm_r, mm_rl, mm_add, mm_sub, mm_mul, mm_addJ, mm_mulJ, mm_lt, mm_le, mm_eq, mm_z, mm_cl, mm_w, mm_wl, mm_ite, mm_i2l, mm_l2i, mm_ltJ, mm_leJ, mm_eqJ, mm_clt, mm_cle, mm_cgt, mm_cge, mm_ceq, mm_b, mm_nb, mm_nb0, mm_nb1, mm_vb0, mm_vb1, mm_vbc, mm_vy0, mm_vy1, mm_at, mm_ne, mm_nj, mm_Lw, mm_Nw, mm_atJ, mm_neJ, mm_njJ, zbI_s, zbV_s, zbJ_s, cond_t, Bool.true_and, Bool.and_true, if_true, if_false, not_true, not_false_iff, Classical.not_not, zel_r, zel_42, zel_12, zel_71, zel_80, zel_89, zel_110, zel_188, zel_103, zel_195, zr_o, zr_1, zr_2, zr_3, zr_4, zr_5, zr_6, zr_7, zr_8, zr_9, zq_o, zq_v, zt_o, zt_1, zt_2, zt_3, zt_4, zt_5, zf_o, zf_1, za_w1, za_w2, za_w3, za_cm, za_sl, Int.toNat_natCast, Int.toNat_natCast_add_one, mm_t0, mm_t1, mm_t2, mm_t3, mm_t4, mm_t5, mm_t6, mm_t7, mm_t8, mm_t9, mm_t10, mm_t11, mm_t12, mm_t13, za_1, za_64, za_65, za_66, za_67, za_68, za_71, za_80, za_89, za_98, za_103, za_110, za_121, za_122, za_123, za_124, za_125, za_126, za_188, za_193, za_194, za_195, za_286, za_288, za_289, za_290, za_291, za_292, za_293, za_294, za_295, za_296, za_297, za_298, za_299, za_300, za_301, za_302, za_303, za_304, za_305, za_306, za_307, za_308, za_309, za_310, za_311, za_312, e2]; first | done | omega) ?_
    refine zwp_ret ⟨?_, hf, fun x x0 x1 => hv x x0 (by omega)⟩
    unfold dsT
    rw [show (W 1).toNat = t by omega]
  | k + 1, t, now, σ, e, hn, n0, n1, hf, hv => by
    have h5 := hW.2.2.1
    have h1 := hW.1.2.2.1
    have hL := hL0.fr (by omega) fun a h1 h2 => hf.1 a (by omega)
    have hc := hc0.fr fun b b0 b1 => hf.1 b (by omega)
    have e2 := hL.1.2.2.1
    have r := dsc_rng hW c sl g t
    have zs := zsum_rng (f := fun h => dsc W c sl g h) (M := 12) (fun h => dsc_rng hW c sl g h) t
    have hgo : ∀ τ, mf (fun b => b = 123 ∨ b = 124) σ0 τ → (∀ x : Int, 0 ≤ x → x < (t : Int) → zN τ 123 x.toNat = dsc W c sl g x) → zwp (zev 19 7 [some (.ref 69), some (.int (Int32.ofInt g)), some (.int (Int32.ofInt (zsum (fun h => dsc W c sl g h) t + dsc W c sl g t))), some (.int (Int32.ofInt (dsc W c sl g t))), some (.int (Int32.ofInt ((t : Int) + 1)))] [] (zw τ 123 t (dsc W c sl g t))) (fun v τ => v = some (.int (Int32.ofInt (dsT W c sl g))) ∧ mf (fun b => b = 123 ∨ b = 124) σ0 τ ∧ ∀ x : Int, 0 ≤ x → x < W 1 → zN τ 123 x.toNat = dsc W c sl g x) := by
      intro τ hf' hv'
      refine lp_19 hW hL0 hc0 hg0 hg1 k (t + 1) (dsc W c sl g t) _ (by omega) (fun _ => by rw [show (((t + 1 : Nat) : Int)) - 1 = t by omega]) r.1 r.2 (hf'.zw 123 _ _ (.inl rfl)) (fun x x0 x1 => ?_)
      by_cases q : x = t
      · rw [q, Int.toNat_natCast, mm_at rfl rfl (by omega) (by omega)]
      · rw [mm_nj (by omega)]
        exact hv' x x0 (by omega)
    refine zwp_of (fun r h => ze_19_7 _ _ _ _ _ r h) ?_
    refine zwp_f (by try simp (disch := first | assumption | exact isR33 | exact isT104 | exact isF99 | exact isF101 | exact isR3 | omega | (refine isTk ?_; omega) | (refine isOk isR33 ?_; omega) | (refine isOk ?_ ?_; assumption; omega)) only [mm_r, mm_rl, mm_add, mm_sub, mm_mul, mm_addJ, mm_mulJ, mm_lt, mm_le, mm_eq, mm_z, mm_cl, mm_w, mm_wl, mm_ite, mm_i2l, mm_l2i, mm_ltJ, mm_leJ, mm_eqJ, mm_clt, mm_cle, mm_cgt, mm_cge, mm_ceq, mm_b, mm_nb, mm_nb0, mm_nb1, mm_vb0, mm_vb1, mm_vbc, mm_vy0, mm_vy1, mm_at, mm_ne, mm_nj, mm_Lw, mm_Nw, mm_atJ, mm_neJ, mm_njJ, zbI_s, zbV_s, zbJ_s, cond_t, Bool.true_and, Bool.and_true, if_true, if_false, not_true, not_false_iff, Classical.not_not, zel_r, zel_42, zel_12, zel_71, zel_80, zel_89, zel_110, zel_188, zel_103, zel_195, zr_o, zr_1, zr_2, zr_3, zr_4, zr_5, zr_6, zr_7, zr_8, zr_9, zq_o, zq_v, zt_o, zt_1, zt_2, zt_3, zt_4, zt_5, zf_o, zf_1, za_w1, za_w2, za_w3, za_cm, za_sl, Int.toNat_natCast, Int.toNat_natCast_add_one, mm_t0, mm_t1, mm_t2, mm_t3, mm_t4, mm_t5, mm_t6, mm_t7, mm_t8, mm_t9, mm_t10, mm_t11, mm_t12, mm_t13, za_1, za_64, za_65, za_66, za_67, za_68, za_71, za_80, za_89, za_98, za_103, za_110, za_121, za_122, za_123, za_124, za_125, za_126, za_188, za_193, za_194, za_195, za_286, za_288, za_289, za_290, za_291, za_292, za_293, za_294, za_295, za_296, za_297, za_298, za_299, za_300, za_301, za_302, za_303, za_304, za_305, za_306, za_307, za_308, za_309, za_310, za_311, za_312, e2]; first | done | omega) ?_
    by_cases q : t = 0
    · refine zwp_t (by rw [q]; rfl) ?_
      refine zwp_IE (sp_20 hW hL hc hg0 hg1 (by omega) (by omega)) ?_
      intro τ hf2
      simp (disch := first | assumption | exact isR33 | exact isT104 | exact isF99 | exact isF101 | exact isR3 | omega | (refine isTk ?_; omega) | (refine isOk isR33 ?_; omega) | (refine isOk ?_ ?_; assumption; omega)) only [mm_r, mm_rl, mm_add, mm_sub, mm_mul, mm_addJ, mm_mulJ, mm_lt, mm_le, mm_eq, mm_z, mm_cl, mm_w, mm_wl, mm_ite, mm_i2l, mm_l2i, mm_ltJ, mm_leJ, mm_eqJ, mm_clt, mm_cle, mm_cgt, mm_cge, mm_ceq, mm_b, mm_nb, mm_nb0, mm_nb1, mm_vb0, mm_vb1, mm_vbc, mm_vy0, mm_vy1, mm_at, mm_ne, mm_nj, mm_Lw, mm_Nw, mm_atJ, mm_neJ, mm_njJ, zbI_s, zbV_s, zbJ_s, cond_t, Bool.true_and, Bool.and_true, if_true, if_false, not_true, not_false_iff, Classical.not_not, zel_r, zel_42, zel_12, zel_71, zel_80, zel_89, zel_110, zel_188, zel_103, zel_195, zr_o, zr_1, zr_2, zr_3, zr_4, zr_5, zr_6, zr_7, zr_8, zr_9, zq_o, zq_v, zt_o, zt_1, zt_2, zt_3, zt_4, zt_5, zf_o, zf_1, za_w1, za_w2, za_w3, za_cm, za_sl, Int.toNat_natCast, Int.toNat_natCast_add_one, mm_t0, mm_t1, mm_t2, mm_t3, mm_t4, mm_t5, mm_t6, mm_t7, mm_t8, mm_t9, mm_t10, mm_t11, mm_t12, mm_t13, za_1, za_64, za_65, za_66, za_67, za_68, za_71, za_80, za_89, za_98, za_103, za_110, za_121, za_122, za_123, za_124, za_125, za_126, za_188, za_193, za_194, za_195, za_286, za_288, za_289, za_290, za_291, za_292, za_293, za_294, za_295, za_296, za_297, za_298, za_299, za_300, za_301, za_302, za_303, za_304, za_305, za_306, za_307, za_308, za_309, za_310, za_311, za_312]
      refine zwp_let ?_
      exact hgo τ (hf.tr (hf2.mono (by omega))) (fun x x0 x1 => (hf2.1 123 (by omega) _).trans (hv x x0 x1))
    · refine zwp_f (by try simp (disch := first | assumption | exact isR33 | exact isT104 | exact isF99 | exact isF101 | exact isR3 | omega | (refine isTk ?_; omega) | (refine isOk isR33 ?_; omega) | (refine isOk ?_ ?_; assumption; omega)) only [mm_r, mm_rl, mm_add, mm_sub, mm_mul, mm_addJ, mm_mulJ, mm_lt, mm_le, mm_eq, mm_z, mm_cl, mm_w, mm_wl, mm_ite, mm_i2l, mm_l2i, mm_ltJ, mm_leJ, mm_eqJ, mm_clt, mm_cle, mm_cgt, mm_cge, mm_ceq, mm_b, mm_nb, mm_nb0, mm_nb1, mm_vb0, mm_vb1, mm_vbc, mm_vy0, mm_vy1, mm_at, mm_ne, mm_nj, mm_Lw, mm_Nw, mm_atJ, mm_neJ, mm_njJ, zbI_s, zbV_s, zbJ_s, cond_t, Bool.true_and, Bool.and_true, if_true, if_false, not_true, not_false_iff, Classical.not_not, zel_r, zel_42, zel_12, zel_71, zel_80, zel_89, zel_110, zel_188, zel_103, zel_195, zr_o, zr_1, zr_2, zr_3, zr_4, zr_5, zr_6, zr_7, zr_8, zr_9, zq_o, zq_v, zt_o, zt_1, zt_2, zt_3, zt_4, zt_5, zf_o, zf_1, za_w1, za_w2, za_w3, za_cm, za_sl, Int.toNat_natCast, Int.toNat_natCast_add_one, mm_t0, mm_t1, mm_t2, mm_t3, mm_t4, mm_t5, mm_t6, mm_t7, mm_t8, mm_t9, mm_t10, mm_t11, mm_t12, mm_t13, za_1, za_64, za_65, za_66, za_67, za_68, za_71, za_80, za_89, za_98, za_103, za_110, za_121, za_122, za_123, za_124, za_125, za_126, za_188, za_193, za_194, za_195, za_286, za_288, za_289, za_290, za_291, za_292, za_293, za_294, za_295, za_296, za_297, za_298, za_299, za_300, za_301, za_302, za_303, za_304, za_305, za_306, za_307, za_308, za_309, za_310, za_311, za_312]; first | done | omega) ?_
      rw [sp_7c hW.un hc (by omega) (by omega)]
      simp only [zbI_s, mm_z, mm_b]
      refine zwp_ite (fun z => ?_) (fun z => ?_)
      · have hz := dsc_h (sl := sl) (g := g) hW (Bool.not_eq_true _ |>.mp z)
        have hnow : now = dsc W c sl g t := by rw [hn q, hz]
        rw [hnow]
        simp (disch := first | assumption | exact isR33 | exact isT104 | exact isF99 | exact isF101 | exact isR3 | omega | (refine isTk ?_; omega) | (refine isOk isR33 ?_; omega) | (refine isOk ?_ ?_; assumption; omega)) only [mm_r, mm_rl, mm_add, mm_sub, mm_mul, mm_addJ, mm_mulJ, mm_lt, mm_le, mm_eq, mm_z, mm_cl, mm_w, mm_wl, mm_ite, mm_i2l, mm_l2i, mm_ltJ, mm_leJ, mm_eqJ, mm_clt, mm_cle, mm_cgt, mm_cge, mm_ceq, mm_b, mm_nb, mm_nb0, mm_nb1, mm_vb0, mm_vb1, mm_vbc, mm_vy0, mm_vy1, mm_at, mm_ne, mm_nj, mm_Lw, mm_Nw, mm_atJ, mm_neJ, mm_njJ, zbI_s, zbV_s, zbJ_s, cond_t, Bool.true_and, Bool.and_true, if_true, if_false, not_true, not_false_iff, Classical.not_not, zel_r, zel_42, zel_12, zel_71, zel_80, zel_89, zel_110, zel_188, zel_103, zel_195, zr_o, zr_1, zr_2, zr_3, zr_4, zr_5, zr_6, zr_7, zr_8, zr_9, zq_o, zq_v, zt_o, zt_1, zt_2, zt_3, zt_4, zt_5, zf_o, zf_1, za_w1, za_w2, za_w3, za_cm, za_sl, Int.toNat_natCast, Int.toNat_natCast_add_one, mm_t0, mm_t1, mm_t2, mm_t3, mm_t4, mm_t5, mm_t6, mm_t7, mm_t8, mm_t9, mm_t10, mm_t11, mm_t12, mm_t13, za_1, za_64, za_65, za_66, za_67, za_68, za_71, za_80, za_89, za_98, za_103, za_110, za_121, za_122, za_123, za_124, za_125, za_126, za_188, za_193, za_194, za_195, za_286, za_288, za_289, za_290, za_291, za_292, za_293, za_294, za_295, za_296, za_297, za_298, za_299, za_300, za_301, za_302, za_303, za_304, za_305, za_306, za_307, za_308, za_309, za_310, za_311, za_312]
        refine zwp_let ?_
        exact hgo σ hf hv
      · refine zwp_IE (sp_20 hW hL hc hg0 hg1 (by omega) (by omega)) ?_
        intro τ hf2
        simp (disch := first | assumption | exact isR33 | exact isT104 | exact isF99 | exact isF101 | exact isR3 | omega | (refine isTk ?_; omega) | (refine isOk isR33 ?_; omega) | (refine isOk ?_ ?_; assumption; omega)) only [mm_r, mm_rl, mm_add, mm_sub, mm_mul, mm_addJ, mm_mulJ, mm_lt, mm_le, mm_eq, mm_z, mm_cl, mm_w, mm_wl, mm_ite, mm_i2l, mm_l2i, mm_ltJ, mm_leJ, mm_eqJ, mm_clt, mm_cle, mm_cgt, mm_cge, mm_ceq, mm_b, mm_nb, mm_nb0, mm_nb1, mm_vb0, mm_vb1, mm_vbc, mm_vy0, mm_vy1, mm_at, mm_ne, mm_nj, mm_Lw, mm_Nw, mm_atJ, mm_neJ, mm_njJ, zbI_s, zbV_s, zbJ_s, cond_t, Bool.true_and, Bool.and_true, if_true, if_false, not_true, not_false_iff, Classical.not_not, zel_r, zel_42, zel_12, zel_71, zel_80, zel_89, zel_110, zel_188, zel_103, zel_195, zr_o, zr_1, zr_2, zr_3, zr_4, zr_5, zr_6, zr_7, zr_8, zr_9, zq_o, zq_v, zt_o, zt_1, zt_2, zt_3, zt_4, zt_5, zf_o, zf_1, za_w1, za_w2, za_w3, za_cm, za_sl, Int.toNat_natCast, Int.toNat_natCast_add_one, mm_t0, mm_t1, mm_t2, mm_t3, mm_t4, mm_t5, mm_t6, mm_t7, mm_t8, mm_t9, mm_t10, mm_t11, mm_t12, mm_t13, za_1, za_64, za_65, za_66, za_67, za_68, za_71, za_80, za_89, za_98, za_103, za_110, za_121, za_122, za_123, za_124, za_125, za_126, za_188, za_193, za_194, za_195, za_286, za_288, za_289, za_290, za_291, za_292, za_293, za_294, za_295, za_296, za_297, za_298, za_299, za_300, za_301, za_302, za_303, za_304, za_305, za_306, za_307, za_308, za_309, za_310, za_311, za_312]
        refine zwp_let ?_
        exact hgo τ (hf.tr (hf2.mono (by omega))) (fun x x0 x1 => (hf2.1 123 (by omega) _).trans (hv x x0 x1))
theorem sp_19 {σ : zM} {W : Int → Int} {c : Int → Int} {sl g : Int} (hW : WOK W) (hL : cL σ 33 W) (hc : ccC σ W c sl) (hg0 : -2147483648 ≤ g) (hg1 : g < 2147483648) : zwp (zcall 19 [.ref 69, .int (Int32.ofInt g)] σ) (fun v τ => v = some (.int (Int32.ofInt (dsT W c sl g))) ∧ mf (fun b => b = 123 ∨ b = 124) σ τ ∧ ∀ x : Int, 0 ≤ x → x < W 1 → zN τ 123 x.toNat = dsc W c sl g x) := by
  refine zwp_of (fun r h => zcc_19 (ze_19_0 _ _ r h)) ?_
  exact lp_19 hW hL hc hg0 hg1 (W 1).toNat 0 0 σ (by have := hW.1.2.1; omega) (fun h => absurd rfl h) (by omega) (by omega) mf.rf (fun x x0 x1 => by omega)
abbrev isG (W : Int → Int) (g : Int) : Prop := 0 < W 0 ∧ 0 ≤ g ∧ g < 3
def Edis (W : Int → Int) (g : Int) : Int := if isG W g then dsT W (CM W noD) (W 7) g else -2
theorem cq_discord {σ : zM} {W : Int → Int} {g : Int} (hW : WOK W) (hC : ctC σ W) (hg0 : -2147483648 ≤ g) (hg1 : g < 2147483648) : zwp (zcall 120 [.ref 0, .int (Int32.ofInt g)] σ) (fun v τ => v = some (.int (Int32.ofInt (Edis W g))) ∧ cK σ τ W) := by
  have e1 := hC.1.1.2.1
  unfold Edis
  refine zwp_of (fun r h => zcc_120 (ze_120_0 _ _ r h)) ?_
  simp (disch := first | assumption | exact isR33 | exact isT104 | exact isF99 | exact isF101 | exact isR3 | omega | (refine isTk ?_; omega) | (refine isOk isR33 ?_; omega) | (refine isOk ?_ ?_; assumption; omega)) only [mm_r, mm_rl, mm_add, mm_sub, mm_mul, mm_addJ, mm_mulJ, mm_lt, mm_le, mm_eq, mm_z, mm_cl, mm_w, mm_wl, mm_ite, mm_i2l, mm_l2i, mm_ltJ, mm_leJ, mm_eqJ, mm_clt, mm_cle, mm_cgt, mm_cge, mm_ceq, mm_b, mm_nb, mm_nb0, mm_nb1, mm_vb0, mm_vb1, mm_vbc, mm_vy0, mm_vy1, mm_at, mm_ne, mm_nj, mm_Lw, mm_Nw, mm_atJ, mm_neJ, mm_njJ, zbI_s, zbV_s, zbJ_s, cond_t, Bool.true_and, Bool.and_true, if_true, if_false, not_true, not_false_iff, Classical.not_not, zel_r, zel_42, zel_12, zel_71, zel_80, zel_89, zel_110, zel_188, zel_103, zel_195, zr_o, zr_1, zr_2, zr_3, zr_4, zr_5, zr_6, zr_7, zr_8, zr_9, zq_o, zq_v, zt_o, zt_1, zt_2, zt_3, zt_4, zt_5, zf_o, zf_1, za_w1, za_w2, za_w3, za_cm, za_sl, Int.toNat_natCast, Int.toNat_natCast_add_one, mm_t0, mm_t1, mm_t2, mm_t3, mm_t4, mm_t5, mm_t6, mm_t7, mm_t8, mm_t9, mm_t10, mm_t11, mm_t12, mm_t13, za_1, za_64, za_65, za_66, za_67, za_68, za_71, za_80, za_89, za_98, za_103, za_110, za_121, za_122, za_123, za_124, za_125, za_126, za_188, za_193, za_194, za_195, za_286, za_288, za_289, za_290, za_291, za_292, za_293, za_294, za_295, za_296, za_297, za_298, za_299, za_300, za_301, za_302, za_303, za_304, za_305, za_306, za_307, za_308, za_309, za_310, za_311, za_312, sp_76, sp_155, e1]
  refine zwp_ite (fun q => ?_) (fun q => ?_)
  · rw [if_neg (fun p => q p.1)]
    exact zwp_ret ⟨rfl, cK.rf hC⟩
  · refine zwp_ite (fun q2 => ?_) (fun q2 => ?_)
    · rw [if_neg (fun p => q2 p.2)]
      exact zwp_ret ⟨rfl, cK.rf hC⟩
    · rw [if_pos (⟨Classical.not_not.mp q, Classical.not_not.mp q2⟩ : isG W g)]
      refine zwp_IE (sp_19 hW hC.1 hC.cc hg0 hg1) ?_
      rintro τ ⟨hf, -⟩
      exact zwp_ret ⟨rfl, cK_of hC hW hf (by omega)⟩
/-- from the top down to the first where there is some -/
def pcd (f : Int → Int) : Nat → Nat
  | 0 => 0
  | n + 1 => if f n = 0 then pcd f n else n + 1
theorem pcd_le (f : Int → Int) : ∀ n, pcd f n ≤ n
  | 0 => Nat.le_refl _
  | n + 1 => by
    have := pcd_le f n
    rw [pcd]
    split <;> omega
def Epc (W : Int → Int) (g : Int) : Int := if isG W g then (if (pcd (fun h => dsc W (CM W noD) (W 7) g h) (W 1).toNat : Int) < W 1 then (pcd (fun h => dsc W (CM W noD) (W 7) g h) (W 1).toNat : Int) else -1) else -2
theorem lp_18 {σ : zM} {W : Int → Int} {f : Int → Int} (hW : WOK W) (e2 : zN σ 33 2 = W 1) (hv : ∀ x, 0 ≤ x → x < W 1 → zN σ 123 x.toNat = f x) : ∀ n : Nat, (n : Int) ≤ W 1 → zev 18 14 [some (.ref 69), none, some (.int (Int32.ofInt n))] [] σ = some (some (.int (Int32.ofInt (if (pcd f n : Int) < W 1 then (pcd f n : Int) else -1))), σ)
  | 0, hn => by
    have h1 := hW.1.2.2.1
    have h0 := hW.1.2.1
    refine ze_18_14 _ _ _ ?_
    simp (disch := first | assumption | exact isR33 | exact isT104 | exact isF99 | exact isF101 | exact isR3 | omega | (refine isTk ?_; omega) | (refine isOk isR33 ?_; omega) | (refine isOk ?_ ?_; assumption; omega)) only [mm_r, mm_rl, mm_add, mm_sub, mm_mul, mm_addJ, mm_mulJ, mm_lt, mm_le, mm_eq, mm_z, mm_cl, mm_w, mm_wl, mm_ite, mm_i2l, mm_l2i, mm_ltJ, mm_leJ, mm_eqJ, mm_clt, mm_cle, mm_cgt, mm_cge, mm_ceq, mm_b, mm_nb, mm_nb0, mm_nb1, mm_vb0, mm_vb1, mm_vbc, mm_vy0, mm_vy1, mm_at, mm_ne, mm_nj, mm_Lw, mm_Nw, mm_atJ, mm_neJ, mm_njJ, zbI_s, zbV_s, zbJ_s, cond_t, Bool.true_and, Bool.and_true, if_true, if_false, not_true, not_false_iff, Classical.not_not, zel_r, zel_42, zel_12, zel_71, zel_80, zel_89, zel_110, zel_188, zel_103, zel_195, zr_o, zr_1, zr_2, zr_3, zr_4, zr_5, zr_6, zr_7, zr_8, zr_9, zq_o, zq_v, zt_o, zt_1, zt_2, zt_3, zt_4, zt_5, zf_o, zf_1, za_w1, za_w2, za_w3, za_cm, za_sl, Int.toNat_natCast, Int.toNat_natCast_add_one, mm_t0, mm_t1, mm_t2, mm_t3, mm_t4, mm_t5, mm_t6, mm_t7, mm_t8, mm_t9, mm_t10, mm_t11, mm_t12, mm_t13, za_1, za_64, za_65, za_66, za_67, za_68, za_71, za_80, za_89, za_98, za_103, za_110, za_121, za_122, za_123, za_124, za_125, za_126, za_188, za_193, za_194, za_195, za_286, za_288, za_289, za_290, za_291, za_292, za_293, za_294, za_295, za_296, za_297, za_298, za_299, za_300, za_301, za_302, za_303, za_304, za_305, za_306, za_307, za_308, za_309, za_310, za_311, za_312, e2]
    rw [if_pos (by omega)]
    show _ = some (some (Value.int (Int32.ofInt (if ((0 : Nat) : Int) < W 1 then ((0 : Nat) : Int) else -1))), σ)
    by_cases q : W 1 ≤ 0
    · rw [if_pos (by omega), if_neg (by omega)]
    · rw [if_neg (by omega), if_pos (by omega)]
  | n + 1, hn => by
    have h1 := hW.1.2.2.1
    have v := hv n (by omega) (by omega)
    rw [Int.toNat_natCast] at v
    have b1 := mm_lo σ 123 n
    have b2 := mm_hi σ 123 n
    rw [v] at b1 b2
    have en : ((n + 1 : Nat) : Int) - 1 = n := by omega
    have en2 : ((n + 1 : Nat) : Int) + -1 = n := by omega
    refine ze_18_14 _ _ _ ?_
    simp (disch := first | assumption | exact isR33 | exact isT104 | exact isF99 | exact isF101 | exact isR3 | omega | (refine isTk ?_; omega) | (refine isOk isR33 ?_; omega) | (refine isOk ?_ ?_; assumption; omega)) only [mm_r, mm_rl, mm_add, mm_sub, mm_mul, mm_addJ, mm_mulJ, mm_lt, mm_le, mm_eq, mm_z, mm_cl, mm_w, mm_wl, mm_ite, mm_i2l, mm_l2i, mm_ltJ, mm_leJ, mm_eqJ, mm_clt, mm_cle, mm_cgt, mm_cge, mm_ceq, mm_b, mm_nb, mm_nb0, mm_nb1, mm_vb0, mm_vb1, mm_vbc, mm_vy0, mm_vy1, mm_at, mm_ne, mm_nj, mm_Lw, mm_Nw, mm_atJ, mm_neJ, mm_njJ, zbI_s, zbV_s, zbJ_s, cond_t, Bool.true_and, Bool.and_true, if_true, if_false, not_true, not_false_iff, Classical.not_not, zel_r, zel_42, zel_12, zel_71, zel_80, zel_89, zel_110, zel_188, zel_103, zel_195, zr_o, zr_1, zr_2, zr_3, zr_4, zr_5, zr_6, zr_7, zr_8, zr_9, zq_o, zq_v, zt_o, zt_1, zt_2, zt_3, zt_4, zt_5, zf_o, zf_1, za_w1, za_w2, za_w3, za_cm, za_sl, Int.toNat_natCast, Int.toNat_natCast_add_one, mm_t0, mm_t1, mm_t2, mm_t3, mm_t4, mm_t5, mm_t6, mm_t7, mm_t8, mm_t9, mm_t10, mm_t11, mm_t12, mm_t13, za_1, za_64, za_65, za_66, za_67, za_68, za_71, za_80, za_89, za_98, za_103, za_110, za_121, za_122, za_123, za_124, za_125, za_126, za_188, za_193, za_194, za_195, za_286, za_288, za_289, za_290, za_291, za_292, za_293, za_294, za_295, za_296, za_297, za_298, za_299, za_300, za_301, za_302, za_303, za_304, za_305, za_306, za_307, za_308, za_309, za_310, za_311, za_312, e2, en, v, en2]
    rw [if_neg (by omega), pcd]
    by_cases q : f n = 0
    · rw [if_neg (fun p => p q), if_pos q]
      exact lp_18 hW e2 hv n (by omega)
    · rw [if_pos q, if_neg q]
      by_cases q2 : W 1 ≤ ((n + 1 : Nat) : Int)
      · rw [if_pos q2, if_neg (by omega)]
      · rw [if_neg q2, if_pos (by omega)]
theorem cq_peace {σ : zM} {W : Int → Int} {g : Int} (hW : WOK W) (hC : ctC σ W) (hg0 : -2147483648 ≤ g) (hg1 : g < 2147483648) : zwp (zcall 121 [.ref 0, .int (Int32.ofInt g)] σ) (fun v τ => v = some (.int (Int32.ofInt (Epc W g))) ∧ cK σ τ W) := by
  have e1 := hC.1.1.2.1
  unfold Epc
  refine zwp_of (fun r h => zcc_121 (ze_121_0 _ _ r h)) ?_
  simp (disch := first | assumption | exact isR33 | exact isT104 | exact isF99 | exact isF101 | exact isR3 | omega | (refine isTk ?_; omega) | (refine isOk isR33 ?_; omega) | (refine isOk ?_ ?_; assumption; omega)) only [mm_r, mm_rl, mm_add, mm_sub, mm_mul, mm_addJ, mm_mulJ, mm_lt, mm_le, mm_eq, mm_z, mm_cl, mm_w, mm_wl, mm_ite, mm_i2l, mm_l2i, mm_ltJ, mm_leJ, mm_eqJ, mm_clt, mm_cle, mm_cgt, mm_cge, mm_ceq, mm_b, mm_nb, mm_nb0, mm_nb1, mm_vb0, mm_vb1, mm_vbc, mm_vy0, mm_vy1, mm_at, mm_ne, mm_nj, mm_Lw, mm_Nw, mm_atJ, mm_neJ, mm_njJ, zbI_s, zbV_s, zbJ_s, cond_t, Bool.true_and, Bool.and_true, if_true, if_false, not_true, not_false_iff, Classical.not_not, zel_r, zel_42, zel_12, zel_71, zel_80, zel_89, zel_110, zel_188, zel_103, zel_195, zr_o, zr_1, zr_2, zr_3, zr_4, zr_5, zr_6, zr_7, zr_8, zr_9, zq_o, zq_v, zt_o, zt_1, zt_2, zt_3, zt_4, zt_5, zf_o, zf_1, za_w1, za_w2, za_w3, za_cm, za_sl, Int.toNat_natCast, Int.toNat_natCast_add_one, mm_t0, mm_t1, mm_t2, mm_t3, mm_t4, mm_t5, mm_t6, mm_t7, mm_t8, mm_t9, mm_t10, mm_t11, mm_t12, mm_t13, za_1, za_64, za_65, za_66, za_67, za_68, za_71, za_80, za_89, za_98, za_103, za_110, za_121, za_122, za_123, za_124, za_125, za_126, za_188, za_193, za_194, za_195, za_286, za_288, za_289, za_290, za_291, za_292, za_293, za_294, za_295, za_296, za_297, za_298, za_299, za_300, za_301, za_302, za_303, za_304, za_305, za_306, za_307, za_308, za_309, za_310, za_311, za_312, sp_76, sp_155, e1]
  refine zwp_ite (fun q => ?_) (fun q => ?_)
  · rw [if_neg (fun p => q p.1)]
    exact zwp_ret ⟨rfl, cK.rf hC⟩
  · refine zwp_ite (fun q2 => ?_) (fun q2 => ?_)
    · rw [if_neg (fun p => q2 p.2)]
      exact zwp_ret ⟨rfl, cK.rf hC⟩
    · rw [if_pos (⟨Classical.not_not.mp q, Classical.not_not.mp q2⟩ : isG W g)]
      refine zwp_IE (E := if (pcd (fun h => dsc W (CM W noD) (W 7) g h) (W 1).toNat : Int) < W 1 then (pcd (fun h => dsc W (CM W noD) (W 7) g h) (W 1).toNat : Int) else -1) (P := fun τ => cK σ τ W) ?_ (fun τ hk => zwp_ret ⟨rfl, hk⟩)
      refine zwp_of (fun r h => zcc_18 (ze_18_0 _ _ r h)) ?_
      refine zwp_IE (sp_19 hW hC.1 hC.cc hg0 hg1) ?_
      rintro τ ⟨hf, hv⟩
      have hk := cK_of hC hW hf (by omega)
      have e2 := hk.2.1.1.2.2.1
      have h0 := hW.1.2.1
      have l := lp_18 hW e2 hv (W 1).toNat (by omega)
      rw [show (((W 1).toNat : Nat) : Int) = W 1 by omega] at l
      rw [mm_r, e2]
      exact zwp_E l ⟨rfl, hk⟩
