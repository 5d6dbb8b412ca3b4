/-! THOUGHTS: a realm that is another at orders alone; the class learns -/
def cup (c : Int → Int) (o x : Int) : Int → Int := fun k => if k = o then x else c k
/-- alike but for orders -/
def eqA (W W' : Int → Int) : Prop := ∀ j : Int, j < 80 → W' j = W j
theorem RD_A {W W' : Int → Int} (h2 : W 2 ≤ 12) (h : eqA W W') : RD W' = RD W := by
  funext a b
  unfold RD
  rw [h 2 (by decide)]
  refine zfst_congr _ _ fun r r0 r1 => ?_
  unfold rdP
  rw [h _ (by omega), h _ (by omega)]
theorem RD_lt {W : Int → Int} (h2 : W 2 ≤ 12) (a b : Int) : -1 ≤ RD W a b ∧ RD W a b < 12 := by
  rcases RD_rng W a b with e | ⟨h0, h1, -⟩ <;> omega
theorem RH_A {W W' : Int → Int} (h : eqA W W') {r : Int} (hr : r < 23) : RH W' r = RH W r := h _ (by omega)
theorem DD_A {W W' : Int → Int} (h2 : W 2 ≤ 12) (h : eqA W W') : DD W' = DD W := by
  have e : D0 W' = D0 W := by
    funext a b
    unfold D0
    rw [RD_A h2 h]
    have := RD_lt h2 a b
    rw [RH_A h (by omega)]
  unfold DD
  rw [e, h 0 (by decide)]
theorem NX_A {W W' : Int → Int} (h2 : W 2 ≤ 12) (h : eqA W W') : NX W' = NX W := by
  funext a b
  unfold NX
  rw [DD_A h2 h, h 0 (by decide)]
  have e : nxP W' a b = nxP W a b := by
    funext t
    unfold nxP
    have := RD_lt h2 a t
    rw [RD_A h2 h, DD_A h2 h, RH_A h (by omega)]
  rw [e]
theorem lead_A {W W' : Int → Int} (h2 : W 2 ≤ 12) (h : eqA W W') (g : Int) : ∀ (k : Nat) (w : wy), lead W' g k w = lead W g k w
  | 0, _ => rfl
  | k + 1, w => by
    rw [lead, lead, NX_A h2 h, lead_A h2 h g k]
theorem wayV_A {W W' : Int → Int} (h2 : W 2 ≤ 12) (h : eqA W W') (fr : Int) (v : Int → Int) : ∀ k : Nat, wayV W' fr v k = wayV W fr v k
  | 0 => rfl
  | k + 1 => by rw [wayV, wayV, lead_A h2 h, wayV_A h2 h fr v k]
theorem wayV_c {W : Int → Int} {fr : Int} {v v' : Int → Int} : ∀ k : Nat, (∀ i : Int, 0 ≤ i → i < k → v i = v' i) → wayV W fr v k = wayV W fr v' k
  | 0, _ => rfl
  | k + 1, hv => by rw [wayV, wayV, wayV_c k (fun i i0 i1 => hv i i0 (by omega)), hv k (by omega) (by omega)]
theorem way_A {W W' : Int → Int} (h2 : W 2 ≤ 12) (h : eqA W W') (fr : Int) (v : Int → Int) (n : Nat) (to : Int) : way W' fr v n to = way W fr v n to := by
  unfold way
  rw [lead_A h2 h, wayV_A h2 h]
theorem tI_A {W W' : Int → Int} (h2 : W 2 ≤ 12) (h : eqA W W') (F : Int → Int → Bool) (w : wy) (x p r : Int) : ∀ i : Nat, tI W' F w x p r i = tI W F w x p r i
  | 0 => rfl
  | i + 1 => by
    have e : rdw W' w i = rdw W w i := by
      unfold rdw
      rw [RD_A h2 h]
    have := RD_lt h2 (w.2 i) (w.2 ((i : Int) + 1))
    rw [tI, tI, tI_A h2 h F w x p r i, e, h 1 (by decide), RH_A h (by unfold rdw; omega)]
theorem CMw_A {W W' : Int → Int} (h2 : W 2 ≤ 12) (h : eqA W W') (F : Int → Int → Bool) (w : wy) (x p r : Int) : CMw W' F w x p r = CMw W F w x p r := by
  unfold CMw
  rw [tI_A h2 h, h 1 (by decide)]
theorem FL_A {W W' : Int → Int} (h3 : W 3 ≤ 8) (h : eqA W W') (D : Int → Int → Bool) : FL W' D = FL W D := by
  funext r x
  unfold FL
  rw [h 3 (by decide)]
  congr 1
  refine zany_congr _ fun f f0 f1 => ?_
  rw [h _ (by omega), h _ (by omega), h _ (by omega)]
/-- the order o has h as its number k -/
def wS (W : Int → Int) (o k h : Int) : Int → Int := fun j => if j = 80 + 14 * o + k then h else W j
theorem wS_A {W : Int → Int} {o k h : Int} (o0 : 0 ≤ o) (k0 : 0 ≤ k) : eqA W (wS W o k h) := fun j hj => if_neg (by omega)
theorem oo_S {W : Int → Int} {o k h o' k' : Int} (hk0 : 0 ≤ k) (hk1 : k < 14) (hk0' : 0 ≤ k') (hk1' : k' < 14) : oo (wS W o k h) o' k' = if o' = o ∧ k' = k then h else oo W o' k' := by
  unfold oo wS
  by_cases q : o' = o ∧ k' = k
  · rw [if_pos q, if_pos (by omega)]
  · rw [if_neg q, if_neg (by omega)]
theorem WAY_S {W : Int → Int} (h2 : W 2 ≤ 12) {o h o' : Int} (o0 : 0 ≤ o) (h7 : oo W o' 7 ≤ 3) : WAY (wS W o 6 h) o' = WAY W o' := by
  have hA := wS_A (W := W) (o := o) (k := 6) (h := h) o0 (by decide)
  unfold WAY
  rw [way_A h2 hA, oo_S (by decide) (by decide) (by decide) (by decide), if_neg (by omega), oo_S (by decide) (by decide) (by decide) (by decide), if_neg (by omega), oo_S (by decide) (by decide) (by decide) (by decide), if_neg (by omega)]
  unfold way
  congr 1
  refine wayV_c _ fun i i0 i1 => ?_
  rw [oo_S (by decide) (by decide) (by omega) (by omega), if_neg (by omega)]
theorem pac_S {W : Int → Int} {o h o' : Int} (o0 : 0 ≤ o) (hr : oo W o' 0 < 6) : pac (wS W o 6 h) o' = pac W o' ∧ res (wS W o 6 h) o' = res W o' := by
  have hA := wS_A (W := W) (o := o) (k := 6) (h := h) o0 (by decide)
  unfold pac res
  rw [oo_S (by decide) (by decide) (by decide) (by decide), if_neg (by omega), hA _ (by omega), hA _ (by omega)]
  exact ⟨rfl, rfl⟩
theorem CM_S {W : Int → Int} (h2 : W 2 ≤ 12) (h3 : W 3 ≤ 8) {o h o' : Int} (D : Int → Int → Bool) (o0 : 0 ≤ o) (h7 : oo W o' 7 ≤ 3) (hr : oo W o' 0 < 6) : CM (wS W o 6 h) D o' = CMh W (FL W D) o' (if o' = o then h else oo W o' 6) := by
  have hA := wS_A (W := W) (o := o) (k := 6) (h := h) o0 (by decide)
  have hp := pac_S (W := W) (o := o) (h := h) (o' := o') o0 hr
  unfold CM CMh
  rw [FL_A h3 hA, WAY_S h2 o0 h7, CMw_A h2 hA, hp.1, hp.2, oo_S (by decide) (by decide) (by decide) (by decide)]
  congr 1
  by_cases q : o' = o
  · rw [if_pos q, if_pos ⟨q, rfl⟩]
  · rw [if_neg q, if_neg (fun p => q p.1)]
/-! the class learns -/
theorem sp_12w {σ : zM} {W : Int → Int} {w : wy} {F : Int → Int → Bool} {h p r : Int} (hW : wRi W) (hw : wyN W 29 w) (h0 : 0 ≤ h) (h1 : h ≤ 200) (p0 : 1 ≤ p) (p1 : p ≤ 9) (r0 : 0 ≤ r) (r1 : r ≤ 20) (e2 : zN σ 33 2 = W 1) : zcall 12 [.ref 69, .int (Int32.ofInt (if w.1 = 0 then -1 else tI W F w h p r (w.1 - 1).toNat))] σ = some (some (.int (Int32.ofInt (CMw W F w h p r))), σ) := by
  have hh := hW.2.2.1
  have cr := CMw_rng (F := F) hW hw h0 h1 p0 p1 r0 r1
  have hx : -2147483648 ≤ (if w.1 = 0 then -1 else tI W F w h p r (w.1 - 1).toNat) ∧ (if w.1 = 0 then -1 else tI W F w h p r (w.1 - 1).toNat) < 2147483648 := by
    rcases hw with q | ⟨q0, q1, q2⟩
    · rw [if_pos q]; omega
    · rw [if_neg (by omega)]
      have := tI_rng hW.1 hh (F := F) q2 h0 h1 p0 p1 r0 r1 (w.1 - 1).toNat (by omega)
      omega
  rw [sp_12 hx.1 hx.2, e2]
  have := cr.1
  simp only at this
  rw [← this]
theorem lp_15 {σ0 : zM} {W : Int → Int} {o : Int} (hW : WOK W) (hC0 : ctC σ0 W) (o0 : 0 ≤ o) (o1 : o < W 5) : ∀ (k t : Nat) (σ : zM), (t : Int) + k = W 1 → mf (fun b => 104 ≤ b ∧ b < 110 ∨ b = 111 + o.toNat) σ0 σ → tC σ 104 W (WAY W o) → (∀ x : Int, 0 ≤ x → x < (t : Int) → zN σ (111 + o.toNat) x.toNat = CMh W (FL W noD) o x) → zwp (zev 15 32 [some (.ref 69), some (.int (Int32.ofInt o)), some (.int (Int32.ofInt t))] [] σ) (fun v τ => v = none ∧ mf (fun b => 104 ≤ b ∧ b < 110 ∨ b = 111 + o.toNat ∨ b = 121) σ0 τ ∧ (∀ x : Int, 0 ≤ x → x < W 1 → zN τ (111 + o.toNat) x.toNat = CMh W (FL W noD) o x) ∧ zN τ 121 o.toNat = 1 ∧ ∀ j : Nat, j ≠ o.toNat → zN τ 121 j = zN σ0 121 j)
  | 0, t, σ, e, hf, hT, hv => by
    have h5 := hW.2.2.1
    have h1 := hW.1.2.2.1
    have e2 : zN σ 33 2 = W 1 := (hf.1 33 (by omega) 2).trans hC0.1.1.2.2.1
    refine zwp_of (fun r h => ze_15_32 _ _ _ r h) ?_
    refine zwp_t (by try simp (disch := first | assumption | exact isR33 | exact isT104 | exact isF99 | exact isF101 | exact isR3 | omega | (refine isTk ?_; omega) | (refine isOk isR33 ?_; omega) | (refine isOk ?_ ?_; assumption; omega)) only [mm_r, mm_rl, mm_add, mm_sub, mm_mul, mm_addJ, mm_mulJ, mm_lt, mm_le, mm_eq, mm_z, mm_cl, mm_w, mm_wl, mm_ite, mm_i2l, mm_l2i, mm_ltJ, mm_leJ, mm_eqJ, mm_clt, mm_cle, mm_cgt, mm_cge, mm_ceq, mm_b, mm_nb, mm_nb0, mm_nb1, mm_vb0, mm_vb1, mm_vbc, mm_vy0, mm_vy1, mm_at, mm_ne, mm_nj, mm_Lw, mm_Nw, mm_atJ, mm_neJ, mm_njJ, zbI_s, zbV_s, zbJ_s, cond_t, Bool.true_and, Bool.and_true, if_true, if_false, not_true, not_false_iff, Classical.not_not, zel_r, zel_42, zel_12, zel_71, zel_80, zel_89, zel_110, zel_188, zel_103, zel_195, zr_o, zr_1, zr_2, zr_3, zr_4, zr_5, zr_6, zr_7, zr_8, zr_9, zq_o, zq_v, zt_o, zt_1, zt_2, zt_3, zt_4, zt_5, zf_o, zf_1, za_w1, za_w2, za_w3, za_cm, za_sl, Int.toNat_natCast, Int.toNat_natCast_add_one, mm_t0, mm_t1, mm_t2, mm_t3, mm_t4, mm_t5, mm_t6, mm_t7, mm_t8, mm_t9, mm_t10, mm_t11, mm_t12, mm_t13, za_1, za_64, za_65, za_66, za_67, za_68, za_71, za_80, za_89, za_98, za_103, za_110, za_121, za_122, za_123, za_124, za_125, za_126, za_188, za_193, za_194, za_195, za_286, za_288, za_289, za_290, za_291, za_292, za_293, za_294, za_295, za_296, za_297, za_298, za_299, za_300, za_301, za_302, za_303, za_304, za_305, za_306, za_307, za_308, za_309, za_310, za_311, za_312, e2]
                     first | done | omega) ?_
    refine zwp_cd (by simp (disch := first | assumption | exact isR33 | exact isT104 | exact isF99 | exact isF101 | exact isR3 | omega | (refine isTk ?_; omega) | (refine isOk isR33 ?_; omega) | (refine isOk ?_ ?_; assumption; omega)) only [mm_r, mm_rl, mm_add, mm_sub, mm_mul, mm_addJ, mm_mulJ, mm_lt, mm_le, mm_eq, mm_z, mm_cl, mm_w, mm_wl, mm_ite, mm_i2l, mm_l2i, mm_ltJ, mm_leJ, mm_eqJ, mm_clt, mm_cle, mm_cgt, mm_cge, mm_ceq, mm_b, mm_nb, mm_nb0, mm_nb1, mm_vb0, mm_vb1, mm_vbc, mm_vy0, mm_vy1, mm_at, mm_ne, mm_nj, mm_Lw, mm_Nw, mm_atJ, mm_neJ, mm_njJ, zbI_s, zbV_s, zbJ_s, cond_t, Bool.true_and, Bool.and_true, if_true, if_false, not_true, not_false_iff, Classical.not_not, zel_r, zel_42, zel_12, zel_71, zel_80, zel_89, zel_110, zel_188, zel_103, zel_195, zr_o, zr_1, zr_2, zr_3, zr_4, zr_5, zr_6, zr_7, zr_8, zr_9, zq_o, zq_v, zt_o, zt_1, zt_2, zt_3, zt_4, zt_5, zf_o, zf_1, za_w1, za_w2, za_w3, za_cm, za_sl, Int.toNat_natCast, Int.toNat_natCast_add_one, mm_t0, mm_t1, mm_t2, mm_t3, mm_t4, mm_t5, mm_t6, mm_t7, mm_t8, mm_t9, mm_t10, mm_t11, mm_t12, mm_t13, za_1, za_64, za_65, za_66, za_67, za_68, za_71, za_80, za_89, za_98, za_103, za_110, za_121, za_122, za_123, za_124, za_125, za_126, za_188, za_193, za_194, za_195, za_286, za_288, za_289, za_290, za_291, za_292, za_293, za_294, za_295, za_296, za_297, za_298, za_299, za_300, za_301, za_302, za_303, za_304, za_305, za_306, za_307, za_308, za_309, za_310, za_311, za_312]) ?_
    refine zwp_letE (τ' := zw σ 121 o.toNat 1) (by simp (disch := first | assumption | exact isR33 | exact isT104 | exact isF99 | exact isF101 | exact isR3 | omega | (refine isTk ?_; omega) | (refine isOk isR33 ?_; omega) | (refine isOk ?_ ?_; assumption; omega)) only [mm_r, mm_rl, mm_add, mm_sub, mm_mul, mm_addJ, mm_mulJ, mm_lt, mm_le, mm_eq, mm_z, mm_cl, mm_w, mm_wl, mm_ite, mm_i2l, mm_l2i, mm_ltJ, mm_leJ, mm_eqJ, mm_clt, mm_cle, mm_cgt, mm_cge, mm_ceq, mm_b, mm_nb, mm_nb0, mm_nb1, mm_vb0, mm_vb1, mm_vbc, mm_vy0, mm_vy1, mm_at, mm_ne, mm_nj, mm_Lw, mm_Nw, mm_atJ, mm_neJ, mm_njJ, zbI_s, zbV_s, zbJ_s, cond_t, Bool.true_and, Bool.and_true, if_true, if_false, not_true, not_false_iff, Classical.not_not, zel_r, zel_42, zel_12, zel_71, zel_80, zel_89, zel_110, zel_188, zel_103, zel_195, zr_o, zr_1, zr_2, zr_3, zr_4, zr_5, zr_6, zr_7, zr_8, zr_9, zq_o, zq_v, zt_o, zt_1, zt_2, zt_3, zt_4, zt_5, zf_o, zf_1, za_w1, za_w2, za_w3, za_cm, za_sl, Int.toNat_natCast, Int.toNat_natCast_add_one, mm_t0, mm_t1, mm_t2, mm_t3, mm_t4, mm_t5, mm_t6, mm_t7, mm_t8, mm_t9, mm_t10, mm_t11, mm_t12, mm_t13, za_1, za_64, za_65, za_66, za_67, za_68, za_71, za_80, za_89, za_98, za_103, za_110, za_121, za_122, za_123, za_124, za_125, za_126, za_188, za_193, za_194, za_195, za_286, za_288, za_289, za_290, za_291, za_292, za_293, za_294, za_295, za_296, za_297, za_298, za_299, za_300, za_301, za_302, za_303, za_304, za_305, za_306, za_307, za_308, za_309, za_310, za_311, za_312]) ?_
    refine zwp_ret ⟨rfl, (hf.mono (by omega)).zw 121 _ _ (by omega), fun x x0 x1 => ?_, mm_at rfl rfl (by decide) (by decide), fun j hj => ?_⟩
    · rw [mm_ne (by omega)]
      exact hv x x0 (by omega)
    · rw [mm_nj hj]
      exact hf.1 121 (by omega) j
  | k + 1, t, σ, e, hf, hT, hv => by
    have h5 := hW.2.2.1
    have h1 := hW.1.2.2.1
    have hL : cL σ 33 W := hC0.1.fr (by omega) fun a h1 h2 => hf.1 a (by omega)
    have e2 := hL.1.2.2.1
    have ho := (hW.2.2.2.2 o o0 o1).1
    have hN := (WAY_N hW.1.1 ho).1
    have hF := hC0.2.2.1.fr (hf.1 99 (by omega)) (hf.1 100 (by omega))
    obtain ⟨-, -, -, -, -, -, -, t0, t1, -, -, p0, p1, s0, s1⟩ := ho
    have cr := CMw_rng (F := FL W noD) (h := t) hW.1 hN (by omega) (by omega) p0 p1 s0 s1
    refine zwp_of (fun r h => ze_15_32 _ _ _ r h) ?_
    refine zwp_f (by try simp (disch := first | assumption | exact isR33 | exact isT104 | exact isF99 | exact isF101 | exact isR3 | omega | (refine isTk ?_; omega) | (refine isOk isR33 ?_; omega) | (refine isOk ?_ ?_; assumption; omega)) only [mm_r, mm_rl, mm_add, mm_sub, mm_mul, mm_addJ, mm_mulJ, mm_lt, mm_le, mm_eq, mm_z, mm_cl, mm_w, mm_wl, mm_ite, mm_i2l, mm_l2i, mm_ltJ, mm_leJ, mm_eqJ, mm_clt, mm_cle, mm_cgt, mm_cge, mm_ceq, mm_b, mm_nb, mm_nb0, mm_nb1, mm_vb0, mm_vb1, mm_vbc, mm_vy0, mm_vy1, mm_at, mm_ne, mm_nj, mm_Lw, mm_Nw, mm_atJ, mm_neJ, mm_njJ, zbI_s, zbV_s, zbJ_s, cond_t, Bool.true_and, Bool.and_true, if_true, if_false, not_true, not_false_iff, Classical.not_not, zel_r, zel_42, zel_12, zel_71, zel_80, zel_89, zel_110, zel_188, zel_103, zel_195, zr_o, zr_1, zr_2, zr_3, zr_4, zr_5, zr_6, zr_7, zr_8, zr_9, zq_o, zq_v, zt_o, zt_1, zt_2, zt_3, zt_4, zt_5, zf_o, zf_1, za_w1, za_w2, za_w3, za_cm, za_sl, Int.toNat_natCast, Int.toNat_natCast_add_one, mm_t0, mm_t1, mm_t2, mm_t3, mm_t4, mm_t5, mm_t6, mm_t7, mm_t8, mm_t9, mm_t10, mm_t11, mm_t12, mm_t13, za_1, za_64, za_65, za_66, za_67, za_68, za_71, za_80, za_89, za_98, za_103, za_110, za_121, za_122, za_123, za_124, za_125, za_126, za_188, za_193, za_194, za_195, za_286, za_288, za_289, za_290, za_291, za_292, za_293, za_294, za_295, za_296, za_297, za_298, za_299, za_300, za_301, za_302, za_303, za_304, za_305, za_306, za_307, za_308, za_309, za_310, za_311, za_312, e2]
                     first | done | omega) ?_
    refine zwp_cd (by simp (disch := first | assumption | exact isR33 | exact isT104 | exact isF99 | exact isF101 | exact isR3 | omega | (refine isTk ?_; omega) | (refine isOk isR33 ?_; omega) | (refine isOk ?_ ?_; assumption; omega)) only [mm_r, mm_rl, mm_add, mm_sub, mm_mul, mm_addJ, mm_mulJ, mm_lt, mm_le, mm_eq, mm_z, mm_cl, mm_w, mm_wl, mm_ite, mm_i2l, mm_l2i, mm_ltJ, mm_leJ, mm_eqJ, mm_clt, mm_cle, mm_cgt, mm_cge, mm_ceq, mm_b, mm_nb, mm_nb0, mm_nb1, mm_vb0, mm_vb1, mm_vbc, mm_vy0, mm_vy1, mm_at, mm_ne, mm_nj, mm_Lw, mm_Nw, mm_atJ, mm_neJ, mm_njJ, zbI_s, zbV_s, zbJ_s, cond_t, Bool.true_and, Bool.and_true, if_true, if_false, not_true, not_false_iff, Classical.not_not, zel_r, zel_42, zel_12, zel_71, zel_80, zel_89, zel_110, zel_188, zel_103, zel_195, zr_o, zr_1, zr_2, zr_3, zr_4, zr_5, zr_6, zr_7, zr_8, zr_9, zq_o, zq_v, zt_o, zt_1, zt_2, zt_3, zt_4, zt_5, zf_o, zf_1, za_w1, za_w2, za_w3, za_cm, za_sl, Int.toNat_natCast, Int.toNat_natCast_add_one, mm_t0, mm_t1, mm_t2, mm_t3, mm_t4, mm_t5, mm_t6, mm_t7, mm_t8, mm_t9, mm_t10, mm_t11, mm_t12, mm_t13, za_1, za_64, za_65, za_66, za_67, za_68, za_71, za_80, za_89, za_98, za_103, za_110, za_121, za_122, za_123, za_124, za_125, za_126, za_188, za_193, za_194, za_195, za_286, za_288, za_289, za_290, za_291, za_292, za_293, za_294, za_295, za_296, za_297, za_298, za_299, za_300, za_301, za_302, za_303, za_304, za_305, za_306, za_307, za_308, za_309, za_310, za_311, za_312]) ?_
    refine zwp_IE (sp_11 (h := t) isT104 isF99 hW o0 o1 hL hN (by omega) (by omega) hT hF) ?_
    rintro τ ⟨hf2, -⟩
    rw [sp_12w (h := t) hW.1 hN (by omega) (by omega) p0 p1 s0 s1 ((hf2.1 33 (by omega) 2).trans e2), zbI_s]
    have c1 := cr.2.1
    have c2 := cr.2.2.1
    repeat (with_reducible refine zwp_cd ?_ ?_; (· simp (disch := first | assumption | exact isR33 | exact isT104 | exact isF99 | exact isF101 | exact isR3 | omega | (refine isTk ?_; omega) | (refine isOk isR33 ?_; omega) | (refine isOk ?_ ?_; assumption; omega)) only [mm_r, mm_rl, mm_add, mm_sub, mm_mul, mm_addJ, mm_mulJ, mm_lt, mm_le, mm_eq, mm_z, mm_cl, mm_w, mm_wl, mm_ite, mm_i2l, mm_l2i, mm_ltJ, mm_leJ, mm_eqJ, mm_clt, mm_cle, mm_cgt, mm_cge, mm_ceq, mm_b, mm_nb, mm_nb0, mm_nb1, mm_vb0, mm_vb1, mm_vbc, mm_vy0, mm_vy1, mm_at, mm_ne, mm_nj, mm_Lw, mm_Nw, mm_atJ, mm_neJ, mm_njJ, zbI_s, zbV_s, zbJ_s, cond_t, Bool.true_and, Bool.and_true, if_true, if_false, not_true, not_false_iff, Classical.not_not, zel_r, zel_42, zel_12, zel_71, zel_80, zel_89, zel_110, zel_188, zel_103, zel_195, zr_o, zr_1, zr_2, zr_3, zr_4, zr_5, zr_6, zr_7, zr_8, zr_9, zq_o, zq_v, zt_o, zt_1, zt_2, zt_3, zt_4, zt_5, zf_o, zf_1, za_w1, za_w2, za_w3, za_cm, za_sl, Int.toNat_natCast, Int.toNat_natCast_add_one, mm_t0, mm_t1, mm_t2, mm_t3, mm_t4, mm_t5, mm_t6, mm_t7, mm_t8, mm_t9, mm_t10, mm_t11, mm_t12, mm_t13, za_1, za_64, za_65, za_66, za_67, za_68, za_71, za_80, za_89, za_98, za_103, za_110, za_121, za_122, za_123, za_124, za_125, za_126, za_188, za_193, za_194, za_195, za_286, za_288, za_289, za_290, za_291, za_292, za_293, za_294, za_295, za_296, za_297, za_298, za_299, za_300, za_301, za_302, za_303, za_304, za_305, za_306, za_307, za_308, za_309, za_310, za_311, za_312]))
    refine zwp_letE (τ' := zw τ (111 + o.toNat) t (CMw W (FL W noD) (WAY W o) t (pac W o) (res W o))) (by simp (disch := first | assumption | exact isR33 | exact isT104 | exact isF99 | exact isF101 | exact isR3 | omega | (refine isTk ?_; omega) | (refine isOk isR33 ?_; omega) | (refine isOk ?_ ?_; assumption; omega)) only [mm_r, mm_rl, mm_add, mm_sub, mm_mul, mm_addJ, mm_mulJ, mm_lt, mm_le, mm_eq, mm_z, mm_cl, mm_w, mm_wl, mm_ite, mm_i2l, mm_l2i, mm_ltJ, mm_leJ, mm_eqJ, mm_clt, mm_cle, mm_cgt, mm_cge, mm_ceq, mm_b, mm_nb, mm_nb0, mm_nb1, mm_vb0, mm_vb1, mm_vbc, mm_vy0, mm_vy1, mm_at, mm_ne, mm_nj, mm_Lw, mm_Nw, mm_atJ, mm_neJ, mm_njJ, zbI_s, zbV_s, zbJ_s, cond_t, Bool.true_and, Bool.and_true, if_true, if_false, not_true, not_false_iff, Classical.not_not, zel_r, zel_42, zel_12, zel_71, zel_80, zel_89, zel_110, zel_188, zel_103, zel_195, zr_o, zr_1, zr_2, zr_3, zr_4, zr_5, zr_6, zr_7, zr_8, zr_9, zq_o, zq_v, zt_o, zt_1, zt_2, zt_3, zt_4, zt_5, zf_o, zf_1, za_w1, za_w2, za_w3, za_cm, za_sl, Int.toNat_natCast, Int.toNat_natCast_add_one, mm_t0, mm_t1, mm_t2, mm_t3, mm_t4, mm_t5, mm_t6, mm_t7, mm_t8, mm_t9, mm_t10, mm_t11, mm_t12, mm_t13, za_1, za_64, za_65, za_66, za_67, za_68, za_71, za_80, za_89, za_98, za_103, za_110, za_121, za_122, za_123, za_124, za_125, za_126, za_188, za_193, za_194, za_195, za_286, za_288, za_289, za_290, za_291, za_292, za_293, za_294, za_295, za_296, za_297, za_298, za_299, za_300, za_301, za_302, za_303, za_304, za_305, za_306, za_307, za_308, za_309, za_310, za_311, za_312]) ?_
    rw [mm_add]
    refine lp_15 hW hC0 o0 o1 k (t + 1) _ (by omega) ((hf.tr (hf2.mono (by omega))).zw _ _ _ (.inr rfl)) ((hT.fr6 hf2 (by omega)).fr fun b b0 b1 j => mm_ne (by omega)) (fun x x0 x1 => ?_)
    by_cases q : x = t
    · rw [q, Int.toNat_natCast]
      exact mm_at rfl rfl (by omega) (by omega)
    · rw [mm_nj (by omega), hf2.1 _ (by omega)]
      exact hv x x0 (by omega)
theorem sp_15 {σ : zM} {W : Int → Int} {o : Int} (hW : WOK W) (hC : ctC σ W) (o0 : 0 ≤ o) (o1 : o < W 5) : zwp (zcall 15 [.ref 69, .int (Int32.ofInt o)] σ) (fun v τ => v = none ∧ cK σ τ W ∧ zN τ 121 o.toNat ≠ 0 ∧ mf (fun b => 104 ≤ b ∧ b < 122) σ τ ∧ ∀ j : Nat, zN σ 121 j ≠ 0 → zN τ 121 j ≠ 0) := by
  have h5 := hW.2.2.1
  have b0 := mm_lo σ 121 o.toNat
  have b1 := mm_hi σ 121 o.toNat
  refine zwp_of (fun r h => zcc_15 (ze_15_0 _ _ r h)) ?_
  refine zwp_cd (by simp (disch := first | assumption | exact isR33 | exact isT104 | exact isF99 | exact isF101 | exact isR3 | omega | (refine isTk ?_; omega) | (refine isOk isR33 ?_; omega) | (refine isOk ?_ ?_; assumption; omega)) only [mm_r, mm_rl, mm_add, mm_sub, mm_mul, mm_addJ, mm_mulJ, mm_lt, mm_le, mm_eq, mm_z, mm_cl, mm_w, mm_wl, mm_ite, mm_i2l, mm_l2i, mm_ltJ, mm_leJ, mm_eqJ, mm_clt, mm_cle, mm_cgt, mm_cge, mm_ceq, mm_b, mm_nb, mm_nb0, mm_nb1, mm_vb0, mm_vb1, mm_vbc, mm_vy0, mm_vy1, mm_at, mm_ne, mm_nj, mm_Lw, mm_Nw, mm_atJ, mm_neJ, mm_njJ, zbI_s, zbV_s, zbJ_s, cond_t, Bool.true_and, Bool.and_true, if_true, if_false, not_true, not_false_iff, Classical.not_not, zel_r, zel_42, zel_12, zel_71, zel_80, zel_89, zel_110, zel_188, zel_103, zel_195, zr_o, zr_1, zr_2, zr_3, zr_4, zr_5, zr_6, zr_7, zr_8, zr_9, zq_o, zq_v, zt_o, zt_1, zt_2, zt_3, zt_4, zt_5, zf_o, zf_1, za_w1, za_w2, za_w3, za_cm, za_sl, Int.toNat_natCast, Int.toNat_natCast_add_one, mm_t0, mm_t1, mm_t2, mm_t3, mm_t4, mm_t5, mm_t6, mm_t7, mm_t8, mm_t9, mm_t10, mm_t11, mm_t12, mm_t13, za_1, za_64, za_65, za_66, za_67, za_68, za_71, za_80, za_89, za_98, za_103, za_110, za_121, za_122, za_123, za_124, za_125, za_126, za_188, za_193, za_194, za_195, za_286, za_288, za_289, za_290, za_291, za_292, za_293, za_294, za_295, za_296, za_297, za_298, za_299, za_300, za_301, za_302, za_303, za_304, za_305, za_306, za_307, za_308, za_309, za_310, za_311, za_312]) ?_
  by_cases q : zN σ 121 o.toNat = 0
  · refine zwp_t (by try simp (disch := first | assumption | exact isR33 | exact isT104 | exact isF99 | exact isF101 | exact isR3 | omega | (refine isTk ?_; omega) | (refine isOk isR33 ?_; omega) | (refine isOk ?_ ?_; assumption; omega)) only [mm_r, mm_rl, mm_add, mm_sub, mm_mul, mm_addJ, mm_mulJ, mm_lt, mm_le, mm_eq, mm_z, mm_cl, mm_w, mm_wl, mm_ite, mm_i2l, mm_l2i, mm_ltJ, mm_leJ, mm_eqJ, mm_clt, mm_cle, mm_cgt, mm_cge, mm_ceq, mm_b, mm_nb, mm_nb0, mm_nb1, mm_vb0, mm_vb1, mm_vbc, mm_vy0, mm_vy1, mm_at, mm_ne, mm_nj, mm_Lw, mm_Nw, mm_atJ, mm_neJ, mm_njJ, zbI_s, zbV_s, zbJ_s, cond_t, Bool.true_and, Bool.and_true, if_true, if_false, not_true, not_false_iff, Classical.not_not, zel_r, zel_42, zel_12, zel_71, zel_80, zel_89, zel_110, zel_188, zel_103, zel_195, zr_o, zr_1, zr_2, zr_3, zr_4, zr_5, zr_6, zr_7, zr_8, zr_9, zq_o, zq_v, zt_o, zt_1, zt_2, zt_3, zt_4, zt_5, zf_o, zf_1, za_w1, za_w2, za_w3, za_cm, za_sl, Int.toNat_natCast, Int.toNat_natCast_add_one, mm_t0, mm_t1, mm_t2, mm_t3, mm_t4, mm_t5, mm_t6, mm_t7, mm_t8, mm_t9, mm_t10, mm_t11, mm_t12, mm_t13, za_1, za_64, za_65, za_66, za_67, za_68, za_71, za_80, za_89, za_98, za_103, za_110, za_121, za_122, za_123, za_124, za_125, za_126, za_188, za_193, za_194, za_195, za_286, za_288, za_289, za_290, za_291, za_292, za_293, za_294, za_295, za_296, za_297, za_298, za_299, za_300, za_301, za_302, za_303, za_304, za_305, za_306, za_307, za_308, za_309, za_310, za_311, za_312, q]
                     first | done | omega) ?_
    have hO := hC.1.2.2.2.2 o o0 o1
    repeat (with_reducible refine zwp_cd ?_ ?_; (· simp (disch := first | assumption | exact isR33 | exact isT104 | exact isF99 | exact isF101 | exact isR3 | omega | (refine isTk ?_; omega) | (refine isOk isR33 ?_; omega) | (refine isOk ?_ ?_; assumption; omega)) only [mm_r, mm_rl, mm_add, mm_sub, mm_mul, mm_addJ, mm_mulJ, mm_lt, mm_le, mm_eq, mm_z, mm_cl, mm_w, mm_wl, mm_ite, mm_i2l, mm_l2i, mm_ltJ, mm_leJ, mm_eqJ, mm_clt, mm_cle, mm_cgt, mm_cge, mm_ceq, mm_b, mm_nb, mm_nb0, mm_nb1, mm_vb0, mm_vb1, mm_vbc, mm_vy0, mm_vy1, mm_at, mm_ne, mm_nj, mm_Lw, mm_Nw, mm_atJ, mm_neJ, mm_njJ, zbI_s, zbV_s, zbJ_s, cond_t, Bool.true_and, Bool.and_true, if_true, if_false, not_true, not_false_iff, Classical.not_not, zel_r, zel_42, zel_12, zel_71, zel_80, zel_89, zel_110, zel_188, zel_103, zel_195, zr_o, zr_1, zr_2, zr_3, zr_4, zr_5, zr_6, zr_7, zr_8, zr_9, zq_o, zq_v, zt_o, zt_1, zt_2, zt_3, zt_4, zt_5, zf_o, zf_1, za_w1, za_w2, za_w3, za_cm, za_sl, Int.toNat_natCast, Int.toNat_natCast_add_one, mm_t0, mm_t1, mm_t2, mm_t3, mm_t4, mm_t5, mm_t6, mm_t7, mm_t8, mm_t9, mm_t10, mm_t11, mm_t12, mm_t13, za_1, za_64, za_65, za_66, za_67, za_68, za_71, za_80, za_89, za_98, za_103, za_110, za_121, za_122, za_123, za_124, za_125, za_126, za_188, za_193, za_194, za_195, za_286, za_288, za_289, za_290, za_291, za_292, za_293, za_294, za_295, za_296, za_297, za_298, za_299, za_300, za_301, za_302, za_303, za_304, za_305, za_306, za_307, za_308, za_309, za_310, za_311, za_312]))
    refine zwp_V _ (by rw [mm_cl (by omega) (by omega), show zel 104 (33 + 9) o.toNat = 33 + 10 + 2 * o.toNat from rfl]; exact sp_90 isT104 (isOk isR33 (by omega)) (by omega) hW.1.1 (hW.2.2.2.2 o o0 o1).1 hO hC.2.1) ?_
    rintro τ ⟨hf, hT⟩
    refine zwp_mono (lp_15 (σ0 := σ) hW hC o0 o1 (W 1).toNat 0 τ (by have := hW.1.2.1; omega) (hf.mono (by omega)) hT (fun x x0 x1 => by omega)) ?_
    rintro v υ ⟨rfl, hf2, hv, h1, hj⟩
    refine ⟨rfl, ⟨hf2.mono fun b hb => by unfold clsS; omega, ?_⟩, by omega, hf2.mono (by omega), fun j hj2 => ?_⟩
    · refine ⟨hC.1.fr (by omega) fun a h1 h2 => hf2.1 a (by omega), hC.2.1.fr hW.1.1.2.1 fun b b0 b1 => hf2.1 b (by omega), hC.2.2.1.fr (hf2.1 99 (by omega)) (hf2.1 100 (by omega)), ⟨(hf2.1 63 (by omega) 0).trans hC.2.2.2.1.1, (hf2.1 63 (by omega) 1).trans hC.2.2.2.1.2⟩, fun o' a0 a1 => ?_⟩
      obtain ⟨a, b, d⟩ := hC.2.2.2.2 o' a0 a1
      refine ⟨a.fr (hf2.1 64 (by omega) _) (hf2.1 65 (by omega) _) (hf2.1 66 (by omega) _) (hf2.1 67 (by omega) _), b.fr (hf2.1 68 (by omega) _) (fun r r0 r1 => hf2.1 r (by omega)), ?_⟩
      by_cases z : o' = o
      · rw [z]
        exact fun _ => hv
      · intro p x x0 x1
        rw [hj _ (by omega)] at p
        rw [hf2.1 _ (by omega)]
        exact d p x x0 x1
    · by_cases z : j = o.toNat
      · rw [z]
        omega
      · rw [hj j z]
        exact hj2
  · refine zwp_f (by try simp (disch := first | assumption | exact isR33 | exact isT104 | exact isF99 | exact isF101 | exact isR3 | omega | (refine isTk ?_; omega) | (refine isOk isR33 ?_; omega) | (refine isOk ?_ ?_; assumption; omega)) only [mm_r, mm_rl, mm_add, mm_sub, mm_mul, mm_addJ, mm_mulJ, mm_lt, mm_le, mm_eq, mm_z, mm_cl, mm_w, mm_wl, mm_ite, mm_i2l, mm_l2i, mm_ltJ, mm_leJ, mm_eqJ, mm_clt, mm_cle, mm_cgt, mm_cge, mm_ceq, mm_b, mm_nb, mm_nb0, mm_nb1, mm_vb0, mm_vb1, mm_vbc, mm_vy0, mm_vy1, mm_at, mm_ne, mm_nj, mm_Lw, mm_Nw, mm_atJ, mm_neJ, mm_njJ, zbI_s, zbV_s, zbJ_s, cond_t, Bool.true_and, Bool.and_true, if_true, if_false, not_true, not_false_iff, Classical.not_not, zel_r, zel_42, zel_12, zel_71, zel_80, zel_89, zel_110, zel_188, zel_103, zel_195, zr_o, zr_1, zr_2, zr_3, zr_4, zr_5, zr_6, zr_7, zr_8, zr_9, zq_o, zq_v, zt_o, zt_1, zt_2, zt_3, zt_4, zt_5, zf_o, zf_1, za_w1, za_w2, za_w3, za_cm, za_sl, Int.toNat_natCast, Int.toNat_natCast_add_one, mm_t0, mm_t1, mm_t2, mm_t3, mm_t4, mm_t5, mm_t6, mm_t7, mm_t8, mm_t9, mm_t10, mm_t11, mm_t12, mm_t13, za_1, za_64, za_65, za_66, za_67, za_68, za_71, za_80, za_89, za_98, za_103, za_110, za_121, za_122, za_123, za_124, za_125, za_126, za_188, za_193, za_194, za_195, za_286, za_288, za_289, za_290, za_291, za_292, za_293, za_294, za_295, za_296, za_297, za_298, za_299, za_300, za_301, za_302, za_303, za_304, za_305, za_306, za_307, za_308, za_309, za_310, za_311, za_312]
                     first | done | omega) ?_
    exact zwp_ret ⟨rfl, cK.rf hC, q, mf.rf, fun j hj => hj⟩
theorem lp_16 {σ0 : zM} {W : Int → Int} (hW : WOK W) : ∀ (k i : Nat) (σ : zM), (i : Int) + k = W 5 → cK σ0 σ W → mf (fun b => 104 ≤ b ∧ b < 122) σ0 σ → (∀ o : Int, 0 ≤ o → o < (i : Int) → zN σ 121 o.toNat ≠ 0) → zwp (zev 16 2 [some (.ref 69), some (.int (Int32.ofInt i))] [] σ) (fun v τ => v = none ∧ cK σ0 τ W ∧ mf (fun b => 104 ≤ b ∧ b < 122) σ0 τ ∧ ∀ o : Int, 0 ≤ o → o < W 5 → zN τ 121 o.toNat ≠ 0)
  | 0, i, σ, e, hk, hf, hv => by
    have h5 := hW.2.2.1
    have e7 := hk.2.1.1.2.2.2.2.2.2.2
    refine zwp_of (fun r h => ze_16_2 _ _ r h) ?_
    simp (disch := first | assumption | exact isR33 | exact isT104 | exact isF99 | exact isF101 | exact isR3 | omega | (refine isTk ?_; omega) | (refine isOk isR33 ?_; omega) | (refine isOk ?_ ?_; assumption; omega)) only [mm_r, mm_rl, mm_add, mm_sub, mm_mul, mm_addJ, mm_mulJ, mm_lt, mm_le, mm_eq, mm_z, mm_cl, mm_w, mm_wl, mm_ite, mm_i2l, mm_l2i, mm_ltJ, mm_leJ, mm_eqJ, mm_clt, mm_cle, mm_cgt, mm_cge, mm_ceq, mm_b, mm_nb, mm_nb0, mm_nb1, mm_vb0, mm_vb1, mm_vbc, mm_vy0, mm_vy1, mm_at, mm_ne, mm_nj, mm_Lw, mm_Nw, mm_atJ, mm_neJ, mm_njJ, zbI_s, zbV_s, zbJ_s, cond_t, Bool.true_and, Bool.and_true, if_true, if_false, not_true, not_false_iff, Classical.not_not, zel_r, zel_42, zel_12, zel_71, zel_80, zel_89, zel_110, zel_188, zel_103, zel_195, zr_o, zr_1, zr_2, zr_3, zr_4, zr_5, zr_6, zr_7, zr_8, zr_9, zq_o, zq_v, zt_o, zt_1, zt_2, zt_3, zt_4, zt_5, zf_o, zf_1, za_w1, za_w2, za_w3, za_cm, za_sl, Int.toNat_natCast, Int.toNat_natCast_add_one, mm_t0, mm_t1, mm_t2, mm_t3, mm_t4, mm_t5, mm_t6, mm_t7, mm_t8, mm_t9, mm_t10, mm_t11, mm_t12, mm_t13, za_1, za_64, za_65, za_66, za_67, za_68, za_71, za_80, za_89, za_98, za_103, za_110, za_121, za_122, za_123, za_124, za_125, za_126, za_188, za_193, za_194, za_195, za_286, za_288, za_289, za_290, za_291, za_292, za_293, za_294, za_295, za_296, za_297, za_298, za_299, za_300, za_301, za_302, za_303, za_304, za_305, za_306, za_307, za_308, za_309, za_310, za_311, za_312, e7]
    rw [if_pos (by omega)]
    exact zwp_ret ⟨rfl, hk, hf, fun o o0 o1 => hv o o0 (by omega)⟩
  | k + 1, i, σ, e, hk, hf, hv => by
    have h5 := hW.2.2.1
    have e7 := hk.2.1.1.2.2.2.2.2.2.2
    refine zwp_of (fun r h => ze_16_2 _ _ r h) ?_
    simp (disch := first | assumption | exact isR33 | exact isT104 | exact isF99 | exact isF101 | exact isR3 | omega | (refine isTk ?_; omega) | (refine isOk isR33 ?_; omega) | (refine isOk ?_ ?_; assumption; omega)) only [mm_r, mm_rl, mm_add, mm_sub, mm_mul, mm_addJ, mm_mulJ, mm_lt, mm_le, mm_eq, mm_z, mm_cl, mm_w, mm_wl, mm_ite, mm_i2l, mm_l2i, mm_ltJ, mm_leJ, mm_eqJ, mm_clt, mm_cle, mm_cgt, mm_cge, mm_ceq, mm_b, mm_nb, mm_nb0, mm_nb1, mm_vb0, mm_vb1, mm_vbc, mm_vy0, mm_vy1, mm_at, mm_ne, mm_nj, mm_Lw, mm_Nw, mm_atJ, mm_neJ, mm_njJ, zbI_s, zbV_s, zbJ_s, cond_t, Bool.true_and, Bool.and_true, if_true, if_false, not_true, not_false_iff, Classical.not_not, zel_r, zel_42, zel_12, zel_71, zel_80, zel_89, zel_110, zel_188, zel_103, zel_195, zr_o, zr_1, zr_2, zr_3, zr_4, zr_5, zr_6, zr_7, zr_8, zr_9, zq_o, zq_v, zt_o, zt_1, zt_2, zt_3, zt_4, zt_5, zf_o, zf_1, za_w1, za_w2, za_w3, za_cm, za_sl, Int.toNat_natCast, Int.toNat_natCast_add_one, mm_t0, mm_t1, mm_t2, mm_t3, mm_t4, mm_t5, mm_t6, mm_t7, mm_t8, mm_t9, mm_t10, mm_t11, mm_t12, mm_t13, za_1, za_64, za_65, za_66, za_67, za_68, za_71, za_80, za_89, za_98, za_103, za_110, za_121, za_122, za_123, za_124, za_125, za_126, za_188, za_193, za_194, za_195, za_286, za_288, za_289, za_290, za_291, za_292, za_293, za_294, za_295, za_296, za_297, za_298, za_299, za_300, za_301, za_302, za_303, za_304, za_305, za_306, za_307, za_308, za_309, za_310, za_311, za_312, e7]
    rw [if_neg (by omega)]
    refine zwp_V _ (sp_15 (o := i) hW hk.2 (by omega) (by omega)) ?_
    rintro τ ⟨hk2, h1, hf2, hj⟩
    refine lp_16 hW k (i + 1) τ (by omega) ⟨hk.1.tr hk2.1, hk2.2⟩ (hf.tr hf2) (fun o o0 o1 => ?_)
    by_cases z : o = i
    · rw [z]
      exact h1
    · exact hj _ (hv o o0 (by omega))
theorem sp_16 {σ : zM} {W : Int → Int} (hW : WOK W) (hC : ctC σ W) : zwp (zcall 16 [.ref 69] σ) (fun v τ => v = none ∧ cK σ τ W ∧ mf (fun b => 104 ≤ b ∧ b < 122) σ τ ∧ ∀ o : Int, 0 ≤ o → o < W 5 → zN τ 121 o.toNat ≠ 0) := by
  refine zwp_of (fun r h => zcc_16 (ze_16_0 _ r h)) ?_
  exact lp_16 hW (W 5).toNat 0 σ (by have := hW.2.2.1; omega) (cK.rf hC) mf.rf (fun o o0 o1 => by omega)
/-- coming if sent at h; beyond the hours never -/
def CMs (W : Int → Int) (o h : Int) : Int := if 0 ≤ h ∧ h < W 1 then CMh W (FL W noD) o h else -1
theorem sp_17c {σ : zM} {W : Int → Int} {o h : Int} (hW : WOK W) (e2 : zN σ 33 2 = W 1) (o0 : 0 ≤ o) (o1 : o < W 5) (hl : ∀ x, 0 ≤ x → x < W 1 → zN σ (111 + o.toNat) x.toNat = CMh W (FL W noD) o x) (hh0 : -2147483648 ≤ h) (hh1 : h < 2147483648) : zcall 17 [.ref 69, .int (Int32.ofInt o), .int (Int32.ofInt h)] σ = some (some (.int (Int32.ofInt (CMs W o h))), σ) := by
  have h5 := hW.2.2.1
  have h1 := hW.1.2.2.1
  rw [sp_17 o0 (by omega) hh0 hh1 (by omega), e2]
  unfold CMs
  by_cases q : 0 ≤ h ∧ h < W 1
  · rw [if_pos q, if_pos q, hl h q.1 q.2]
  · rw [if_neg q, if_neg q]
theorem ccC.cup {σ : zM} {W : Int → Int} {c : Int → Int} {sl o x : Int} (h : ccC σ W c sl) (o0 : 0 ≤ o) (x0 : -2147483648 ≤ x) (x1 : x < 2147483648) : ccC (zw σ 68 o.toNat x) W (fun k => if k = o then x else c k) sl := by
  refine ⟨(mm_ne (by decide)).trans h.1, (mm_ne (by decide)).trans h.2.1, fun o' a0 a1 => ⟨(h.2.2 o' a0 a1).1.fr (mm_ne (by decide)) (mm_ne (by decide)) (mm_ne (by decide)) (mm_ne (by decide)), ?_⟩⟩
  show _ = if o' = o then x else c o'
  by_cases q : o' = o
  · rw [if_pos q, q, mm_at rfl rfl x0 x1]
  · rw [if_neg q, mm_nj (by omega)]
    exact (h.2.2 o' a0 a1).2
/-- nothing has changed -/
def same (σ τ : zM) : Prop := mf (fun _ => False) σ τ
theorem same.k {σ τ : zM} (h : same σ τ) (a k : Nat) : zN τ a k = zN σ a k := h.1 a (fun p => p) k
theorem same.rf {σ : zM} : same σ σ := mf.rf
theorem same.tr {σ τ υ : zM} (h : same σ τ) (g : same τ υ) : same σ υ := mf.tr h g
theorem same.m {σ τ : zM} (h : same σ τ) (S : Nat → Prop) : mf S σ τ := mf.mono h fun _ p => p.elim
theorem same.ct {σ τ : zM} {W : Int → Int} (h : same σ τ) (hW : WOK W) (hC : ctC σ W) : ctC τ W := hC.fr hW fun b _ k => h.k b k
theorem same_back {σ : zM} {a k : Nat} {x y : Int} (hy : zN σ a k = y) (y0 : -2147483648 ≤ y) (y1 : y < 2147483648) : same σ (zw (zw σ a k x) a k y) := by
  refine ⟨fun b _ j => ?_, fun b _ j => rfl, rfl⟩
  by_cases e : b = a
  · by_cases e2 : j = k
    · rw [mm_at e e2 y0 y1, e, e2, hy]
    · rw [mm_nj e2, mm_nj e2]
  · rw [mm_ne e, mm_ne e]
theorem sp_22 {σ : zM} {W : Int → Int} {c : Int → Int} {sl o x t g h : Int} (hW : WOK W) (hC : ccC σ W c sl) (o0 : 0 ≤ o) (o1 : o < W 5) (x0 : -2147483648 ≤ x) (x1 : x < 2147483648) (ht0 : -2147483648 ≤ t) (ht1 : t < 2147483648) (hg0 : -2147483648 ≤ g) (hg1 : g < 2147483648) (hh0 : -2147483648 ≤ h) (hh1 : h < 2147483648) : zwp (zcall 22 [.ref 69, .int (Int32.ofInt o), .int (Int32.ofInt x), .int (Int32.ofInt t), .int (Int32.ofInt g), .int (Int32.ofInt h)] σ) (fun v τ => v = some (.int (Int32.ofInt (BB W (cup c o x) sl t g h))) ∧ same σ τ) := by
  have h5 := hW.2.2.1
  have b0 := mm_lo σ 68 o.toNat
  have b1 := mm_hi σ 68 o.toNat
  refine zwp_of (fun r h => zcc_22 (ze_22_0 _ _ _ _ _ _ r h)) ?_
  repeat (with_reducible refine zwp_cd ?_ ?_; (· simp (disch := first | assumption | exact isR33 | exact isT104 | exact isF99 | exact isF101 | exact isR3 | omega | (refine isTk ?_; omega) | (refine isOk isR33 ?_; omega) | (refine isOk ?_ ?_; assumption; omega)) only [mm_r, mm_rl, mm_add, mm_sub, mm_mul, mm_addJ, mm_mulJ, mm_lt, mm_le, mm_eq, mm_z, mm_cl, mm_w, mm_wl, mm_ite, mm_i2l, mm_l2i, mm_ltJ, mm_leJ, mm_eqJ, mm_clt, mm_cle, mm_cgt, mm_cge, mm_ceq, mm_b, mm_nb, mm_nb0, mm_nb1, mm_vb0, mm_vb1, mm_vbc, mm_vy0, mm_vy1, mm_at, mm_ne, mm_nj, mm_Lw, mm_Nw, mm_atJ, mm_neJ, mm_njJ, zbI_s, zbV_s, zbJ_s, cond_t, Bool.true_and, Bool.and_true, if_true, if_false, not_true, not_false_iff, Classical.not_not, zel_r, zel_42, zel_12, zel_71, zel_80, zel_89, zel_110, zel_188, zel_103, zel_195, zr_o, zr_1, zr_2, zr_3, zr_4, zr_5, zr_6, zr_7, zr_8, zr_9, zq_o, zq_v, zt_o, zt_1, zt_2, zt_3, zt_4, zt_5, zf_o, zf_1, za_w1, za_w2, za_w3, za_cm, za_sl, Int.toNat_natCast, Int.toNat_natCast_add_one, mm_t0, mm_t1, mm_t2, mm_t3, mm_t4, mm_t5, mm_t6, mm_t7, mm_t8, mm_t9, mm_t10, mm_t11, mm_t12, mm_t13, za_1, za_64, za_65, za_66, za_67, za_68, za_71, za_80, za_89, za_98, za_103, za_110, za_121, za_122, za_123, za_124, za_125, za_126, za_188, za_193, za_194, za_195, za_286, za_288, za_289, za_290, za_291, za_292, za_293, za_294, za_295, za_296, za_297, za_298, za_299, za_300, za_301, za_302, za_303, za_304, za_305, za_306, za_307, za_308, za_309, za_310, za_311, za_312]))
  refine zwp_letE (τ' := zw σ 68 o.toNat x) (by simp (disch := first | assumption | exact isR33 | exact isT104 | exact isF99 | exact isF101 | exact isR3 | omega | (refine isTk ?_; omega) | (refine isOk isR33 ?_; omega) | (refine isOk ?_ ?_; assumption; omega)) only [mm_r, mm_rl, mm_add, mm_sub, mm_mul, mm_addJ, mm_mulJ, mm_lt, mm_le, mm_eq, mm_z, mm_cl, mm_w, mm_wl, mm_ite, mm_i2l, mm_l2i, mm_ltJ, mm_leJ, mm_eqJ, mm_clt, mm_cle, mm_cgt, mm_cge, mm_ceq, mm_b, mm_nb, mm_nb0, mm_nb1, mm_vb0, mm_vb1, mm_vbc, mm_vy0, mm_vy1, mm_at, mm_ne, mm_nj, mm_Lw, mm_Nw, mm_atJ, mm_neJ, mm_njJ, zbI_s, zbV_s, zbJ_s, cond_t, Bool.true_and, Bool.and_true, if_true, if_false, not_true, not_false_iff, Classical.not_not, zel_r, zel_42, zel_12, zel_71, zel_80, zel_89, zel_110, zel_188, zel_103, zel_195, zr_o, zr_1, zr_2, zr_3, zr_4, zr_5, zr_6, zr_7, zr_8, zr_9, zq_o, zq_v, zt_o, zt_1, zt_2, zt_3, zt_4, zt_5, zf_o, zf_1, za_w1, za_w2, za_w3, za_cm, za_sl, Int.toNat_natCast, Int.toNat_natCast_add_one, mm_t0, mm_t1, mm_t2, mm_t3, mm_t4, mm_t5, mm_t6, mm_t7, mm_t8, mm_t9, mm_t10, mm_t11, mm_t12, mm_t13, za_1, za_64, za_65, za_66, za_67, za_68, za_71, za_80, za_89, za_98, za_103, za_110, za_121, za_122, za_123, za_124, za_125, za_126, za_188, za_193, za_194, za_195, za_286, za_288, za_289, za_290, za_291, za_292, za_293, za_294, za_295, za_296, za_297, za_298, za_299, za_300, za_301, za_302, za_303, za_304, za_305, za_306, za_307, za_308, za_309, za_310, za_311, za_312]) ?_
  rw [sp_5c hW.un (hC.cup o0 x0 x1) ht0 ht1 hg0 hg1 hh0 hh1, zbI_s]
  repeat (with_reducible refine zwp_cd ?_ ?_; (· simp (disch := first | assumption | exact isR33 | exact isT104 | exact isF99 | exact isF101 | exact isR3 | omega | (refine isTk ?_; omega) | (refine isOk isR33 ?_; omega) | (refine isOk ?_ ?_; assumption; omega)) only [mm_r, mm_rl, mm_add, mm_sub, mm_mul, mm_addJ, mm_mulJ, mm_lt, mm_le, mm_eq, mm_z, mm_cl, mm_w, mm_wl, mm_ite, mm_i2l, mm_l2i, mm_ltJ, mm_leJ, mm_eqJ, mm_clt, mm_cle, mm_cgt, mm_cge, mm_ceq, mm_b, mm_nb, mm_nb0, mm_nb1, mm_vb0, mm_vb1, mm_vbc, mm_vy0, mm_vy1, mm_at, mm_ne, mm_nj, mm_Lw, mm_Nw, mm_atJ, mm_neJ, mm_njJ, zbI_s, zbV_s, zbJ_s, cond_t, Bool.true_and, Bool.and_true, if_true, if_false, not_true, not_false_iff, Classical.not_not, zel_r, zel_42, zel_12, zel_71, zel_80, zel_89, zel_110, zel_188, zel_103, zel_195, zr_o, zr_1, zr_2, zr_3, zr_4, zr_5, zr_6, zr_7, zr_8, zr_9, zq_o, zq_v, zt_o, zt_1, zt_2, zt_3, zt_4, zt_5, zf_o, zf_1, za_w1, za_w2, za_w3, za_cm, za_sl, Int.toNat_natCast, Int.toNat_natCast_add_one, mm_t0, mm_t1, mm_t2, mm_t3, mm_t4, mm_t5, mm_t6, mm_t7, mm_t8, mm_t9, mm_t10, mm_t11, mm_t12, mm_t13, za_1, za_64, za_65, za_66, za_67, za_68, za_71, za_80, za_89, za_98, za_103, za_110, za_121, za_122, za_123, za_124, za_125, za_126, za_188, za_193, za_194, za_195, za_286, za_288, za_289, za_290, za_291, za_292, za_293, za_294, za_295, za_296, za_297, za_298, za_299, za_300, za_301, za_302, za_303, za_304, za_305, za_306, za_307, za_308, za_309, za_310, za_311, za_312]))
  refine zwp_letE (τ' := zw (zw σ 68 o.toNat x) 68 o.toNat (zN σ 68 o.toNat)) (by simp (disch := first | assumption | exact isR33 | exact isT104 | exact isF99 | exact isF101 | exact isR3 | omega | (refine isTk ?_; omega) | (refine isOk isR33 ?_; omega) | (refine isOk ?_ ?_; assumption; omega)) only [mm_r, mm_rl, mm_add, mm_sub, mm_mul, mm_addJ, mm_mulJ, mm_lt, mm_le, mm_eq, mm_z, mm_cl, mm_w, mm_wl, mm_ite, mm_i2l, mm_l2i, mm_ltJ, mm_leJ, mm_eqJ, mm_clt, mm_cle, mm_cgt, mm_cge, mm_ceq, mm_b, mm_nb, mm_nb0, mm_nb1, mm_vb0, mm_vb1, mm_vbc, mm_vy0, mm_vy1, mm_at, mm_ne, mm_nj, mm_Lw, mm_Nw, mm_atJ, mm_neJ, mm_njJ, zbI_s, zbV_s, zbJ_s, cond_t, Bool.true_and, Bool.and_true, if_true, if_false, not_true, not_false_iff, Classical.not_not, zel_r, zel_42, zel_12, zel_71, zel_80, zel_89, zel_110, zel_188, zel_103, zel_195, zr_o, zr_1, zr_2, zr_3, zr_4, zr_5, zr_6, zr_7, zr_8, zr_9, zq_o, zq_v, zt_o, zt_1, zt_2, zt_3, zt_4, zt_5, zf_o, zf_1, za_w1, za_w2, za_w3, za_cm, za_sl, Int.toNat_natCast, Int.toNat_natCast_add_one, mm_t0, mm_t1, mm_t2, mm_t3, mm_t4, mm_t5, mm_t6, mm_t7, mm_t8, mm_t9, mm_t10, mm_t11, mm_t12, mm_t13, za_1, za_64, za_65, za_66, za_67, za_68, za_71, za_80, za_89, za_98, za_103, za_110, za_121, za_122, za_123, za_124, za_125, za_126, za_188, za_193, za_194, za_195, za_286, za_288, za_289, za_290, za_291, za_292, za_293, za_294, za_295, za_296, za_297, za_298, za_299, za_300, za_301, za_302, za_303, za_304, za_305, za_306, za_307, za_308, za_309, za_310, za_311, za_312]) ?_
  exact zwp_ret ⟨rfl, same_back rfl b0 b1⟩
