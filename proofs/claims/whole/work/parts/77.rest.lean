/-! CALLS: rest, rests, sent: the class -/
def hdP (W : Int → Int) (c : Int → Int) (o s : Int) : Bool := decide (had W (cup c o (CMh W (FL W noD) o s)) o)
/-- the first hour by which it would be had -/
def fh (W : Int → Int) (c : Int → Int) (o : Int) : Int := zfst (hdP W c o) (W 1).toNat 0
def rlP (W : Int → Int) (c : Int → Int) (o : Int) : Bool := decide (oo W o 11 ≠ -1 ∧ ¬ had W c o ∧ fh W c o ≠ -1)
/-- who doesn't rest -/
def rl (W : Int → Int) (c : Int → Int) : Int := zfst (rlP W c) (W 5).toNat 0
def nxc (W : Int → Int) (c : Int → Int) : Int → Int := cup c (rl W c) (CMh W (FL W noD) (rl W c) (fh W c (rl W c)))
def stc (W : Int → Int) : Nat → (Int → Int) → (Int → Int)
  | 0, c => c
  | n + 1, c => if rl W c = -1 then c else stc W n (nxc W c)
def stN (W : Int → Int) : Nat → (Int → Int) → Int
  | 0, _ => 0
  | n + 1, c => if rl W c = -1 then 0 else 1 + stN W n (nxc W c)
def stH (W : Int → Int) : Nat → (Int → Int) → (Int → Int) → (Int → Int)
  | 0, _, hh => hh
  | n + 1, c, hh => if rl W c = -1 then hh else stH W n (nxc W c) (cup hh (rl W c) (fh W c (rl W c)))
theorem fh_rng {W : Int → Int} (h1 : 0 ≤ W 1) (c : Int → Int) (o : Int) : fh W c o = -1 ∨ 0 ≤ fh W c o ∧ fh W c o < W 1 := by
  rcases zfst_rng (hdP W c o) (W 1).toNat 0 (Int.le_refl _) with q | ⟨a, b, -⟩
  · exact .inl q
  · change 0 ≤ fh W c o at a
    change fh W c o < _ at b
    exact .inr (by omega)
theorem rl_rng {W : Int → Int} (h5 : 0 ≤ W 5) (c : Int → Int) : rl W c = -1 ∨ 0 ≤ rl W c ∧ rl W c < W 5 ∧ oo W (rl W c) 11 ≠ -1 ∧ fh W c (rl W c) ≠ -1 := by
  rcases zfst_rng (rlP W c) (W 5).toNat 0 (Int.le_refl _) with q | ⟨a, b, p⟩
  · exact .inl q
  · change 0 ≤ rl W c at a
    change rl W c < _ at b
    change rlP W c (rl W c) = true at p
    have p := of_decide_eq_true p
    exact .inr ⟨a, by omega, p.1, p.2.2⟩
theorem stN_rng (W : Int → Int) : ∀ (n : Nat) (c : Int → Int), 0 ≤ stN W n c ∧ stN W n c ≤ n
  | 0, _ => ⟨Int.le_refl _, Int.le_refl _⟩
  | n + 1, c => by
    rw [stN]
    have := stN_rng W n (nxc W c)
    split <;> omega
theorem cup_two {c : Int → Int} {o x y : Int} : cup (cup c o y) o x = cup c o x := by
  funext k
  show (if k = o then x else if k = o then y else c k) = if k = o then x else c k
  split <;> rfl
theorem CMh_rng {W : Int → Int} (hW : WOK W) {o h : Int} (o0 : 0 ≤ o) (o1 : o < W 5) (h0 : 0 ≤ h) (h1 : h ≤ 200) : -1 ≤ CMh W (FL W noD) o h ∧ CMh W (FL W noD) o h < 99 := by
  have ho := (hW.2.2.2.2 o o0 o1).1
  have hN := (WAY_N hW.1.1 ho).1
  obtain ⟨-, -, -, -, -, -, -, t0, t1, -, -, p0, p1, s0, s1⟩ := ho
  have cr := CMw_rng (F := FL W noD) (h := h) hW.1 hN h0 h1 p0 p1 s0 s1
  exact ⟨cr.2.1, cr.2.2.1⟩
/-- the class has learnt when each order would come -/
def lrn (σ : zM) (W : Int → Int) : Prop := ∀ o, 0 ≤ o → o < W 5 → ∀ x, 0 ≤ x → x < W 1 → zN σ (111 + o.toNat) x.toNat = CMh W (FL W noD) o x
/-- with one seat's coming open -/
def opn (σ0 σ : zM) (o : Int) : Prop := mf (fun b => b = 68) σ0 σ ∧ (∀ k : Nat, k ≠ o.toNat → zN σ 68 k = zN σ0 68 k) ∧ ∀ b j, zL σ b j = zL σ0 b j
theorem opn.back {σ0 σ : zM} {o : Int} (h : opn σ0 σ o) : same σ0 (zw σ 68 o.toNat (zN σ0 68 o.toNat)) := by
  have b0 := mm_lo σ0 68 o.toNat
  have b1 := mm_hi σ0 68 o.toNat
  have hL := h.2.2
  refine ⟨fun b _ j => ?_, fun b _ j => hL b j, h.1.2.2⟩
  by_cases e : b = 68
  · by_cases e2 : j = o.toNat
    · rw [mm_at e e2 b0 b1, e, e2]
    · rw [mm_nj e2, e]
      exact h.2.1 j e2
  · rw [mm_ne e]
    exact h.1.1 b e j
theorem lp_32e {σ0 σ : zM} {W : Int → Int} {o a b : Int} (hW : WOK W) (hL : cL σ0 33 W) (hS : opn σ0 σ o) (o0 : 0 ≤ o) (o1 : o < W 5) (a0 : -1 ≤ a) (a1 : a < 1000) (b0 : 0 ≤ b) (b1 : b < 1000) (hab : W 1 ≤ b ∨ a ≠ -1) : zwp (zev 32 26 [some (.ref 69), some (.int (Int32.ofInt o)), some (.ref (33 + 10 + 2 * o.toNat)), some (.int (Int32.ofInt (zN σ0 68 o.toNat))), some (.int (Int32.ofInt a)), some (.int (Int32.ofInt b)), none] [] σ) (fun v τ => v = some (.int (Int32.ofInt a)) ∧ same σ0 τ) := by
  have h5 := hW.2.2.1
  have h9 := hW.1.2.2.1
  have h1 := hW.1.2.1
  have e2 : zN σ 33 2 = W 1 := (hS.1.1 33 (by decide) 2).trans hL.1.2.2.1
  refine zwp_of (fun r h => ze_32_26 _ _ _ _ _ _ r h) ?_
  by_cases q : W 1 ≤ b
  · refine zwp_t (by try simp (disch := first | assumption | exact isR33 | exact isT104 | exact isF99 | exact isF101 | exact isR3 | omega | (refine isTk ?_; omega) | (refine isOk isR33 ?_; omega) | (refine isOk ?_ ?_; assumption; omega)) only [mm_r, mm_rl, mm_add, mm_sub, mm_mul, mm_addJ, mm_mulJ, mm_lt, mm_le, mm_eq, mm_z, mm_cl, mm_w, mm_wl, mm_ite, mm_i2l, mm_l2i, mm_ltJ, mm_leJ, mm_eqJ, mm_clt, mm_cle, mm_cgt, mm_cge, mm_ceq, mm_b, mm_nb, mm_nb0, mm_nb1, mm_vb0, mm_vb1, mm_vbc, mm_vy0, mm_vy1, mm_at, mm_ne, mm_nj, mm_Lw, mm_Nw, mm_atJ, mm_neJ, mm_njJ, zbI_s, zbV_s, zbJ_s, cond_t, Bool.true_and, Bool.and_true, if_true, if_false, not_true, not_false_iff, Classical.not_not, zel_r, zel_42, zel_12, zel_71, zel_80, zel_89, zel_110, zel_188, zel_103, zel_195, zr_o, zr_1, zr_2, zr_3, zr_4, zr_5, zr_6, zr_7, zr_8, zr_9, zq_o, zq_v, zt_o, zt_1, zt_2, zt_3, zt_4, zt_5, zf_o, zf_1, za_w1, za_w2, za_w3, za_cm, za_sl, Int.toNat_natCast, Int.toNat_natCast_add_one, mm_t0, mm_t1, mm_t2, mm_t3, mm_t4, mm_t5, mm_t6, mm_t7, mm_t8, mm_t9, mm_t10, mm_t11, mm_t12, mm_t13, za_1, za_64, za_65, za_66, za_67, za_68, za_71, za_80, za_89, za_98, za_103, za_110, za_121, za_122, za_123, za_124, za_125, za_126, za_188, za_193, za_194, za_195, za_286, za_288, za_289, za_290, za_291, za_292, za_293, za_294, za_295, za_296, za_297, za_298, za_299, za_300, za_301, za_302, za_303, za_304, za_305, za_306, za_307, za_308, za_309, za_310, za_311, za_312, e2]
                     first | done | omega) ?_
    refine zwp_cd (by simp (disch := first | assumption | exact isR33 | exact isT104 | exact isF99 | exact isF101 | exact isR3 | omega | (refine isTk ?_; omega) | (refine isOk isR33 ?_; omega) | (refine isOk ?_ ?_; assumption; omega)) only [mm_r, mm_rl, mm_add, mm_sub, mm_mul, mm_addJ, mm_mulJ, mm_lt, mm_le, mm_eq, mm_z, mm_cl, mm_w, mm_wl, mm_ite, mm_i2l, mm_l2i, mm_ltJ, mm_leJ, mm_eqJ, mm_clt, mm_cle, mm_cgt, mm_cge, mm_ceq, mm_b, mm_nb, mm_nb0, mm_nb1, mm_vb0, mm_vb1, mm_vbc, mm_vy0, mm_vy1, mm_at, mm_ne, mm_nj, mm_Lw, mm_Nw, mm_atJ, mm_neJ, mm_njJ, zbI_s, zbV_s, zbJ_s, cond_t, Bool.true_and, Bool.and_true, if_true, if_false, not_true, not_false_iff, Classical.not_not, zel_r, zel_42, zel_12, zel_71, zel_80, zel_89, zel_110, zel_188, zel_103, zel_195, zr_o, zr_1, zr_2, zr_3, zr_4, zr_5, zr_6, zr_7, zr_8, zr_9, zq_o, zq_v, zt_o, zt_1, zt_2, zt_3, zt_4, zt_5, zf_o, zf_1, za_w1, za_w2, za_w3, za_cm, za_sl, Int.toNat_natCast, Int.toNat_natCast_add_one, mm_t0, mm_t1, mm_t2, mm_t3, mm_t4, mm_t5, mm_t6, mm_t7, mm_t8, mm_t9, mm_t10, mm_t11, mm_t12, mm_t13, za_1, za_64, za_65, za_66, za_67, za_68, za_71, za_80, za_89, za_98, za_103, za_110, za_121, za_122, za_123, za_124, za_125, za_126, za_188, za_193, za_194, za_195, za_286, za_288, za_289, za_290, za_291, za_292, za_293, za_294, za_295, za_296, za_297, za_298, za_299, za_300, za_301, za_302, za_303, za_304, za_305, za_306, za_307, za_308, za_309, za_310, za_311, za_312]) ?_
    exact zwp_let (zwp_ret ⟨rfl, by rw [mm_cl (by omega) (by omega)]; exact hS.back⟩)
  · refine zwp_f (by try simp (disch := first | assumption | exact isR33 | exact isT104 | exact isF99 | exact isF101 | exact isR3 | omega | (refine isTk ?_; omega) | (refine isOk isR33 ?_; omega) | (refine isOk ?_ ?_; assumption; omega)) only [mm_r, mm_rl, mm_add, mm_sub, mm_mul, mm_addJ, mm_mulJ, mm_lt, mm_le, mm_eq, mm_z, mm_cl, mm_w, mm_wl, mm_ite, mm_i2l, mm_l2i, mm_ltJ, mm_leJ, mm_eqJ, mm_clt, mm_cle, mm_cgt, mm_cge, mm_ceq, mm_b, mm_nb, mm_nb0, mm_nb1, mm_vb0, mm_vb1, mm_vbc, mm_vy0, mm_vy1, mm_at, mm_ne, mm_nj, mm_Lw, mm_Nw, mm_atJ, mm_neJ, mm_njJ, zbI_s, zbV_s, zbJ_s, cond_t, Bool.true_and, Bool.and_true, if_true, if_false, not_true, not_false_iff, Classical.not_not, zel_r, zel_42, zel_12, zel_71, zel_80, zel_89, zel_110, zel_188, zel_103, zel_195, zr_o, zr_1, zr_2, zr_3, zr_4, zr_5, zr_6, zr_7, zr_8, zr_9, zq_o, zq_v, zt_o, zt_1, zt_2, zt_3, zt_4, zt_5, zf_o, zf_1, za_w1, za_w2, za_w3, za_cm, za_sl, Int.toNat_natCast, Int.toNat_natCast_add_one, mm_t0, mm_t1, mm_t2, mm_t3, mm_t4, mm_t5, mm_t6, mm_t7, mm_t8, mm_t9, mm_t10, mm_t11, mm_t12, mm_t13, za_1, za_64, za_65, za_66, za_67, za_68, za_71, za_80, za_89, za_98, za_103, za_110, za_121, za_122, za_123, za_124, za_125, za_126, za_188, za_193, za_194, za_195, za_286, za_288, za_289, za_290, za_291, za_292, za_293, za_294, za_295, za_296, za_297, za_298, za_299, za_300, za_301, za_302, za_303, za_304, za_305, za_306, za_307, za_308, za_309, za_310, za_311, za_312, e2]
                     first | done | omega) ?_
    refine zwp_t (by try simp (disch := first | assumption | exact isR33 | exact isT104 | exact isF99 | exact isF101 | exact isR3 | omega | (refine isTk ?_; omega) | (refine isOk isR33 ?_; omega) | (refine isOk ?_ ?_; assumption; omega)) only [mm_r, mm_rl, mm_add, mm_sub, mm_mul, mm_addJ, mm_mulJ, mm_lt, mm_le, mm_eq, mm_z, mm_cl, mm_w, mm_wl, mm_ite, mm_i2l, mm_l2i, mm_ltJ, mm_leJ, mm_eqJ, mm_clt, mm_cle, mm_cgt, mm_cge, mm_ceq, mm_b, mm_nb, mm_nb0, mm_nb1, mm_vb0, mm_vb1, mm_vbc, mm_vy0, mm_vy1, mm_at, mm_ne, mm_nj, mm_Lw, mm_Nw, mm_atJ, mm_neJ, mm_njJ, zbI_s, zbV_s, zbJ_s, cond_t, Bool.true_and, Bool.and_true, if_true, if_false, not_true, not_false_iff, Classical.not_not, zel_r, zel_42, zel_12, zel_71, zel_80, zel_89, zel_110, zel_188, zel_103, zel_195, zr_o, zr_1, zr_2, zr_3, zr_4, zr_5, zr_6, zr_7, zr_8, zr_9, zq_o, zq_v, zt_o, zt_1, zt_2, zt_3, zt_4, zt_5, zf_o, zf_1, za_w1, za_w2, za_w3, za_cm, za_sl, Int.toNat_natCast, Int.toNat_natCast_add_one, mm_t0, mm_t1, mm_t2, mm_t3, mm_t4, mm_t5, mm_t6, mm_t7, mm_t8, mm_t9, mm_t10, mm_t11, mm_t12, mm_t13, za_1, za_64, za_65, za_66, za_67, za_68, za_71, za_80, za_89, za_98, za_103, za_110, za_121, za_122, za_123, za_124, za_125, za_126, za_188, za_193, za_194, za_195, za_286, za_288, za_289, za_290, za_291, za_292, za_293, za_294, za_295, za_296, za_297, za_298, za_299, za_300, za_301, za_302, za_303, za_304, za_305, za_306, za_307, za_308, za_309, za_310, za_311, za_312]
                     first | done | omega) ?_
    refine zwp_cd (by simp (disch := first | assumption | exact isR33 | exact isT104 | exact isF99 | exact isF101 | exact isR3 | omega | (refine isTk ?_; omega) | (refine isOk isR33 ?_; omega) | (refine isOk ?_ ?_; assumption; omega)) only [mm_r, mm_rl, mm_add, mm_sub, mm_mul, mm_addJ, mm_mulJ, mm_lt, mm_le, mm_eq, mm_z, mm_cl, mm_w, mm_wl, mm_ite, mm_i2l, mm_l2i, mm_ltJ, mm_leJ, mm_eqJ, mm_clt, mm_cle, mm_cgt, mm_cge, mm_ceq, mm_b, mm_nb, mm_nb0, mm_nb1, mm_vb0, mm_vb1, mm_vbc, mm_vy0, mm_vy1, mm_at, mm_ne, mm_nj, mm_Lw, mm_Nw, mm_atJ, mm_neJ, mm_njJ, zbI_s, zbV_s, zbJ_s, cond_t, Bool.true_and, Bool.and_true, if_true, if_false, not_true, not_false_iff, Classical.not_not, zel_r, zel_42, zel_12, zel_71, zel_80, zel_89, zel_110, zel_188, zel_103, zel_195, zr_o, zr_1, zr_2, zr_3, zr_4, zr_5, zr_6, zr_7, zr_8, zr_9, zq_o, zq_v, zt_o, zt_1, zt_2, zt_3, zt_4, zt_5, zf_o, zf_1, za_w1, za_w2, za_w3, za_cm, za_sl, Int.toNat_natCast, Int.toNat_natCast_add_one, mm_t0, mm_t1, mm_t2, mm_t3, mm_t4, mm_t5, mm_t6, mm_t7, mm_t8, mm_t9, mm_t10, mm_t11, mm_t12, mm_t13, za_1, za_64, za_65, za_66, za_67, za_68, za_71, za_80, za_89, za_98, za_103, za_110, za_121, za_122, za_123, za_124, za_125, za_126, za_188, za_193, za_194, za_195, za_286, za_288, za_289, za_290, za_291, za_292, za_293, za_294, za_295, za_296, za_297, za_298, za_299, za_300, za_301, za_302, za_303, za_304, za_305, za_306, za_307, za_308, za_309, za_310, za_311, za_312]) ?_
    exact zwp_let (zwp_ret ⟨rfl, by rw [mm_cl (by omega) (by omega)]; exact hS.back⟩)
theorem lp_32 {σ0 : zM} {W : Int → Int} {c : Int → Int} {o : Int} (hW : WOK W) (hL : cL σ0 33 W) (hl : lrn σ0 W) (o0 : 0 ≤ o) (o1 : o < W 5) (hw : oo W o 11 ≠ -1) : ∀ (k s : Nat) (σ : zM) (y : Int), (s : Int) + k = W 1 → opn σ0 σ o → ccC σ W (cup c o y) (W 7) → zwp (zev 32 26 [some (.ref 69), some (.int (Int32.ofInt o)), some (.ref (33 + 10 + 2 * o.toNat)), some (.int (Int32.ofInt (zN σ0 68 o.toNat))), some (.int (Int32.ofInt (-1))), some (.int (Int32.ofInt s)), none] [] σ) (fun v τ => v = some (.int (Int32.ofInt (zfst (hdP W c o) k s))) ∧ same σ0 τ)
  | 0, s, σ, y, e, hS, hC => by
    have h9 := hW.1.2.2.1
    exact lp_32e hW hL hS o0 o1 (by omega) (by omega) (by omega) (by omega) (.inl (by omega))
  | k + 1, s, σ, y, e, hS, hC => by
    have h5 := hW.2.2.1
    have h9 := hW.1.2.2.1
    have h0 := hW.1.1.1
    have h8 := hW.1.1.2.1
    have hL1 : cL σ 33 W := hL.fr (by omega) fun a a1 a2 => hS.1.1 a (by omega)
    have e2 := hL1.1.2.2.1
    have hO := hL1.2.2.2.2 o o0 o1
    obtain ⟨-, c1, -, -, -, -, -, -, -, -, c9⟩ := hO
    obtain ⟨c10, c11, c12⟩ := c9 hw
    obtain ⟨ho, -, b1, b2, -, -, -, b3⟩ := hW.2.2.2.2 o o0 o1
    have r := CMh_rng hW (h := s) o0 o1 (by omega) (by omega)
    have eC : CMs W o s = CMh W (FL W noD) o s := if_pos ⟨by omega, by omega⟩
    have ez : zfst (hdP W c o) (k + 1) s = if hdP W c o s = true then (s : Int) else zfst (hdP W c o) k ((s : Int) + 1) := rfl
    have eP : (hdP W c o s = true) ↔ had W (cup c o (CMh W (FL W noD) o s)) o := by
      unfold hdP
      rw [decide_eq_true_eq]
    rw [ez]
    simp only [eP]
    refine zwp_of (fun r h => ze_32_26 _ _ _ _ _ _ r h) ?_
    refine zwp_f (by try simp (disch := first | assumption | exact isR33 | exact isT104 | exact isF99 | exact isF101 | exact isR3 | omega | (refine isTk ?_; omega) | (refine isOk isR33 ?_; omega) | (refine isOk ?_ ?_; assumption; omega)) only [mm_r, mm_rl, mm_add, mm_sub, mm_mul, mm_addJ, mm_mulJ, mm_lt, mm_le, mm_eq, mm_z, mm_cl, mm_w, mm_wl, mm_ite, mm_i2l, mm_l2i, mm_ltJ, mm_leJ, mm_eqJ, mm_clt, mm_cle, mm_cgt, mm_cge, mm_ceq, mm_b, mm_nb, mm_nb0, mm_nb1, mm_vb0, mm_vb1, mm_vbc, mm_vy0, mm_vy1, mm_at, mm_ne, mm_nj, mm_Lw, mm_Nw, mm_atJ, mm_neJ, mm_njJ, zbI_s, zbV_s, zbJ_s, cond_t, Bool.true_and, Bool.and_true, if_true, if_false, not_true, not_false_iff, Classical.not_not, zel_r, zel_42, zel_12, zel_71, zel_80, zel_89, zel_110, zel_188, zel_103, zel_195, zr_o, zr_1, zr_2, zr_3, zr_4, zr_5, zr_6, zr_7, zr_8, zr_9, zq_o, zq_v, zt_o, zt_1, zt_2, zt_3, zt_4, zt_5, zf_o, zf_1, za_w1, za_w2, za_w3, za_cm, za_sl, Int.toNat_natCast, Int.toNat_natCast_add_one, mm_t0, mm_t1, mm_t2, mm_t3, mm_t4, mm_t5, mm_t6, mm_t7, mm_t8, mm_t9, mm_t10, mm_t11, mm_t12, mm_t13, za_1, za_64, za_65, za_66, za_67, za_68, za_71, za_80, za_89, za_98, za_103, za_110, za_121, za_122, za_123, za_124, za_125, za_126, za_188, za_193, za_194, za_195, za_286, za_288, za_289, za_290, za_291, za_292, za_293, za_294, za_295, za_296, za_297, za_298, za_299, za_300, za_301, za_302, za_303, za_304, za_305, za_306, za_307, za_308, za_309, za_310, za_311, za_312, e2]
                     first | done | omega) ?_
    refine zwp_f (by decide) ?_
    rw [sp_17c (h := s) hW e2 o0 o1 (fun x x0 x1 => (hS.1.1 _ (by omega) _).trans (hl o o0 o1 x x0 x1)) (by omega) (by omega), zbI_s, eC]
    refine zwp_cd (by simp (disch := first | assumption | exact isR33 | exact isT104 | exact isF99 | exact isF101 | exact isR3 | omega | (refine isTk ?_; omega) | (refine isOk isR33 ?_; omega) | (refine isOk ?_ ?_; assumption; omega)) only [mm_r, mm_rl, mm_add, mm_sub, mm_mul, mm_addJ, mm_mulJ, mm_lt, mm_le, mm_eq, mm_z, mm_cl, mm_w, mm_wl, mm_ite, mm_i2l, mm_l2i, mm_ltJ, mm_leJ, mm_eqJ, mm_clt, mm_cle, mm_cgt, mm_cge, mm_ceq, mm_b, mm_nb, mm_nb0, mm_nb1, mm_vb0, mm_vb1, mm_vbc, mm_vy0, mm_vy1, mm_at, mm_ne, mm_nj, mm_Lw, mm_Nw, mm_atJ, mm_neJ, mm_njJ, zbI_s, zbV_s, zbJ_s, cond_t, Bool.true_and, Bool.and_true, if_true, if_false, not_true, not_false_iff, Classical.not_not, zel_r, zel_42, zel_12, zel_71, zel_80, zel_89, zel_110, zel_188, zel_103, zel_195, zr_o, zr_1, zr_2, zr_3, zr_4, zr_5, zr_6, zr_7, zr_8, zr_9, zq_o, zq_v, zt_o, zt_1, zt_2, zt_3, zt_4, zt_5, zf_o, zf_1, za_w1, za_w2, za_w3, za_cm, za_sl, Int.toNat_natCast, Int.toNat_natCast_add_one, mm_t0, mm_t1, mm_t2, mm_t3, mm_t4, mm_t5, mm_t6, mm_t7, mm_t8, mm_t9, mm_t10, mm_t11, mm_t12, mm_t13, za_1, za_64, za_65, za_66, za_67, za_68, za_71, za_80, za_89, za_98, za_103, za_110, za_121, za_122, za_123, za_124, za_125, za_126, za_188, za_193, za_194, za_195, za_286, za_288, za_289, za_290, za_291, za_292, za_293, za_294, za_295, za_296, za_297, za_298, za_299, za_300, za_301, za_302, za_303, za_304, za_305, za_306, za_307, za_308, za_309, za_310, za_311, za_312]) ?_
    refine zwp_letE (τ' := zw σ 68 o.toNat (CMh W (FL W noD) o s)) (by simp (disch := first | assumption | exact isR33 | exact isT104 | exact isF99 | exact isF101 | exact isR3 | omega | (refine isTk ?_; omega) | (refine isOk isR33 ?_; omega) | (refine isOk ?_ ?_; assumption; omega)) only [mm_r, mm_rl, mm_add, mm_sub, mm_mul, mm_addJ, mm_mulJ, mm_lt, mm_le, mm_eq, mm_z, mm_cl, mm_w, mm_wl, mm_ite, mm_i2l, mm_l2i, mm_ltJ, mm_leJ, mm_eqJ, mm_clt, mm_cle, mm_cgt, mm_cge, mm_ceq, mm_b, mm_nb, mm_nb0, mm_nb1, mm_vb0, mm_vb1, mm_vbc, mm_vy0, mm_vy1, mm_at, mm_ne, mm_nj, mm_Lw, mm_Nw, mm_atJ, mm_neJ, mm_njJ, zbI_s, zbV_s, zbJ_s, cond_t, Bool.true_and, Bool.and_true, if_true, if_false, not_true, not_false_iff, Classical.not_not, zel_r, zel_42, zel_12, zel_71, zel_80, zel_89, zel_110, zel_188, zel_103, zel_195, zr_o, zr_1, zr_2, zr_3, zr_4, zr_5, zr_6, zr_7, zr_8, zr_9, zq_o, zq_v, zt_o, zt_1, zt_2, zt_3, zt_4, zt_5, zf_o, zf_1, za_w1, za_w2, za_w3, za_cm, za_sl, Int.toNat_natCast, Int.toNat_natCast_add_one, mm_t0, mm_t1, mm_t2, mm_t3, mm_t4, mm_t5, mm_t6, mm_t7, mm_t8, mm_t9, mm_t10, mm_t11, mm_t12, mm_t13, za_1, za_64, za_65, za_66, za_67, za_68, za_71, za_80, za_89, za_98, za_103, za_110, za_121, za_122, za_123, za_124, za_125, za_126, za_188, za_193, za_194, za_195, za_286, za_288, za_289, za_290, za_291, za_292, za_293, za_294, za_295, za_296, za_297, za_298, za_299, za_300, za_301, za_302, za_303, za_304, za_305, za_306, za_307, za_308, za_309, za_310, za_311, za_312]) ?_
    have hC2 : ccC (zw σ 68 o.toNat (CMh W (FL W noD) o s)) W (cup c o (CMh W (FL W noD) o s)) (W 7) := by
      have := hC.cup (x := CMh W (FL W noD) o s) o0 (by omega) (by omega)
      change ccC _ W (cup (cup c o y) o (CMh W (FL W noD) o s)) (W 7) at this
      rw [cup_two] at this
      exact this
    have hS2 : opn σ0 (zw σ 68 o.toNat (CMh W (FL W noD) o s)) o := ⟨hS.1.zw 68 _ _ rfl, fun j hj => (mm_nj hj).trans (hS.2.1 j hj), hS.2.2⟩
    have d11 : zN (zw σ 68 o.toNat (CMh W (FL W noD) o s)) (33 + 10 + 2 * o.toNat) 11 = oo W o 12 := (mm_ne (by omega)).trans c11
    have d12 : zN (zw σ 68 o.toNat (CMh W (FL W noD) o s)) (33 + 10 + 2 * o.toNat) 12 = oo W o 13 := (mm_ne (by omega)).trans c12
    have d10 : zN (zw σ 68 o.toNat (CMh W (FL W noD) o s)) (33 + 10 + 2 * o.toNat) 10 = oo W o 11 := (mm_ne (by omega)).trans c10
    have d1 : zN (zw σ 68 o.toNat (CMh W (FL W noD) o s)) (33 + 10 + 2 * o.toNat) 1 = oo W o 1 := (mm_ne (by omega)).trans c1
    generalize zw σ 68 o.toNat (CMh W (FL W noD) o s) = τ at hC2 hS2 d11 d12 d10 d1 ⊢
    have zo := zq_o (isOk isR33 (show o.toNat < 10 by omega))
    refine zwp_cd zo (zwp_cd zo (zwp_cd zo ?_))
    rw [mm_r τ _ 11, mm_r τ _ 1, mm_r τ _ 12, d11, d12, d1, sp_6c hW.un hC2 (by omega) (by omega) (by omega) (by omega) (by omega) (by omega), zbI_s]
    refine zwp_cd zo ?_
    rw [mm_r τ _ 10, d10]
    have rH := HH_rng hW.un (cup c o (CMh W (FL W noD) o s)) (W 7) (oo W o 12) (oo W o 1) (oo W o 13)
    by_cases q : had W (cup c o (CMh W (FL W noD) o s)) o
    · rw [if_pos q]
      have q' : HH W (cup c o (CMh W (FL W noD) o s)) (W 7) (oo W o 12) (oo W o 1) (oo W o 13) = oo W o 11 := q
      refine zwp_f (by rw [q']; exact fun p => p rfl) ?_
      rw [mm_add]
      exact lp_32e hW hL hS2 o0 o1 (by omega) (by omega) (by omega) (by omega) (.inr (by omega))
    · rw [if_neg q]
      have q' : ¬ HH W (cup c o (CMh W (FL W noD) o s)) (W 7) (oo W o 12) (oo W o 1) (oo W o 13) = oo W o 11 := q
      refine zwp_t (by rw [mm_eq (by omega) (by omega) (by omega) (by omega)]; exact q') ?_
      rw [mm_add]
      exact lp_32 hW hL hl o0 o1 hw k (s + 1) τ _ (by omega) hS2 hC2
theorem cup_self {c : Int → Int} {o : Int} : cup c o (c o) = c := by
  funext k
  show (if k = o then c o else c k) = c k
  split
  · next q => rw [q]
  · rfl
theorem sp_32 {σ : zM} {W : Int → Int} {c : Int → Int} {o : Int} (hW : WOK W) (hL : cL σ 33 W) (hl : lrn σ W) (hC : ccC σ W c (W 7)) (o0 : 0 ≤ o) (o1 : o < W 5) (hw : oo W o 11 ≠ -1) : zwp (zcall 32 [.ref 69, .int (Int32.ofInt o)] σ) (fun v τ => v = some (.int (Int32.ofInt (fh W c o))) ∧ same σ τ) := by
  have h5 := hW.2.2.1
  refine zwp_of (fun r h => zcc_32 (ze_32_0 _ _ r h)) ?_
  repeat (with_reducible refine zwp_cd ?_ ?_; (· simp (disch := first | assumption | exact isR33 | exact isT104 | exact isF99 | exact isF101 | exact isR3 | omega | (refine isTk ?_; omega) | (refine isOk isR33 ?_; omega) | (refine isOk ?_ ?_; assumption; omega)) only [mm_r, mm_rl, mm_add, mm_sub, mm_mul, mm_addJ, mm_mulJ, mm_lt, mm_le, mm_eq, mm_z, mm_cl, mm_w, mm_wl, mm_ite, mm_i2l, mm_l2i, mm_ltJ, mm_leJ, mm_eqJ, mm_clt, mm_cle, mm_cgt, mm_cge, mm_ceq, mm_b, mm_nb, mm_nb0, mm_nb1, mm_vb0, mm_vb1, mm_vbc, mm_vy0, mm_vy1, mm_at, mm_ne, mm_nj, mm_Lw, mm_Nw, mm_atJ, mm_neJ, mm_njJ, zbI_s, zbV_s, zbJ_s, cond_t, Bool.true_and, Bool.and_true, if_true, if_false, not_true, not_false_iff, Classical.not_not, zel_r, zel_42, zel_12, zel_71, zel_80, zel_89, zel_110, zel_188, zel_103, zel_195, zr_o, zr_1, zr_2, zr_3, zr_4, zr_5, zr_6, zr_7, zr_8, zr_9, zq_o, zq_v, zt_o, zt_1, zt_2, zt_3, zt_4, zt_5, zf_o, zf_1, za_w1, za_w2, za_w3, za_cm, za_sl, Int.toNat_natCast, Int.toNat_natCast_add_one, mm_t0, mm_t1, mm_t2, mm_t3, mm_t4, mm_t5, mm_t6, mm_t7, mm_t8, mm_t9, mm_t10, mm_t11, mm_t12, mm_t13, za_1, za_64, za_65, za_66, za_67, za_68, za_71, za_80, za_89, za_98, za_103, za_110, za_121, za_122, za_123, za_124, za_125, za_126, za_188, za_193, za_194, za_195, za_286, za_288, za_289, za_290, za_291, za_292, za_293, za_294, za_295, za_296, za_297, za_298, za_299, za_300, za_301, za_302, za_303, za_304, za_305, za_306, za_307, za_308, za_309, za_310, za_311, za_312]))
  simp (disch := first | assumption | exact isR33 | exact isT104 | exact isF99 | exact isF101 | exact isR3 | omega | (refine isTk ?_; omega) | (refine isOk isR33 ?_; omega) | (refine isOk ?_ ?_; assumption; omega)) only [mm_r, mm_rl, mm_add, mm_sub, mm_mul, mm_addJ, mm_mulJ, mm_lt, mm_le, mm_eq, mm_z, mm_cl, mm_w, mm_wl, mm_ite, mm_i2l, mm_l2i, mm_ltJ, mm_leJ, mm_eqJ, mm_clt, mm_cle, mm_cgt, mm_cge, mm_ceq, mm_b, mm_nb, mm_nb0, mm_nb1, mm_vb0, mm_vb1, mm_vbc, mm_vy0, mm_vy1, mm_at, mm_ne, mm_nj, mm_Lw, mm_Nw, mm_atJ, mm_neJ, mm_njJ, zbI_s, zbV_s, zbJ_s, cond_t, Bool.true_and, Bool.and_true, if_true, if_false, not_true, not_false_iff, Classical.not_not, zel_r, zel_42, zel_12, zel_71, zel_80, zel_89, zel_110, zel_188, zel_103, zel_195, zr_o, zr_1, zr_2, zr_3, zr_4, zr_5, zr_6, zr_7, zr_8, zr_9, zq_o, zq_v, zt_o, zt_1, zt_2, zt_3, zt_4, zt_5, zf_o, zf_1, za_w1, za_w2, za_w3, za_cm, za_sl, Int.toNat_natCast, Int.toNat_natCast_add_one, mm_t0, mm_t1, mm_t2, mm_t3, mm_t4, mm_t5, mm_t6, mm_t7, mm_t8, mm_t9, mm_t10, mm_t11, mm_t12, mm_t13, za_1, za_64, za_65, za_66, za_67, za_68, za_71, za_80, za_89, za_98, za_103, za_110, za_121, za_122, za_123, za_124, za_125, za_126, za_188, za_193, za_194, za_195, za_286, za_288, za_289, za_290, za_291, za_292, za_293, za_294, za_295, za_296, za_297, za_298, za_299, za_300, za_301, za_302, za_303, za_304, za_305, za_306, za_307, za_308, za_309, za_310, za_311, za_312]
  exact lp_32 (c := c) hW hL hl o0 o1 hw (W 1).toNat 0 σ (c o) (by have := hW.1.2.1; omega) ⟨mf.rf, fun _ _ => rfl, fun _ _ => rfl⟩ (by rw [cup_self]; exact hC)
theorem lp_33 {σ0 : zM} {W : Int → Int} {c : Int → Int} (hW : WOK W) (hL : cL σ0 33 W) (hl : lrn σ0 W) (hC : ccC σ0 W c (W 7)) : ∀ (k o : Nat) (σ : zM), (o : Int) + k = W 5 → same σ0 σ → zwp (zev 33 2 [some (.ref 69), some (.int (Int32.ofInt o))] [] σ) (fun v τ => v = some (.int (Int32.ofInt (zfst (rlP W c) k o))) ∧ same σ0 τ)
  | 0, o, σ, e, hs => by
    have h5 := hW.2.2.1
    have e7 := (hs.k 33 7).trans hL.1.2.2.2.2.2.2.2
    refine zwp_of (fun r h => ze_33_2 _ _ r h) ?_
    refine zwp_t (by try simp (disch := first | assumption | exact isR33 | exact isT104 | exact isF99 | exact isF101 | exact isR3 | omega | (refine isTk ?_; omega) | (refine isOk isR33 ?_; omega) | (refine isOk ?_ ?_; assumption; omega)) only [mm_r, mm_rl, mm_add, mm_sub, mm_mul, mm_addJ, mm_mulJ, mm_lt, mm_le, mm_eq, mm_z, mm_cl, mm_w, mm_wl, mm_ite, mm_i2l, mm_l2i, mm_ltJ, mm_leJ, mm_eqJ, mm_clt, mm_cle, mm_cgt, mm_cge, mm_ceq, mm_b, mm_nb, mm_nb0, mm_nb1, mm_vb0, mm_vb1, mm_vbc, mm_vy0, mm_vy1, mm_at, mm_ne, mm_nj, mm_Lw, mm_Nw, mm_atJ, mm_neJ, mm_njJ, zbI_s, zbV_s, zbJ_s, cond_t, Bool.true_and, Bool.and_true, if_true, if_false, not_true, not_false_iff, Classical.not_not, zel_r, zel_42, zel_12, zel_71, zel_80, zel_89, zel_110, zel_188, zel_103, zel_195, zr_o, zr_1, zr_2, zr_3, zr_4, zr_5, zr_6, zr_7, zr_8, zr_9, zq_o, zq_v, zt_o, zt_1, zt_2, zt_3, zt_4, zt_5, zf_o, zf_1, za_w1, za_w2, za_w3, za_cm, za_sl, Int.toNat_natCast, Int.toNat_natCast_add_one, mm_t0, mm_t1, mm_t2, mm_t3, mm_t4, mm_t5, mm_t6, mm_t7, mm_t8, mm_t9, mm_t10, mm_t11, mm_t12, mm_t13, za_1, za_64, za_65, za_66, za_67, za_68, za_71, za_80, za_89, za_98, za_103, za_110, za_121, za_122, za_123, za_124, za_125, za_126, za_188, za_193, za_194, za_195, za_286, za_288, za_289, za_290, za_291, za_292, za_293, za_294, za_295, za_296, za_297, za_298, za_299, za_300, za_301, za_302, za_303, za_304, za_305, za_306, za_307, za_308, za_309, za_310, za_311, za_312, e7]
                     first | done | omega) ?_
    exact zwp_ret ⟨rfl, hs⟩
  | k + 1, o, σ, e, hs => by
    have h5 := hW.2.2.1
    have h1 := hW.1.2.1
    have hL1 : cL σ 33 W := hL.fr (by omega) fun a a1 a2 => hs.k a
    have hC1 : ccC σ W c (W 7) := hC.fr fun b _ _ => hs.k b
    have hl1 : lrn σ W := fun p p0 p1 x x0 x1 => (hs.k _ _).trans (hl p p0 p1 x x0 x1)
    have e7 := hL1.1.2.2.2.2.2.2.2
    have c9 := (hL1.2.2.2.2 o (by omega) (by omega)).2.2.2.2.2.2.2.2.2.1
    rw [Int.toNat_natCast] at c9
    have ez : zfst (rlP W c) (k + 1) o = if rlP W c o = true then (o : Int) else zfst (rlP W c) k ((o : Int) + 1) := rfl
    have eP : (rlP W c o = true) ↔ (oo W o 11 ≠ -1 ∧ ¬ had W c o ∧ fh W c o ≠ -1) := by
      unfold rlP
      rw [decide_eq_true_eq]
    rw [ez]
    simp only [eP]
    have zo := zq_o (isOk isR33 (show o < 10 by omega))
    have step : ∀ τ, same σ0 τ → zwp (zev 33 2 [some (.ref 69), some (.int (Int32.ofInt o + Int32.ofInt 1))] [] τ) (fun v τ => v = some (.int (Int32.ofInt (zfst (rlP W c) k ((o : Int) + 1)))) ∧ same σ0 τ) := by
      intro τ ht
      rw [mm_add]
      exact lp_33 hW hL hl hC k (o + 1) τ (by omega) ht
    refine zwp_of (fun r h => ze_33_2 _ _ r h) ?_
    refine zwp_f (by try simp (disch := first | assumption | exact isR33 | exact isT104 | exact isF99 | exact isF101 | exact isR3 | omega | (refine isTk ?_; omega) | (refine isOk isR33 ?_; omega) | (refine isOk ?_ ?_; assumption; omega)) only [mm_r, mm_rl, mm_add, mm_sub, mm_mul, mm_addJ, mm_mulJ, mm_lt, mm_le, mm_eq, mm_z, mm_cl, mm_w, mm_wl, mm_ite, mm_i2l, mm_l2i, mm_ltJ, mm_leJ, mm_eqJ, mm_clt, mm_cle, mm_cgt, mm_cge, mm_ceq, mm_b, mm_nb, mm_nb0, mm_nb1, mm_vb0, mm_vb1, mm_vbc, mm_vy0, mm_vy1, mm_at, mm_ne, mm_nj, mm_Lw, mm_Nw, mm_atJ, mm_neJ, mm_njJ, zbI_s, zbV_s, zbJ_s, cond_t, Bool.true_and, Bool.and_true, if_true, if_false, not_true, not_false_iff, Classical.not_not, zel_r, zel_42, zel_12, zel_71, zel_80, zel_89, zel_110, zel_188, zel_103, zel_195, zr_o, zr_1, zr_2, zr_3, zr_4, zr_5, zr_6, zr_7, zr_8, zr_9, zq_o, zq_v, zt_o, zt_1, zt_2, zt_3, zt_4, zt_5, zf_o, zf_1, za_w1, za_w2, za_w3, za_cm, za_sl, Int.toNat_natCast, Int.toNat_natCast_add_one, mm_t0, mm_t1, mm_t2, mm_t3, mm_t4, mm_t5, mm_t6, mm_t7, mm_t8, mm_t9, mm_t10, mm_t11, mm_t12, mm_t13, za_1, za_64, za_65, za_66, za_67, za_68, za_71, za_80, za_89, za_98, za_103, za_110, za_121, za_122, za_123, za_124, za_125, za_126, za_188, za_193, za_194, za_195, za_286, za_288, za_289, za_290, za_291, za_292, za_293, za_294, za_295, za_296, za_297, za_298, za_299, za_300, za_301, za_302, za_303, za_304, za_305, za_306, za_307, za_308, za_309, za_310, za_311, za_312, e7]
                     first | done | omega) ?_
    repeat (with_reducible refine zwp_cd ?_ ?_; (· simp (disch := first | assumption | exact isR33 | exact isT104 | exact isF99 | exact isF101 | exact isR3 | omega | (refine isTk ?_; omega) | (refine isOk isR33 ?_; omega) | (refine isOk ?_ ?_; assumption; omega)) only [mm_r, mm_rl, mm_add, mm_sub, mm_mul, mm_addJ, mm_mulJ, mm_lt, mm_le, mm_eq, mm_z, mm_cl, mm_w, mm_wl, mm_ite, mm_i2l, mm_l2i, mm_ltJ, mm_leJ, mm_eqJ, mm_clt, mm_cle, mm_cgt, mm_cge, mm_ceq, mm_b, mm_nb, mm_nb0, mm_nb1, mm_vb0, mm_vb1, mm_vbc, mm_vy0, mm_vy1, mm_at, mm_ne, mm_nj, mm_Lw, mm_Nw, mm_atJ, mm_neJ, mm_njJ, zbI_s, zbV_s, zbJ_s, cond_t, Bool.true_and, Bool.and_true, if_true, if_false, not_true, not_false_iff, Classical.not_not, zel_r, zel_42, zel_12, zel_71, zel_80, zel_89, zel_110, zel_188, zel_103, zel_195, zr_o, zr_1, zr_2, zr_3, zr_4, zr_5, zr_6, zr_7, zr_8, zr_9, zq_o, zq_v, zt_o, zt_1, zt_2, zt_3, zt_4, zt_5, zf_o, zf_1, za_w1, za_w2, za_w3, za_cm, za_sl, Int.toNat_natCast, Int.toNat_natCast_add_one, mm_t0, mm_t1, mm_t2, mm_t3, mm_t4, mm_t5, mm_t6, mm_t7, mm_t8, mm_t9, mm_t10, mm_t11, mm_t12, mm_t13, za_1, za_64, za_65, za_66, za_67, za_68, za_71, za_80, za_89, za_98, za_103, za_110, za_121, za_122, za_123, za_124, za_125, za_126, za_188, za_193, za_194, za_195, za_286, za_288, za_289, za_290, za_291, za_292, za_293, za_294, za_295, za_296, za_297, za_298, za_299, za_300, za_301, za_302, za_303, za_304, za_305, za_306, za_307, za_308, za_309, za_310, za_311, za_312]))
    by_cases w : oo W o 11 = -1
    · rw [if_pos w] at c9
      refine zwp_t (by try simp (disch := first | assumption | exact isR33 | exact isT104 | exact isF99 | exact isF101 | exact isR3 | omega | (refine isTk ?_; omega) | (refine isOk isR33 ?_; omega) | (refine isOk ?_ ?_; assumption; omega)) only [mm_r, mm_rl, mm_add, mm_sub, mm_mul, mm_addJ, mm_mulJ, mm_lt, mm_le, mm_eq, mm_z, mm_cl, mm_w, mm_wl, mm_ite, mm_i2l, mm_l2i, mm_ltJ, mm_leJ, mm_eqJ, mm_clt, mm_cle, mm_cgt, mm_cge, mm_ceq, mm_b, mm_nb, mm_nb0, mm_nb1, mm_vb0, mm_vb1, mm_vbc, mm_vy0, mm_vy1, mm_at, mm_ne, mm_nj, mm_Lw, mm_Nw, mm_atJ, mm_neJ, mm_njJ, zbI_s, zbV_s, zbJ_s, cond_t, Bool.true_and, Bool.and_true, if_true, if_false, not_true, not_false_iff, Classical.not_not, zel_r, zel_42, zel_12, zel_71, zel_80, zel_89, zel_110, zel_188, zel_103, zel_195, zr_o, zr_1, zr_2, zr_3, zr_4, zr_5, zr_6, zr_7, zr_8, zr_9, zq_o, zq_v, zt_o, zt_1, zt_2, zt_3, zt_4, zt_5, zf_o, zf_1, za_w1, za_w2, za_w3, za_cm, za_sl, Int.toNat_natCast, Int.toNat_natCast_add_one, mm_t0, mm_t1, mm_t2, mm_t3, mm_t4, mm_t5, mm_t6, mm_t7, mm_t8, mm_t9, mm_t10, mm_t11, mm_t12, mm_t13, za_1, za_64, za_65, za_66, za_67, za_68, za_71, za_80, za_89, za_98, za_103, za_110, za_121, za_122, za_123, za_124, za_125, za_126, za_188, za_193, za_194, za_195, za_286, za_288, za_289, za_290, za_291, za_292, za_293, za_294, za_295, za_296, za_297, za_298, za_299, za_300, za_301, za_302, za_303, za_304, za_305, za_306, za_307, za_308, za_309, za_310, za_311, za_312, c9]; first | done | omega) ?_
      rw [if_neg (fun p => p.1 w)]
      exact step σ hs
    · rw [if_neg w] at c9
      refine zwp_f (by try simp (disch := first | assumption | exact isR33 | exact isT104 | exact isF99 | exact isF101 | exact isR3 | omega | (refine isTk ?_; omega) | (refine isOk isR33 ?_; omega) | (refine isOk ?_ ?_; assumption; omega)) only [mm_r, mm_rl, mm_add, mm_sub, mm_mul, mm_addJ, mm_mulJ, mm_lt, mm_le, mm_eq, mm_z, mm_cl, mm_w, mm_wl, mm_ite, mm_i2l, mm_l2i, mm_ltJ, mm_leJ, mm_eqJ, mm_clt, mm_cle, mm_cgt, mm_cge, mm_ceq, mm_b, mm_nb, mm_nb0, mm_nb1, mm_vb0, mm_vb1, mm_vbc, mm_vy0, mm_vy1, mm_at, mm_ne, mm_nj, mm_Lw, mm_Nw, mm_atJ, mm_neJ, mm_njJ, zbI_s, zbV_s, zbJ_s, cond_t, Bool.true_and, Bool.and_true, if_true, if_false, not_true, not_false_iff, Classical.not_not, zel_r, zel_42, zel_12, zel_71, zel_80, zel_89, zel_110, zel_188, zel_103, zel_195, zr_o, zr_1, zr_2, zr_3, zr_4, zr_5, zr_6, zr_7, zr_8, zr_9, zq_o, zq_v, zt_o, zt_1, zt_2, zt_3, zt_4, zt_5, zf_o, zf_1, za_w1, za_w2, za_w3, za_cm, za_sl, Int.toNat_natCast, Int.toNat_natCast_add_one, mm_t0, mm_t1, mm_t2, mm_t3, mm_t4, mm_t5, mm_t6, mm_t7, mm_t8, mm_t9, mm_t10, mm_t11, mm_t12, mm_t13, za_1, za_64, za_65, za_66, za_67, za_68, za_71, za_80, za_89, za_98, za_103, za_110, za_121, za_122, za_123, za_124, za_125, za_126, za_188, za_193, za_194, za_195, za_286, za_288, za_289, za_290, za_291, za_292, za_293, za_294, za_295, za_296, za_297, za_298, za_299, za_300, za_301, za_302, za_303, za_304, za_305, za_306, za_307, za_308, za_309, za_310, za_311, za_312, c9]; first | done | omega) ?_
      refine zwp_IE (sp_31 hW hL1 hC1 (by omega) (by omega) w) ?_
      rintro τ rfl
      by_cases q : had W c o
      · rw [if_neg (fun p => p.2.1 q : ¬ (oo W o 11 ≠ -1 ∧ ¬ had W c o ∧ fh W c o ≠ -1)), if_pos q]
        refine zwp_t (by decide) ?_
        exact step _ hs
      · rw [if_neg q]
        refine zwp_f (by decide) ?_
        refine zwp_IE (sp_32 hW hL1 hl1 hC1 (by omega) (by omega) w) ?_
        intro υ hs2
        have rf := fh_rng h1 c o
        have h9 := hW.1.2.2.1
        by_cases q2 : fh W c o = -1
        · refine zwp_t (by try simp (disch := first | assumption | exact isR33 | exact isT104 | exact isF99 | exact isF101 | exact isR3 | omega | (refine isTk ?_; omega) | (refine isOk isR33 ?_; omega) | (refine isOk ?_ ?_; assumption; omega)) only [mm_r, mm_rl, mm_add, mm_sub, mm_mul, mm_addJ, mm_mulJ, mm_lt, mm_le, mm_eq, mm_z, mm_cl, mm_w, mm_wl, mm_ite, mm_i2l, mm_l2i, mm_ltJ, mm_leJ, mm_eqJ, mm_clt, mm_cle, mm_cgt, mm_cge, mm_ceq, mm_b, mm_nb, mm_nb0, mm_nb1, mm_vb0, mm_vb1, mm_vbc, mm_vy0, mm_vy1, mm_at, mm_ne, mm_nj, mm_Lw, mm_Nw, mm_atJ, mm_neJ, mm_njJ, zbI_s, zbV_s, zbJ_s, cond_t, Bool.true_and, Bool.and_true, if_true, if_false, not_true, not_false_iff, Classical.not_not, zel_r, zel_42, zel_12, zel_71, zel_80, zel_89, zel_110, zel_188, zel_103, zel_195, zr_o, zr_1, zr_2, zr_3, zr_4, zr_5, zr_6, zr_7, zr_8, zr_9, zq_o, zq_v, zt_o, zt_1, zt_2, zt_3, zt_4, zt_5, zf_o, zf_1, za_w1, za_w2, za_w3, za_cm, za_sl, Int.toNat_natCast, Int.toNat_natCast_add_one, mm_t0, mm_t1, mm_t2, mm_t3, mm_t4, mm_t5, mm_t6, mm_t7, mm_t8, mm_t9, mm_t10, mm_t11, mm_t12, mm_t13, za_1, za_64, za_65, za_66, za_67, za_68, za_71, za_80, za_89, za_98, za_103, za_110, za_121, za_122, za_123, za_124, za_125, za_126, za_188, za_193, za_194, za_195, za_286, za_288, za_289, za_290, za_291, za_292, za_293, za_294, za_295, za_296, za_297, za_298, za_299, za_300, za_301, za_302, za_303, za_304, za_305, za_306, za_307, za_308, za_309, za_310, za_311, za_312, q2]
                           first | done | omega) ?_
          rw [if_neg (fun p => p.2.2 q2)]
          exact step υ (hs.tr hs2)
        · refine zwp_f (by try simp (disch := first | assumption | exact isR33 | exact isT104 | exact isF99 | exact isF101 | exact isR3 | omega | (refine isTk ?_; omega) | (refine isOk isR33 ?_; omega) | (refine isOk ?_ ?_; assumption; omega)) only [mm_r, mm_rl, mm_add, mm_sub, mm_mul, mm_addJ, mm_mulJ, mm_lt, mm_le, mm_eq, mm_z, mm_cl, mm_w, mm_wl, mm_ite, mm_i2l, mm_l2i, mm_ltJ, mm_leJ, mm_eqJ, mm_clt, mm_cle, mm_cgt, mm_cge, mm_ceq, mm_b, mm_nb, mm_nb0, mm_nb1, mm_vb0, mm_vb1, mm_vbc, mm_vy0, mm_vy1, mm_at, mm_ne, mm_nj, mm_Lw, mm_Nw, mm_atJ, mm_neJ, mm_njJ, zbI_s, zbV_s, zbJ_s, cond_t, Bool.true_and, Bool.and_true, if_true, if_false, not_true, not_false_iff, Classical.not_not, zel_r, zel_42, zel_12, zel_71, zel_80, zel_89, zel_110, zel_188, zel_103, zel_195, zr_o, zr_1, zr_2, zr_3, zr_4, zr_5, zr_6, zr_7, zr_8, zr_9, zq_o, zq_v, zt_o, zt_1, zt_2, zt_3, zt_4, zt_5, zf_o, zf_1, za_w1, za_w2, za_w3, za_cm, za_sl, Int.toNat_natCast, Int.toNat_natCast_add_one, mm_t0, mm_t1, mm_t2, mm_t3, mm_t4, mm_t5, mm_t6, mm_t7, mm_t8, mm_t9, mm_t10, mm_t11, mm_t12, mm_t13, za_1, za_64, za_65, za_66, za_67, za_68, za_71, za_80, za_89, za_98, za_103, za_110, za_121, za_122, za_123, za_124, za_125, za_126, za_188, za_193, za_194, za_195, za_286, za_288, za_289, za_290, za_291, za_292, za_293, za_294, za_295, za_296, za_297, za_298, za_299, za_300, za_301, za_302, za_303, za_304, za_305, za_306, za_307, za_308, za_309, za_310, za_311, za_312]
                           first | done | omega) ?_
          rw [if_pos ⟨w, q, q2⟩]
          exact zwp_ret ⟨rfl, hs.tr hs2⟩
theorem sp_33 {σ : zM} {W : Int → Int} {c : Int → Int} (hW : WOK W) (hL : cL σ 33 W) (hl : lrn σ W) (hC : ccC σ W c (W 7)) : zwp (zcall 33 [.ref 69] σ) (fun v τ => v = some (.int (Int32.ofInt (rl W c))) ∧ same σ τ) := by
  refine zwp_of (fun r h => zcc_33 (ze_33_0 _ r h)) ?_
  exact lp_33 hW hL hl hC (W 5).toNat 0 σ (by have := hW.2.2.1; omega) same.rf
theorem lp_34_39 {σ0 : zM} {W : Int → Int} {n : Int} (hW : WOK W) (hL0 : cL σ0 33 W) (hl0 : lrn σ0 W) (n1 : n ≤ 50) : ∀ (k m : Nat) (c hh : Int → Int) (σ : zM), (m : Int) + k = n → mf (fun b => b = 68 ∨ b = 122) σ0 σ → ccC σ W c (W 7) → (∀ o, 0 ≤ o → o < W 5 → zN σ 122 o.toNat = hh o) → zwp (zev 34 39 [some (.ref 69), some (.int (Int32.ofInt n)), some (.int (Int32.ofInt m)), none] [] σ) (fun v τ => v = some (.int (Int32.ofInt (m + stN W k c))) ∧ mf (fun b => b = 68 ∨ b = 122) σ0 τ ∧ ccC τ W (stc W k c) (W 7) ∧ ∀ o, 0 ≤ o → o < W 5 → zN τ 122 o.toNat = stH W k c hh o)
  | 0, m, c, hh, σ, e, hf, hC, hv => by
    refine zwp_of (fun r h => ze_34_39 _ _ _ r h) ?_
    refine zwp_t (by try simp (disch := first | assumption | exact isR33 | exact isT104 | exact isF99 | exact isF101 | exact isR3 | omega | (refine isTk ?_; omega) | (refine isOk isR33 ?_; omega) | (refine isOk ?_ ?_; assumption; omega)) only [mm_r, mm_rl, mm_add, mm_sub, mm_mul, mm_addJ, mm_mulJ, mm_lt, mm_le, mm_eq, mm_z, mm_cl, mm_w, mm_wl, mm_ite, mm_i2l, mm_l2i, mm_ltJ, mm_leJ, mm_eqJ, mm_clt, mm_cle, mm_cgt, mm_cge, mm_ceq, mm_b, mm_nb, mm_nb0, mm_nb1, mm_vb0, mm_vb1, mm_vbc, mm_vy0, mm_vy1, mm_at, mm_ne, mm_nj, mm_Lw, mm_Nw, mm_atJ, mm_neJ, mm_njJ, zbI_s, zbV_s, zbJ_s, cond_t, Bool.true_and, Bool.and_true, if_true, if_false, not_true, not_false_iff, Classical.not_not, zel_r, zel_42, zel_12, zel_71, zel_80, zel_89, zel_110, zel_188, zel_103, zel_195, zr_o, zr_1, zr_2, zr_3, zr_4, zr_5, zr_6, zr_7, zr_8, zr_9, zq_o, zq_v, zt_o, zt_1, zt_2, zt_3, zt_4, zt_5, zf_o, zf_1, za_w1, za_w2, za_w3, za_cm, za_sl, Int.toNat_natCast, Int.toNat_natCast_add_one, mm_t0, mm_t1, mm_t2, mm_t3, mm_t4, mm_t5, mm_t6, mm_t7, mm_t8, mm_t9, mm_t10, mm_t11, mm_t12, mm_t13, za_1, za_64, za_65, za_66, za_67, za_68, za_71, za_80, za_89, za_98, za_103, za_110, za_121, za_122, za_123, za_124, za_125, za_126, za_188, za_193, za_194, za_195, za_286, za_288, za_289, za_290, za_291, za_292, za_293, za_294, za_295, za_296, za_297, za_298, za_299, za_300, za_301, za_302, za_303, za_304, za_305, za_306, za_307, za_308, za_309, za_310, za_311, za_312]
                     first | done | omega) ?_
    refine zwp_ret ⟨?_, hf, hC, hv⟩
    rw [stN, Int.add_zero, show n = (m : Int) by omega]
  | k + 1, m, c, hh, σ, e, hf, hC, hv => by
    have h5 := hW.2.2.1
    have h1 := hW.1.2.1
    have h9 := hW.1.2.2.1
    have hL1 : cL σ 33 W := hL0.fr (by omega) fun a a1 a2 => hf.1 a (by omega)
    have hl1 : lrn σ W := fun p p0 p1 x x0 x1 => (hf.1 _ (by omega) _).trans (hl0 p p0 p1 x x0 x1)
    rw [stN, stc, stH]
    have rr := rl_rng h5.2.2.1 c
    refine zwp_of (fun r h => ze_34_39 _ _ _ r h) ?_
    refine zwp_f (by try simp (disch := first | assumption | exact isR33 | exact isT104 | exact isF99 | exact isF101 | exact isR3 | omega | (refine isTk ?_; omega) | (refine isOk isR33 ?_; omega) | (refine isOk ?_ ?_; assumption; omega)) only [mm_r, mm_rl, mm_add, mm_sub, mm_mul, mm_addJ, mm_mulJ, mm_lt, mm_le, mm_eq, mm_z, mm_cl, mm_w, mm_wl, mm_ite, mm_i2l, mm_l2i, mm_ltJ, mm_leJ, mm_eqJ, mm_clt, mm_cle, mm_cgt, mm_cge, mm_ceq, mm_b, mm_nb, mm_nb0, mm_nb1, mm_vb0, mm_vb1, mm_vbc, mm_vy0, mm_vy1, mm_at, mm_ne, mm_nj, mm_Lw, mm_Nw, mm_atJ, mm_neJ, mm_njJ, zbI_s, zbV_s, zbJ_s, cond_t, Bool.true_and, Bool.and_true, if_true, if_false, not_true, not_false_iff, Classical.not_not, zel_r, zel_42, zel_12, zel_71, zel_80, zel_89, zel_110, zel_188, zel_103, zel_195, zr_o, zr_1, zr_2, zr_3, zr_4, zr_5, zr_6, zr_7, zr_8, zr_9, zq_o, zq_v, zt_o, zt_1, zt_2, zt_3, zt_4, zt_5, zf_o, zf_1, za_w1, za_w2, za_w3, za_cm, za_sl, Int.toNat_natCast, Int.toNat_natCast_add_one, mm_t0, mm_t1, mm_t2, mm_t3, mm_t4, mm_t5, mm_t6, mm_t7, mm_t8, mm_t9, mm_t10, mm_t11, mm_t12, mm_t13, za_1, za_64, za_65, za_66, za_67, za_68, za_71, za_80, za_89, za_98, za_103, za_110, za_121, za_122, za_123, za_124, za_125, za_126, za_188, za_193, za_194, za_195, za_286, za_288, za_289, za_290, za_291, za_292, za_293, za_294, za_295, za_296, za_297, za_298, za_299, za_300, za_301, za_302, za_303, za_304, za_305, za_306, za_307, za_308, za_309, za_310, za_311, za_312]
                     first | done | omega) ?_
    refine zwp_IE (sp_33 hW hL1 hl1 hC) ?_
    intro τ hs
    have hC2 : ccC τ W c (W 7) := hC.fr fun b _ _ => hs.k b
    by_cases q : rl W c = -1
    · rw [if_pos q, if_pos q, if_pos q]
      refine zwp_f (by rw [q]; exact fun p => p rfl) ?_
      refine zwp_ret ⟨?_, hf.tr (hs.m _), hC2, fun o o0 o1 => (hs.k _ _).trans (hv o o0 o1)⟩
      rw [Int.add_zero]
    · rw [if_neg q, if_neg q, if_neg q]
      obtain ⟨r0, r1, r2, r3⟩ := rr.resolve_left q
      refine zwp_t (by try simp (disch := first | assumption | exact isR33 | exact isT104 | exact isF99 | exact isF101 | exact isR3 | omega | (refine isTk ?_; omega) | (refine isOk isR33 ?_; omega) | (refine isOk ?_ ?_; assumption; omega)) only [mm_r, mm_rl, mm_add, mm_sub, mm_mul, mm_addJ, mm_mulJ, mm_lt, mm_le, mm_eq, mm_z, mm_cl, mm_w, mm_wl, mm_ite, mm_i2l, mm_l2i, mm_ltJ, mm_leJ, mm_eqJ, mm_clt, mm_cle, mm_cgt, mm_cge, mm_ceq, mm_b, mm_nb, mm_nb0, mm_nb1, mm_vb0, mm_vb1, mm_vbc, mm_vy0, mm_vy1, mm_at, mm_ne, mm_nj, mm_Lw, mm_Nw, mm_atJ, mm_neJ, mm_njJ, zbI_s, zbV_s, zbJ_s, cond_t, Bool.true_and, Bool.and_true, if_true, if_false, not_true, not_false_iff, Classical.not_not, zel_r, zel_42, zel_12, zel_71, zel_80, zel_89, zel_110, zel_188, zel_103, zel_195, zr_o, zr_1, zr_2, zr_3, zr_4, zr_5, zr_6, zr_7, zr_8, zr_9, zq_o, zq_v, zt_o, zt_1, zt_2, zt_3, zt_4, zt_5, zf_o, zf_1, za_w1, za_w2, za_w3, za_cm, za_sl, Int.toNat_natCast, Int.toNat_natCast_add_one, mm_t0, mm_t1, mm_t2, mm_t3, mm_t4, mm_t5, mm_t6, mm_t7, mm_t8, mm_t9, mm_t10, mm_t11, mm_t12, mm_t13, za_1, za_64, za_65, za_66, za_67, za_68, za_71, za_80, za_89, za_98, za_103, za_110, za_121, za_122, za_123, za_124, za_125, za_126, za_188, za_193, za_194, za_195, za_286, za_288, za_289, za_290, za_291, za_292, za_293, za_294, za_295, za_296, za_297, za_298, za_299, za_300, za_301, za_302, za_303, za_304, za_305, za_306, za_307, za_308, za_309, za_310, za_311, za_312]; first | done | omega) ?_
      have hL2 : cL τ 33 W := hL1.fr (by omega) fun a a1 a2 => hs.k a
      have hl2 : lrn τ W := fun p p0 p1 x x0 x1 => (hs.k _ _).trans (hl1 p p0 p1 x x0 x1)
      have f0 := (fh_rng h1 c (rl W c)).resolve_left r3
      unfold nxc
      generalize rl W c = o at r0 r1 r2 r3 f0 ⊢
      refine zwp_IE (sp_32 hW hL2 hl2 hC2 r0 r1 r2) ?_
      intro υ hs2
      generalize fh W c o = s at f0 ⊢
      have hsu : same σ υ := hs.tr hs2
      refine zwp_cd (by simp (disch := first | assumption | exact isR33 | exact isT104 | exact isF99 | exact isF101 | exact isR3 | omega | (refine isTk ?_; omega) | (refine isOk isR33 ?_; omega) | (refine isOk ?_ ?_; assumption; omega)) only [mm_r, mm_rl, mm_add, mm_sub, mm_mul, mm_addJ, mm_mulJ, mm_lt, mm_le, mm_eq, mm_z, mm_cl, mm_w, mm_wl, mm_ite, mm_i2l, mm_l2i, mm_ltJ, mm_leJ, mm_eqJ, mm_clt, mm_cle, mm_cgt, mm_cge, mm_ceq, mm_b, mm_nb, mm_nb0, mm_nb1, mm_vb0, mm_vb1, mm_vbc, mm_vy0, mm_vy1, mm_at, mm_ne, mm_nj, mm_Lw, mm_Nw, mm_atJ, mm_neJ, mm_njJ, zbI_s, zbV_s, zbJ_s, cond_t, Bool.true_and, Bool.and_true, if_true, if_false, not_true, not_false_iff, Classical.not_not, zel_r, zel_42, zel_12, zel_71, zel_80, zel_89, zel_110, zel_188, zel_103, zel_195, zr_o, zr_1, zr_2, zr_3, zr_4, zr_5, zr_6, zr_7, zr_8, zr_9, zq_o, zq_v, zt_o, zt_1, zt_2, zt_3, zt_4, zt_5, zf_o, zf_1, za_w1, za_w2, za_w3, za_cm, za_sl, Int.toNat_natCast, Int.toNat_natCast_add_one, mm_t0, mm_t1, mm_t2, mm_t3, mm_t4, mm_t5, mm_t6, mm_t7, mm_t8, mm_t9, mm_t10, mm_t11, mm_t12, mm_t13, za_1, za_64, za_65, za_66, za_67, za_68, za_71, za_80, za_89, za_98, za_103, za_110, za_121, za_122, za_123, za_124, za_125, za_126, za_188, za_193, za_194, za_195, za_286, za_288, za_289, za_290, za_291, za_292, za_293, za_294, za_295, za_296, za_297, za_298, za_299, za_300, za_301, za_302, za_303, za_304, za_305, za_306, za_307, za_308, za_309, za_310, za_311, za_312]) ?_
      refine zwp_letE (τ' := zw υ 122 o.toNat s) (by simp (disch := first | assumption | exact isR33 | exact isT104 | exact isF99 | exact isF101 | exact isR3 | omega | (refine isTk ?_; omega) | (refine isOk isR33 ?_; omega) | (refine isOk ?_ ?_; assumption; omega)) only [mm_r, mm_rl, mm_add, mm_sub, mm_mul, mm_addJ, mm_mulJ, mm_lt, mm_le, mm_eq, mm_z, mm_cl, mm_w, mm_wl, mm_ite, mm_i2l, mm_l2i, mm_ltJ, mm_leJ, mm_eqJ, mm_clt, mm_cle, mm_cgt, mm_cge, mm_ceq, mm_b, mm_nb, mm_nb0, mm_nb1, mm_vb0, mm_vb1, mm_vbc, mm_vy0, mm_vy1, mm_at, mm_ne, mm_nj, mm_Lw, mm_Nw, mm_atJ, mm_neJ, mm_njJ, zbI_s, zbV_s, zbJ_s, cond_t, Bool.true_and, Bool.and_true, if_true, if_false, not_true, not_false_iff, Classical.not_not, zel_r, zel_42, zel_12, zel_71, zel_80, zel_89, zel_110, zel_188, zel_103, zel_195, zr_o, zr_1, zr_2, zr_3, zr_4, zr_5, zr_6, zr_7, zr_8, zr_9, zq_o, zq_v, zt_o, zt_1, zt_2, zt_3, zt_4, zt_5, zf_o, zf_1, za_w1, za_w2, za_w3, za_cm, za_sl, Int.toNat_natCast, Int.toNat_natCast_add_one, mm_t0, mm_t1, mm_t2, mm_t3, mm_t4, mm_t5, mm_t6, mm_t7, mm_t8, mm_t9, mm_t10, mm_t11, mm_t12, mm_t13, za_1, za_64, za_65, za_66, za_67, za_68, za_71, za_80, za_89, za_98, za_103, za_110, za_121, za_122, za_123, za_124, za_125, za_126, za_188, za_193, za_194, za_195, za_286, za_288, za_289, za_290, za_291, za_292, za_293, za_294, za_295, za_296, za_297, za_298, za_299, za_300, za_301, za_302, za_303, za_304, za_305, za_306, za_307, za_308, za_309, za_310, za_311, za_312]) ?_
      refine zwp_cd (by simp (disch := first | assumption | exact isR33 | exact isT104 | exact isF99 | exact isF101 | exact isR3 | omega | (refine isTk ?_; omega) | (refine isOk isR33 ?_; omega) | (refine isOk ?_ ?_; assumption; omega)) only [mm_r, mm_rl, mm_add, mm_sub, mm_mul, mm_addJ, mm_mulJ, mm_lt, mm_le, mm_eq, mm_z, mm_cl, mm_w, mm_wl, mm_ite, mm_i2l, mm_l2i, mm_ltJ, mm_leJ, mm_eqJ, mm_clt, mm_cle, mm_cgt, mm_cge, mm_ceq, mm_b, mm_nb, mm_nb0, mm_nb1, mm_vb0, mm_vb1, mm_vbc, mm_vy0, mm_vy1, mm_at, mm_ne, mm_nj, mm_Lw, mm_Nw, mm_atJ, mm_neJ, mm_njJ, zbI_s, zbV_s, zbJ_s, cond_t, Bool.true_and, Bool.and_true, if_true, if_false, not_true, not_false_iff, Classical.not_not, zel_r, zel_42, zel_12, zel_71, zel_80, zel_89, zel_110, zel_188, zel_103, zel_195, zr_o, zr_1, zr_2, zr_3, zr_4, zr_5, zr_6, zr_7, zr_8, zr_9, zq_o, zq_v, zt_o, zt_1, zt_2, zt_3, zt_4, zt_5, zf_o, zf_1, za_w1, za_w2, za_w3, za_cm, za_sl, Int.toNat_natCast, Int.toNat_natCast_add_one, mm_t0, mm_t1, mm_t2, mm_t3, mm_t4, mm_t5, mm_t6, mm_t7, mm_t8, mm_t9, mm_t10, mm_t11, mm_t12, mm_t13, za_1, za_64, za_65, za_66, za_67, za_68, za_71, za_80, za_89, za_98, za_103, za_110, za_121, za_122, za_123, za_124, za_125, za_126, za_188, za_193, za_194, za_195, za_286, za_288, za_289, za_290, za_291, za_292, za_293, za_294, za_295, za_296, za_297, za_298, za_299, za_300, za_301, za_302, za_303, za_304, za_305, za_306, za_307, za_308, za_309, za_310, za_311, za_312]) ?_
      have e122 : zN (zw υ 122 o.toNat s) 122 o.toNat = s := mm_at rfl rfl (by omega) (by omega)
      have e2 : zN (zw υ 122 o.toNat s) 33 2 = W 1 := (mm_ne (by decide)).trans ((hsu.k 33 2).trans hL1.1.2.2.1)
      have rc := CMh_rng hW (h := s) r0 r1 (by omega) (by omega)
      have eC : CMs W o s = CMh W (FL W noD) o s := if_pos ⟨by omega, by omega⟩
      rw [mm_cl (by omega) (by omega), mm_r (zw υ 122 o.toNat s) 122 o.toNat, e122, sp_17c (h := s) hW e2 r0 r1 (fun x x0 x1 => (mm_ne (by omega)).trans ((hsu.k _ _).trans (hl1 o r0 r1 x x0 x1))) (by omega) (by omega), zbI_s, eC]
      refine zwp_cd (by simp (disch := first | assumption | exact isR33 | exact isT104 | exact isF99 | exact isF101 | exact isR3 | omega | (refine isTk ?_; omega) | (refine isOk isR33 ?_; omega) | (refine isOk ?_ ?_; assumption; omega)) only [mm_r, mm_rl, mm_add, mm_sub, mm_mul, mm_addJ, mm_mulJ, mm_lt, mm_le, mm_eq, mm_z, mm_cl, mm_w, mm_wl, mm_ite, mm_i2l, mm_l2i, mm_ltJ, mm_leJ, mm_eqJ, mm_clt, mm_cle, mm_cgt, mm_cge, mm_ceq, mm_b, mm_nb, mm_nb0, mm_nb1, mm_vb0, mm_vb1, mm_vbc, mm_vy0, mm_vy1, mm_at, mm_ne, mm_nj, mm_Lw, mm_Nw, mm_atJ, mm_neJ, mm_njJ, zbI_s, zbV_s, zbJ_s, cond_t, Bool.true_and, Bool.and_true, if_true, if_false, not_true, not_false_iff, Classical.not_not, zel_r, zel_42, zel_12, zel_71, zel_80, zel_89, zel_110, zel_188, zel_103, zel_195, zr_o, zr_1, zr_2, zr_3, zr_4, zr_5, zr_6, zr_7, zr_8, zr_9, zq_o, zq_v, zt_o, zt_1, zt_2, zt_3, zt_4, zt_5, zf_o, zf_1, za_w1, za_w2, za_w3, za_cm, za_sl, Int.toNat_natCast, Int.toNat_natCast_add_one, mm_t0, mm_t1, mm_t2, mm_t3, mm_t4, mm_t5, mm_t6, mm_t7, mm_t8, mm_t9, mm_t10, mm_t11, mm_t12, mm_t13, za_1, za_64, za_65, za_66, za_67, za_68, za_71, za_80, za_89, za_98, za_103, za_110, za_121, za_122, za_123, za_124, za_125, za_126, za_188, za_193, za_194, za_195, za_286, za_288, za_289, za_290, za_291, za_292, za_293, za_294, za_295, za_296, za_297, za_298, za_299, za_300, za_301, za_302, za_303, za_304, za_305, za_306, za_307, za_308, za_309, za_310, za_311, za_312]) ?_
      refine zwp_letE (τ' := zw (zw υ 122 o.toNat s) 68 o.toNat (CMh W (FL W noD) o s)) (by simp (disch := first | assumption | exact isR33 | exact isT104 | exact isF99 | exact isF101 | exact isR3 | omega | (refine isTk ?_; omega) | (refine isOk isR33 ?_; omega) | (refine isOk ?_ ?_; assumption; omega)) only [mm_r, mm_rl, mm_add, mm_sub, mm_mul, mm_addJ, mm_mulJ, mm_lt, mm_le, mm_eq, mm_z, mm_cl, mm_w, mm_wl, mm_ite, mm_i2l, mm_l2i, mm_ltJ, mm_leJ, mm_eqJ, mm_clt, mm_cle, mm_cgt, mm_cge, mm_ceq, mm_b, mm_nb, mm_nb0, mm_nb1, mm_vb0, mm_vb1, mm_vbc, mm_vy0, mm_vy1, mm_at, mm_ne, mm_nj, mm_Lw, mm_Nw, mm_atJ, mm_neJ, mm_njJ, zbI_s, zbV_s, zbJ_s, cond_t, Bool.true_and, Bool.and_true, if_true, if_false, not_true, not_false_iff, Classical.not_not, zel_r, zel_42, zel_12, zel_71, zel_80, zel_89, zel_110, zel_188, zel_103, zel_195, zr_o, zr_1, zr_2, zr_3, zr_4, zr_5, zr_6, zr_7, zr_8, zr_9, zq_o, zq_v, zt_o, zt_1, zt_2, zt_3, zt_4, zt_5, zf_o, zf_1, za_w1, za_w2, za_w3, za_cm, za_sl, Int.toNat_natCast, Int.toNat_natCast_add_one, mm_t0, mm_t1, mm_t2, mm_t3, mm_t4, mm_t5, mm_t6, mm_t7, mm_t8, mm_t9, mm_t10, mm_t11, mm_t12, mm_t13, za_1, za_64, za_65, za_66, za_67, za_68, za_71, za_80, za_89, za_98, za_103, za_110, za_121, za_122, za_123, za_124, za_125, za_126, za_188, za_193, za_194, za_195, za_286, za_288, za_289, za_290, za_291, za_292, za_293, za_294, za_295, za_296, za_297, za_298, za_299, za_300, za_301, za_302, za_303, za_304, za_305, za_306, za_307, za_308, za_309, za_310, za_311, za_312]) ?_
      have hC3 : ccC (zw (zw υ 122 o.toNat s) 68 o.toNat (CMh W (FL W noD) o s)) W (cup c o (CMh W (FL W noD) o s)) (W 7) := ((hC.fr fun b _ _ => hsu.k b).fr fun b _ _ k => mm_ne (by omega)).cup r0 (by omega) (by omega)
      have l := lp_34_39 hW hL0 hl0 n1 k (m + 1) _ (cup hh o s) _ (by omega) (((hf.tr (hsu.m _)).zw 122 _ _ (.inr rfl)).zw 68 _ _ (.inl rfl)) hC3 (fun p p0 p1 => by
        rw [mm_ne (by decide)]
        show _ = if p = o then s else hh p
        by_cases z : p = o
        · rw [if_pos z, z, e122]
        · rw [if_neg z, mm_nj (by omega)]
          exact (hsu.k _ _).trans (hv p p0 p1))
      rw [mm_add]
      rw [show (m : Int) + (1 + stN W k (cup c o (CMh W (FL W noD) o s))) = ((m + 1 : Nat) : Int) + stN W k (cup c o (CMh W (FL W noD) o s)) by omega]
      exact l
theorem lp_34_2 {σ0 : zM} {W : Int → Int} {n : Int} (hW : WOK W) (hL0 : cL σ0 33 W) (hl0 : lrn σ0 W) (hC0 : ccC σ0 W (CM W noD) (W 7)) (n0 : 0 ≤ n) (n1 : n ≤ 50) : ∀ (k i : Nat) (σ : zM), (i : Int) + k = W 5 → mf (fun b => b = 122) σ0 σ → (∀ o, 0 ≤ o → o < (i : Int) → zN σ 122 o.toNat = oo W o 6) → zwp (zev 34 2 [some (.ref 69), some (.int (Int32.ofInt n)), some (.int (Int32.ofInt i)), none] [] σ) (fun v τ => v = some (.int (Int32.ofInt (stN W n.toNat (CM W noD)))) ∧ mf (fun b => b = 68 ∨ b = 122) σ0 τ ∧ ccC τ W (stc W n.toNat (CM W noD)) (W 7) ∧ ∀ o, 0 ≤ o → o < W 5 → zN τ 122 o.toNat = stH W n.toNat (CM W noD) (fun o => oo W o 6) o)
  | 0, i, σ, e, hf, hv => by
    have h5 := hW.2.2.1
    have e7 := (hf.1 33 (by decide) 7).trans hL0.1.2.2.2.2.2.2.2
    refine zwp_of (fun r h => ze_34_2 _ _ _ r h) ?_
    refine zwp_t (by try simp (disch := first | assumption | exact isR33 | exact isT104 | exact isF99 | exact isF101 | exact isR3 | omega | (refine isTk ?_; omega) | (refine isOk isR33 ?_; omega) | (refine isOk ?_ ?_; assumption; omega)) only [mm_r, mm_rl, mm_add, mm_sub, mm_mul, mm_addJ, mm_mulJ, mm_lt, mm_le, mm_eq, mm_z, mm_cl, mm_w, mm_wl, mm_ite, mm_i2l, mm_l2i, mm_ltJ, mm_leJ, mm_eqJ, mm_clt, mm_cle, mm_cgt, mm_cge, mm_ceq, mm_b, mm_nb, mm_nb0, mm_nb1, mm_vb0, mm_vb1, mm_vbc, mm_vy0, mm_vy1, mm_at, mm_ne, mm_nj, mm_Lw, mm_Nw, mm_atJ, mm_neJ, mm_njJ, zbI_s, zbV_s, zbJ_s, cond_t, Bool.true_and, Bool.and_true, if_true, if_false, not_true, not_false_iff, Classical.not_not, zel_r, zel_42, zel_12, zel_71, zel_80, zel_89, zel_110, zel_188, zel_103, zel_195, zr_o, zr_1, zr_2, zr_3, zr_4, zr_5, zr_6, zr_7, zr_8, zr_9, zq_o, zq_v, zt_o, zt_1, zt_2, zt_3, zt_4, zt_5, zf_o, zf_1, za_w1, za_w2, za_w3, za_cm, za_sl, Int.toNat_natCast, Int.toNat_natCast_add_one, mm_t0, mm_t1, mm_t2, mm_t3, mm_t4, mm_t5, mm_t6, mm_t7, mm_t8, mm_t9, mm_t10, mm_t11, mm_t12, mm_t13, za_1, za_64, za_65, za_66, za_67, za_68, za_71, za_80, za_89, za_98, za_103, za_110, za_121, za_122, za_123, za_124, za_125, za_126, za_188, za_193, za_194, za_195, za_286, za_288, za_289, za_290, za_291, za_292, za_293, za_294, za_295, za_296, za_297, za_298, za_299, za_300, za_301, za_302, za_303, za_304, za_305, za_306, za_307, za_308, za_309, za_310, za_311, za_312, e7]
                     first | done | omega) ?_
    have l := lp_34_39 (σ0 := σ0) hW hL0 hl0 n1 n.toNat 0 (CM W noD) (fun o => oo W o 6) σ (by omega) (hf.mono (by omega)) (hC0.fr fun b _ _ => hf.1 b (by omega)) (fun o o0 o1 => hv o o0 (by omega))
    rw [show ((0 : Nat) : Int) + stN W n.toNat (CM W noD) = stN W n.toNat (CM W noD) by omega] at l
    exact l
  | k + 1, i, σ, e, hf, hv => by
    have h5 := hW.2.2.1
    have hL1 : cL σ 33 W := hL0.fr (by omega) fun a a1 a2 => hf.1 a (by omega)
    have e7 := hL1.1.2.2.2.2.2.2.2
    have e6 := (hL1.2.2.2.2 i (by omega) (by omega)).2.2.2.2.2.2.1
    rw [Int.toNat_natCast] at e6
    have b6 := (hW.2.2.2.2 i (by omega) (by omega)).1.2.2.2.2.2.2.2
    refine zwp_of (fun r h => ze_34_2 _ _ _ r h) ?_
    refine zwp_f (by try simp (disch := first | assumption | exact isR33 | exact isT104 | exact isF99 | exact isF101 | exact isR3 | omega | (refine isTk ?_; omega) | (refine isOk isR33 ?_; omega) | (refine isOk ?_ ?_; assumption; omega)) only [mm_r, mm_rl, mm_add, mm_sub, mm_mul, mm_addJ, mm_mulJ, mm_lt, mm_le, mm_eq, mm_z, mm_cl, mm_w, mm_wl, mm_ite, mm_i2l, mm_l2i, mm_ltJ, mm_leJ, mm_eqJ, mm_clt, mm_cle, mm_cgt, mm_cge, mm_ceq, mm_b, mm_nb, mm_nb0, mm_nb1, mm_vb0, mm_vb1, mm_vbc, mm_vy0, mm_vy1, mm_at, mm_ne, mm_nj, mm_Lw, mm_Nw, mm_atJ, mm_neJ, mm_njJ, zbI_s, zbV_s, zbJ_s, cond_t, Bool.true_and, Bool.and_true, if_true, if_false, not_true, not_false_iff, Classical.not_not, zel_r, zel_42, zel_12, zel_71, zel_80, zel_89, zel_110, zel_188, zel_103, zel_195, zr_o, zr_1, zr_2, zr_3, zr_4, zr_5, zr_6, zr_7, zr_8, zr_9, zq_o, zq_v, zt_o, zt_1, zt_2, zt_3, zt_4, zt_5, zf_o, zf_1, za_w1, za_w2, za_w3, za_cm, za_sl, Int.toNat_natCast, Int.toNat_natCast_add_one, mm_t0, mm_t1, mm_t2, mm_t3, mm_t4, mm_t5, mm_t6, mm_t7, mm_t8, mm_t9, mm_t10, mm_t11, mm_t12, mm_t13, za_1, za_64, za_65, za_66, za_67, za_68, za_71, za_80, za_89, za_98, za_103, za_110, za_121, za_122, za_123, za_124, za_125, za_126, za_188, za_193, za_194, za_195, za_286, za_288, za_289, za_290, za_291, za_292, za_293, za_294, za_295, za_296, za_297, za_298, za_299, za_300, za_301, za_302, za_303, za_304, za_305, za_306, za_307, za_308, za_309, za_310, za_311, za_312, e7]
                     first | done | omega) ?_
    repeat (with_reducible refine zwp_cd ?_ ?_; (· simp (disch := first | assumption | exact isR33 | exact isT104 | exact isF99 | exact isF101 | exact isR3 | omega | (refine isTk ?_; omega) | (refine isOk isR33 ?_; omega) | (refine isOk ?_ ?_; assumption; omega)) only [mm_r, mm_rl, mm_add, mm_sub, mm_mul, mm_addJ, mm_mulJ, mm_lt, mm_le, mm_eq, mm_z, mm_cl, mm_w, mm_wl, mm_ite, mm_i2l, mm_l2i, mm_ltJ, mm_leJ, mm_eqJ, mm_clt, mm_cle, mm_cgt, mm_cge, mm_ceq, mm_b, mm_nb, mm_nb0, mm_nb1, mm_vb0, mm_vb1, mm_vbc, mm_vy0, mm_vy1, mm_at, mm_ne, mm_nj, mm_Lw, mm_Nw, mm_atJ, mm_neJ, mm_njJ, zbI_s, zbV_s, zbJ_s, cond_t, Bool.true_and, Bool.and_true, if_true, if_false, not_true, not_false_iff, Classical.not_not, zel_r, zel_42, zel_12, zel_71, zel_80, zel_89, zel_110, zel_188, zel_103, zel_195, zr_o, zr_1, zr_2, zr_3, zr_4, zr_5, zr_6, zr_7, zr_8, zr_9, zq_o, zq_v, zt_o, zt_1, zt_2, zt_3, zt_4, zt_5, zf_o, zf_1, za_w1, za_w2, za_w3, za_cm, za_sl, Int.toNat_natCast, Int.toNat_natCast_add_one, mm_t0, mm_t1, mm_t2, mm_t3, mm_t4, mm_t5, mm_t6, mm_t7, mm_t8, mm_t9, mm_t10, mm_t11, mm_t12, mm_t13, za_1, za_64, za_65, za_66, za_67, za_68, za_71, za_80, za_89, za_98, za_103, za_110, za_121, za_122, za_123, za_124, za_125, za_126, za_188, za_193, za_194, za_195, za_286, za_288, za_289, za_290, za_291, za_292, za_293, za_294, za_295, za_296, za_297, za_298, za_299, za_300, za_301, za_302, za_303, za_304, za_305, za_306, za_307, za_308, za_309, za_310, za_311, za_312]))
    refine zwp_letE (τ' := zw σ 122 i (oo W i 6)) (by simp (disch := first | assumption | exact isR33 | exact isT104 | exact isF99 | exact isF101 | exact isR3 | omega | (refine isTk ?_; omega) | (refine isOk isR33 ?_; omega) | (refine isOk ?_ ?_; assumption; omega)) only [mm_r, mm_rl, mm_add, mm_sub, mm_mul, mm_addJ, mm_mulJ, mm_lt, mm_le, mm_eq, mm_z, mm_cl, mm_w, mm_wl, mm_ite, mm_i2l, mm_l2i, mm_ltJ, mm_leJ, mm_eqJ, mm_clt, mm_cle, mm_cgt, mm_cge, mm_ceq, mm_b, mm_nb, mm_nb0, mm_nb1, mm_vb0, mm_vb1, mm_vbc, mm_vy0, mm_vy1, mm_at, mm_ne, mm_nj, mm_Lw, mm_Nw, mm_atJ, mm_neJ, mm_njJ, zbI_s, zbV_s, zbJ_s, cond_t, Bool.true_and, Bool.and_true, if_true, if_false, not_true, not_false_iff, Classical.not_not, zel_r, zel_42, zel_12, zel_71, zel_80, zel_89, zel_110, zel_188, zel_103, zel_195, zr_o, zr_1, zr_2, zr_3, zr_4, zr_5, zr_6, zr_7, zr_8, zr_9, zq_o, zq_v, zt_o, zt_1, zt_2, zt_3, zt_4, zt_5, zf_o, zf_1, za_w1, za_w2, za_w3, za_cm, za_sl, Int.toNat_natCast, Int.toNat_natCast_add_one, mm_t0, mm_t1, mm_t2, mm_t3, mm_t4, mm_t5, mm_t6, mm_t7, mm_t8, mm_t9, mm_t10, mm_t11, mm_t12, mm_t13, za_1, za_64, za_65, za_66, za_67, za_68, za_71, za_80, za_89, za_98, za_103, za_110, za_121, za_122, za_123, za_124, za_125, za_126, za_188, za_193, za_194, za_195, za_286, za_288, za_289, za_290, za_291, za_292, za_293, za_294, za_295, za_296, za_297, za_298, za_299, za_300, za_301, za_302, za_303, za_304, za_305, za_306, za_307, za_308, za_309, za_310, za_311, za_312, e6]) ?_
    rw [mm_add]
    refine lp_34_2 hW hL0 hl0 hC0 n0 n1 k (i + 1) _ (by omega) (hf.zw 122 _ _ rfl) (fun o o0 o1 => ?_)
    by_cases z : o = i
    · rw [z, Int.toNat_natCast, mm_at rfl rfl (by omega) (by omega)]
    · rw [mm_nj (by omega)]
      exact hv o o0 (by omega)
theorem sp_34 {σ : zM} {W : Int → Int} {n : Int} (hW : WOK W) (hL : cL σ 33 W) (hl : lrn σ W) (hC : ccC σ W (CM W noD) (W 7)) (n0 : 0 ≤ n) (n1 : n ≤ 50) : zwp (zcall 34 [.ref 69, .int (Int32.ofInt n)] σ) (fun v τ => v = some (.int (Int32.ofInt (stN W n.toNat (CM W noD)))) ∧ mf (fun b => b = 68 ∨ b = 122) σ τ ∧ ccC τ W (stc W n.toNat (CM W noD)) (W 7) ∧ ∀ o, 0 ≤ o → o < W 5 → zN τ 122 o.toNat = stH W n.toNat (CM W noD) (fun o => oo W o 6) o) := by
  refine zwp_of (fun r h => zcc_34 (ze_34_0 _ _ r h)) ?_
  exact lp_34_2 hW hL hl hC n0 n1 (W 5).toNat 0 σ (by have := hW.2.2.1; omega) mf.rf (fun o o0 o1 => by omega)
/-- recall: behind thoughts all come as they are sent -/
theorem lp_14 {σ0 : zM} {W : Int → Int} (hW : WOK W) (hL0 : cL σ0 33 W) (hT0 : ∀ o, 0 ≤ o → o < W 5 → tC σ0 (127 + 6 * o.toNat) W (WAY W o) ∧ ((WAY W o).1 ≠ 0 → tmC σ0 (127 + 6 * o.toNat) W (FL W noD) (WAY W o) (oo W o 6) (pac W o) (res W o) (WAY W o).1.toNat ((WAY W o).1 - 1).toNat)) : ∀ (k i : Nat) (σ : zM), (i : Int) + k = W 5 → mf (fun b => b = 68) σ0 σ → (∀ o, 0 ≤ o → o < (i : Int) → zN σ 68 o.toNat = CM W noD o) → zwp (zev 14 2 [some (.ref 69), some (.int (Int32.ofInt i))] [] σ) (fun v τ => v = none ∧ mf (fun b => b = 68) σ0 τ ∧ ∀ o, 0 ≤ o → o < W 5 → zN τ 68 o.toNat = CM W noD o)
  | 0, i, σ, e, hf, hv => by
    have h5 := hW.2.2.1
    have e7 := (hf.1 33 (by decide) 7).trans hL0.1.2.2.2.2.2.2.2
    refine zwp_of (fun r h => ze_14_2 _ _ r h) ?_
    refine zwp_t (by try simp (disch := first | assumption | exact isR33 | exact isT104 | exact isF99 | exact isF101 | exact isR3 | omega | (refine isTk ?_; omega) | (refine isOk isR33 ?_; omega) | (refine isOk ?_ ?_; assumption; omega)) only [mm_r, mm_rl, mm_add, mm_sub, mm_mul, mm_addJ, mm_mulJ, mm_lt, mm_le, mm_eq, mm_z, mm_cl, mm_w, mm_wl, mm_ite, mm_i2l, mm_l2i, mm_ltJ, mm_leJ, mm_eqJ, mm_clt, mm_cle, mm_cgt, mm_cge, mm_ceq, mm_b, mm_nb, mm_nb0, mm_nb1, mm_vb0, mm_vb1, mm_vbc, mm_vy0, mm_vy1, mm_at, mm_ne, mm_nj, mm_Lw, mm_Nw, mm_atJ, mm_neJ, mm_njJ, zbI_s, zbV_s, zbJ_s, cond_t, Bool.true_and, Bool.and_true, if_true, if_false, not_true, not_false_iff, Classical.not_not, zel_r, zel_42, zel_12, zel_71, zel_80, zel_89, zel_110, zel_188, zel_103, zel_195, zr_o, zr_1, zr_2, zr_3, zr_4, zr_5, zr_6, zr_7, zr_8, zr_9, zq_o, zq_v, zt_o, zt_1, zt_2, zt_3, zt_4, zt_5, zf_o, zf_1, za_w1, za_w2, za_w3, za_cm, za_sl, Int.toNat_natCast, Int.toNat_natCast_add_one, mm_t0, mm_t1, mm_t2, mm_t3, mm_t4, mm_t5, mm_t6, mm_t7, mm_t8, mm_t9, mm_t10, mm_t11, mm_t12, mm_t13, za_1, za_64, za_65, za_66, za_67, za_68, za_71, za_80, za_89, za_98, za_103, za_110, za_121, za_122, za_123, za_124, za_125, za_126, za_188, za_193, za_194, za_195, za_286, za_288, za_289, za_290, za_291, za_292, za_293, za_294, za_295, za_296, za_297, za_298, za_299, za_300, za_301, za_302, za_303, za_304, za_305, za_306, za_307, za_308, za_309, za_310, za_311, za_312, e7]
                     first | done | omega) ?_
    exact zwp_ret ⟨rfl, hf, fun o o0 o1 => hv o o0 (by omega)⟩
  | k + 1, i, σ, e, hf, hv => by
    have h5 := hW.2.2.1
    have h9 := hW.1.2.2.1
    have hL1 : cL σ 33 W := hL0.fr (by omega) fun a a1 a2 => hf.1 a (by omega)
    have e7 := hL1.1.2.2.2.2.2.2.2
    have e2 := hL1.1.2.2.1
    obtain ⟨t1, t2⟩ := hT0 i (by omega) (by omega)
    rw [Int.toNat_natCast] at t1 t2
    have e0 : zN σ (127 + 6 * i) 0 = (WAY W i).1 := (hf.1 _ (by omega) _).trans t1.1
    have hord := (hW.2.2.2.2 i (by omega) (by omega)).1
    have hN := (WAY_N hW.1.1 hord).1
    have hord' := hord
    obtain ⟨-, -, -, -, -, -, -, b0, b1, -, -, p0, p1, s0, s1⟩ := hord'
    have bw : 0 ≤ (WAY W i).1 ∧ (WAY W i).1 ≤ 29 := by rcases hN with q | q <;> omega
    have cr := CMw_rng (F := FL W noD) hW.1 hN b0 b1 p0 p1 s0 s1
    have c1 := cr.2.1
    have c2 := cr.2.2.1
    have e96 : (if 0 ≤ (WAY W i).1 - 1 ∧ (WAY W i).1 - 1 < (WAY W i).1 then tI W (FL W noD) (WAY W i) (oo W i 6) (pac W i) (res W i) ((WAY W i).1 - 1).toNat else -1) = if (WAY W i).1 = 0 then -1 else tI W (FL W noD) (WAY W i) (oo W i 6) (pac W i) (res W i) ((WAY W i).1 - 1).toNat := by
      by_cases q : (WAY W i).1 = 0
      · rw [if_neg (by omega), if_pos q]
      · rw [if_pos (by omega), if_neg q]
    have s96 := sp_96 (a := 127 + 6 * i) (i := (WAY W i).1 - 1) (N := (WAY W i).1) (T := fun j => tI W (FL W noD) (WAY W i) (oo W i 6) (pac W i) (res W i) j) (σ := σ) (isTk (by omega)) (by omega) (by omega) e0 bw.2 bw.1 (fun h0 h1 => (hf.1 _ (by omega) _).trans ((t2 (by omega)).1 _ (by omega)))
    rw [e96] at s96
    refine zwp_of (fun r h => ze_14_2 _ _ r h) ?_
    refine zwp_f (by try simp (disch := first | assumption | exact isR33 | exact isT104 | exact isF99 | exact isF101 | exact isR3 | omega | (refine isTk ?_; omega) | (refine isOk isR33 ?_; omega) | (refine isOk ?_ ?_; assumption; omega)) only [mm_r, mm_rl, mm_add, mm_sub, mm_mul, mm_addJ, mm_mulJ, mm_lt, mm_le, mm_eq, mm_z, mm_cl, mm_w, mm_wl, mm_ite, mm_i2l, mm_l2i, mm_ltJ, mm_leJ, mm_eqJ, mm_clt, mm_cle, mm_cgt, mm_cge, mm_ceq, mm_b, mm_nb, mm_nb0, mm_nb1, mm_vb0, mm_vb1, mm_vbc, mm_vy0, mm_vy1, mm_at, mm_ne, mm_nj, mm_Lw, mm_Nw, mm_atJ, mm_neJ, mm_njJ, zbI_s, zbV_s, zbJ_s, cond_t, Bool.true_and, Bool.and_true, if_true, if_false, not_true, not_false_iff, Classical.not_not, zel_r, zel_42, zel_12, zel_71, zel_80, zel_89, zel_110, zel_188, zel_103, zel_195, zr_o, zr_1, zr_2, zr_3, zr_4, zr_5, zr_6, zr_7, zr_8, zr_9, zq_o, zq_v, zt_o, zt_1, zt_2, zt_3, zt_4, zt_5, zf_o, zf_1, za_w1, za_w2, za_w3, za_cm, za_sl, Int.toNat_natCast, Int.toNat_natCast_add_one, mm_t0, mm_t1, mm_t2, mm_t3, mm_t4, mm_t5, mm_t6, mm_t7, mm_t8, mm_t9, mm_t10, mm_t11, mm_t12, mm_t13, za_1, za_64, za_65, za_66, za_67, za_68, za_71, za_80, za_89, za_98, za_103, za_110, za_121, za_122, za_123, za_124, za_125, za_126, za_188, za_193, za_194, za_195, za_286, za_288, za_289, za_290, za_291, za_292, za_293, za_294, za_295, za_296, za_297, za_298, za_299, za_300, za_301, za_302, za_303, za_304, za_305, za_306, za_307, za_308, za_309, za_310, za_311, za_312, e7]
                     first | done | omega) ?_
    repeat (with_reducible refine zwp_cd ?_ ?_; (· simp (disch := first | assumption | exact isR33 | exact isT104 | exact isF99 | exact isF101 | exact isR3 | omega | (refine isTk ?_; omega) | (refine isOk isR33 ?_; omega) | (refine isOk ?_ ?_; assumption; omega)) only [mm_r, mm_rl, mm_add, mm_sub, mm_mul, mm_addJ, mm_mulJ, mm_lt, mm_le, mm_eq, mm_z, mm_cl, mm_w, mm_wl, mm_ite, mm_i2l, mm_l2i, mm_ltJ, mm_leJ, mm_eqJ, mm_clt, mm_cle, mm_cgt, mm_cge, mm_ceq, mm_b, mm_nb, mm_nb0, mm_nb1, mm_vb0, mm_vb1, mm_vbc, mm_vy0, mm_vy1, mm_at, mm_ne, mm_nj, mm_Lw, mm_Nw, mm_atJ, mm_neJ, mm_njJ, zbI_s, zbV_s, zbJ_s, cond_t, Bool.true_and, Bool.and_true, if_true, if_false, not_true, not_false_iff, Classical.not_not, zel_r, zel_42, zel_12, zel_71, zel_80, zel_89, zel_110, zel_188, zel_103, zel_195, zr_o, zr_1, zr_2, zr_3, zr_4, zr_5, zr_6, zr_7, zr_8, zr_9, zq_o, zq_v, zt_o, zt_1, zt_2, zt_3, zt_4, zt_5, zf_o, zf_1, za_w1, za_w2, za_w3, za_cm, za_sl, Int.toNat_natCast, Int.toNat_natCast_add_one, mm_t0, mm_t1, mm_t2, mm_t3, mm_t4, mm_t5, mm_t6, mm_t7, mm_t8, mm_t9, mm_t10, mm_t11, mm_t12, mm_t13, za_1, za_64, za_65, za_66, za_67, za_68, za_71, za_80, za_89, za_98, za_103, za_110, za_121, za_122, za_123, za_124, za_125, za_126, za_188, za_193, za_194, za_195, za_286, za_288, za_289, za_290, za_291, za_292, za_293, za_294, za_295, za_296, za_297, za_298, za_299, za_300, za_301, za_302, za_303, za_304, za_305, za_306, za_307, za_308, za_309, za_310, za_311, za_312]))
    rw [show zcall 96 [.ref (zel 106 103 (Int32.ofInt (i : Int)).toNatClampNeg), .int ((zI σ (zel 106 103 (Int32.ofInt (i : Int)).toNatClampNeg) 0) - (Int32.ofInt (1)))] σ = some (some (.int (Int32.ofInt (if (WAY W i).1 = 0 then -1 else tI W (FL W noD) (WAY W i) (oo W i 6) (pac W i) (res W i) ((WAY W i).1 - 1).toNat))), σ) by
      simp (disch := first | assumption | exact isR33 | exact isT104 | exact isF99 | exact isF101 | exact isR3 | omega | (refine isTk ?_; omega) | (refine isOk isR33 ?_; omega) | (refine isOk ?_ ?_; assumption; omega)) only [mm_r, mm_rl, mm_add, mm_sub, mm_mul, mm_addJ, mm_mulJ, mm_lt, mm_le, mm_eq, mm_z, mm_cl, mm_w, mm_wl, mm_ite, mm_i2l, mm_l2i, mm_ltJ, mm_leJ, mm_eqJ, mm_clt, mm_cle, mm_cgt, mm_cge, mm_ceq, mm_b, mm_nb, mm_nb0, mm_nb1, mm_vb0, mm_vb1, mm_vbc, mm_vy0, mm_vy1, mm_at, mm_ne, mm_nj, mm_Lw, mm_Nw, mm_atJ, mm_neJ, mm_njJ, zbI_s, zbV_s, zbJ_s, cond_t, Bool.true_and, Bool.and_true, if_true, if_false, not_true, not_false_iff, Classical.not_not, zel_r, zel_42, zel_12, zel_71, zel_80, zel_89, zel_110, zel_188, zel_103, zel_195, zr_o, zr_1, zr_2, zr_3, zr_4, zr_5, zr_6, zr_7, zr_8, zr_9, zq_o, zq_v, zt_o, zt_1, zt_2, zt_3, zt_4, zt_5, zf_o, zf_1, za_w1, za_w2, za_w3, za_cm, za_sl, Int.toNat_natCast, Int.toNat_natCast_add_one, mm_t0, mm_t1, mm_t2, mm_t3, mm_t4, mm_t5, mm_t6, mm_t7, mm_t8, mm_t9, mm_t10, mm_t11, mm_t12, mm_t13, za_1, za_64, za_65, za_66, za_67, za_68, za_71, za_80, za_89, za_98, za_103, za_110, za_121, za_122, za_123, za_124, za_125, za_126, za_188, za_193, za_194, za_195, za_286, za_288, za_289, za_290, za_291, za_292, za_293, za_294, za_295, za_296, za_297, za_298, za_299, za_300, za_301, za_302, za_303, za_304, za_305, za_306, za_307, za_308, za_309, za_310, za_311, za_312, e0]
      exact s96]
    rw [zbI_s, sp_12w hW.1 hN b0 b1 p0 p1 s0 s1 e2, zbI_s]
    change -1 ≤ CM W noD i at c1
    change CM W noD i < 99 at c2
    change zwp (cond _ (zlet (zsI σ 68 _ (Int32.ofInt (CM W noD i))) _) none) _
    refine zwp_cd (by simp (disch := first | assumption | exact isR33 | exact isT104 | exact isF99 | exact isF101 | exact isR3 | omega | (refine isTk ?_; omega) | (refine isOk isR33 ?_; omega) | (refine isOk ?_ ?_; assumption; omega)) only [mm_r, mm_rl, mm_add, mm_sub, mm_mul, mm_addJ, mm_mulJ, mm_lt, mm_le, mm_eq, mm_z, mm_cl, mm_w, mm_wl, mm_ite, mm_i2l, mm_l2i, mm_ltJ, mm_leJ, mm_eqJ, mm_clt, mm_cle, mm_cgt, mm_cge, mm_ceq, mm_b, mm_nb, mm_nb0, mm_nb1, mm_vb0, mm_vb1, mm_vbc, mm_vy0, mm_vy1, mm_at, mm_ne, mm_nj, mm_Lw, mm_Nw, mm_atJ, mm_neJ, mm_njJ, zbI_s, zbV_s, zbJ_s, cond_t, Bool.true_and, Bool.and_true, if_true, if_false, not_true, not_false_iff, Classical.not_not, zel_r, zel_42, zel_12, zel_71, zel_80, zel_89, zel_110, zel_188, zel_103, zel_195, zr_o, zr_1, zr_2, zr_3, zr_4, zr_5, zr_6, zr_7, zr_8, zr_9, zq_o, zq_v, zt_o, zt_1, zt_2, zt_3, zt_4, zt_5, zf_o, zf_1, za_w1, za_w2, za_w3, za_cm, za_sl, Int.toNat_natCast, Int.toNat_natCast_add_one, mm_t0, mm_t1, mm_t2, mm_t3, mm_t4, mm_t5, mm_t6, mm_t7, mm_t8, mm_t9, mm_t10, mm_t11, mm_t12, mm_t13, za_1, za_64, za_65, za_66, za_67, za_68, za_71, za_80, za_89, za_98, za_103, za_110, za_121, za_122, za_123, za_124, za_125, za_126, za_188, za_193, za_194, za_195, za_286, za_288, za_289, za_290, za_291, za_292, za_293, za_294, za_295, za_296, za_297, za_298, za_299, za_300, za_301, za_302, za_303, za_304, za_305, za_306, za_307, za_308, za_309, za_310, za_311, za_312]) ?_
    refine zwp_letE (τ' := zw σ 68 i (CM W noD i)) (by simp (disch := first | assumption | exact isR33 | exact isT104 | exact isF99 | exact isF101 | exact isR3 | omega | (refine isTk ?_; omega) | (refine isOk isR33 ?_; omega) | (refine isOk ?_ ?_; assumption; omega)) only [mm_r, mm_rl, mm_add, mm_sub, mm_mul, mm_addJ, mm_mulJ, mm_lt, mm_le, mm_eq, mm_z, mm_cl, mm_w, mm_wl, mm_ite, mm_i2l, mm_l2i, mm_ltJ, mm_leJ, mm_eqJ, mm_clt, mm_cle, mm_cgt, mm_cge, mm_ceq, mm_b, mm_nb, mm_nb0, mm_nb1, mm_vb0, mm_vb1, mm_vbc, mm_vy0, mm_vy1, mm_at, mm_ne, mm_nj, mm_Lw, mm_Nw, mm_atJ, mm_neJ, mm_njJ, zbI_s, zbV_s, zbJ_s, cond_t, Bool.true_and, Bool.and_true, if_true, if_false, not_true, not_false_iff, Classical.not_not, zel_r, zel_42, zel_12, zel_71, zel_80, zel_89, zel_110, zel_188, zel_103, zel_195, zr_o, zr_1, zr_2, zr_3, zr_4, zr_5, zr_6, zr_7, zr_8, zr_9, zq_o, zq_v, zt_o, zt_1, zt_2, zt_3, zt_4, zt_5, zf_o, zf_1, za_w1, za_w2, za_w3, za_cm, za_sl, Int.toNat_natCast, Int.toNat_natCast_add_one, mm_t0, mm_t1, mm_t2, mm_t3, mm_t4, mm_t5, mm_t6, mm_t7, mm_t8, mm_t9, mm_t10, mm_t11, mm_t12, mm_t13, za_1, za_64, za_65, za_66, za_67, za_68, za_71, za_80, za_89, za_98, za_103, za_110, za_121, za_122, za_123, za_124, za_125, za_126, za_188, za_193, za_194, za_195, za_286, za_288, za_289, za_290, za_291, za_292, za_293, za_294, za_295, za_296, za_297, za_298, za_299, za_300, za_301, za_302, za_303, za_304, za_305, za_306, za_307, za_308, za_309, za_310, za_311, za_312]) ?_
    rw [mm_add]
    refine lp_14 hW hL0 hT0 k (i + 1) _ (by omega) (hf.zw 68 _ _ rfl) (fun o o0 o1 => ?_)
    by_cases z : o = i
    · rw [z, Int.toNat_natCast, mm_at rfl rfl (by omega) (by omega)]
    · rw [mm_nj (by omega)]
      exact hv o o0 (by omega)
theorem sp_14 {σ0 σ : zM} {W : Int → Int} (hW : WOK W) (hC : ctC σ0 W) (hf : mf (fun b => b = 68 ∨ b = 69 ∨ 101 ≤ b ∧ b ≤ 102 ∨ 104 ≤ b ∧ b ≤ 109 ∨ 122 ≤ b ∧ b ≤ 126) σ0 σ) : zwp (zcall 14 [.ref 69] σ) (fun v τ => v = none ∧ mf (fun b => b = 68) σ τ ∧ ctC τ W) := by
  have h5 := hW.2.2.1
  refine zwp_of (fun r h => zcc_14 (ze_14_0 _ r h)) ?_
  refine zwp_mono (lp_14 (σ0 := σ) hW (hC.1.fr (by omega) fun a a1 a2 => hf.1 a (by omega)) (fun o o0 o1 => ?_) (W 5).toNat 0 σ (by omega) mf.rf (fun o o0 o1 => by omega)) ?_
  · have hv := (hC.2.2.2.2 o o0 o1).2.1
    exact ⟨hv.1.fr fun b b0 b1 => hf.1 b (by omega), fun p => (hv.2.1 p).fr (hf.1 _ (by omega)) (hf.1 _ (by omega))⟩
  · rintro v τ ⟨rfl, hg, hv⟩
    refine ⟨rfl, hg, hC.fq hW (fun b hb k => (hg.1 b (by omega) k).trans (hf.1 b (by omega) k)) ((hg.1 63 (by omega) 0).trans (hf.1 63 (by omega) 0)) ((hg.1 63 (by omega) 1).trans (hf.1 63 (by omega) 1)) (fun b b0 b1 k hk => ?_)⟩
    by_cases z : b = 68
    · have e1 := hv k (by omega) hk
      have e2 := (hC.2.2.2.2 k (by omega) hk).2.1.2.2
      rw [Int.toNat_natCast] at e1 e2
      rw [z, e1, e2]
    · exact (hg.1 b (by omega) k).trans (hf.1 b (by omega) k)
theorem ctC.lrn {σ : zM} {W : Int → Int} (h : ctC σ W) (hl : ∀ o, 0 ≤ o → o < W 5 → zN σ 121 o.toNat ≠ 0) : lrn σ W := fun o o0 o1 => (h.2.2.2.2 o o0 o1).2.2 (hl o o0 o1)
def Erest (W : Int → Int) : Int := if 0 < W 0 then rl W (CM W noD) else -2
def Erests (W : Int → Int) (n : Int) : Int := if 0 < W 0 ∧ 0 ≤ n ∧ n ≤ 50 then (if rl W (stc W n.toNat (CM W noD)) = -1 then stN W n.toNat (CM W noD) else -1) else -2
def Esent (W : Int → Int) (o n : Int) : Int := if inO W o ∧ 0 ≤ n ∧ n ≤ 50 then stH W n.toNat (CM W noD) (fun o => oo W o 6) o else -2
theorem cq_rest {σ : zM} {W : Int → Int} (hW : WOK W) (hC : ctC σ W) : zwp (zcall 132 [.ref 0] σ) (fun v τ => v = some (.int (Int32.ofInt (Erest W))) ∧ cK σ τ W) := by
  have e1 := hC.1.1.2.1
  unfold Erest
  refine zwp_of (fun r h => zcc_132 (ze_132_0 _ r h)) ?_
  rw [sp_76 isR33, zbI_s, e1]
  simp only [mm_z, mm_b, Classical.not_not]
  refine zwp_ite (fun q => ?_) (fun q => ?_)
  · rw [if_pos q]
    refine zwp_V _ (sp_16 hW hC) ?_
    rintro τ ⟨hk, -, hl⟩
    refine zwp_IE (sp_33 hW hk.2.1 (hk.2.lrn hl) hk.2.cc) ?_
    intro υ hs
    exact zwp_ret ⟨rfl, hk.same hW hs⟩
  · rw [if_neg q]
    exact zwp_ret ⟨rfl, cK.rf hC⟩
theorem cq_rests {σ : zM} {W : Int → Int} {n : Int} (hW : WOK W) (hC : ctC σ W) (hn0 : -2147483648 ≤ n) (hn1 : n < 2147483648) : zwp (zcall 133 [.ref 0, .int (Int32.ofInt n)] σ) (fun v τ => v = some (.int (Int32.ofInt (Erests W n))) ∧ cK σ τ W) := by
  have h5 := hW.2.2.1
  have e1 := hC.1.1.2.1
  unfold Erests
  refine zwp_of (fun r h => zcc_133 (ze_133_0 _ _ r h)) ?_
  rw [sp_76 isR33, zbI_s, e1]
  simp only [mm_z, mm_b]
  refine zwp_ite (fun q => ?_) (fun q => ?_)
  · rw [if_neg (fun p => q p.1)]
    exact zwp_ret ⟨rfl, cK.rf hC⟩
  · have q := Classical.not_not.mp q
    rw [sp_159 hn0 hn1, zbI_s]
    simp only [mm_b, Classical.not_not]
    refine zwp_ite (fun q2 => ?_) (fun q2 => ?_)
    · rw [if_pos (⟨q, q2⟩ : 0 < W 0 ∧ 0 ≤ n ∧ n ≤ 50)]
      refine zwp_V _ (sp_16 hW hC) ?_
      rintro τ ⟨hk, -, hl⟩
      refine zwp_IE (sp_34 hW hk.2.1 (hk.2.lrn hl) hk.2.cc q2.1 q2.2) ?_
      rintro υ ⟨hf, hc, -⟩
      have hL2 : cL υ 33 W := hk.2.1.fr (by omega) fun a a1 a2 => hf.1 a (by omega)
      have hl2 : lrn υ W := fun p p0 p1 x x0 x1 => (hf.1 _ (by omega) _).trans (hk.2.lrn hl p p0 p1 x x0 x1)
      refine zwp_IE (sp_33 hW hL2 hl2 hc) ?_
      intro ω hs
      have hf2 : mf (fun b => b = 68 ∨ b = 69 ∨ 101 ≤ b ∧ b ≤ 102 ∨ 104 ≤ b ∧ b ≤ 109 ∨ 122 ≤ b ∧ b ≤ 126) τ ω := (hf.mono (by omega)).tr (hs.m _)
      have rr := rl_rng h5.2.2.1 (stc W n.toNat (CM W noD))
      by_cases q3 : rl W (stc W n.toNat (CM W noD)) = -1
      · rw [if_pos q3]
        refine zwp_f (by rw [q3]; exact fun p => p rfl) ?_
        refine zwp_V _ (sp_14 hW hk.2 hf2) ?_
        rintro ψ ⟨hg, hC2⟩
        refine zwp_f (by decide) ?_
        exact zwp_ret ⟨rfl, (hk.1.tr (hf2.mono fun b hb => by unfold clsS; omega)).tr (hg.mono fun b hb => by unfold clsS; omega), hC2⟩
      · rw [if_neg q3]
        refine zwp_t (by try simp (disch := first | assumption | exact isR33 | exact isT104 | exact isF99 | exact isF101 | exact isR3 | omega | (refine isTk ?_; omega) | (refine isOk isR33 ?_; omega) | (refine isOk ?_ ?_; assumption; omega)) only [mm_r, mm_rl, mm_add, mm_sub, mm_mul, mm_addJ, mm_mulJ, mm_lt, mm_le, mm_eq, mm_z, mm_cl, mm_w, mm_wl, mm_ite, mm_i2l, mm_l2i, mm_ltJ, mm_leJ, mm_eqJ, mm_clt, mm_cle, mm_cgt, mm_cge, mm_ceq, mm_b, mm_nb, mm_nb0, mm_nb1, mm_vb0, mm_vb1, mm_vbc, mm_vy0, mm_vy1, mm_at, mm_ne, mm_nj, mm_Lw, mm_Nw, mm_atJ, mm_neJ, mm_njJ, zbI_s, zbV_s, zbJ_s, cond_t, Bool.true_and, Bool.and_true, if_true, if_false, not_true, not_false_iff, Classical.not_not, zel_r, zel_42, zel_12, zel_71, zel_80, zel_89, zel_110, zel_188, zel_103, zel_195, zr_o, zr_1, zr_2, zr_3, zr_4, zr_5, zr_6, zr_7, zr_8, zr_9, zq_o, zq_v, zt_o, zt_1, zt_2, zt_3, zt_4, zt_5, zf_o, zf_1, za_w1, za_w2, za_w3, za_cm, za_sl, Int.toNat_natCast, Int.toNat_natCast_add_one, mm_t0, mm_t1, mm_t2, mm_t3, mm_t4, mm_t5, mm_t6, mm_t7, mm_t8, mm_t9, mm_t10, mm_t11, mm_t12, mm_t13, za_1, za_64, za_65, za_66, za_67, za_68, za_71, za_80, za_89, za_98, za_103, za_110, za_121, za_122, za_123, za_124, za_125, za_126, za_188, za_193, za_194, za_195, za_286, za_288, za_289, za_290, za_291, za_292, za_293, za_294, za_295, za_296, za_297, za_298, za_299, za_300, za_301, za_302, za_303, za_304, za_305, za_306, za_307, za_308, za_309, za_310, za_311, za_312]; first | done | omega) ?_
        refine zwp_V _ (sp_14 hW hk.2 hf2) ?_
        rintro ψ ⟨hg, hC2⟩
        refine zwp_t (by decide) ?_
        exact zwp_ret ⟨rfl, (hk.1.tr (hf2.mono fun b hb => by unfold clsS; omega)).tr (hg.mono fun b hb => by unfold clsS; omega), hC2⟩
    · rw [if_neg (fun p => q2 p.2)]
      exact zwp_ret ⟨rfl, cK.rf hC⟩
theorem cq_sent {σ : zM} {W : Int → Int} {o n : Int} (hW : WOK W) (hC : ctC σ W) (ho0 : -2147483648 ≤ o) (ho1 : o < 2147483648) (hn0 : -2147483648 ≤ n) (hn1 : n < 2147483648) : zwp (zcall 134 [.ref 0, .int (Int32.ofInt o), .int (Int32.ofInt n)] σ) (fun v τ => v = some (.int (Int32.ofInt (Esent W o n))) ∧ cK σ τ W) := by
  have h5 := hW.2.2.1
  have e7 := hC.1.1.2.2.2.2.2.2.2
  have s := sp_79 (p := 33) (n := o) (σ := σ) isR33 (by omega) (by omega)
  rw [e7] at s
  unfold Esent
  refine zwp_of (fun r h => zcc_134 (ze_134_0 _ _ _ r h)) ?_
  rw [show (Int32.ofInt o).toInt64 = Int64.ofInt o from mm_i2l ho0 ho1, s, zbI_s]
  simp only [mm_z, mm_b]
  refine zwp_ite (fun q => ?_) (fun q => ?_)
  · rw [if_neg (fun p => q p.1)]
    exact zwp_ret ⟨rfl, cK.rf hC⟩
  · have q := Classical.not_not.mp q
    rw [sp_159 hn0 hn1, zbI_s]
    simp only [mm_b, Classical.not_not]
    refine zwp_ite (fun q2 => ?_) (fun q2 => ?_)
    · rw [if_pos (⟨q, q2⟩ : inO W o ∧ 0 ≤ n ∧ n ≤ 50)]
      refine zwp_V _ (sp_16 hW hC) ?_
      rintro τ ⟨hk, -, hl⟩
      refine zwp_IE (sp_34 hW hk.2.1 (hk.2.lrn hl) hk.2.cc q2.1 q2.2) ?_
      rintro υ ⟨hf, hc, hh⟩
      refine zwp_V _ (sp_14 hW hk.2 (hf.mono (by omega))) ?_
      rintro ψ ⟨hg, hC2⟩
      refine zwp_cd (by simp (disch := first | assumption | exact isR33 | exact isT104 | exact isF99 | exact isF101 | exact isR3 | omega | (refine isTk ?_; omega) | (refine isOk isR33 ?_; omega) | (refine isOk ?_ ?_; assumption; omega)) only [mm_r, mm_rl, mm_add, mm_sub, mm_mul, mm_addJ, mm_mulJ, mm_lt, mm_le, mm_eq, mm_z, mm_cl, mm_w, mm_wl, mm_ite, mm_i2l, mm_l2i, mm_ltJ, mm_leJ, mm_eqJ, mm_clt, mm_cle, mm_cgt, mm_cge, mm_ceq, mm_b, mm_nb, mm_nb0, mm_nb1, mm_vb0, mm_vb1, mm_vbc, mm_vy0, mm_vy1, mm_at, mm_ne, mm_nj, mm_Lw, mm_Nw, mm_atJ, mm_neJ, mm_njJ, zbI_s, zbV_s, zbJ_s, cond_t, Bool.true_and, Bool.and_true, if_true, if_false, not_true, not_false_iff, Classical.not_not, zel_r, zel_42, zel_12, zel_71, zel_80, zel_89, zel_110, zel_188, zel_103, zel_195, zr_o, zr_1, zr_2, zr_3, zr_4, zr_5, zr_6, zr_7, zr_8, zr_9, zq_o, zq_v, zt_o, zt_1, zt_2, zt_3, zt_4, zt_5, zf_o, zf_1, za_w1, za_w2, za_w3, za_cm, za_sl, Int.toNat_natCast, Int.toNat_natCast_add_one, mm_t0, mm_t1, mm_t2, mm_t3, mm_t4, mm_t5, mm_t6, mm_t7, mm_t8, mm_t9, mm_t10, mm_t11, mm_t12, mm_t13, za_1, za_64, za_65, za_66, za_67, za_68, za_71, za_80, za_89, za_98, za_103, za_110, za_121, za_122, za_123, za_124, za_125, za_126, za_188, za_193, za_194, za_195, za_286, za_288, za_289, za_290, za_291, za_292, za_293, za_294, za_295, za_296, za_297, za_298, za_299, za_300, za_301, za_302, za_303, za_304, za_305, za_306, za_307, za_308, za_309, za_310, za_311, za_312]) ?_
      rw [mm_cl (by omega) (by omega), mm_r, hg.1 122 (by omega), hh o q.1 q.2]
      exact zwp_ret ⟨rfl, (hk.1.tr (hf.mono fun b hb => by unfold clsS; omega)).tr (hg.mono fun b hb => by unfold clsS; omega), hC2⟩
    · rw [if_neg (fun p => q2 p.2)]
      exact zwp_ret ⟨rfl, cK.rf hC⟩
