/-! THE COURT: the class's riders follow the realm -/
theorem zwp_IE {o : Option zR} {k : Int32 → zM → Option zR} {Q : Option Value → zM → Prop} {E : Int} {P : zM → Prop} (h : zwp o (fun v τ => v = some (.int (Int32.ofInt E)) ∧ P τ)) (h2 : ∀ τ, P τ → zwp (k (Int32.ofInt E) τ) Q) : zwp (zbI o k) Q := by
  obtain ⟨v, τ, h1, rfl, h3⟩ := h
  rw [h1]
  exact h2 τ h3
/-- a realm as it may stand, all of it -/
def wOrd (W : Int → Int) (o : Int) : Prop := oOk W o ∧ oo W o 6 < W 1 ∧ 0 ≤ oo W o 1 ∧ oo W o 1 < 3 ∧ (oo W o 3 = -1 ∧ 0 ≤ oo W o 2 ∧ oo W o 2 ≤ 9 ∨ oo W o 2 = -1 ∧ 0 ≤ oo W o 3 ∧ oo W o 3 < o) ∧ oo W o 4 ≠ oo W o 5 ∧ oo W o 0 < W 4 ∧ (oo W o 11 = -1 ∨ 0 ≤ oo W o 11 ∧ oo W o 11 ≤ 9 ∧ 0 ≤ oo W o 12 ∧ oo W o 12 < W 0 ∧ 0 ≤ oo W o 13 ∧ oo W o 13 < W 1 ∧ oo W o 2 ≠ -1)
def WOK (W : Int → Int) : Prop := wRi W ∧ wFl W ∧ (0 ≤ W 4 ∧ W 4 ≤ 6 ∧ 0 ≤ W 5 ∧ W 5 ≤ 10 ∧ 0 ≤ W 6 ∧ W 6 ≤ 2000 ∧ 0 ≤ W 7 ∧ W 7 ≤ 99) ∧ (∀ i, 0 ≤ i → i < W 4 → 1 ≤ W (68 + 2 * i) ∧ W (68 + 2 * i) ≤ 9 ∧ 0 ≤ W (68 + 2 * i + 1) ∧ W (68 + 2 * i + 1) ≤ 20) ∧ ∀ o, 0 ≤ o → o < W 5 → wOrd W o
def CMh (W : Int → Int) (F : Int → Int → Bool) (o h : Int) : Int := CMw W F (WAY W o) h (pac W o) (res W o)
theorem CM_h (W : Int → Int) (D : Int → Int → Bool) (o : Int) : CM W D o = CMh W (FL W D) o (oo W o 6) := rfl
def sC (σ : zM) (W : Int → Int) (o : Int) : Prop := zN σ 64 o.toNat = oo W o 5 ∧ zN σ 65 o.toNat = oo W o 1 ∧ zN σ 66 o.toNat = oo W o 2 ∧ zN σ 67 o.toNat = oo W o 3
def vC (σ : zM) (W : Int → Int) (o : Int) : Prop := tC σ (127 + 6 * o.toNat) W (WAY W o) ∧ ((WAY W o).1 ≠ 0 → tmC σ (127 + 6 * o.toNat) W (FL W noD) (WAY W o) (oo W o 6) (pac W o) (res W o) (WAY W o).1.toNat ((WAY W o).1 - 1).toNat) ∧ zN σ 68 o.toNat = CM W noD o
def lC (σ : zM) (W : Int → Int) (o : Int) : Prop := zN σ 121 o.toNat ≠ 0 → ∀ h, 0 ≤ h → h < W 1 → zN σ (111 + o.toNat) h.toNat = CMh W (FL W noD) o h
def ctC (σ : zM) (W : Int → Int) : Prop := cL σ 33 W ∧ wyC σ W ∧ flC σ 99 (W 1) (FL W noD) ∧ (zN σ 63 0 = W 5 ∧ zN σ 63 1 = W 7) ∧ ∀ o, 0 ≤ o → o < W 5 → sC σ W o ∧ vC σ W o ∧ lC σ W o
theorem CMw_rng {W : Int → Int} {F : Int → Int → Bool} {w : wy} {h p r : Int} (hW : wRi W) (hw : wyN W 29 w) (h0 : 0 ≤ h) (h1 : h ≤ 200) (p0 : 1 ≤ p) (p1 : p ≤ 9) (r0 : 0 ≤ r) (r1 : r ≤ 20) : CMw W F w h p r = (let x := if w.1 = 0 then -1 else tI W F w h p r (w.1 - 1).toNat; if 0 ≤ x ∧ x < W 1 then x else -1) ∧ -1 ≤ CMw W F w h p r ∧ CMw W F w h p r < 99 ∧ (CMw W F w h p r ≠ -1 → h ≤ CMw W F w h p r) := by
  have hh := hW.2.2.1
  unfold CMw
  rcases hw with q | ⟨w0, w1, hw⟩
  · simp only [q, if_true]
    refine ⟨rfl, by omega, by omega, fun h => absurd rfl h⟩
  · have t := tI_rng hW.1 hh (F := F) hw h0 h1 p0 p1 r0 r1 (w.1 - 1).toNat (by omega)
    have e0 : ¬ w.1 = 0 := by omega
    simp only [if_neg e0]
    by_cases q : tI W F w h p r (w.1 - 1).toNat < W 1
    · rw [if_pos q, if_pos ⟨by omega, q⟩]
      exact ⟨rfl, by omega, by omega, fun _ => t.1⟩
    · rw [if_neg q, if_neg (fun h => q h.2)]
      exact ⟨rfl, by omega, by omega, fun h => absurd rfl h⟩
/-- an order of the class's land, with its rider -/
theorem sp_11 {a q : Nat} {W : Int → Int} {F : Int → Int → Bool} {w : wy} {o h : Int} {σ : zM} (ha : isTrip a) (hq : isFl q) (hW : WOK W) (o0 : 0 ≤ o) (o1 : o < W 5) (hL : cL σ 33 W) (hw : wyN W 29 w) (h0 : 0 ≤ h) (h1 : h ≤ 200) (hC : tC σ a W w) (hF : flC σ q (W 1) F) : zwp (zcall 11 [.ref 69, .int (Int32.ofInt o), .ref a, .ref q, .int (Int32.ofInt h)] σ) (fun v τ => v = some (.int (Int32.ofInt (if w.1 = 0 then -1 else tI W F w h (pac W o) (res W o) (w.1 - 1).toNat))) ∧ mf (fun b => b = a + 4 ∨ b = a + 5) σ τ ∧ (w.1 ≠ 0 → tmC τ a W F w h (pac W o) (res W o) w.1.toNat (w.1 - 1).toNat)) := by
  have hO := hL.2.2.2.2 o o0 o1
  have e0 := hO.1
  obtain ⟨ho, -, -, -, -, -, ho4, -⟩ := hW.2.2.2.2 o o0 o1
  have h5 := hW.2.2.1
  obtain ⟨-, -, -, -, -, -, -, -, -, r0, r1, p0, p1, s0, s1⟩ := ho
  obtain ⟨e7, e8⟩ := hL.2.2.2.1 (oo W o 0) r0 ho4
  change _ = pac W o at e7
  change _ = res W o at e8
  refine zwp_of (fun r h => zcc_11 (ze_11_0 _ _ _ _ _ r h)) ?_
  simp (disch := first | assumption | exact isR33 | exact isT104 | exact isF99 | exact isF101 | exact isR3 | omega | (refine isTk ?_; omega) | (refine isOk isR33 ?_; omega) | (refine isOk ?_ ?_; assumption; omega)) only [mm_r, mm_rl, mm_add, mm_sub, mm_mul, mm_addJ, mm_mulJ, mm_lt, mm_le, mm_eq, mm_z, mm_cl, mm_w, mm_wl, mm_ite, mm_i2l, mm_l2i, mm_ltJ, mm_leJ, mm_eqJ, mm_clt, mm_cle, mm_cgt, mm_cge, mm_ceq, mm_b, mm_nb, mm_nb0, mm_nb1, mm_vb0, mm_vb1, mm_vbc, mm_vy0, mm_vy1, mm_at, mm_ne, mm_nj, mm_Lw, mm_Nw, mm_atJ, mm_neJ, mm_njJ, zbI_s, zbV_s, zbJ_s, cond_t, Bool.true_and, Bool.and_true, if_true, if_false, not_true, not_false_iff, zel_r, zel_42, zel_12, zel_71, zel_80, zel_89, zel_110, zel_188, zel_103, zel_195, zr_o, zr_1, zr_2, zr_3, zr_4, zr_5, zr_6, zr_7, zr_8, zr_9, zq_o, zq_v, zt_o, zt_1, zt_2, zt_3, zt_4, zt_5, zf_o, zf_1, za_w1, za_w2, za_w3, za_cm, za_sl, Int.toNat_natCast, Int.toNat_natCast_add_one, mm_t0, mm_t1, mm_t2, mm_t3, mm_t4, mm_t5, mm_t6, mm_t7, mm_t8, mm_t9, mm_t10, mm_t11, mm_t12, mm_t13, za_1, za_64, za_65, za_66, za_67, za_68, za_71, za_80, za_89, za_98, za_103, za_110, za_121, za_122, za_123, za_124, za_125, za_126, za_188, za_193, za_194, za_195, za_286, za_288, za_289, za_290, za_291, za_292, za_293, za_294, za_295, za_296, za_297, za_298, za_299, za_300, za_301, za_302, za_303, za_304, za_305, za_306, za_307, za_308, za_309, za_310, za_311, za_312, e0, e7, e8]
  refine zwp_IE (sp_94 ha hq hW.1 hw h0 h1 p0 p1 s0 s1 hC hF) ?_
  intro τ g
  exact zwp_ret ⟨rfl, g⟩
theorem tC.fr6 {σ τ : zM} {a : Nat} {W : Int → Int} {w : wy} (h : tC σ a W w) {S : Nat → Prop} (hf : mf S σ τ) (hS : ∀ b, a ≤ b → b < a + 4 → ¬ S b) : tC τ a W w := h.fr fun b b0 b1 => hf.1 b (hS b b0 b1)
theorem sp_10 {W : Int → Int} {o : Int} {σ : zM} (hW : WOK W) (o0 : 0 ≤ o) (o1 : o < W 5) (hL : cL σ 33 W) (hC : tC σ (127 + 6 * o.toNat) W (WAY W o)) (hF : flC σ 99 (W 1) (FL W noD)) : zwp (zcall 10 [.ref 69, .int (Int32.ofInt o)] σ) (fun v τ => v = none ∧ mf (fun b => b = 68 ∨ b = 127 + 6 * o.toNat + 4 ∨ b = 127 + 6 * o.toNat + 5) σ τ ∧ vC τ W o ∧ ∀ k : Nat, (k : Int) ≠ o → zN τ 68 k = zN σ 68 k) := by
  have hO := hL.2.2.2.2 o o0 o1
  have e6 := hO.2.2.2.2.2.2.1
  have h5 := hW.2.2.1
  have hh := hW.1.2.2.1
  have hh0 := hW.1.2.1
  have ho := hW.2.2.2.2 o o0 o1
  have hN := (WAY_N hW.1.1 ho.1).1
  obtain ⟨-, -, -, -, -, -, -, t0, t1, -, -, p0, p1, s0, s1⟩ := ho.1
  have cr := CMw_rng (F := FL W noD) hW.1 hN t0 t1 p0 p1 s0 s1
  refine zwp_of (fun r h => zcc_10 (ze_10_0 _ _ r h)) ?_
  simp (disch := first | assumption | exact isR33 | exact isT104 | exact isF99 | exact isF101 | exact isR3 | omega | (refine isTk ?_; omega) | (refine isOk isR33 ?_; omega) | (refine isOk ?_ ?_; assumption; omega)) only [mm_r, mm_rl, mm_add, mm_sub, mm_mul, mm_addJ, mm_mulJ, mm_lt, mm_le, mm_eq, mm_z, mm_cl, mm_w, mm_wl, mm_ite, mm_i2l, mm_l2i, mm_ltJ, mm_leJ, mm_eqJ, mm_clt, mm_cle, mm_cgt, mm_cge, mm_ceq, mm_b, mm_nb, mm_nb0, mm_nb1, mm_vb0, mm_vb1, mm_vbc, mm_vy0, mm_vy1, mm_at, mm_ne, mm_nj, mm_Lw, mm_Nw, mm_atJ, mm_neJ, mm_njJ, zbI_s, zbV_s, zbJ_s, cond_t, Bool.true_and, Bool.and_true, if_true, if_false, not_true, not_false_iff, zel_r, zel_42, zel_12, zel_71, zel_80, zel_89, zel_110, zel_188, zel_103, zel_195, zr_o, zr_1, zr_2, zr_3, zr_4, zr_5, zr_6, zr_7, zr_8, zr_9, zq_o, zq_v, zt_o, zt_1, zt_2, zt_3, zt_4, zt_5, zf_o, zf_1, za_w1, za_w2, za_w3, za_cm, za_sl, Int.toNat_natCast, Int.toNat_natCast_add_one, mm_t0, mm_t1, mm_t2, mm_t3, mm_t4, mm_t5, mm_t6, mm_t7, mm_t8, mm_t9, mm_t10, mm_t11, mm_t12, mm_t13, za_1, za_64, za_65, za_66, za_67, za_68, za_71, za_80, za_89, za_98, za_103, za_110, za_121, za_122, za_123, za_124, za_125, za_126, za_188, za_193, za_194, za_195, za_286, za_288, za_289, za_290, za_291, za_292, za_293, za_294, za_295, za_296, za_297, za_298, za_299, za_300, za_301, za_302, za_303, za_304, za_305, za_306, za_307, za_308, za_309, za_310, za_311, za_312, e6]
  have hx : -2147483648 ≤ (if (WAY W o).1 = 0 then -1 else tI W (FL W noD) (WAY W o) (oo W o 6) (pac W o) (res W o) ((WAY W o).1 - 1).toNat) ∧ (if (WAY W o).1 = 0 then -1 else tI W (FL W noD) (WAY W o) (oo W o 6) (pac W o) (res W o) ((WAY W o).1 - 1).toNat) < 2147483648 := by
    rcases hN with q | ⟨q0, q1, q2⟩
    · rw [if_pos q]; omega
    · rw [if_neg (by omega)]
      have := tI_rng hW.1.1 hh (F := FL W noD) q2 t0 t1 p0 p1 s0 s1 ((WAY W o).1 - 1).toNat (by omega)
      omega
  refine zwp_IE (sp_11 (isTk (by omega)) isF99 hW o0 o1 hL hN t0 t1 hC hF) ?_
  rintro τ ⟨hf, ht⟩
  have e2 : zN τ 33 2 = W 1 := (hf.1 33 (by omega) 2).trans hL.1.2.2.1
  have ec := cr.1.symm
  have c1 := cr.2.1
  have c2 := cr.2.2.1
  change _ = CM W noD o at ec
  change _ ≤ CM W noD o at c1
  change CM W noD o < _ at c2
  generalize (if (WAY W o).1 = 0 then -1 else tI W (FL W noD) (WAY W o) (oo W o 6) (pac W o) (res W o) ((WAY W o).1 - 1).toNat) = n at hx ec ⊢
  have s12 := sp_12 (h := n) (σ := τ) hx.1 hx.2
  have ec' : (if 0 ≤ n ∧ n < zN τ 33 2 then n else -1) = CM W noD o := by
    rw [e2]
    exact ec
  rw [ec'] at s12
  rw [s12, zbI_s]
  repeat (with_reducible refine zwp_cd ?_ ?_; (· simp (disch := first | assumption | exact isR33 | exact isT104 | exact isF99 | exact isF101 | exact isR3 | omega | (refine isTk ?_; omega) | (refine isOk isR33 ?_; omega) | (refine isOk ?_ ?_; assumption; omega)) only [mm_r, mm_rl, mm_add, mm_sub, mm_mul, mm_addJ, mm_mulJ, mm_lt, mm_le, mm_eq, mm_z, mm_cl, mm_w, mm_wl, mm_ite, mm_i2l, mm_l2i, mm_ltJ, mm_leJ, mm_eqJ, mm_clt, mm_cle, mm_cgt, mm_cge, mm_ceq, mm_b, mm_nb, mm_nb0, mm_nb1, mm_vb0, mm_vb1, mm_vbc, mm_vy0, mm_vy1, mm_at, mm_ne, mm_nj, mm_Lw, mm_Nw, mm_atJ, mm_neJ, mm_njJ, zbI_s, zbV_s, zbJ_s, cond_t, Bool.true_and, Bool.and_true, if_true, if_false, not_true, not_false_iff, zel_r, zel_42, zel_12, zel_71, zel_80, zel_89, zel_110, zel_188, zel_103, zel_195, zr_o, zr_1, zr_2, zr_3, zr_4, zr_5, zr_6, zr_7, zr_8, zr_9, zq_o, zq_v, zt_o, zt_1, zt_2, zt_3, zt_4, zt_5, zf_o, zf_1, za_w1, za_w2, za_w3, za_cm, za_sl, Int.toNat_natCast, Int.toNat_natCast_add_one, mm_t0, mm_t1, mm_t2, mm_t3, mm_t4, mm_t5, mm_t6, mm_t7, mm_t8, mm_t9, mm_t10, mm_t11, mm_t12, mm_t13, za_1, za_64, za_65, za_66, za_67, za_68, za_71, za_80, za_89, za_98, za_103, za_110, za_121, za_122, za_123, za_124, za_125, za_126, za_188, za_193, za_194, za_195, za_286, za_288, za_289, za_290, za_291, za_292, za_293, za_294, za_295, za_296, za_297, za_298, za_299, za_300, za_301, za_302, za_303, za_304, za_305, za_306, za_307, za_308, za_309, za_310, za_311, za_312]))
  refine zwp_letE (τ' := zw τ 68 o.toNat (CM W noD o)) (by simp (disch := first | assumption | exact isR33 | exact isT104 | exact isF99 | exact isF101 | exact isR3 | omega | (refine isTk ?_; omega) | (refine isOk isR33 ?_; omega) | (refine isOk ?_ ?_; assumption; omega)) only [mm_r, mm_rl, mm_add, mm_sub, mm_mul, mm_addJ, mm_mulJ, mm_lt, mm_le, mm_eq, mm_z, mm_cl, mm_w, mm_wl, mm_ite, mm_i2l, mm_l2i, mm_ltJ, mm_leJ, mm_eqJ, mm_clt, mm_cle, mm_cgt, mm_cge, mm_ceq, mm_b, mm_nb, mm_nb0, mm_nb1, mm_vb0, mm_vb1, mm_vbc, mm_vy0, mm_vy1, mm_at, mm_ne, mm_nj, mm_Lw, mm_Nw, mm_atJ, mm_neJ, mm_njJ, zbI_s, zbV_s, zbJ_s, cond_t, Bool.true_and, Bool.and_true, if_true, if_false, not_true, not_false_iff, zel_r, zel_42, zel_12, zel_71, zel_80, zel_89, zel_110, zel_188, zel_103, zel_195, zr_o, zr_1, zr_2, zr_3, zr_4, zr_5, zr_6, zr_7, zr_8, zr_9, zq_o, zq_v, zt_o, zt_1, zt_2, zt_3, zt_4, zt_5, zf_o, zf_1, za_w1, za_w2, za_w3, za_cm, za_sl, Int.toNat_natCast, Int.toNat_natCast_add_one, mm_t0, mm_t1, mm_t2, mm_t3, mm_t4, mm_t5, mm_t6, mm_t7, mm_t8, mm_t9, mm_t10, mm_t11, mm_t12, mm_t13, za_1, za_64, za_65, za_66, za_67, za_68, za_71, za_80, za_89, za_98, za_103, za_110, za_121, za_122, za_123, za_124, za_125, za_126, za_188, za_193, za_194, za_195, za_286, za_288, za_289, za_290, za_291, za_292, za_293, za_294, za_295, za_296, za_297, za_298, za_299, za_300, za_301, za_302, za_303, za_304, za_305, za_306, za_307, za_308, za_309, za_310, za_311, za_312]) ?_
  refine zwp_ret ⟨rfl, (hf.mono (by omega)).zw _ _ _ (.inl rfl), ⟨?_, fun p => (ht p).fr (fun j => mm_ne (by omega)) (fun j => mm_ne (by omega)), mm_at rfl rfl (by omega) (by omega)⟩, fun k hk => ?_⟩
  · refine (hC.fr6 hf (by omega)).fr fun b b0 b1 j => mm_ne (by omega)
  · rw [mm_nj (by omega)]
    exact hf.1 68 (by omega) k
/-- a seat taken -/
theorem sp_1 {q : Nat} {W : Int → Int} {o n : Int} {σ : zM} (hq : isOrd q) (hq2 : q ≠ 63 ∧ q ≠ 64 ∧ q ≠ 65 ∧ q ≠ 66 ∧ q ≠ 67 ∧ q ≠ 68) (hO : cO σ q W o) (hn : zN σ 63 0 = n) (n0 : 0 ≤ n) (n1 : n < 11) : zcall 1 [.ref 63, .ref q] σ = some (none, zw (zw (zw (zw (zw (zw σ 64 n.toNat (oo W o 5)) 65 n.toNat (oo W o 1)) 66 n.toNat (oo W o 2)) 67 n.toNat (oo W o 3)) 68 n.toNat (-1)) 63 0 (n + 1)) := by
  have e1 := hO.2.1
  have e2 := hO.2.2.1
  have e3 := hO.2.2.2.1
  have e5 := hO.2.2.2.2.2.1
  refine zcc_1 (ze_1_0 _ _ _ ?_)
  simp (disch := first | assumption | exact isR33 | exact isT104 | exact isF99 | exact isF101 | exact isR3 | omega | (refine isTk ?_; omega) | (refine isOk isR33 ?_; omega) | (refine isOk ?_ ?_; assumption; omega)) only [mm_r, mm_rl, mm_add, mm_sub, mm_mul, mm_addJ, mm_mulJ, mm_lt, mm_le, mm_eq, mm_z, mm_cl, mm_w, mm_wl, mm_ite, mm_i2l, mm_l2i, mm_ltJ, mm_leJ, mm_eqJ, mm_clt, mm_cle, mm_cgt, mm_cge, mm_ceq, mm_b, mm_nb, mm_nb0, mm_nb1, mm_vb0, mm_vb1, mm_vbc, mm_vy0, mm_vy1, mm_at, mm_ne, mm_nj, mm_Lw, mm_Nw, mm_atJ, mm_neJ, mm_njJ, zbI_s, zbV_s, zbJ_s, cond_t, Bool.true_and, Bool.and_true, if_true, if_false, not_true, not_false_iff, zel_r, zel_42, zel_12, zel_71, zel_80, zel_89, zel_110, zel_188, zel_103, zel_195, zr_o, zr_1, zr_2, zr_3, zr_4, zr_5, zr_6, zr_7, zr_8, zr_9, zq_o, zq_v, zt_o, zt_1, zt_2, zt_3, zt_4, zt_5, zf_o, zf_1, za_w1, za_w2, za_w3, za_cm, za_sl, Int.toNat_natCast, Int.toNat_natCast_add_one, mm_t0, mm_t1, mm_t2, mm_t3, mm_t4, mm_t5, mm_t6, mm_t7, mm_t8, mm_t9, mm_t10, mm_t11, mm_t12, mm_t13, za_1, za_64, za_65, za_66, za_67, za_68, za_71, za_80, za_89, za_98, za_103, za_110, za_121, za_122, za_123, za_124, za_125, za_126, za_188, za_193, za_194, za_195, za_286, za_288, za_289, za_290, za_291, za_292, za_293, za_294, za_295, za_296, za_297, za_298, za_299, za_300, za_301, za_302, za_303, za_304, za_305, za_306, za_307, za_308, za_309, za_310, za_311, za_312, hn, e1, e2, e3, e5, zlet_s]
  rw [if_neg (by omega)]
