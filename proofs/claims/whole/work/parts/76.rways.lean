/-! CALLS: ways, best: the reference -/
theorem eqO.S {W W' : Int → Int} {o k h : Int} (hE : eqO W W' o) (o0 : 0 ≤ o) (hk : k = 0 ∨ 6 ≤ k) (k1 : k < 14) : eqO W (wS W' o k h) o := by
  refine ⟨fun j hj => ?_, fun p j p0 j0 j1 hj => ?_⟩
  · show (if j = 80 + 14 * o + k then h else W' j) = W j
    rw [if_neg (by omega)]
    exact hE.1 j hj
  · rw [oo_S (by omega) k1 j0 j1, if_neg (by omega)]
    exact hE.2 p j p0 j0 j1 hj
/-- W' is W with the order o as the rider r takes it at h by way of v -/
def wX (W W' : Int → Int) (o r v h : Int) : Prop := eqO W W' o ∧ oo W' o 0 = r ∧ oo W' o 6 = h ∧ oo W' o 7 = (if v = -1 then 0 else 1) ∧ oo W' o 8 = v
theorem wX_S {W W' : Int → Int} {o r v h : Int} (hE : eqO W W' o) (o0 : 0 ≤ o) : wX W (wS (wS (wS (wS W' o 0 r) o 6 h) o 7 (if v = -1 then 0 else 1)) o 8 v) o r v h := by
  refine ⟨(((hE.S o0 (.inl rfl) (by decide)).S o0 (.inr (by decide)) (by decide)).S o0 (.inr (by decide)) (by decide)).S o0 (.inr (by decide)) (by decide), ?_, ?_, ?_, ?_⟩
  · rw [oo_S (by decide) (by decide) (by decide) (by decide), if_neg (by omega), oo_S (by decide) (by decide) (by decide) (by decide), if_neg (by omega), oo_S (by decide) (by decide) (by decide) (by decide), if_neg (by omega), oo_S (by decide) (by decide) (by decide) (by decide), if_pos ⟨rfl, rfl⟩]
  · rw [oo_S (by decide) (by decide) (by decide) (by decide), if_neg (by omega), oo_S (by decide) (by decide) (by decide) (by decide), if_neg (by omega), oo_S (by decide) (by decide) (by decide) (by decide), if_pos ⟨rfl, rfl⟩]
  · rw [oo_S (by decide) (by decide) (by decide) (by decide), if_neg (by omega), oo_S (by decide) (by decide) (by decide) (by decide), if_pos ⟨rfl, rfl⟩]
  · rw [oo_S (by decide) (by decide) (by decide) (by decide), if_pos ⟨rfl, rfl⟩]
theorem wX.ok {W W' : Int → Int} {o r v h : Int} (hW : WOK W) (o0 : 0 ≤ o) (o1 : o < W 5) (r0 : 0 ≤ r) (r1 : r < W 4) (v0 : -1 ≤ v) (v1 : v < W 0) (h0 : 0 ≤ h) (h1 : h ≤ 200) (hX : wX W W' o r v h) : oOk W' o := by
  obtain ⟨hE, x0, x6, x7, x8⟩ := hX
  have h5 := hW.2.2.1
  have hp := hW.2.2.2.1 r r0 r1
  obtain ⟨a1, a2, a3, a4, -⟩ := (hW.2.2.2.2 o o0 o1).1
  have e : ∀ k, 1 ≤ k → k ≤ 5 → oo W' o k = oo W o k := fun k k0 k1 => hE.2 o k o0 (by omega) (by omega) (.inr ⟨k0, k1⟩)
  have e0 : W' 0 = W 0 := hE.1 0 (by decide)
  unfold oOk pac res
  rw [e 4 (by decide) (by decide), e 5 (by decide) (by decide), x0, x6, x7, e0, hE.1 _ (by omega), hE.1 _ (by omega)]
  refine ⟨a1, a2, a3, a4, by split <;> decide, by split <;> decide, fun i i0 i1 => ?_, h0, h1, r0, by omega, hp.1, hp.2.1, hp.2.2.1, hp.2.2.2⟩
  by_cases q : v = -1
  · rw [if_pos q] at i1
    omega
  · rw [if_neg q] at i1
    rw [show (8 : Int) + i = 8 by omega, x8]
    omega
theorem wX_CM {W W' : Int → Int} {o r v h : Int} (hW : WOK W) (o0 : 0 ≤ o) (r1 : r < 6) (hX : wX W W' o r v h) : CM W' noD o = Csd W o r v h := by
  obtain ⟨hE, x0, x6, x7, x8⟩ := hX
  have h2 := hW.1.1.2.2.2.1
  have h3 := hW.1.2.2.2.2
  have e : ∀ k, 1 ≤ k → k ≤ 5 → oo W' o k = oo W o k := fun k k0 k1 => hE.2 o k o0 (by omega) (by omega) (.inr ⟨k0, k1⟩)
  have ey : WAY W' o = wayBy W (oo W o 4) v (oo W o 5) := by
    unfold WAY
    rw [way_A h2 hE.1, e 4 (by decide) (by decide), e 5 (by decide) (by decide), x7]
    unfold way wayBy
    by_cases q : v = -1
    · rw [if_pos q, if_pos q]
      rfl
    · rw [if_neg q, if_neg q]
      show lead W (oo W o 5) 8 (lead W (oo W' o (8 + ((0 : Nat) : Int))) 8 _) = _
      rw [show (8 : Int) + ((0 : Nat) : Int) = 8 from rfl, x8]
      rfl
  unfold CM Csd
  rw [FL_A h3 hE.1, CMw_A h2 hE.1, ey, x6]
  unfold pac res
  rw [x0, hE.1 _ (by omega), hE.1 _ (by omega)]
theorem sp_234x {σ : zM} {W W' : Int → Int} {o x : Int} (hW : WOK W) (hE : eqO W W' o) (o0 : 0 ≤ o) (o1 : o < W 5) (ho' : oOk W' o) (x0 : -2147483648 ≤ x) (x1 : x < 2147483648) (hX : goX σ W W' o) : zwp (zcall 234 [.ref 287, .int (Int32.ofInt o), .int (Int32.ofInt x)] σ) (fun v τ => v = some (.int (Int32.ofInt (t01 (Pc W o x (CM W' noD o))))) ∧ goX τ W W' o ∧ mf (fun b => 295 ≤ b ∧ b ≤ 300) σ τ) := by
  have h5 := hW.2.2.1
  have h8 := hW.1.1.2.1
  obtain ⟨ho, -, g0, g1, -⟩ := hW.2.2.2.2 o o0 o1
  have a3 := ho.2.2.1
  have a4 := ho.2.2.2.1
  have r := BB_rng W (cup (CM W noD) o (CM W' noD o)) (W 7) (oo W o 5) (oo W o 1) x
  refine zwp_of (fun r h => zcc_234 (ze_234_0 _ _ _ r h)) ?_
  refine zwp_V _ (sp_209x hW hE o0 o1 ho' hX) ?_
  rintro τ ⟨hg, hr, hf⟩
  have e5 : rO τ 5 o = oo W o 5 := (rO_of hg.1 5 o).trans (hE.2 o 5 o0 (by decide) (by decide) (.inr ⟨by decide, by decide⟩))
  have e1 : rO τ 1 o = oo W o 1 := (hr.2.2.1 o o0 o1).1
  rw [sp_173r o0 (by omega) (by decide) (by decide), zbI_s, sp_173r o0 (by omega) (by decide) (by decide), zbI_s, e5, e1, sp_219c hW.un hr (by omega) (by omega) (by omega) (by omega) x0 x1, zbI_s]
  unfold t01 Pc
  simp only [decide_eq_true_eq]
  by_cases q : BB W (cup (CM W noD) o (CM W' noD o)) (W 7) (oo W o 5) (oo W o 1) x = o
  · refine zwp_f (by rw [q]; exact fun p => p rfl) ?_
    rw [if_pos q]
    exact zwp_ret ⟨rfl, hg, hf⟩
  · refine zwp_t (by try simp (disch := first | assumption | exact isR33 | exact isT104 | exact isF99 | exact isF101 | exact isR3 | omega | (refine isTk ?_; omega) | (refine isOk isR33 ?_; omega) | (refine isOk ?_ ?_; assumption; omega)) only [mm_r, mm_rl, mm_add, mm_sub, mm_mul, mm_addJ, mm_mulJ, mm_lt, mm_le, mm_eq, mm_z, mm_cl, mm_w, mm_wl, mm_ite, mm_i2l, mm_l2i, mm_ltJ, mm_leJ, mm_eqJ, mm_clt, mm_cle, mm_cgt, mm_cge, mm_ceq, mm_b, mm_nb, mm_nb0, mm_nb1, mm_vb0, mm_vb1, mm_vbc, mm_vy0, mm_vy1, mm_at, mm_ne, mm_nj, mm_Lw, mm_Nw, mm_atJ, mm_neJ, mm_njJ, zbI_s, zbV_s, zbJ_s, cond_t, Bool.true_and, Bool.and_true, if_true, if_false, not_true, not_false_iff, Classical.not_not, zel_r, zel_42, zel_12, zel_71, zel_80, zel_89, zel_110, zel_188, zel_103, zel_195, zr_o, zr_1, zr_2, zr_3, zr_4, zr_5, zr_6, zr_7, zr_8, zr_9, zq_o, zq_v, zt_o, zt_1, zt_2, zt_3, zt_4, zt_5, zf_o, zf_1, za_w1, za_w2, za_w3, za_cm, za_sl, Int.toNat_natCast, Int.toNat_natCast_add_one, mm_t0, mm_t1, mm_t2, mm_t3, mm_t4, mm_t5, mm_t6, mm_t7, mm_t8, mm_t9, mm_t10, mm_t11, mm_t12, mm_t13, za_1, za_64, za_65, za_66, za_67, za_68, za_71, za_80, za_89, za_98, za_103, za_110, za_121, za_122, za_123, za_124, za_125, za_126, za_188, za_193, za_194, za_195, za_286, za_288, za_289, za_290, za_291, za_292, za_293, za_294, za_295, za_296, za_297, za_298, za_299, za_300, za_301, za_302, za_303, za_304, za_305, za_306, za_307, za_308, za_309, za_310, za_311, za_312]
                     first | done | omega) ?_
    rw [if_neg q]
    exact zwp_ret ⟨rfl, hg, hf⟩
theorem goX.fr {σ τ : zM} {W W' : Int → Int} {o : Int} (h : goX σ W W' o) (hf : ∀ b, b = 288 ∨ 294 ≤ b ∧ b ≤ 300 → ∀ k, zN τ b k = zN σ b k) (h24 : zN τ 287 24 = zN σ 287 24) : goX τ W W' o := by
  obtain ⟨x1, x2, x3, x4, x5, x6⟩ := h
  refine ⟨(wv_eq (hf 288 (by omega))).trans x1, fun x y a b c d => (hf 294 (by omega) _).trans (x2 x y a b c d), fun j j0 j1 jn => ?_, (hf 299 (by omega) _).trans x4, (hf 300 (by omega) _).trans x5, h24.trans x6⟩
  obtain ⟨s1, s2, s3, s4⟩ := x3 j j0 j1 jn
  exact ⟨(hf 300 (by omega) _).trans s1, (hf 299 (by omega) _).trans s2, ⟨(hf 298 (by omega) _).trans s3.1, fun i i0 i1 => (hf 295 (by omega) _).trans (s3.2 i i0 i1)⟩, fun p => ⟨fun i i1 => (hf 296 (by omega) _).trans ((s4 p).1 i i1), fun i i1 i2 => (hf 297 (by omega) _).trans ((s4 p).2 i i1 i2)⟩⟩
/-- within the reference's search -/
def wT (σ1 σ : zM) (W : Int → Int) (o x cnt : Int) (B : Int → Int → Int → Prop) : Prop := (∃ W', goX σ W W' o ∧ eqO W W' o) ∧ mf (fun b => b = 287 ∨ b = 288 ∨ 294 ≤ b ∧ b ≤ 300) σ1 σ ∧ (∀ k, k < 29 ∨ 32 < k → zN σ 287 k = zN σ1 287 k) ∧ zN σ 287 29 = cnt ∧ ∃ a b c, bst W o x B a b c ∧ zN σ 287 30 = a ∧ zN σ 287 31 = b ∧ zN σ 287 32 = c ∧ (a = -1 → b = -1 ∧ c = -1) ∧ (cnt = 0 ↔ a = -1)
theorem wT.eq {σ1 σ : zM} {W : Int → Int} {o x cnt : Int} {B B' : Int → Int → Int → Prop} (h : wT σ1 σ W o x cnt B) (hB : ∀ r h v, sS W o x r h v → (B r h v ↔ B' r h v)) : wT σ1 σ W o x cnt B' := by
  obtain ⟨h1, h2, h3, h4, a, b, c, h5, h6⟩ := h
  exact ⟨h1, h2, h3, h4, a, b, c, h5.eq hB, h6⟩
theorem lp_238_c {σ1 τ : zM} {W W' : Int → Int} {o x r h v cnt a b c : Int} (hW : WOK W) (r0 : 0 ≤ r) (r1 : r < W 4) (h0 : 0 ≤ h) (h1 : h < W 1) (v0 : -1 ≤ v) (v1 : v < W 0) (c0 : 0 ≤ cnt) (c1 : cnt < 100000) (hg : goX τ W W' o) (hE : eqO W W' o) (hm : mf (fun b => b = 287 ∨ b = 288 ∨ 294 ≤ b ∧ b ≤ 300) σ1 τ) (hk : ∀ k, k < 29 ∨ 32 < k → zN τ 287 k = zN σ1 287 k) (h29 : zN τ 287 29 = cnt) (h30 : zN τ 287 30 = a) (h31 : zN τ 287 31 = b) (h32 : zN τ 287 32 = c) (hb : bst W o x (fun r' h' v' => lx r' h' v' r h v) a b c) (hn : a = -1 → b = -1 ∧ c = -1) (hz : cnt = 0 ↔ a = -1) {Q : Option Value → zM → Prop}
    (K : ∀ υ, wT σ1 υ W o x (cnt + t01 (Ps W o x r v h)) (fun r' h' v' => lx r' h' v' r h (v + 1)) → zwp (zev 238 79 [some (.ref 287), some (.int (Int32.ofInt o)), some (.int (Int32.ofInt x)), some (.int (Int32.ofInt r)), some (.int (Int32.ofInt h)), some (.int (Int32.ofInt (v + 1)))] [] υ) Q) :
    zwp (if ¬ (Int32.ofInt (t01 (Ps W o x r v h))) = 0 then if ¬ (zI τ 287 29) = 0 then zlet (zsI τ 287 29 ((zI τ 287 29) + (Int32.ofInt (1)))) (fun τ19 => zev 238 79 [some (.ref 287), some (.int (Int32.ofInt o)), some (.int (Int32.ofInt x)), some (.int (Int32.ofInt r)), some (.int (Int32.ofInt h)), some (.int ((Int32.ofInt v) + (Int32.ofInt (1))))] [] τ19) else zlet (zsI τ 287 30 (Int32.ofInt r)) (fun τ15 => zlet (zsI τ15 287 31 (Int32.ofInt h)) (fun τ16 => zlet (zsI τ16 287 32 (Int32.ofInt v)) (fun τ17 => zlet (zsI τ17 287 29 ((zI τ17 287 29) + (Int32.ofInt (1)))) (fun τ18 => zev 238 79 [some (.ref 287), some (.int (Int32.ofInt o)), some (.int (Int32.ofInt x)), some (.int (Int32.ofInt r)), some (.int (Int32.ofInt h)), some (.int ((Int32.ofInt v) + (Int32.ofInt (1))))] [] τ18)))) else zev 238 79 [some (.ref 287), some (.int (Int32.ofInt o)), some (.int (Int32.ofInt x)), some (.int (Int32.ofInt r)), some (.int (Int32.ofInt h)), some (.int ((Int32.ofInt v) + (Int32.ofInt (1))))] [] τ) Q := by
  have h9 := hW.1.2.2.1
  have h8 := hW.1.1.2.1
  have h5 := hW.2.2.1
  rw [mm_add]
  by_cases q : Ps W o x r v h = true
  · rw [q] at K ⊢
    have hs : sS W o x r h v := ⟨r0, r1, h0, h1, v0, v1, q⟩
    have t1 : t01 true = 1 := rfl
    rw [t1] at K ⊢
    refine zwp_t (by decide) ?_
    by_cases q2 : cnt = 0
    · refine zwp_f (by try simp (disch := first | assumption | exact isR33 | exact isT104 | exact isF99 | exact isF101 | exact isR3 | omega | (refine isTk ?_; omega) | (refine isOk isR33 ?_; omega) | (refine isOk ?_ ?_; assumption; omega)) only [mm_r, mm_rl, mm_add, mm_sub, mm_mul, mm_addJ, mm_mulJ, mm_lt, mm_le, mm_eq, mm_z, mm_cl, mm_w, mm_wl, mm_ite, mm_i2l, mm_l2i, mm_ltJ, mm_leJ, mm_eqJ, mm_clt, mm_cle, mm_cgt, mm_cge, mm_ceq, mm_b, mm_nb, mm_nb0, mm_nb1, mm_vb0, mm_vb1, mm_vbc, mm_vy0, mm_vy1, mm_at, mm_ne, mm_nj, mm_Lw, mm_Nw, mm_atJ, mm_neJ, mm_njJ, zbI_s, zbV_s, zbJ_s, cond_t, Bool.true_and, Bool.and_true, if_true, if_false, not_true, not_false_iff, Classical.not_not, zel_r, zel_42, zel_12, zel_71, zel_80, zel_89, zel_110, zel_188, zel_103, zel_195, zr_o, zr_1, zr_2, zr_3, zr_4, zr_5, zr_6, zr_7, zr_8, zr_9, zq_o, zq_v, zt_o, zt_1, zt_2, zt_3, zt_4, zt_5, zf_o, zf_1, za_w1, za_w2, za_w3, za_cm, za_sl, Int.toNat_natCast, Int.toNat_natCast_add_one, mm_t0, mm_t1, mm_t2, mm_t3, mm_t4, mm_t5, mm_t6, mm_t7, mm_t8, mm_t9, mm_t10, mm_t11, mm_t12, mm_t13, za_1, za_64, za_65, za_66, za_67, za_68, za_71, za_80, za_89, za_98, za_103, za_110, za_121, za_122, za_123, za_124, za_125, za_126, za_188, za_193, za_194, za_195, za_286, za_288, za_289, za_290, za_291, za_292, za_293, za_294, za_295, za_296, za_297, za_298, za_299, za_300, za_301, za_302, za_303, za_304, za_305, za_306, za_307, za_308, za_309, za_310, za_311, za_312, h29, q2]; first | done | omega) ?_
      refine zwp_letE (τ' := zw τ 287 30 r) (by simp (disch := first | assumption | exact isR33 | exact isT104 | exact isF99 | exact isF101 | exact isR3 | omega | (refine isTk ?_; omega) | (refine isOk isR33 ?_; omega) | (refine isOk ?_ ?_; assumption; omega)) only [mm_r, mm_rl, mm_add, mm_sub, mm_mul, mm_addJ, mm_mulJ, mm_lt, mm_le, mm_eq, mm_z, mm_cl, mm_w, mm_wl, mm_ite, mm_i2l, mm_l2i, mm_ltJ, mm_leJ, mm_eqJ, mm_clt, mm_cle, mm_cgt, mm_cge, mm_ceq, mm_b, mm_nb, mm_nb0, mm_nb1, mm_vb0, mm_vb1, mm_vbc, mm_vy0, mm_vy1, mm_at, mm_ne, mm_nj, mm_Lw, mm_Nw, mm_atJ, mm_neJ, mm_njJ, zbI_s, zbV_s, zbJ_s, cond_t, Bool.true_and, Bool.and_true, if_true, if_false, not_true, not_false_iff, Classical.not_not, zel_r, zel_42, zel_12, zel_71, zel_80, zel_89, zel_110, zel_188, zel_103, zel_195, zr_o, zr_1, zr_2, zr_3, zr_4, zr_5, zr_6, zr_7, zr_8, zr_9, zq_o, zq_v, zt_o, zt_1, zt_2, zt_3, zt_4, zt_5, zf_o, zf_1, za_w1, za_w2, za_w3, za_cm, za_sl, Int.toNat_natCast, Int.toNat_natCast_add_one, mm_t0, mm_t1, mm_t2, mm_t3, mm_t4, mm_t5, mm_t6, mm_t7, mm_t8, mm_t9, mm_t10, mm_t11, mm_t12, mm_t13, za_1, za_64, za_65, za_66, za_67, za_68, za_71, za_80, za_89, za_98, za_103, za_110, za_121, za_122, za_123, za_124, za_125, za_126, za_188, za_193, za_194, za_195, za_286, za_288, za_289, za_290, za_291, za_292, za_293, za_294, za_295, za_296, za_297, za_298, za_299, za_300, za_301, za_302, za_303, za_304, za_305, za_306, za_307, za_308, za_309, za_310, za_311, za_312]) ?_
      refine zwp_letE (τ' := zw (zw τ 287 30 r) 287 31 h) (by simp (disch := first | assumption | exact isR33 | exact isT104 | exact isF99 | exact isF101 | exact isR3 | omega | (refine isTk ?_; omega) | (refine isOk isR33 ?_; omega) | (refine isOk ?_ ?_; assumption; omega)) only [mm_r, mm_rl, mm_add, mm_sub, mm_mul, mm_addJ, mm_mulJ, mm_lt, mm_le, mm_eq, mm_z, mm_cl, mm_w, mm_wl, mm_ite, mm_i2l, mm_l2i, mm_ltJ, mm_leJ, mm_eqJ, mm_clt, mm_cle, mm_cgt, mm_cge, mm_ceq, mm_b, mm_nb, mm_nb0, mm_nb1, mm_vb0, mm_vb1, mm_vbc, mm_vy0, mm_vy1, mm_at, mm_ne, mm_nj, mm_Lw, mm_Nw, mm_atJ, mm_neJ, mm_njJ, zbI_s, zbV_s, zbJ_s, cond_t, Bool.true_and, Bool.and_true, if_true, if_false, not_true, not_false_iff, Classical.not_not, zel_r, zel_42, zel_12, zel_71, zel_80, zel_89, zel_110, zel_188, zel_103, zel_195, zr_o, zr_1, zr_2, zr_3, zr_4, zr_5, zr_6, zr_7, zr_8, zr_9, zq_o, zq_v, zt_o, zt_1, zt_2, zt_3, zt_4, zt_5, zf_o, zf_1, za_w1, za_w2, za_w3, za_cm, za_sl, Int.toNat_natCast, Int.toNat_natCast_add_one, mm_t0, mm_t1, mm_t2, mm_t3, mm_t4, mm_t5, mm_t6, mm_t7, mm_t8, mm_t9, mm_t10, mm_t11, mm_t12, mm_t13, za_1, za_64, za_65, za_66, za_67, za_68, za_71, za_80, za_89, za_98, za_103, za_110, za_121, za_122, za_123, za_124, za_125, za_126, za_188, za_193, za_194, za_195, za_286, za_288, za_289, za_290, za_291, za_292, za_293, za_294, za_295, za_296, za_297, za_298, za_299, za_300, za_301, za_302, za_303, za_304, za_305, za_306, za_307, za_308, za_309, za_310, za_311, za_312]) ?_
      refine zwp_letE (τ' := zw (zw (zw τ 287 30 r) 287 31 h) 287 32 v) (by simp (disch := first | assumption | exact isR33 | exact isT104 | exact isF99 | exact isF101 | exact isR3 | omega | (refine isTk ?_; omega) | (refine isOk isR33 ?_; omega) | (refine isOk ?_ ?_; assumption; omega)) only [mm_r, mm_rl, mm_add, mm_sub, mm_mul, mm_addJ, mm_mulJ, mm_lt, mm_le, mm_eq, mm_z, mm_cl, mm_w, mm_wl, mm_ite, mm_i2l, mm_l2i, mm_ltJ, mm_leJ, mm_eqJ, mm_clt, mm_cle, mm_cgt, mm_cge, mm_ceq, mm_b, mm_nb, mm_nb0, mm_nb1, mm_vb0, mm_vb1, mm_vbc, mm_vy0, mm_vy1, mm_at, mm_ne, mm_nj, mm_Lw, mm_Nw, mm_atJ, mm_neJ, mm_njJ, zbI_s, zbV_s, zbJ_s, cond_t, Bool.true_and, Bool.and_true, if_true, if_false, not_true, not_false_iff, Classical.not_not, zel_r, zel_42, zel_12, zel_71, zel_80, zel_89, zel_110, zel_188, zel_103, zel_195, zr_o, zr_1, zr_2, zr_3, zr_4, zr_5, zr_6, zr_7, zr_8, zr_9, zq_o, zq_v, zt_o, zt_1, zt_2, zt_3, zt_4, zt_5, zf_o, zf_1, za_w1, za_w2, za_w3, za_cm, za_sl, Int.toNat_natCast, Int.toNat_natCast_add_one, mm_t0, mm_t1, mm_t2, mm_t3, mm_t4, mm_t5, mm_t6, mm_t7, mm_t8, mm_t9, mm_t10, mm_t11, mm_t12, mm_t13, za_1, za_64, za_65, za_66, za_67, za_68, za_71, za_80, za_89, za_98, za_103, za_110, za_121, za_122, za_123, za_124, za_125, za_126, za_188, za_193, za_194, za_195, za_286, za_288, za_289, za_290, za_291, za_292, za_293, za_294, za_295, za_296, za_297, za_298, za_299, za_300, za_301, za_302, za_303, za_304, za_305, za_306, za_307, za_308, za_309, za_310, za_311, za_312]) ?_
      have e29 : zN (zw (zw (zw τ 287 30 r) 287 31 h) 287 32 v) 287 29 = cnt := by rw [mm_nj (by decide), mm_nj (by decide), mm_nj (by decide)]; exact h29
      refine zwp_letE (τ' := zw (zw (zw (zw τ 287 30 r) 287 31 h) 287 32 v) 287 29 (cnt + 1)) (by simp (disch := first | assumption | exact isR33 | exact isT104 | exact isF99 | exact isF101 | exact isR3 | omega | (refine isTk ?_; omega) | (refine isOk isR33 ?_; omega) | (refine isOk ?_ ?_; assumption; omega)) only [mm_r, mm_rl, mm_add, mm_sub, mm_mul, mm_addJ, mm_mulJ, mm_lt, mm_le, mm_eq, mm_z, mm_cl, mm_w, mm_wl, mm_ite, mm_i2l, mm_l2i, mm_ltJ, mm_leJ, mm_eqJ, mm_clt, mm_cle, mm_cgt, mm_cge, mm_ceq, mm_b, mm_nb, mm_nb0, mm_nb1, mm_vb0, mm_vb1, mm_vbc, mm_vy0, mm_vy1, mm_at, mm_ne, mm_nj, mm_Lw, mm_Nw, mm_atJ, mm_neJ, mm_njJ, zbI_s, zbV_s, zbJ_s, cond_t, Bool.true_and, Bool.and_true, if_true, if_false, not_true, not_false_iff, Classical.not_not, zel_r, zel_42, zel_12, zel_71, zel_80, zel_89, zel_110, zel_188, zel_103, zel_195, zr_o, zr_1, zr_2, zr_3, zr_4, zr_5, zr_6, zr_7, zr_8, zr_9, zq_o, zq_v, zt_o, zt_1, zt_2, zt_3, zt_4, zt_5, zf_o, zf_1, za_w1, za_w2, za_w3, za_cm, za_sl, Int.toNat_natCast, Int.toNat_natCast_add_one, mm_t0, mm_t1, mm_t2, mm_t3, mm_t4, mm_t5, mm_t6, mm_t7, mm_t8, mm_t9, mm_t10, mm_t11, mm_t12, mm_t13, za_1, za_64, za_65, za_66, za_67, za_68, za_71, za_80, za_89, za_98, za_103, za_110, za_121, za_122, za_123, za_124, za_125, za_126, za_188, za_193, za_194, za_195, za_286, za_288, za_289, za_290, za_291, za_292, za_293, za_294, za_295, za_296, za_297, za_298, za_299, za_300, za_301, za_302, za_303, za_304, za_305, za_306, za_307, za_308, za_309, za_310, za_311, za_312, e29]) ?_
      refine K _ ⟨⟨W', hg.fr (fun b hb k => ?_) ?_, hE⟩, (((hm.zw 287 _ _ (.inl rfl)).zw 287 _ _ (.inl rfl)).zw 287 _ _ (.inl rfl)).zw 287 _ _ (.inl rfl), fun k k0 => ?_, mm_at rfl rfl (by omega) (by omega), r, h, v, .inr ⟨hs, ?_, fun r' h' v' g1 g2 => ?_⟩, ?_, ?_, ?_, fun p => by omega, by omega⟩
      · rw [mm_ne (by omega), mm_ne (by omega), mm_ne (by omega), mm_ne (by omega)]
      · rw [mm_nj (by decide), mm_nj (by decide), mm_nj (by decide), mm_nj (by decide)]
      · rw [mm_nj (by omega), mm_nj (by omega), mm_nj (by omega), mm_nj (by omega)]
        exact hk k k0
      · show lx r h v r h (v + 1)
        unfold lx
        omega
      · rcases hb with ⟨-, p⟩ | ⟨⟨p1, -⟩, -⟩
        · have := p r' h' v' g1
          have g2 : lx r' h' v' r h (v + 1) := g2
          unfold lx at this g2 ⊢
          omega
        · have := hz.mp q2
          omega
      · rw [mm_nj (by decide), mm_nj (by decide), mm_nj (by decide), mm_at rfl rfl (by omega) (by omega)]
      · rw [mm_nj (by decide), mm_nj (by decide), mm_at rfl rfl (by omega) (by omega)]
      · rw [mm_nj (by decide), mm_at rfl rfl (by omega) (by omega)]
    · refine zwp_t (by try simp (disch := first | assumption | exact isR33 | exact isT104 | exact isF99 | exact isF101 | exact isR3 | omega | (refine isTk ?_; omega) | (refine isOk isR33 ?_; omega) | (refine isOk ?_ ?_; assumption; omega)) only [mm_r, mm_rl, mm_add, mm_sub, mm_mul, mm_addJ, mm_mulJ, mm_lt, mm_le, mm_eq, mm_z, mm_cl, mm_w, mm_wl, mm_ite, mm_i2l, mm_l2i, mm_ltJ, mm_leJ, mm_eqJ, mm_clt, mm_cle, mm_cgt, mm_cge, mm_ceq, mm_b, mm_nb, mm_nb0, mm_nb1, mm_vb0, mm_vb1, mm_vbc, mm_vy0, mm_vy1, mm_at, mm_ne, mm_nj, mm_Lw, mm_Nw, mm_atJ, mm_neJ, mm_njJ, zbI_s, zbV_s, zbJ_s, cond_t, Bool.true_and, Bool.and_true, if_true, if_false, not_true, not_false_iff, Classical.not_not, zel_r, zel_42, zel_12, zel_71, zel_80, zel_89, zel_110, zel_188, zel_103, zel_195, zr_o, zr_1, zr_2, zr_3, zr_4, zr_5, zr_6, zr_7, zr_8, zr_9, zq_o, zq_v, zt_o, zt_1, zt_2, zt_3, zt_4, zt_5, zf_o, zf_1, za_w1, za_w2, za_w3, za_cm, za_sl, Int.toNat_natCast, Int.toNat_natCast_add_one, mm_t0, mm_t1, mm_t2, mm_t3, mm_t4, mm_t5, mm_t6, mm_t7, mm_t8, mm_t9, mm_t10, mm_t11, mm_t12, mm_t13, za_1, za_64, za_65, za_66, za_67, za_68, za_71, za_80, za_89, za_98, za_103, za_110, za_121, za_122, za_123, za_124, za_125, za_126, za_188, za_193, za_194, za_195, za_286, za_288, za_289, za_290, za_291, za_292, za_293, za_294, za_295, za_296, za_297, za_298, za_299, za_300, za_301, za_302, za_303, za_304, za_305, za_306, za_307, za_308, za_309, za_310, za_311, za_312, h29]; first | done | omega) ?_
      refine zwp_letE (τ' := zw τ 287 29 (cnt + 1)) (by simp (disch := first | assumption | exact isR33 | exact isT104 | exact isF99 | exact isF101 | exact isR3 | omega | (refine isTk ?_; omega) | (refine isOk isR33 ?_; omega) | (refine isOk ?_ ?_; assumption; omega)) only [mm_r, mm_rl, mm_add, mm_sub, mm_mul, mm_addJ, mm_mulJ, mm_lt, mm_le, mm_eq, mm_z, mm_cl, mm_w, mm_wl, mm_ite, mm_i2l, mm_l2i, mm_ltJ, mm_leJ, mm_eqJ, mm_clt, mm_cle, mm_cgt, mm_cge, mm_ceq, mm_b, mm_nb, mm_nb0, mm_nb1, mm_vb0, mm_vb1, mm_vbc, mm_vy0, mm_vy1, mm_at, mm_ne, mm_nj, mm_Lw, mm_Nw, mm_atJ, mm_neJ, mm_njJ, zbI_s, zbV_s, zbJ_s, cond_t, Bool.true_and, Bool.and_true, if_true, if_false, not_true, not_false_iff, Classical.not_not, zel_r, zel_42, zel_12, zel_71, zel_80, zel_89, zel_110, zel_188, zel_103, zel_195, zr_o, zr_1, zr_2, zr_3, zr_4, zr_5, zr_6, zr_7, zr_8, zr_9, zq_o, zq_v, zt_o, zt_1, zt_2, zt_3, zt_4, zt_5, zf_o, zf_1, za_w1, za_w2, za_w3, za_cm, za_sl, Int.toNat_natCast, Int.toNat_natCast_add_one, mm_t0, mm_t1, mm_t2, mm_t3, mm_t4, mm_t5, mm_t6, mm_t7, mm_t8, mm_t9, mm_t10, mm_t11, mm_t12, mm_t13, za_1, za_64, za_65, za_66, za_67, za_68, za_71, za_80, za_89, za_98, za_103, za_110, za_121, za_122, za_123, za_124, za_125, za_126, za_188, za_193, za_194, za_195, za_286, za_288, za_289, za_290, za_291, za_292, za_293, za_294, za_295, za_296, za_297, za_298, za_299, za_300, za_301, za_302, za_303, za_304, za_305, za_306, za_307, za_308, za_309, za_310, za_311, za_312, h29]) ?_
      refine K _ ⟨⟨W', hg.fr (fun b hb k => mm_ne (by omega)) (mm_nj (by decide)), hE⟩, hm.zw 287 _ _ (.inl rfl), fun k k0 => ?_, mm_at rfl rfl (by omega) (by omega), a, b, c, ?_, ?_, ?_, ?_, hn, by omega⟩
      · rw [mm_nj (by omega)]
        exact hk k k0
      · rcases hb with ⟨p, -⟩ | ⟨p1, p2, p3⟩
        · exact absurd (hz.mpr p) q2
        · have p2 : lx a b c r h v := p2
          refine .inr ⟨p1, ?_, fun r' h' v' g1 g2 => ?_⟩
          · show lx a b c r h (v + 1)
            unfold lx at p2 ⊢
            omega
          · have := p3 r' h' v' g1
            have g2 : lx r' h' v' r h (v + 1) := g2
            unfold lx at this g2 p2 ⊢
            omega
      · rw [mm_nj (by decide)]
        exact h30
      · rw [mm_nj (by decide)]
        exact h31
      · rw [mm_nj (by decide)]
        exact h32
  · have q := Bool.not_eq_true _ |>.mp q
    rw [q] at K ⊢
    have t0 : t01 false = 0 := rfl
    rw [t0, Int.add_zero] at K
    rw [t0]
    refine zwp_f (by decide) ?_
    refine K _ ⟨⟨W', hg, hE⟩, hm, hk, h29, a, b, c, hb.eq (fun r' h' v' g1 => ?_), h30, h31, h32, hn, hz⟩
    by_cases z : r' = r ∧ h' = h ∧ v' = v
    · obtain ⟨z1, z2, z3⟩ := z
      have := g1.2.2.2.2.2.2
      rw [z1, z2, z3, q] at this
      exact absurd this (by decide)
    · show lx r' h' v' r h v ↔ lx r' h' v' r h (v + 1)
      unfold lx
      omega
theorem lp_238_79 {σ1 : zM} {W : Int → Int} {o x r h cc : Int} (hW : WOK W) (o0 : 0 ≤ o) (o1 : o < W 5) (x0 : 0 ≤ x) (x1 : x < W 1) (r0 : 0 ≤ r) (r1 : r < W 4) (h0 : 0 ≤ h) (h1 : h < W 1) (c0 : 0 ≤ cc) (c1 : cc < 20000) {Q : Option Value → zM → Prop}
    (K : ∀ τ, wT σ1 τ W o x (cc + zsum (fun j => t01 (Ps W o x r (j - 1) h)) (W 0 + 1).toNat) (fun r' h' v' => lx r' h' v' r (h + 1) (-1)) → zwp (zev 238 65 [some (.ref 287), some (.int (Int32.ofInt o)), some (.int (Int32.ofInt x)), some (.int (Int32.ofInt r)), some (.int (Int32.ofInt (h + 1))), none] [] τ) Q) : ∀ (k j : Nat) (σ : zM), (j : Int) + k = W 0 + 1 → wT σ1 σ W o x (cc + zsum (fun j => t01 (Ps W o x r (j - 1) h)) j) (fun r' h' v' => lx r' h' v' r h ((j : Int) - 1)) → zwp (zev 238 79 [some (.ref 287), some (.int (Int32.ofInt o)), some (.int (Int32.ofInt x)), some (.int (Int32.ofInt r)), some (.int (Int32.ofInt h)), some (.int (Int32.ofInt ((j : Int) - 1)))] [] σ) Q
  | 0, j, σ, e, hT => by
    have h9 := hW.1.2.2.1
    have h8 := hW.1.1.2.1
    have h80 := hW.1.1.1
    have hT' := hT
    obtain ⟨⟨W', hg, hE⟩, -⟩ := hT'
    have e0 : zN σ 288 0 = W 0 := (wv_k hg.1 0).trans (hE.1 0 (by decide))
    refine zwp_of (fun r h => ze_238_79 _ _ _ _ _ _ r h) ?_
    rw [sp_167, zbI_s, e0]
    refine zwp_t (by try simp (disch := first | assumption | exact isR33 | exact isT104 | exact isF99 | exact isF101 | exact isR3 | omega | (refine isTk ?_; omega) | (refine isOk isR33 ?_; omega) | (refine isOk ?_ ?_; assumption; omega)) only [mm_r, mm_rl, mm_add, mm_sub, mm_mul, mm_addJ, mm_mulJ, mm_lt, mm_le, mm_eq, mm_z, mm_cl, mm_w, mm_wl, mm_ite, mm_i2l, mm_l2i, mm_ltJ, mm_leJ, mm_eqJ, mm_clt, mm_cle, mm_cgt, mm_cge, mm_ceq, mm_b, mm_nb, mm_nb0, mm_nb1, mm_vb0, mm_vb1, mm_vbc, mm_vy0, mm_vy1, mm_at, mm_ne, mm_nj, mm_Lw, mm_Nw, mm_atJ, mm_neJ, mm_njJ, zbI_s, zbV_s, zbJ_s, cond_t, Bool.true_and, Bool.and_true, if_true, if_false, not_true, not_false_iff, Classical.not_not, zel_r, zel_42, zel_12, zel_71, zel_80, zel_89, zel_110, zel_188, zel_103, zel_195, zr_o, zr_1, zr_2, zr_3, zr_4, zr_5, zr_6, zr_7, zr_8, zr_9, zq_o, zq_v, zt_o, zt_1, zt_2, zt_3, zt_4, zt_5, zf_o, zf_1, za_w1, za_w2, za_w3, za_cm, za_sl, Int.toNat_natCast, Int.toNat_natCast_add_one, mm_t0, mm_t1, mm_t2, mm_t3, mm_t4, mm_t5, mm_t6, mm_t7, mm_t8, mm_t9, mm_t10, mm_t11, mm_t12, mm_t13, za_1, za_64, za_65, za_66, za_67, za_68, za_71, za_80, za_89, za_98, za_103, za_110, za_121, za_122, za_123, za_124, za_125, za_126, za_188, za_193, za_194, za_195, za_286, za_288, za_289, za_290, za_291, za_292, za_293, za_294, za_295, za_296, za_297, za_298, za_299, za_300, za_301, za_302, za_303, za_304, za_305, za_306, za_307, za_308, za_309, za_310, za_311, za_312]
                     first | done | omega) ?_
    rw [mm_add]
    refine K σ ?_
    rw [show (W 0 + 1).toNat = j by omega]
    exact hT.eq fun r' h' v' hs => by
      obtain ⟨a1, a2, a3, a4, a5, a6, -⟩ := hs
      unfold lx
      omega
  | k + 1, j, σ, e, hT => by
    have h9 := hW.1.2.2.1
    have h8 := hW.1.1.2.1
    have h80 := hW.1.1.1
    have h5 := hW.2.2.1
    obtain ⟨⟨W', hg, hE⟩, hm, hk, h29, a, b, c, hb, h30, h31, h32, hn, hz⟩ := hT
    have e0 : zN σ 288 0 = W 0 := (wv_k hg.1 0).trans (hE.1 0 (by decide))
    have ez : zsum (fun j => t01 (Ps W o x r (j - 1) h)) (j + 1) = zsum (fun j => t01 (Ps W o x r (j - 1) h)) j + t01 (Ps W o x r ((j : Int) - 1) h) := rfl
    have rz := zsum_rng (f := fun j => t01 (Ps W o x r (j - 1) h)) (M := 1) (fun i => t01_rng _) j
    have ih := fun υ hT => lp_238_79 hW o0 o1 x0 x1 r0 r1 h0 h1 c0 c1 K k (j + 1) υ (by omega) hT
    rw [ez, ← Int.add_assoc, show ((j + 1 : Nat) : Int) - 1 = (j : Int) - 1 + 1 by omega] at ih
    have hX := wX_S (W' := W') (r := r) (v := (j : Int) - 1) (h := h) hE o0
    have hok := hX.ok hW o0 o1 r0 r1 (by omega) (by omega) h0 (by omega)
    have hcm := wX_CM hW o0 (by omega) hX
    have hg4 := (((hg.set o0 (k := 0) (v := r) (by decide) (by omega) (by omega)).set o0 (k := 6) (v := h) (by decide) (by omega) (by omega)).set o0 (k := 7) (v := if (j : Int) - 1 = -1 then 0 else 1) (by decide) (by split <;> decide) (by split <;> decide)).set o0 (k := 8) (v := (j : Int) - 1) (by decide) (by omega) (by omega)
    have hm4 := (((hm.zw 288 (80 + 14 * o + 0).toNat r (.inr (.inl rfl))).zw 288 (80 + 14 * o + 6).toNat h (.inr (.inl rfl))).zw 288 (80 + 14 * o + 7).toNat (if (j : Int) - 1 = -1 then 0 else 1) (.inr (.inl rfl))).zw 288 (80 + 14 * o + 8).toNat ((j : Int) - 1) (.inr (.inl rfl))
    have g287 : ∀ k, zN (zw (zw (zw (zw σ 288 (80 + 14 * o + 0).toNat r) 288 (80 + 14 * o + 6).toNat h) 288 (80 + 14 * o + 7).toNat (if (j : Int) - 1 = -1 then 0 else 1)) 288 (80 + 14 * o + 8).toNat ((j : Int) - 1)) 287 k = zN σ 287 k := fun k => by rw [mm_ne (by decide), mm_ne (by decide), mm_ne (by decide), mm_ne (by decide)]
    have s234 := sp_234x (x := x) hW hX.1 o0 o1 hok (by omega) (by omega) hg4
    rw [hcm] at s234
    refine zwp_of (fun r h => ze_238_79 _ _ _ _ _ _ r h) ?_
    rw [sp_167, zbI_s, e0]
    refine zwp_f (by try simp (disch := first | assumption | exact isR33 | exact isT104 | exact isF99 | exact isF101 | exact isR3 | omega | (refine isTk ?_; omega) | (refine isOk isR33 ?_; omega) | (refine isOk ?_ ?_; assumption; omega)) only [mm_r, mm_rl, mm_add, mm_sub, mm_mul, mm_addJ, mm_mulJ, mm_lt, mm_le, mm_eq, mm_z, mm_cl, mm_w, mm_wl, mm_ite, mm_i2l, mm_l2i, mm_ltJ, mm_leJ, mm_eqJ, mm_clt, mm_cle, mm_cgt, mm_cge, mm_ceq, mm_b, mm_nb, mm_nb0, mm_nb1, mm_vb0, mm_vb1, mm_vbc, mm_vy0, mm_vy1, mm_at, mm_ne, mm_nj, mm_Lw, mm_Nw, mm_atJ, mm_neJ, mm_njJ, zbI_s, zbV_s, zbJ_s, cond_t, Bool.true_and, Bool.and_true, if_true, if_false, not_true, not_false_iff, Classical.not_not, zel_r, zel_42, zel_12, zel_71, zel_80, zel_89, zel_110, zel_188, zel_103, zel_195, zr_o, zr_1, zr_2, zr_3, zr_4, zr_5, zr_6, zr_7, zr_8, zr_9, zq_o, zq_v, zt_o, zt_1, zt_2, zt_3, zt_4, zt_5, zf_o, zf_1, za_w1, za_w2, za_w3, za_cm, za_sl, Int.toNat_natCast, Int.toNat_natCast_add_one, mm_t0, mm_t1, mm_t2, mm_t3, mm_t4, mm_t5, mm_t6, mm_t7, mm_t8, mm_t9, mm_t10, mm_t11, mm_t12, mm_t13, za_1, za_64, za_65, za_66, za_67, za_68, za_71, za_80, za_89, za_98, za_103, za_110, za_121, za_122, za_123, za_124, za_125, za_126, za_188, za_193, za_194, za_195, za_286, za_288, za_289, za_290, za_291, za_292, za_293, za_294, za_295, za_296, za_297, za_298, za_299, za_300, za_301, za_302, za_303, za_304, za_305, za_306, za_307, za_308, za_309, za_310, za_311, za_312]
                     first | done | omega) ?_
    rw [sp_174 o0 (by omega) (by decide) (by decide), zbV_s, sp_174 o0 (by omega) (by decide) (by decide), zbV_s]
    by_cases q : (j : Int) - 1 = -1
    · refine zwp_f (by rw [q]; decide) ?_
      rw [if_pos q] at hm4 g287 s234 hX
      rw [sp_174 o0 (by omega) (by decide) (by decide), zbV_s, sp_174 o0 (by omega) (by decide) (by decide), zbV_s]
      refine zwp_IE s234 ?_
      rintro τ ⟨hg5, hf⟩
      exact lp_238_c hW r0 r1 h0 h1 (by omega) (by omega) (by omega) (by omega) hg5 hX.1 (hm4.tr (hf.mono (by omega))) (fun k k0 => (hf.1 287 (by omega) k).trans ((g287 k).trans (hk k k0))) ((hf.1 287 (by omega) _).trans ((g287 _).trans h29)) ((hf.1 287 (by omega) _).trans ((g287 _).trans h30)) ((hf.1 287 (by omega) _).trans ((g287 _).trans h31)) ((hf.1 287 (by omega) _).trans ((g287 _).trans h32)) hb hn hz ih
    · refine zwp_t (by try simp (disch := first | assumption | exact isR33 | exact isT104 | exact isF99 | exact isF101 | exact isR3 | omega | (refine isTk ?_; omega) | (refine isOk isR33 ?_; omega) | (refine isOk ?_ ?_; assumption; omega)) only [mm_r, mm_rl, mm_add, mm_sub, mm_mul, mm_addJ, mm_mulJ, mm_lt, mm_le, mm_eq, mm_z, mm_cl, mm_w, mm_wl, mm_ite, mm_i2l, mm_l2i, mm_ltJ, mm_leJ, mm_eqJ, mm_clt, mm_cle, mm_cgt, mm_cge, mm_ceq, mm_b, mm_nb, mm_nb0, mm_nb1, mm_vb0, mm_vb1, mm_vbc, mm_vy0, mm_vy1, mm_at, mm_ne, mm_nj, mm_Lw, mm_Nw, mm_atJ, mm_neJ, mm_njJ, zbI_s, zbV_s, zbJ_s, cond_t, Bool.true_and, Bool.and_true, if_true, if_false, not_true, not_false_iff, Classical.not_not, zel_r, zel_42, zel_12, zel_71, zel_80, zel_89, zel_110, zel_188, zel_103, zel_195, zr_o, zr_1, zr_2, zr_3, zr_4, zr_5, zr_6, zr_7, zr_8, zr_9, zq_o, zq_v, zt_o, zt_1, zt_2, zt_3, zt_4, zt_5, zf_o, zf_1, za_w1, za_w2, za_w3, za_cm, za_sl, Int.toNat_natCast, Int.toNat_natCast_add_one, mm_t0, mm_t1, mm_t2, mm_t3, mm_t4, mm_t5, mm_t6, mm_t7, mm_t8, mm_t9, mm_t10, mm_t11, mm_t12, mm_t13, za_1, za_64, za_65, za_66, za_67, za_68, za_71, za_80, za_89, za_98, za_103, za_110, za_121, za_122, za_123, za_124, za_125, za_126, za_188, za_193, za_194, za_195, za_286, za_288, za_289, za_290, za_291, za_292, za_293, za_294, za_295, za_296, za_297, za_298, za_299, za_300, za_301, za_302, za_303, za_304, za_305, za_306, za_307, za_308, za_309, za_310, za_311, za_312]
                       first | done | omega) ?_
      rw [if_neg q] at hm4 g287 s234 hX
      rw [sp_174 o0 (by omega) (by decide) (by decide), zbV_s, sp_174 o0 (by omega) (by decide) (by decide), zbV_s]
      refine zwp_IE s234 ?_
      rintro τ ⟨hg5, hf⟩
      exact lp_238_c hW r0 r1 h0 h1 (by omega) (by omega) (by omega) (by omega) hg5 hX.1 (hm4.tr (hf.mono (by omega))) (fun k k0 => (hf.1 287 (by omega) k).trans ((g287 k).trans (hk k k0))) ((hf.1 287 (by omega) _).trans ((g287 _).trans h29)) ((hf.1 287 (by omega) _).trans ((g287 _).trans h30)) ((hf.1 287 (by omega) _).trans ((g287 _).trans h31)) ((hf.1 287 (by omega) _).trans ((g287 _).trans h32)) hb hn hz ih
theorem lp_238_65 {σ1 : zM} {W : Int → Int} {o x r cc : Int} (hW : WOK W) (o0 : 0 ≤ o) (o1 : o < W 5) (x0 : 0 ≤ x) (x1 : x < W 1) (r0 : 0 ≤ r) (r1 : r < W 4) (c0 : 0 ≤ cc) (c1 : cc < 10000) {Q : Option Value → zM → Prop}
    (K : ∀ τ, wT σ1 τ W o x (cc + zsum (fun h => zsum (fun j => t01 (Ps W o x r (j - 1) h)) (W 0 + 1).toNat) (W 1).toNat) (fun r' h' v' => lx r' h' v' (r + 1) 0 (-1)) → zwp (zev 238 52 [some (.ref 287), some (.int (Int32.ofInt o)), some (.int (Int32.ofInt x)), some (.int (Int32.ofInt (r + 1))), none, none] [] τ) Q) : ∀ (k h : Nat) (σ : zM), (h : Int) + k = W 1 → wT σ1 σ W o x (cc + zsum (fun h => zsum (fun j => t01 (Ps W o x r (j - 1) h)) (W 0 + 1).toNat) h) (fun r' h' v' => lx r' h' v' r h (-1)) → zwp (zev 238 65 [some (.ref 287), some (.int (Int32.ofInt o)), some (.int (Int32.ofInt x)), some (.int (Int32.ofInt r)), some (.int (Int32.ofInt h)), none] [] σ) Q
  | 0, h, σ, e, hT => by
    have h9 := hW.1.2.2.1
    have hT' := hT
    obtain ⟨⟨W', hg, hE⟩, -⟩ := hT'
    have e1 : zN σ 288 1 = W 1 := (wv_k hg.1 1).trans (hE.1 1 (by decide))
    refine zwp_of (fun r h => ze_238_65 _ _ _ _ _ r h) ?_
    refine zwp_cd (by simp (disch := first | assumption | exact isR33 | exact isT104 | exact isF99 | exact isF101 | exact isR3 | omega | (refine isTk ?_; omega) | (refine isOk isR33 ?_; omega) | (refine isOk ?_ ?_; assumption; omega)) only [mm_r, mm_rl, mm_add, mm_sub, mm_mul, mm_addJ, mm_mulJ, mm_lt, mm_le, mm_eq, mm_z, mm_cl, mm_w, mm_wl, mm_ite, mm_i2l, mm_l2i, mm_ltJ, mm_leJ, mm_eqJ, mm_clt, mm_cle, mm_cgt, mm_cge, mm_ceq, mm_b, mm_nb, mm_nb0, mm_nb1, mm_vb0, mm_vb1, mm_vbc, mm_vy0, mm_vy1, mm_at, mm_ne, mm_nj, mm_Lw, mm_Nw, mm_atJ, mm_neJ, mm_njJ, zbI_s, zbV_s, zbJ_s, cond_t, Bool.true_and, Bool.and_true, if_true, if_false, not_true, not_false_iff, Classical.not_not, zel_r, zel_42, zel_12, zel_71, zel_80, zel_89, zel_110, zel_188, zel_103, zel_195, zr_o, zr_1, zr_2, zr_3, zr_4, zr_5, zr_6, zr_7, zr_8, zr_9, zq_o, zq_v, zt_o, zt_1, zt_2, zt_3, zt_4, zt_5, zf_o, zf_1, za_w1, za_w2, za_w3, za_cm, za_sl, Int.toNat_natCast, Int.toNat_natCast_add_one, mm_t0, mm_t1, mm_t2, mm_t3, mm_t4, mm_t5, mm_t6, mm_t7, mm_t8, mm_t9, mm_t10, mm_t11, mm_t12, mm_t13, za_1, za_64, za_65, za_66, za_67, za_68, za_71, za_80, za_89, za_98, za_103, za_110, za_121, za_122, za_123, za_124, za_125, za_126, za_188, za_193, za_194, za_195, za_286, za_288, za_289, za_290, za_291, za_292, za_293, za_294, za_295, za_296, za_297, za_298, za_299, za_300, za_301, za_302, za_303, za_304, za_305, za_306, za_307, za_308, za_309, za_310, za_311, za_312]) ?_
    refine zwp_t (by try simp (disch := first | assumption | exact isR33 | exact isT104 | exact isF99 | exact isF101 | exact isR3 | omega | (refine isTk ?_; omega) | (refine isOk isR33 ?_; omega) | (refine isOk ?_ ?_; assumption; omega)) only [mm_r, mm_rl, mm_add, mm_sub, mm_mul, mm_addJ, mm_mulJ, mm_lt, mm_le, mm_eq, mm_z, mm_cl, mm_w, mm_wl, mm_ite, mm_i2l, mm_l2i, mm_ltJ, mm_leJ, mm_eqJ, mm_clt, mm_cle, mm_cgt, mm_cge, mm_ceq, mm_b, mm_nb, mm_nb0, mm_nb1, mm_vb0, mm_vb1, mm_vbc, mm_vy0, mm_vy1, mm_at, mm_ne, mm_nj, mm_Lw, mm_Nw, mm_atJ, mm_neJ, mm_njJ, zbI_s, zbV_s, zbJ_s, cond_t, Bool.true_and, Bool.and_true, if_true, if_false, not_true, not_false_iff, Classical.not_not, zel_r, zel_42, zel_12, zel_71, zel_80, zel_89, zel_110, zel_188, zel_103, zel_195, zr_o, zr_1, zr_2, zr_3, zr_4, zr_5, zr_6, zr_7, zr_8, zr_9, zq_o, zq_v, zt_o, zt_1, zt_2, zt_3, zt_4, zt_5, zf_o, zf_1, za_w1, za_w2, za_w3, za_cm, za_sl, Int.toNat_natCast, Int.toNat_natCast_add_one, mm_t0, mm_t1, mm_t2, mm_t3, mm_t4, mm_t5, mm_t6, mm_t7, mm_t8, mm_t9, mm_t10, mm_t11, mm_t12, mm_t13, za_1, za_64, za_65, za_66, za_67, za_68, za_71, za_80, za_89, za_98, za_103, za_110, za_121, za_122, za_123, za_124, za_125, za_126, za_188, za_193, za_194, za_195, za_286, za_288, za_289, za_290, za_291, za_292, za_293, za_294, za_295, za_296, za_297, za_298, za_299, za_300, za_301, za_302, za_303, za_304, za_305, za_306, za_307, za_308, za_309, za_310, za_311, za_312, e1]
                     first | done | omega) ?_
    rw [mm_add]
    refine K σ ?_
    rw [show (W 1).toNat = h by omega]
    exact hT.eq fun r' h' v' hs => by
      obtain ⟨a1, a2, a3, a4, a5, a6, -⟩ := hs
      unfold lx
      omega
  | k + 1, h, σ, e, hT => by
    have h9 := hW.1.2.2.1
    have h8 := hW.1.1.2.1
    have h80 := hW.1.1.1
    have hT' := hT
    obtain ⟨⟨W', hg, hE⟩, -⟩ := hT'
    have e1 : zN σ 288 1 = W 1 := (wv_k hg.1 1).trans (hE.1 1 (by decide))
    have a := fun h => zsum_rng (f := fun j => t01 (Ps W o x r (j - 1) h)) (M := 1) (fun i => t01_rng _) (W 0 + 1).toNat
    have b := zsum_rng (f := fun h => zsum (fun j => t01 (Ps W o x r (j - 1) h)) (W 0 + 1).toNat) (M := 9) (fun h => by have := a h; omega) h
    have ez : zsum (fun h => zsum (fun j => t01 (Ps W o x r (j - 1) h)) (W 0 + 1).toNat) (h + 1) = zsum (fun h => zsum (fun j => t01 (Ps W o x r (j - 1) h)) (W 0 + 1).toNat) h + zsum (fun j => t01 (Ps W o x r (j - 1) h)) (W 0 + 1).toNat := rfl
    refine zwp_of (fun r h => ze_238_65 _ _ _ _ _ r h) ?_
    refine zwp_cd (by simp (disch := first | assumption | exact isR33 | exact isT104 | exact isF99 | exact isF101 | exact isR3 | omega | (refine isTk ?_; omega) | (refine isOk isR33 ?_; omega) | (refine isOk ?_ ?_; assumption; omega)) only [mm_r, mm_rl, mm_add, mm_sub, mm_mul, mm_addJ, mm_mulJ, mm_lt, mm_le, mm_eq, mm_z, mm_cl, mm_w, mm_wl, mm_ite, mm_i2l, mm_l2i, mm_ltJ, mm_leJ, mm_eqJ, mm_clt, mm_cle, mm_cgt, mm_cge, mm_ceq, mm_b, mm_nb, mm_nb0, mm_nb1, mm_vb0, mm_vb1, mm_vbc, mm_vy0, mm_vy1, mm_at, mm_ne, mm_nj, mm_Lw, mm_Nw, mm_atJ, mm_neJ, mm_njJ, zbI_s, zbV_s, zbJ_s, cond_t, Bool.true_and, Bool.and_true, if_true, if_false, not_true, not_false_iff, Classical.not_not, zel_r, zel_42, zel_12, zel_71, zel_80, zel_89, zel_110, zel_188, zel_103, zel_195, zr_o, zr_1, zr_2, zr_3, zr_4, zr_5, zr_6, zr_7, zr_8, zr_9, zq_o, zq_v, zt_o, zt_1, zt_2, zt_3, zt_4, zt_5, zf_o, zf_1, za_w1, za_w2, za_w3, za_cm, za_sl, Int.toNat_natCast, Int.toNat_natCast_add_one, mm_t0, mm_t1, mm_t2, mm_t3, mm_t4, mm_t5, mm_t6, mm_t7, mm_t8, mm_t9, mm_t10, mm_t11, mm_t12, mm_t13, za_1, za_64, za_65, za_66, za_67, za_68, za_71, za_80, za_89, za_98, za_103, za_110, za_121, za_122, za_123, za_124, za_125, za_126, za_188, za_193, za_194, za_195, za_286, za_288, za_289, za_290, za_291, za_292, za_293, za_294, za_295, za_296, za_297, za_298, za_299, za_300, za_301, za_302, za_303, za_304, za_305, za_306, za_307, za_308, za_309, za_310, za_311, za_312]) ?_
    refine zwp_f (by try simp (disch := first | assumption | exact isR33 | exact isT104 | exact isF99 | exact isF101 | exact isR3 | omega | (refine isTk ?_; omega) | (refine isOk isR33 ?_; omega) | (refine isOk ?_ ?_; assumption; omega)) only [mm_r, mm_rl, mm_add, mm_sub, mm_mul, mm_addJ, mm_mulJ, mm_lt, mm_le, mm_eq, mm_z, mm_cl, mm_w, mm_wl, mm_ite, mm_i2l, mm_l2i, mm_ltJ, mm_leJ, mm_eqJ, mm_clt, mm_cle, mm_cgt, mm_cge, mm_ceq, mm_b, mm_nb, mm_nb0, mm_nb1, mm_vb0, mm_vb1, mm_vbc, mm_vy0, mm_vy1, mm_at, mm_ne, mm_nj, mm_Lw, mm_Nw, mm_atJ, mm_neJ, mm_njJ, zbI_s, zbV_s, zbJ_s, cond_t, Bool.true_and, Bool.and_true, if_true, if_false, not_true, not_false_iff, Classical.not_not, zel_r, zel_42, zel_12, zel_71, zel_80, zel_89, zel_110, zel_188, zel_103, zel_195, zr_o, zr_1, zr_2, zr_3, zr_4, zr_5, zr_6, zr_7, zr_8, zr_9, zq_o, zq_v, zt_o, zt_1, zt_2, zt_3, zt_4, zt_5, zf_o, zf_1, za_w1, za_w2, za_w3, za_cm, za_sl, Int.toNat_natCast, Int.toNat_natCast_add_one, mm_t0, mm_t1, mm_t2, mm_t3, mm_t4, mm_t5, mm_t6, mm_t7, mm_t8, mm_t9, mm_t10, mm_t11, mm_t12, mm_t13, za_1, za_64, za_65, za_66, za_67, za_68, za_71, za_80, za_89, za_98, za_103, za_110, za_121, za_122, za_123, za_124, za_125, za_126, za_188, za_193, za_194, za_195, za_286, za_288, za_289, za_290, za_291, za_292, za_293, za_294, za_295, za_296, za_297, za_298, za_299, za_300, za_301, za_302, za_303, za_304, za_305, za_306, za_307, za_308, za_309, za_310, za_311, za_312, e1]
                     first | done | omega) ?_
    refine lp_238_79 (σ1 := σ1) (h := h) (cc := cc + zsum (fun h => zsum (fun j => t01 (Ps W o x r (j - 1) h)) (W 0 + 1).toNat) h) hW o0 o1 x0 x1 r0 r1 (by omega) (by omega) (by omega) (by omega) (fun τ hT2 => ?_) (W 0 + 1).toNat 0 σ (by omega) (by
      have z0 : zsum (fun j => t01 (Ps W o x r (j - 1) h)) 0 = 0 := rfl
      rw [z0, Int.add_zero]
      exact hT)
    rw [Int.add_assoc, ← ez] at hT2
    exact lp_238_65 hW o0 o1 x0 x1 r0 r1 c0 c1 K k (h + 1) τ (by omega) hT2
theorem lp_238_197 {σ : zM} {W : Int → Int} {o : Int} (o0 : 0 ≤ o) (o1 : o < 10) (hk : ∀ i : Nat, i < 14 → zN σ 304 i = oo W o i) : ∀ (k j : Nat) (τ : zM), j + k = 14 → mf (fun b => b = 288) σ τ → (∀ i : Int, i < 80 + 14 * o ∨ 80 + 14 * o + 14 ≤ i ∨ i < 80 + 14 * o + j → wv τ 288 i = W i) → zwp (zev 238 197 [some (.ref 287), some (.int (Int32.ofInt o)), none, some (.int (Int32.ofInt j)), none, none] [] τ) (fun v υ => v = none ∧ mf (fun b => b = 288) σ υ ∧ wv υ 288 = W)
  | 0, j, τ, e, hf, hw => by
    refine zwp_of (fun r h => ze_238_197 _ _ _ r h) ?_
    refine zwp_t (by try simp (disch := first | assumption | exact isR33 | exact isT104 | exact isF99 | exact isF101 | exact isR3 | omega | (refine isTk ?_; omega) | (refine isOk isR33 ?_; omega) | (refine isOk ?_ ?_; assumption; omega)) only [mm_r, mm_rl, mm_add, mm_sub, mm_mul, mm_addJ, mm_mulJ, mm_lt, mm_le, mm_eq, mm_z, mm_cl, mm_w, mm_wl, mm_ite, mm_i2l, mm_l2i, mm_ltJ, mm_leJ, mm_eqJ, mm_clt, mm_cle, mm_cgt, mm_cge, mm_ceq, mm_b, mm_nb, mm_nb0, mm_nb1, mm_vb0, mm_vb1, mm_vbc, mm_vy0, mm_vy1, mm_at, mm_ne, mm_nj, mm_Lw, mm_Nw, mm_atJ, mm_neJ, mm_njJ, zbI_s, zbV_s, zbJ_s, cond_t, Bool.true_and, Bool.and_true, if_true, if_false, not_true, not_false_iff, Classical.not_not, zel_r, zel_42, zel_12, zel_71, zel_80, zel_89, zel_110, zel_188, zel_103, zel_195, zr_o, zr_1, zr_2, zr_3, zr_4, zr_5, zr_6, zr_7, zr_8, zr_9, zq_o, zq_v, zt_o, zt_1, zt_2, zt_3, zt_4, zt_5, zf_o, zf_1, za_w1, za_w2, za_w3, za_cm, za_sl, Int.toNat_natCast, Int.toNat_natCast_add_one, mm_t0, mm_t1, mm_t2, mm_t3, mm_t4, mm_t5, mm_t6, mm_t7, mm_t8, mm_t9, mm_t10, mm_t11, mm_t12, mm_t13, za_1, za_64, za_65, za_66, za_67, za_68, za_71, za_80, za_89, za_98, za_103, za_110, za_121, za_122, za_123, za_124, za_125, za_126, za_188, za_193, za_194, za_195, za_286, za_288, za_289, za_290, za_291, za_292, za_293, za_294, za_295, za_296, za_297, za_298, za_299, za_300, za_301, za_302, za_303, za_304, za_305, za_306, za_307, za_308, za_309, za_310, za_311, za_312]
                     first | done | omega) ?_
    exact zwp_ret ⟨rfl, hf, funext fun i => hw i (by omega)⟩
  | k + 1, j, τ, e, hf, hw => by
    have e4 : zN τ 304 j = oo W o j := (hf.1 304 (by decide) j).trans (hk j (by omega))
    have m1 := mm_lo τ 304 j
    have m2 := mm_hi τ 304 j
    refine zwp_of (fun r h => ze_238_197 _ _ _ r h) ?_
    refine zwp_f (by try simp (disch := first | assumption | exact isR33 | exact isT104 | exact isF99 | exact isF101 | exact isR3 | omega | (refine isTk ?_; omega) | (refine isOk isR33 ?_; omega) | (refine isOk ?_ ?_; assumption; omega)) only [mm_r, mm_rl, mm_add, mm_sub, mm_mul, mm_addJ, mm_mulJ, mm_lt, mm_le, mm_eq, mm_z, mm_cl, mm_w, mm_wl, mm_ite, mm_i2l, mm_l2i, mm_ltJ, mm_leJ, mm_eqJ, mm_clt, mm_cle, mm_cgt, mm_cge, mm_ceq, mm_b, mm_nb, mm_nb0, mm_nb1, mm_vb0, mm_vb1, mm_vbc, mm_vy0, mm_vy1, mm_at, mm_ne, mm_nj, mm_Lw, mm_Nw, mm_atJ, mm_neJ, mm_njJ, zbI_s, zbV_s, zbJ_s, cond_t, Bool.true_and, Bool.and_true, if_true, if_false, not_true, not_false_iff, Classical.not_not, zel_r, zel_42, zel_12, zel_71, zel_80, zel_89, zel_110, zel_188, zel_103, zel_195, zr_o, zr_1, zr_2, zr_3, zr_4, zr_5, zr_6, zr_7, zr_8, zr_9, zq_o, zq_v, zt_o, zt_1, zt_2, zt_3, zt_4, zt_5, zf_o, zf_1, za_w1, za_w2, za_w3, za_cm, za_sl, Int.toNat_natCast, Int.toNat_natCast_add_one, mm_t0, mm_t1, mm_t2, mm_t3, mm_t4, mm_t5, mm_t6, mm_t7, mm_t8, mm_t9, mm_t10, mm_t11, mm_t12, mm_t13, za_1, za_64, za_65, za_66, za_67, za_68, za_71, za_80, za_89, za_98, za_103, za_110, za_121, za_122, za_123, za_124, za_125, za_126, za_188, za_193, za_194, za_195, za_286, za_288, za_289, za_290, za_291, za_292, za_293, za_294, za_295, za_296, za_297, za_298, za_299, za_300, za_301, za_302, za_303, za_304, za_305, za_306, za_307, za_308, za_309, za_310, za_311, za_312]
                     first | done | omega) ?_
    refine zwp_cd (by simp (disch := first | assumption | exact isR33 | exact isT104 | exact isF99 | exact isF101 | exact isR3 | omega | (refine isTk ?_; omega) | (refine isOk isR33 ?_; omega) | (refine isOk ?_ ?_; assumption; omega)) only [mm_r, mm_rl, mm_add, mm_sub, mm_mul, mm_addJ, mm_mulJ, mm_lt, mm_le, mm_eq, mm_z, mm_cl, mm_w, mm_wl, mm_ite, mm_i2l, mm_l2i, mm_ltJ, mm_leJ, mm_eqJ, mm_clt, mm_cle, mm_cgt, mm_cge, mm_ceq, mm_b, mm_nb, mm_nb0, mm_nb1, mm_vb0, mm_vb1, mm_vbc, mm_vy0, mm_vy1, mm_at, mm_ne, mm_nj, mm_Lw, mm_Nw, mm_atJ, mm_neJ, mm_njJ, zbI_s, zbV_s, zbJ_s, cond_t, Bool.true_and, Bool.and_true, if_true, if_false, not_true, not_false_iff, Classical.not_not, zel_r, zel_42, zel_12, zel_71, zel_80, zel_89, zel_110, zel_188, zel_103, zel_195, zr_o, zr_1, zr_2, zr_3, zr_4, zr_5, zr_6, zr_7, zr_8, zr_9, zq_o, zq_v, zt_o, zt_1, zt_2, zt_3, zt_4, zt_5, zf_o, zf_1, za_w1, za_w2, za_w3, za_cm, za_sl, Int.toNat_natCast, Int.toNat_natCast_add_one, mm_t0, mm_t1, mm_t2, mm_t3, mm_t4, mm_t5, mm_t6, mm_t7, mm_t8, mm_t9, mm_t10, mm_t11, mm_t12, mm_t13, za_1, za_64, za_65, za_66, za_67, za_68, za_71, za_80, za_89, za_98, za_103, za_110, za_121, za_122, za_123, za_124, za_125, za_126, za_188, za_193, za_194, za_195, za_286, za_288, za_289, za_290, za_291, za_292, za_293, za_294, za_295, za_296, za_297, za_298, za_299, za_300, za_301, za_302, za_303, za_304, za_305, za_306, za_307, za_308, za_309, za_310, za_311, za_312]) ?_
    rw [mm_r, mm_cl (by omega) (by omega), Int.toNat_natCast, sp_174 (w := j) o0 o1 (by omega) (by omega), zbV_s, mm_add]
    refine lp_238_197 o0 o1 hk k (j + 1) _ (by omega) (hf.zw 288 _ _ rfl) (fun i hi => ?_)
    show zN (zw τ 288 _ _) 288 i.toNat = W i
    by_cases q : i = 80 + 14 * o + j
    · rw [mm_at rfl (by omega) m1 m2, e4, q]
      rfl
    · by_cases q2 : i.toNat = (80 + 14 * o + (j : Int)).toNat
      · omega
      · rw [mm_nj q2]
        exact hw i (by omega)
theorem eqO.out {W W' : Int → Int} {o : Int} (hE : eqO W W' o) (o0 : 0 ≤ o) (i : Int) (hi : i < 80 + 14 * o ∨ 80 + 14 * o + 14 ≤ i) : W' i = W i := by
  by_cases q : i < 80
  · exact hE.1 i q
  · have := hE.2 ((i - 80) / 14) ((i - 80) % 14) (by omega) (by omega) (by omega) (.inl (by omega))
    unfold oo at this
    rw [show 80 + 14 * ((i - 80) / 14) + (i - 80) % 14 = i by omega] at this
    exact this
theorem lp_238_52 {σ1 : zM} {W : Int → Int} {o x : Int} (hW : WOK W) (o0 : 0 ≤ o) (o1 : o < W 5) (x0 : 0 ≤ x) (x1 : x < W 1) (hk : ∀ i : Nat, i < 14 → zN σ1 304 i = oo W o i) : ∀ (k r : Nat) (σ : zM), (r : Int) + k = W 4 → wT σ1 σ W o x (zsum (fun r => zsum (fun h => zsum (fun j => t01 (Ps W o x r (j - 1) h)) (W 0 + 1).toNat) (W 1).toNat) r) (fun r' h' v' => lx r' h' v' r 0 (-1)) → zwp (zev 238 52 [some (.ref 287), some (.int (Int32.ofInt o)), some (.int (Int32.ofInt x)), some (.int (Int32.ofInt r)), none, none] [] σ) (fun v τ => v = none ∧ mf (fun b => b = 287 ∨ b = 288 ∨ 294 ≤ b ∧ b ≤ 300) σ1 τ ∧ (∀ k, k < 29 ∨ 32 < k → zN τ 287 k = zN σ1 287 k) ∧ wv τ 288 = W ∧ zN τ 287 29 = cSd W o x ∧ ∃ a b c, bst W o x (fun _ _ _ => True) a b c ∧ zN τ 287 30 = a ∧ zN τ 287 31 = b ∧ zN τ 287 32 = c ∧ (a = -1 → b = -1 ∧ c = -1))
  | 0, r, σ, e, hT => by
    have h5 := hW.2.2.1
    obtain ⟨⟨W', hg, hE⟩, hm, h287, h29, a, b, c, hb, h30, h31, h32, hn, hz⟩ := hT
    have e4 : zN σ 288 4 = W 4 := (wv_k hg.1 4).trans (hE.1 4 (by decide))
    refine zwp_of (fun r h => ze_238_52 _ _ _ _ r h) ?_
    refine zwp_cd (by simp (disch := first | assumption | exact isR33 | exact isT104 | exact isF99 | exact isF101 | exact isR3 | omega | (refine isTk ?_; omega) | (refine isOk isR33 ?_; omega) | (refine isOk ?_ ?_; assumption; omega)) only [mm_r, mm_rl, mm_add, mm_sub, mm_mul, mm_addJ, mm_mulJ, mm_lt, mm_le, mm_eq, mm_z, mm_cl, mm_w, mm_wl, mm_ite, mm_i2l, mm_l2i, mm_ltJ, mm_leJ, mm_eqJ, mm_clt, mm_cle, mm_cgt, mm_cge, mm_ceq, mm_b, mm_nb, mm_nb0, mm_nb1, mm_vb0, mm_vb1, mm_vbc, mm_vy0, mm_vy1, mm_at, mm_ne, mm_nj, mm_Lw, mm_Nw, mm_atJ, mm_neJ, mm_njJ, zbI_s, zbV_s, zbJ_s, cond_t, Bool.true_and, Bool.and_true, if_true, if_false, not_true, not_false_iff, Classical.not_not, zel_r, zel_42, zel_12, zel_71, zel_80, zel_89, zel_110, zel_188, zel_103, zel_195, zr_o, zr_1, zr_2, zr_3, zr_4, zr_5, zr_6, zr_7, zr_8, zr_9, zq_o, zq_v, zt_o, zt_1, zt_2, zt_3, zt_4, zt_5, zf_o, zf_1, za_w1, za_w2, za_w3, za_cm, za_sl, Int.toNat_natCast, Int.toNat_natCast_add_one, mm_t0, mm_t1, mm_t2, mm_t3, mm_t4, mm_t5, mm_t6, mm_t7, mm_t8, mm_t9, mm_t10, mm_t11, mm_t12, mm_t13, za_1, za_64, za_65, za_66, za_67, za_68, za_71, za_80, za_89, za_98, za_103, za_110, za_121, za_122, za_123, za_124, za_125, za_126, za_188, za_193, za_194, za_195, za_286, za_288, za_289, za_290, za_291, za_292, za_293, za_294, za_295, za_296, za_297, za_298, za_299, za_300, za_301, za_302, za_303, za_304, za_305, za_306, za_307, za_308, za_309, za_310, za_311, za_312]) ?_
    refine zwp_t (by try simp (disch := first | assumption | exact isR33 | exact isT104 | exact isF99 | exact isF101 | exact isR3 | omega | (refine isTk ?_; omega) | (refine isOk isR33 ?_; omega) | (refine isOk ?_ ?_; assumption; omega)) only [mm_r, mm_rl, mm_add, mm_sub, mm_mul, mm_addJ, mm_mulJ, mm_lt, mm_le, mm_eq, mm_z, mm_cl, mm_w, mm_wl, mm_ite, mm_i2l, mm_l2i, mm_ltJ, mm_leJ, mm_eqJ, mm_clt, mm_cle, mm_cgt, mm_cge, mm_ceq, mm_b, mm_nb, mm_nb0, mm_nb1, mm_vb0, mm_vb1, mm_vbc, mm_vy0, mm_vy1, mm_at, mm_ne, mm_nj, mm_Lw, mm_Nw, mm_atJ, mm_neJ, mm_njJ, zbI_s, zbV_s, zbJ_s, cond_t, Bool.true_and, Bool.and_true, if_true, if_false, not_true, not_false_iff, Classical.not_not, zel_r, zel_42, zel_12, zel_71, zel_80, zel_89, zel_110, zel_188, zel_103, zel_195, zr_o, zr_1, zr_2, zr_3, zr_4, zr_5, zr_6, zr_7, zr_8, zr_9, zq_o, zq_v, zt_o, zt_1, zt_2, zt_3, zt_4, zt_5, zf_o, zf_1, za_w1, za_w2, za_w3, za_cm, za_sl, Int.toNat_natCast, Int.toNat_natCast_add_one, mm_t0, mm_t1, mm_t2, mm_t3, mm_t4, mm_t5, mm_t6, mm_t7, mm_t8, mm_t9, mm_t10, mm_t11, mm_t12, mm_t13, za_1, za_64, za_65, za_66, za_67, za_68, za_71, za_80, za_89, za_98, za_103, za_110, za_121, za_122, za_123, za_124, za_125, za_126, za_188, za_193, za_194, za_195, za_286, za_288, za_289, za_290, za_291, za_292, za_293, za_294, za_295, za_296, za_297, za_298, za_299, za_300, za_301, za_302, za_303, za_304, za_305, za_306, za_307, za_308, za_309, za_310, za_311, za_312, e4]
                     first | done | omega) ?_
    refine zwp_mono (lp_238_197 (σ := σ) (W := W) o0 (by omega) (fun i hi => (hm.1 304 (by omega) i).trans (hk i hi)) 14 0 σ rfl mf.rf (fun i hi => by
      rw [hg.1]
      exact hE.out o0 i (by omega))) ?_
    rintro v τ ⟨rfl, hf, hw⟩
    refine ⟨rfl, hm.tr (hf.mono (by omega)), fun k k0 => (hf.1 287 (by decide) k).trans (h287 k k0), hw, ?_, a, b, c, hb.eq (fun r' h' v' hs => ?_), (hf.1 287 (by decide) _).trans h30, (hf.1 287 (by decide) _).trans h31, (hf.1 287 (by decide) _).trans h32, hn⟩
    · rw [hf.1 287 (by decide), h29]
      unfold cSd
      rw [show (W 4).toNat = r by omega]
    · obtain ⟨a1, a2, a3, a4, a5, a6, -⟩ := hs
      unfold lx
      exact ⟨fun _ => trivial, fun _ => by omega⟩
  | k + 1, r, σ, e, hT => by
    have h9 := hW.1.2.2.1
    have h1 := hW.1.2.1
    have h8 := hW.1.1.2.1
    have h80 := hW.1.1.1
    have h5 := hW.2.2.1
    have hT' := hT
    obtain ⟨⟨W', hg, hE⟩, -⟩ := hT'
    have e4 : zN σ 288 4 = W 4 := (wv_k hg.1 4).trans (hE.1 4 (by decide))
    have a := fun r h => zsum_rng (f := fun j => t01 (Ps W o x r (j - 1) h)) (M := 1) (fun i => t01_rng _) (W 0 + 1).toNat
    have b := fun r => zsum_rng (f := fun h => zsum (fun j => t01 (Ps W o x r (j - 1) h)) (W 0 + 1).toNat) (M := 9) (fun h => by have := a r h; omega) (W 1).toNat
    have c := zsum_rng (f := fun r => zsum (fun h => zsum (fun j => t01 (Ps W o x r (j - 1) h)) (W 0 + 1).toNat) (W 1).toNat) (M := 891) (fun r => by have := b r; omega) r
    refine zwp_of (fun r h => ze_238_52 _ _ _ _ r h) ?_
    refine zwp_cd (by simp (disch := first | assumption | exact isR33 | exact isT104 | exact isF99 | exact isF101 | exact isR3 | omega | (refine isTk ?_; omega) | (refine isOk isR33 ?_; omega) | (refine isOk ?_ ?_; assumption; omega)) only [mm_r, mm_rl, mm_add, mm_sub, mm_mul, mm_addJ, mm_mulJ, mm_lt, mm_le, mm_eq, mm_z, mm_cl, mm_w, mm_wl, mm_ite, mm_i2l, mm_l2i, mm_ltJ, mm_leJ, mm_eqJ, mm_clt, mm_cle, mm_cgt, mm_cge, mm_ceq, mm_b, mm_nb, mm_nb0, mm_nb1, mm_vb0, mm_vb1, mm_vbc, mm_vy0, mm_vy1, mm_at, mm_ne, mm_nj, mm_Lw, mm_Nw, mm_atJ, mm_neJ, mm_njJ, zbI_s, zbV_s, zbJ_s, cond_t, Bool.true_and, Bool.and_true, if_true, if_false, not_true, not_false_iff, Classical.not_not, zel_r, zel_42, zel_12, zel_71, zel_80, zel_89, zel_110, zel_188, zel_103, zel_195, zr_o, zr_1, zr_2, zr_3, zr_4, zr_5, zr_6, zr_7, zr_8, zr_9, zq_o, zq_v, zt_o, zt_1, zt_2, zt_3, zt_4, zt_5, zf_o, zf_1, za_w1, za_w2, za_w3, za_cm, za_sl, Int.toNat_natCast, Int.toNat_natCast_add_one, mm_t0, mm_t1, mm_t2, mm_t3, mm_t4, mm_t5, mm_t6, mm_t7, mm_t8, mm_t9, mm_t10, mm_t11, mm_t12, mm_t13, za_1, za_64, za_65, za_66, za_67, za_68, za_71, za_80, za_89, za_98, za_103, za_110, za_121, za_122, za_123, za_124, za_125, za_126, za_188, za_193, za_194, za_195, za_286, za_288, za_289, za_290, za_291, za_292, za_293, za_294, za_295, za_296, za_297, za_298, za_299, za_300, za_301, za_302, za_303, za_304, za_305, za_306, za_307, za_308, za_309, za_310, za_311, za_312]) ?_
    refine zwp_f (by try simp (disch := first | assumption | exact isR33 | exact isT104 | exact isF99 | exact isF101 | exact isR3 | omega | (refine isTk ?_; omega) | (refine isOk isR33 ?_; omega) | (refine isOk ?_ ?_; assumption; omega)) only [mm_r, mm_rl, mm_add, mm_sub, mm_mul, mm_addJ, mm_mulJ, mm_lt, mm_le, mm_eq, mm_z, mm_cl, mm_w, mm_wl, mm_ite, mm_i2l, mm_l2i, mm_ltJ, mm_leJ, mm_eqJ, mm_clt, mm_cle, mm_cgt, mm_cge, mm_ceq, mm_b, mm_nb, mm_nb0, mm_nb1, mm_vb0, mm_vb1, mm_vbc, mm_vy0, mm_vy1, mm_at, mm_ne, mm_nj, mm_Lw, mm_Nw, mm_atJ, mm_neJ, mm_njJ, zbI_s, zbV_s, zbJ_s, cond_t, Bool.true_and, Bool.and_true, if_true, if_false, not_true, not_false_iff, Classical.not_not, zel_r, zel_42, zel_12, zel_71, zel_80, zel_89, zel_110, zel_188, zel_103, zel_195, zr_o, zr_1, zr_2, zr_3, zr_4, zr_5, zr_6, zr_7, zr_8, zr_9, zq_o, zq_v, zt_o, zt_1, zt_2, zt_3, zt_4, zt_5, zf_o, zf_1, za_w1, za_w2, za_w3, za_cm, za_sl, Int.toNat_natCast, Int.toNat_natCast_add_one, mm_t0, mm_t1, mm_t2, mm_t3, mm_t4, mm_t5, mm_t6, mm_t7, mm_t8, mm_t9, mm_t10, mm_t11, mm_t12, mm_t13, za_1, za_64, za_65, za_66, za_67, za_68, za_71, za_80, za_89, za_98, za_103, za_110, za_121, za_122, za_123, za_124, za_125, za_126, za_188, za_193, za_194, za_195, za_286, za_288, za_289, za_290, za_291, za_292, za_293, za_294, za_295, za_296, za_297, za_298, za_299, za_300, za_301, za_302, za_303, za_304, za_305, za_306, za_307, za_308, za_309, za_310, za_311, za_312, e4]
                     first | done | omega) ?_
    refine lp_238_65 (σ1 := σ1) (r := r) (cc := zsum (fun r => zsum (fun h => zsum (fun j => t01 (Ps W o x r (j - 1) h)) (W 0 + 1).toNat) (W 1).toNat) r) hW o0 o1 x0 x1 (by omega) (by omega) (by omega) (by omega) (fun τ hT2 => ?_) (W 1).toNat 0 σ (by omega) (by
      have z0 : zsum (fun h => zsum (fun j => t01 (Ps W o x r (j - 1) h)) (W 0 + 1).toNat) 0 = 0 := rfl
      rw [z0, Int.add_zero]
      exact hT)
    exact lp_238_52 hW o0 o1 x0 x1 hk k (r + 1) τ (by omega) hT2
theorem lp_238_6 {σ0 : zM} {W : Int → Int} {o x : Int} (hW : WOK W) (hg : gone σ0 W noD) (h24 : zN σ0 287 24 = 0) (o0 : 0 ≤ o) (o1 : o < W 5) (x0 : 0 ≤ x) (x1 : x < W 1) : ∀ (k j : Nat) (σ : zM), j + k = 14 → mf (fun b => b = 304) σ0 σ → (∀ i : Nat, i < j → zN σ 304 i = oo W o i) → zwp (zev 238 6 [some (.ref 287), some (.int (Int32.ofInt o)), some (.int (Int32.ofInt x)), some (.int (Int32.ofInt j)), none, none] [] σ) (fun v τ => v = none ∧ rK σ0 τ ∧ zN τ 287 29 = cSd W o x ∧ ∃ a b c, bst W o x (fun _ _ _ => True) a b c ∧ zN τ 287 30 = a ∧ zN τ 287 31 = b ∧ zN τ 287 32 = c ∧ (a = -1 → b = -1 ∧ c = -1))
  | 0, j, σ, e, hf, hv => by
    have h5 := hW.2.2.1
    have hX := (hg.X o o0 o1 h24).fr (fun b hb => hf.1 b (by omega)) (hf.1 287 (by omega) _)
    have hE : eqO W W o := ⟨fun _ _ => rfl, fun _ _ _ _ _ _ => rfl⟩
    refine zwp_of (fun r h => ze_238_6 _ _ _ _ r h) ?_
    refine zwp_t (by try simp (disch := first | assumption | exact isR33 | exact isT104 | exact isF99 | exact isF101 | exact isR3 | omega | (refine isTk ?_; omega) | (refine isOk isR33 ?_; omega) | (refine isOk ?_ ?_; assumption; omega)) only [mm_r, mm_rl, mm_add, mm_sub, mm_mul, mm_addJ, mm_mulJ, mm_lt, mm_le, mm_eq, mm_z, mm_cl, mm_w, mm_wl, mm_ite, mm_i2l, mm_l2i, mm_ltJ, mm_leJ, mm_eqJ, mm_clt, mm_cle, mm_cgt, mm_cge, mm_ceq, mm_b, mm_nb, mm_nb0, mm_nb1, mm_vb0, mm_vb1, mm_vbc, mm_vy0, mm_vy1, mm_at, mm_ne, mm_nj, mm_Lw, mm_Nw, mm_atJ, mm_neJ, mm_njJ, zbI_s, zbV_s, zbJ_s, cond_t, Bool.true_and, Bool.and_true, if_true, if_false, not_true, not_false_iff, Classical.not_not, zel_r, zel_42, zel_12, zel_71, zel_80, zel_89, zel_110, zel_188, zel_103, zel_195, zr_o, zr_1, zr_2, zr_3, zr_4, zr_5, zr_6, zr_7, zr_8, zr_9, zq_o, zq_v, zt_o, zt_1, zt_2, zt_3, zt_4, zt_5, zf_o, zf_1, za_w1, za_w2, za_w3, za_cm, za_sl, Int.toNat_natCast, Int.toNat_natCast_add_one, mm_t0, mm_t1, mm_t2, mm_t3, mm_t4, mm_t5, mm_t6, mm_t7, mm_t8, mm_t9, mm_t10, mm_t11, mm_t12, mm_t13, za_1, za_64, za_65, za_66, za_67, za_68, za_71, za_80, za_89, za_98, za_103, za_110, za_121, za_122, za_123, za_124, za_125, za_126, za_188, za_193, za_194, za_195, za_286, za_288, za_289, za_290, za_291, za_292, za_293, za_294, za_295, za_296, za_297, za_298, za_299, za_300, za_301, za_302, za_303, za_304, za_305, za_306, za_307, za_308, za_309, za_310, za_311, za_312]
                     first | done | omega) ?_
    refine zwp_letE (τ' := zw σ 287 29 0) (by simp (disch := first | assumption | exact isR33 | exact isT104 | exact isF99 | exact isF101 | exact isR3 | omega | (refine isTk ?_; omega) | (refine isOk isR33 ?_; omega) | (refine isOk ?_ ?_; assumption; omega)) only [mm_r, mm_rl, mm_add, mm_sub, mm_mul, mm_addJ, mm_mulJ, mm_lt, mm_le, mm_eq, mm_z, mm_cl, mm_w, mm_wl, mm_ite, mm_i2l, mm_l2i, mm_ltJ, mm_leJ, mm_eqJ, mm_clt, mm_cle, mm_cgt, mm_cge, mm_ceq, mm_b, mm_nb, mm_nb0, mm_nb1, mm_vb0, mm_vb1, mm_vbc, mm_vy0, mm_vy1, mm_at, mm_ne, mm_nj, mm_Lw, mm_Nw, mm_atJ, mm_neJ, mm_njJ, zbI_s, zbV_s, zbJ_s, cond_t, Bool.true_and, Bool.and_true, if_true, if_false, not_true, not_false_iff, Classical.not_not, zel_r, zel_42, zel_12, zel_71, zel_80, zel_89, zel_110, zel_188, zel_103, zel_195, zr_o, zr_1, zr_2, zr_3, zr_4, zr_5, zr_6, zr_7, zr_8, zr_9, zq_o, zq_v, zt_o, zt_1, zt_2, zt_3, zt_4, zt_5, zf_o, zf_1, za_w1, za_w2, za_w3, za_cm, za_sl, Int.toNat_natCast, Int.toNat_natCast_add_one, mm_t0, mm_t1, mm_t2, mm_t3, mm_t4, mm_t5, mm_t6, mm_t7, mm_t8, mm_t9, mm_t10, mm_t11, mm_t12, mm_t13, za_1, za_64, za_65, za_66, za_67, za_68, za_71, za_80, za_89, za_98, za_103, za_110, za_121, za_122, za_123, za_124, za_125, za_126, za_188, za_193, za_194, za_195, za_286, za_288, za_289, za_290, za_291, za_292, za_293, za_294, za_295, za_296, za_297, za_298, za_299, za_300, za_301, za_302, za_303, za_304, za_305, za_306, za_307, za_308, za_309, za_310, za_311, za_312]) ?_
    refine zwp_letE (τ' := zw (zw σ 287 29 0) 287 30 (-1)) (by simp (disch := first | assumption | exact isR33 | exact isT104 | exact isF99 | exact isF101 | exact isR3 | omega | (refine isTk ?_; omega) | (refine isOk isR33 ?_; omega) | (refine isOk ?_ ?_; assumption; omega)) only [mm_r, mm_rl, mm_add, mm_sub, mm_mul, mm_addJ, mm_mulJ, mm_lt, mm_le, mm_eq, mm_z, mm_cl, mm_w, mm_wl, mm_ite, mm_i2l, mm_l2i, mm_ltJ, mm_leJ, mm_eqJ, mm_clt, mm_cle, mm_cgt, mm_cge, mm_ceq, mm_b, mm_nb, mm_nb0, mm_nb1, mm_vb0, mm_vb1, mm_vbc, mm_vy0, mm_vy1, mm_at, mm_ne, mm_nj, mm_Lw, mm_Nw, mm_atJ, mm_neJ, mm_njJ, zbI_s, zbV_s, zbJ_s, cond_t, Bool.true_and, Bool.and_true, if_true, if_false, not_true, not_false_iff, Classical.not_not, zel_r, zel_42, zel_12, zel_71, zel_80, zel_89, zel_110, zel_188, zel_103, zel_195, zr_o, zr_1, zr_2, zr_3, zr_4, zr_5, zr_6, zr_7, zr_8, zr_9, zq_o, zq_v, zt_o, zt_1, zt_2, zt_3, zt_4, zt_5, zf_o, zf_1, za_w1, za_w2, za_w3, za_cm, za_sl, Int.toNat_natCast, Int.toNat_natCast_add_one, mm_t0, mm_t1, mm_t2, mm_t3, mm_t4, mm_t5, mm_t6, mm_t7, mm_t8, mm_t9, mm_t10, mm_t11, mm_t12, mm_t13, za_1, za_64, za_65, za_66, za_67, za_68, za_71, za_80, za_89, za_98, za_103, za_110, za_121, za_122, za_123, za_124, za_125, za_126, za_188, za_193, za_194, za_195, za_286, za_288, za_289, za_290, za_291, za_292, za_293, za_294, za_295, za_296, za_297, za_298, za_299, za_300, za_301, za_302, za_303, za_304, za_305, za_306, za_307, za_308, za_309, za_310, za_311, za_312]) ?_
    refine zwp_letE (τ' := zw (zw (zw σ 287 29 0) 287 30 (-1)) 287 31 (-1)) (by simp (disch := first | assumption | exact isR33 | exact isT104 | exact isF99 | exact isF101 | exact isR3 | omega | (refine isTk ?_; omega) | (refine isOk isR33 ?_; omega) | (refine isOk ?_ ?_; assumption; omega)) only [mm_r, mm_rl, mm_add, mm_sub, mm_mul, mm_addJ, mm_mulJ, mm_lt, mm_le, mm_eq, mm_z, mm_cl, mm_w, mm_wl, mm_ite, mm_i2l, mm_l2i, mm_ltJ, mm_leJ, mm_eqJ, mm_clt, mm_cle, mm_cgt, mm_cge, mm_ceq, mm_b, mm_nb, mm_nb0, mm_nb1, mm_vb0, mm_vb1, mm_vbc, mm_vy0, mm_vy1, mm_at, mm_ne, mm_nj, mm_Lw, mm_Nw, mm_atJ, mm_neJ, mm_njJ, zbI_s, zbV_s, zbJ_s, cond_t, Bool.true_and, Bool.and_true, if_true, if_false, not_true, not_false_iff, Classical.not_not, zel_r, zel_42, zel_12, zel_71, zel_80, zel_89, zel_110, zel_188, zel_103, zel_195, zr_o, zr_1, zr_2, zr_3, zr_4, zr_5, zr_6, zr_7, zr_8, zr_9, zq_o, zq_v, zt_o, zt_1, zt_2, zt_3, zt_4, zt_5, zf_o, zf_1, za_w1, za_w2, za_w3, za_cm, za_sl, Int.toNat_natCast, Int.toNat_natCast_add_one, mm_t0, mm_t1, mm_t2, mm_t3, mm_t4, mm_t5, mm_t6, mm_t7, mm_t8, mm_t9, mm_t10, mm_t11, mm_t12, mm_t13, za_1, za_64, za_65, za_66, za_67, za_68, za_71, za_80, za_89, za_98, za_103, za_110, za_121, za_122, za_123, za_124, za_125, za_126, za_188, za_193, za_194, za_195, za_286, za_288, za_289, za_290, za_291, za_292, za_293, za_294, za_295, za_296, za_297, za_298, za_299, za_300, za_301, za_302, za_303, za_304, za_305, za_306, za_307, za_308, za_309, za_310, za_311, za_312]) ?_
    refine zwp_letE (τ' := zw (zw (zw (zw σ 287 29 0) 287 30 (-1)) 287 31 (-1)) 287 32 (-1)) (by simp (disch := first | assumption | exact isR33 | exact isT104 | exact isF99 | exact isF101 | exact isR3 | omega | (refine isTk ?_; omega) | (refine isOk isR33 ?_; omega) | (refine isOk ?_ ?_; assumption; omega)) only [mm_r, mm_rl, mm_add, mm_sub, mm_mul, mm_addJ, mm_mulJ, mm_lt, mm_le, mm_eq, mm_z, mm_cl, mm_w, mm_wl, mm_ite, mm_i2l, mm_l2i, mm_ltJ, mm_leJ, mm_eqJ, mm_clt, mm_cle, mm_cgt, mm_cge, mm_ceq, mm_b, mm_nb, mm_nb0, mm_nb1, mm_vb0, mm_vb1, mm_vbc, mm_vy0, mm_vy1, mm_at, mm_ne, mm_nj, mm_Lw, mm_Nw, mm_atJ, mm_neJ, mm_njJ, zbI_s, zbV_s, zbJ_s, cond_t, Bool.true_and, Bool.and_true, if_true, if_false, not_true, not_false_iff, Classical.not_not, zel_r, zel_42, zel_12, zel_71, zel_80, zel_89, zel_110, zel_188, zel_103, zel_195, zr_o, zr_1, zr_2, zr_3, zr_4, zr_5, zr_6, zr_7, zr_8, zr_9, zq_o, zq_v, zt_o, zt_1, zt_2, zt_3, zt_4, zt_5, zf_o, zf_1, za_w1, za_w2, za_w3, za_cm, za_sl, Int.toNat_natCast, Int.toNat_natCast_add_one, mm_t0, mm_t1, mm_t2, mm_t3, mm_t4, mm_t5, mm_t6, mm_t7, mm_t8, mm_t9, mm_t10, mm_t11, mm_t12, mm_t13, za_1, za_64, za_65, za_66, za_67, za_68, za_71, za_80, za_89, za_98, za_103, za_110, za_121, za_122, za_123, za_124, za_125, za_126, za_188, za_193, za_194, za_195, za_286, za_288, za_289, za_290, za_291, za_292, za_293, za_294, za_295, za_296, za_297, za_298, za_299, za_300, za_301, za_302, za_303, za_304, za_305, za_306, za_307, za_308, za_309, za_310, za_311, za_312]) ?_
    generalize hσ1 : zw (zw (zw (zw σ 287 29 0) 287 30 (-1)) 287 31 (-1)) 287 32 (-1) = σ1
    have u : ∀ b, b ≠ 287 → ∀ k, zN σ1 b k = zN σ b k := fun b hb k => by rw [← hσ1, mm_ne hb, mm_ne hb, mm_ne hb, mm_ne hb]
    have u7 : ∀ k, k < 29 ∨ 32 < k → zN σ1 287 k = zN σ 287 k := fun k hk => by rw [← hσ1, mm_nj (by omega), mm_nj (by omega), mm_nj (by omega), mm_nj (by omega)]
    have m1 : mf (fun b => b = 287) σ σ1 := by
      rw [← hσ1]
      exact ((((mf.rf (S := fun b => b = 287)).zw 287 _ _ rfl).zw 287 _ _ rfl).zw 287 _ _ rfl).zw 287 _ _ rfl
    refine zwp_mono (lp_238_52 (σ1 := σ1) hW o0 o1 x0 x1 (fun i hi => (u 304 (by decide) i).trans (hv i (by omega))) (W 4).toNat 0 σ1 (by omega) ⟨⟨W, hX.fr (fun b hb => u b (by omega)) (u7 24 (by omega)), hE⟩, mf.rf, fun _ _ => rfl, ?_, -1, -1, -1, .inl ⟨rfl, fun r' h' v' hs => ?_⟩, ?_, ?_, ?_, fun _ => ⟨rfl, rfl⟩, ⟨fun _ => rfl, fun _ => rfl⟩⟩) ?_
    · rw [← hσ1, mm_nj (by decide), mm_nj (by decide), mm_nj (by decide), mm_at rfl rfl (by decide) (by decide)]
      rfl
    · obtain ⟨a1, a2, a3, a4, a5, a6, -⟩ := hs
      unfold lx
      omega
    · rw [← hσ1, mm_nj (by decide), mm_nj (by decide), mm_at rfl rfl (by decide) (by decide)]
    · rw [← hσ1, mm_nj (by decide), mm_at rfl rfl (by decide) (by decide)]
    · rw [← hσ1, mm_at rfl rfl (by decide) (by decide)]
    · rintro v τ ⟨rfl, g1, g2, g3, g4, g5⟩
      refine ⟨rfl, ⟨((hf.mono fun b hb => by unfold refS; omega).tr (m1.mono fun b hb => by unfold refS; omega)).tr (g1.mono fun b hb => by unfold refS; omega), fun k hk => ?_, g3.trans hg.1.1.symm⟩, g4, g5⟩
      rw [g2 k (by omega), u7 k (by omega)]
      exact hf.1 287 (by omega) k
  | k + 1, j, σ, e, hf, hv => by
    have h5 := hW.2.2.1
    have ej : rO σ j o = oo W o j := rO_of ((hf.wv 288 (by omega)).trans hg.1.1) j o
    have m1 := rO_lo σ j o
    have m2 := rO_hi σ j o
    rw [ej] at m1 m2
    refine zwp_of (fun r h => ze_238_6 _ _ _ _ r h) ?_
    refine zwp_f (by try simp (disch := first | assumption | exact isR33 | exact isT104 | exact isF99 | exact isF101 | exact isR3 | omega | (refine isTk ?_; omega) | (refine isOk isR33 ?_; omega) | (refine isOk ?_ ?_; assumption; omega)) only [mm_r, mm_rl, mm_add, mm_sub, mm_mul, mm_addJ, mm_mulJ, mm_lt, mm_le, mm_eq, mm_z, mm_cl, mm_w, mm_wl, mm_ite, mm_i2l, mm_l2i, mm_ltJ, mm_leJ, mm_eqJ, mm_clt, mm_cle, mm_cgt, mm_cge, mm_ceq, mm_b, mm_nb, mm_nb0, mm_nb1, mm_vb0, mm_vb1, mm_vbc, mm_vy0, mm_vy1, mm_at, mm_ne, mm_nj, mm_Lw, mm_Nw, mm_atJ, mm_neJ, mm_njJ, zbI_s, zbV_s, zbJ_s, cond_t, Bool.true_and, Bool.and_true, if_true, if_false, not_true, not_false_iff, Classical.not_not, zel_r, zel_42, zel_12, zel_71, zel_80, zel_89, zel_110, zel_188, zel_103, zel_195, zr_o, zr_1, zr_2, zr_3, zr_4, zr_5, zr_6, zr_7, zr_8, zr_9, zq_o, zq_v, zt_o, zt_1, zt_2, zt_3, zt_4, zt_5, zf_o, zf_1, za_w1, za_w2, za_w3, za_cm, za_sl, Int.toNat_natCast, Int.toNat_natCast_add_one, mm_t0, mm_t1, mm_t2, mm_t3, mm_t4, mm_t5, mm_t6, mm_t7, mm_t8, mm_t9, mm_t10, mm_t11, mm_t12, mm_t13, za_1, za_64, za_65, za_66, za_67, za_68, za_71, za_80, za_89, za_98, za_103, za_110, za_121, za_122, za_123, za_124, za_125, za_126, za_188, za_193, za_194, za_195, za_286, za_288, za_289, za_290, za_291, za_292, za_293, za_294, za_295, za_296, za_297, za_298, za_299, za_300, za_301, za_302, za_303, za_304, za_305, za_306, za_307, za_308, za_309, za_310, za_311, za_312]
                     first | done | omega) ?_
    rw [sp_173r (w := j) o0 (by omega) (by omega) (by omega), zbI_s, ej]
    refine zwp_cd (by simp (disch := first | assumption | exact isR33 | exact isT104 | exact isF99 | exact isF101 | exact isR3 | omega | (refine isTk ?_; omega) | (refine isOk isR33 ?_; omega) | (refine isOk ?_ ?_; assumption; omega)) only [mm_r, mm_rl, mm_add, mm_sub, mm_mul, mm_addJ, mm_mulJ, mm_lt, mm_le, mm_eq, mm_z, mm_cl, mm_w, mm_wl, mm_ite, mm_i2l, mm_l2i, mm_ltJ, mm_leJ, mm_eqJ, mm_clt, mm_cle, mm_cgt, mm_cge, mm_ceq, mm_b, mm_nb, mm_nb0, mm_nb1, mm_vb0, mm_vb1, mm_vbc, mm_vy0, mm_vy1, mm_at, mm_ne, mm_nj, mm_Lw, mm_Nw, mm_atJ, mm_neJ, mm_njJ, zbI_s, zbV_s, zbJ_s, cond_t, Bool.true_and, Bool.and_true, if_true, if_false, not_true, not_false_iff, Classical.not_not, zel_r, zel_42, zel_12, zel_71, zel_80, zel_89, zel_110, zel_188, zel_103, zel_195, zr_o, zr_1, zr_2, zr_3, zr_4, zr_5, zr_6, zr_7, zr_8, zr_9, zq_o, zq_v, zt_o, zt_1, zt_2, zt_3, zt_4, zt_5, zf_o, zf_1, za_w1, za_w2, za_w3, za_cm, za_sl, Int.toNat_natCast, Int.toNat_natCast_add_one, mm_t0, mm_t1, mm_t2, mm_t3, mm_t4, mm_t5, mm_t6, mm_t7, mm_t8, mm_t9, mm_t10, mm_t11, mm_t12, mm_t13, za_1, za_64, za_65, za_66, za_67, za_68, za_71, za_80, za_89, za_98, za_103, za_110, za_121, za_122, za_123, za_124, za_125, za_126, za_188, za_193, za_194, za_195, za_286, za_288, za_289, za_290, za_291, za_292, za_293, za_294, za_295, za_296, za_297, za_298, za_299, za_300, za_301, za_302, za_303, za_304, za_305, za_306, za_307, za_308, za_309, za_310, za_311, za_312]) ?_
    refine zwp_letE (τ' := zw σ 304 j (oo W o j)) (by simp (disch := first | assumption | exact isR33 | exact isT104 | exact isF99 | exact isF101 | exact isR3 | omega | (refine isTk ?_; omega) | (refine isOk isR33 ?_; omega) | (refine isOk ?_ ?_; assumption; omega)) only [mm_r, mm_rl, mm_add, mm_sub, mm_mul, mm_addJ, mm_mulJ, mm_lt, mm_le, mm_eq, mm_z, mm_cl, mm_w, mm_wl, mm_ite, mm_i2l, mm_l2i, mm_ltJ, mm_leJ, mm_eqJ, mm_clt, mm_cle, mm_cgt, mm_cge, mm_ceq, mm_b, mm_nb, mm_nb0, mm_nb1, mm_vb0, mm_vb1, mm_vbc, mm_vy0, mm_vy1, mm_at, mm_ne, mm_nj, mm_Lw, mm_Nw, mm_atJ, mm_neJ, mm_njJ, zbI_s, zbV_s, zbJ_s, cond_t, Bool.true_and, Bool.and_true, if_true, if_false, not_true, not_false_iff, Classical.not_not, zel_r, zel_42, zel_12, zel_71, zel_80, zel_89, zel_110, zel_188, zel_103, zel_195, zr_o, zr_1, zr_2, zr_3, zr_4, zr_5, zr_6, zr_7, zr_8, zr_9, zq_o, zq_v, zt_o, zt_1, zt_2, zt_3, zt_4, zt_5, zf_o, zf_1, za_w1, za_w2, za_w3, za_cm, za_sl, Int.toNat_natCast, Int.toNat_natCast_add_one, mm_t0, mm_t1, mm_t2, mm_t3, mm_t4, mm_t5, mm_t6, mm_t7, mm_t8, mm_t9, mm_t10, mm_t11, mm_t12, mm_t13, za_1, za_64, za_65, za_66, za_67, za_68, za_71, za_80, za_89, za_98, za_103, za_110, za_121, za_122, za_123, za_124, za_125, za_126, za_188, za_193, za_194, za_195, za_286, za_288, za_289, za_290, za_291, za_292, za_293, za_294, za_295, za_296, za_297, za_298, za_299, za_300, za_301, za_302, za_303, za_304, za_305, za_306, za_307, za_308, za_309, za_310, za_311, za_312]) ?_
    rw [mm_add]
    refine lp_238_6 hW hg h24 o0 o1 x0 x1 k (j + 1) _ (by omega) (hf.zw 304 _ _ rfl) (fun i hi => ?_)
    by_cases q : i = j
    · rw [q]
      exact mm_at rfl rfl m1 m2
    · rw [mm_nj q]
      exact hv i (by omega)
theorem sp_238 {σ : zM} {W : Int → Int} {o x : Int} (hB : rB0 σ W) (o0 : 0 ≤ o) (o1 : o < W 5) (x0 : 0 ≤ x) (x1 : x < W 1) : zwp (zcall 238 [.ref 287, .int (Int32.ofInt o), .int (Int32.ofInt x)] σ) (fun v τ => v = none ∧ rK σ τ ∧ zN τ 287 29 = cSd W o x ∧ ∃ a b c, bst W o x (fun _ _ _ => True) a b c ∧ zN τ 287 30 = a ∧ zN τ 287 31 = b ∧ zN τ 287 32 = c ∧ (a = -1 → b = -1 ∧ c = -1)) := by
  refine zwp_of (fun r h => zcc_238 (ze_238_0 _ _ _ r h)) ?_
  refine zwp_V _ (sp_210c hB) ?_
  rintro τ ⟨hk, hg⟩
  refine zwp_mono (lp_238_6 hB.2.1 hg ((hk.2.1 24 (by omega)).trans hB.2.2.1) o0 o1 x0 x1 14 0 τ rfl mf.rf (fun i hi => absurd hi (by omega))) ?_
  rintro v υ ⟨h1, h2, h3⟩
  exact ⟨h1, hk.tr h2, h3⟩
theorem rq_ways {σ : zM} {W : Int → Int} {o x : Int} (hB : rB0 σ W) (ho0 : -2147483648 ≤ o) (ho1 : o < 2147483648) (hh0 : -2147483648 ≤ x) (hh1 : x < 2147483648) : zwp (zcall 239 [.ref 287, .int (Int32.ofInt o), .int (Int32.ofInt x)] σ) (fun v τ => v = some (.int (Int32.ofInt (Ewa W o x))) ∧ rK σ τ) := by
  unfold Ewa
  refine zwp_of (fun r h => zcc_239 (ze_239_0 _ _ _ r h)) ?_
  rw [sp_233w hB ho0 ho1 hh0 hh1]
  simp only [zbI_s, mm_z, mm_b, Classical.not_not]
  refine zwp_ite (fun q => ?_) (fun q => ?_)
  · rw [if_pos q]
    refine zwp_V _ (sp_238 hB q.1.1 q.1.2 q.2.1.1 q.2.1.2) ?_
    rintro τ ⟨hk, h29, -⟩
    rw [mm_r, h29]
    exact zwp_ret ⟨rfl, hk⟩
  · rw [if_neg q]
    exact zwp_ret ⟨rfl, rK.rf⟩
theorem rq_best {σ : zM} {W : Int → Int} {o x what : Int} (hB : rB0 σ W) (ho0 : -2147483648 ≤ o) (ho1 : o < 2147483648) (hh0 : -2147483648 ≤ x) (hh1 : x < 2147483648) (hw0 : -2147483648 ≤ what) (hw1 : what < 2147483648) : zwp (zcall 240 [.ref 287, .int (Int32.ofInt o), .int (Int32.ofInt x), .int (Int32.ofInt what)] σ) (fun v τ => v = some (.int (Int32.ofInt (Ebe W o x what))) ∧ rK σ τ) := by
  unfold Ebe
  refine zwp_of (fun r h => zcc_240 (ze_240_0 _ _ _ _ r h)) ?_
  rw [sp_233w hB ho0 ho1 hh0 hh1]
  simp only [zbI_s, mm_z, mm_b]
  refine zwp_ite (fun q => ?_) (fun q => ?_)
  · rw [if_neg (fun p => q p.1)]
    exact zwp_ret ⟨rfl, rK.rf⟩
  · have q := Classical.not_not.mp q
    rw [show (Int32.ofInt what).toInt64 = Int64.ofInt what from mm_i2l hw0 hw1, sp_163 (by omega) (by omega) (by omega) (by omega) (by omega) (by omega), zbI_s]
    simp only [mm_b, Classical.not_not]
    refine zwp_ite (fun q2 => ?_) (fun q2 => ?_)
    · rw [if_pos (⟨q, q2⟩ : sndb W o x ∧ 0 ≤ what ∧ what ≤ 2)]
      refine zwp_V _ (sp_238 hB q.1.1 q.1.2 q.2.1.1 q.2.1.2) ?_
      rintro τ ⟨hk, -, a, b, c, hb, h30, h31, h32, hn⟩
      have E : Classical.epsilon (bsA W o x what) = if a = -1 then -1 else if what = 0 then a else if what = 1 then b else c := bsA_e ⟨a, b, c, hb, rfl⟩
      rw [E]
      by_cases q5 : what = 0
      · refine zwp_f (by rw [q5]; exact fun p => p rfl) ?_
        rw [mm_r, h30, if_pos q5, show (if a = -1 then -1 else a) = a by split <;> omega]
        exact zwp_ret ⟨rfl, hk⟩
      · refine zwp_t (by try simp (disch := first | assumption | exact isR33 | exact isT104 | exact isF99 | exact isF101 | exact isR3 | omega | (refine isTk ?_; omega) | (refine isOk isR33 ?_; omega) | (refine isOk ?_ ?_; assumption; omega)) only [mm_r, mm_rl, mm_add, mm_sub, mm_mul, mm_addJ, mm_mulJ, mm_lt, mm_le, mm_eq, mm_z, mm_cl, mm_w, mm_wl, mm_ite, mm_i2l, mm_l2i, mm_ltJ, mm_leJ, mm_eqJ, mm_clt, mm_cle, mm_cgt, mm_cge, mm_ceq, mm_b, mm_nb, mm_nb0, mm_nb1, mm_vb0, mm_vb1, mm_vbc, mm_vy0, mm_vy1, mm_at, mm_ne, mm_nj, mm_Lw, mm_Nw, mm_atJ, mm_neJ, mm_njJ, zbI_s, zbV_s, zbJ_s, cond_t, Bool.true_and, Bool.and_true, if_true, if_false, not_true, not_false_iff, Classical.not_not, zel_r, zel_42, zel_12, zel_71, zel_80, zel_89, zel_110, zel_188, zel_103, zel_195, zr_o, zr_1, zr_2, zr_3, zr_4, zr_5, zr_6, zr_7, zr_8, zr_9, zq_o, zq_v, zt_o, zt_1, zt_2, zt_3, zt_4, zt_5, zf_o, zf_1, za_w1, za_w2, za_w3, za_cm, za_sl, Int.toNat_natCast, Int.toNat_natCast_add_one, mm_t0, mm_t1, mm_t2, mm_t3, mm_t4, mm_t5, mm_t6, mm_t7, mm_t8, mm_t9, mm_t10, mm_t11, mm_t12, mm_t13, za_1, za_64, za_65, za_66, za_67, za_68, za_71, za_80, za_89, za_98, za_103, za_110, za_121, za_122, za_123, za_124, za_125, za_126, za_188, za_193, za_194, za_195, za_286, za_288, za_289, za_290, za_291, za_292, za_293, za_294, za_295, za_296, za_297, za_298, za_299, za_300, za_301, za_302, za_303, za_304, za_305, za_306, za_307, za_308, za_309, za_310, za_311, za_312]
                         first | done | omega) ?_
        by_cases q6 : what = 1
        · refine zwp_f (by rw [q6]; exact fun p => p rfl) ?_
          rw [mm_r, h31, if_neg q5, if_pos q6, show (if a = -1 then -1 else b) = b by split <;> omega]
          exact zwp_ret ⟨rfl, hk⟩
        · refine zwp_t (by try simp (disch := first | assumption | exact isR33 | exact isT104 | exact isF99 | exact isF101 | exact isR3 | omega | (refine isTk ?_; omega) | (refine isOk isR33 ?_; omega) | (refine isOk ?_ ?_; assumption; omega)) only [mm_r, mm_rl, mm_add, mm_sub, mm_mul, mm_addJ, mm_mulJ, mm_lt, mm_le, mm_eq, mm_z, mm_cl, mm_w, mm_wl, mm_ite, mm_i2l, mm_l2i, mm_ltJ, mm_leJ, mm_eqJ, mm_clt, mm_cle, mm_cgt, mm_cge, mm_ceq, mm_b, mm_nb, mm_nb0, mm_nb1, mm_vb0, mm_vb1, mm_vbc, mm_vy0, mm_vy1, mm_at, mm_ne, mm_nj, mm_Lw, mm_Nw, mm_atJ, mm_neJ, mm_njJ, zbI_s, zbV_s, zbJ_s, cond_t, Bool.true_and, Bool.and_true, if_true, if_false, not_true, not_false_iff, Classical.not_not, zel_r, zel_42, zel_12, zel_71, zel_80, zel_89, zel_110, zel_188, zel_103, zel_195, zr_o, zr_1, zr_2, zr_3, zr_4, zr_5, zr_6, zr_7, zr_8, zr_9, zq_o, zq_v, zt_o, zt_1, zt_2, zt_3, zt_4, zt_5, zf_o, zf_1, za_w1, za_w2, za_w3, za_cm, za_sl, Int.toNat_natCast, Int.toNat_natCast_add_one, mm_t0, mm_t1, mm_t2, mm_t3, mm_t4, mm_t5, mm_t6, mm_t7, mm_t8, mm_t9, mm_t10, mm_t11, mm_t12, mm_t13, za_1, za_64, za_65, za_66, za_67, za_68, za_71, za_80, za_89, za_98, za_103, za_110, za_121, za_122, za_123, za_124, za_125, za_126, za_188, za_193, za_194, za_195, za_286, za_288, za_289, za_290, za_291, za_292, za_293, za_294, za_295, za_296, za_297, za_298, za_299, za_300, za_301, za_302, za_303, za_304, za_305, za_306, za_307, za_308, za_309, za_310, za_311, za_312]
                           first | done | omega) ?_
          rw [mm_r, h32, if_neg q5, if_neg q6, show (if a = -1 then -1 else c) = c by split <;> omega]
          exact zwp_ret ⟨rfl, hk⟩
    · rw [if_neg (fun p => q2 p.2)]
      exact zwp_ret ⟨rfl, rK.rf⟩
