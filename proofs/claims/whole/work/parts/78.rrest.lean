/-! CALLS: rest, rests, sent: the reference -/
/-- alike but for the hours of orders -/
def eqH (W V : Int → Int) : Prop := eqA W V ∧ ∀ p k, 0 ≤ p → 0 ≤ k → k < 14 → (k ≠ 6 ∨ W 5 ≤ p) → oo V p k = oo W p k
theorem WAY_H {W V : Int → Int} (h2 : W 2 ≤ 12) (hE : eqH W V) {o : Int} (o0 : 0 ≤ o) (h7 : oo W o 7 ≤ 3) : WAY V o = WAY W o := by
  unfold WAY
  rw [way_A h2 hE.1, hE.2 o 4 o0 (by decide) (by decide) (.inl (by decide)), hE.2 o 5 o0 (by decide) (by decide) (.inl (by decide)), hE.2 o 7 o0 (by decide) (by decide) (.inl (by decide))]
  unfold way
  congr 1
  exact wayV_c _ fun i i0 i1 => hE.2 o (8 + i) o0 (by omega) (by omega) (.inl (by omega))
theorem CMh_H {W V : Int → Int} (hW : WOK W) (hE : eqH W V) {o : Int} (o0 : 0 ≤ o) (o1 : o < W 5) (x : Int) : CMh V (FL V noD) o x = CMh W (FL W noD) o x := by
  have ho := (hW.2.2.2.2 o o0 o1).1
  have r0 := ho.2.2.2.2.2.2.2.2.2.1
  have r1 := ho.2.2.2.2.2.2.2.2.2.2.1
  refine CMh_A hW hE.1 (WAY_H hW.1.1.2.2.2.1 hE o0 ho.2.2.2.2.2.1) ?_ x
  unfold pac res
  rw [hE.2 o 0 o0 (by decide) (by decide) (.inl (by decide)), hE.1 _ (by omega), hE.1 _ (by omega)]
  exact ⟨rfl, rfl⟩
theorem HH_H {W V : Int → Int} (hW : WOK W) (hE : eqH W V) (c : Int → Int) (sl t g h : Int) : HH V c sl t g h = HH W c sl t g h := by
  have un := hW.un
  have k : ∀ o j, 0 ≤ o → 0 ≤ j → j < 14 → j ≠ 6 → oo V o j = oo W o j := fun o j o0 j0 j1 jn => hE.2 o j o0 j0 j1 (.inl jn)
  unfold HH
  rw [hE.1 5 (by decide)]
  exact hH_congr (fun o o0 o1 => by
    unfold TT
    rw [k o 5 o0 (by decide) (by decide) (by decide)]) (fun o o0 o1 => k o 3 o0 (by decide) (by decide) (by decide)) (fun o o0 o1 => k o 1 o0 (by decide) (by decide) (by decide)) (fun o o0 o1 => k o 2 o0 (by decide) (by decide) (by decide)) (fun _ _ _ => rfl) (fun o o0 o1 => by
    show oo V o 3 = -1 ∨ 0 ≤ oo V o 3 ∧ oo V o 3 < _
    rw [k o 3 o0 (by decide) (by decide) (by decide)]
    have := (un.2.2 o o0 (by omega)).1
    omega)
/-- V is the world of the thought, c when each comes, hh when each is sent -/
def tho (W V : Int → Int) (c hh : Int → Int) : Prop := eqH W V ∧ WOK V ∧ ∀ o, 0 ≤ o → o < W 5 → c o = CM V noD o ∧ hh o = oo V o 6
theorem tho_had {W V c c' : Int → Int} (hW : WOK W) (hE : eqH W V) (hc : ∀ o, 0 ≤ o → o < W 5 → c o = c' o) {o : Int} (o0 : 0 ≤ o) : had V c' o ↔ had W c o := by
  unfold had
  rw [HH_H hW hE, hE.1 7 (by decide), hE.2 o 12 o0 (by decide) (by decide) (.inl (by decide)), hE.2 o 1 o0 (by decide) (by decide) (.inl (by decide)), hE.2 o 13 o0 (by decide) (by decide) (.inl (by decide)), hE.2 o 11 o0 (by decide) (by decide) (.inl (by decide)), HH_c hW.un hc]
theorem tho_fh {W V c hh : Int → Int} (hW : WOK W) (h : tho W V c hh) {o : Int} (o0 : 0 ≤ o) (o1 : o < W 5) : fh V (CM V noD) o = fh W c o := by
  have h1 := hW.1.2.1
  unfold fh
  rw [h.1.1 1 (by decide)]
  refine zfst_congr _ _ fun s s0 s1 => ?_
  unfold hdP
  refine decide_eq_decide.mpr (tho_had hW h.1 (fun p p0 p1 => ?_) o0)
  rw [CMh_H hW h.1 o0 o1]
  show (if p = o then _ else c p) = if p = o then _ else CM V noD p
  rw [(h.2.2 p p0 p1).1]
theorem tho_rl {W V c hh : Int → Int} (hW : WOK W) (h : tho W V c hh) : rl V (CM V noD) = rl W c := by
  have h5 := hW.2.2.1
  unfold rl
  rw [h.1.1 5 (by decide)]
  refine zfst_congr _ _ fun o o0 o1 => ?_
  unfold rlP
  refine decide_eq_decide.mpr ?_
  rw [tho_fh hW h o0 (by omega), tho_had hW h.1 (fun p p0 p1 => (h.2.2 p p0 p1).1) o0, h.1.2 o 11 o0 (by decide) (by decide) (.inl (by decide))]
def nxV (V : Int → Int) : Int → Int := wS V (rl V (CM V noD)) 6 (fh V (CM V noD) (rl V (CM V noD)))
def stV : Nat → (Int → Int) → (Int → Int)
  | 0, V => V
  | n + 1, V => if rl V (CM V noD) = -1 then V else stV n (nxV V)
def snV : Nat → (Int → Int) → Int
  | 0, _ => 0
  | n + 1, V => if rl V (CM V noD) = -1 then 0 else 1 + snV n (nxV V)
theorem nxV_ok {V : Int → Int} (hV : WOK V) (h : rl V (CM V noD) ≠ -1) : WOK (nxV V) := by
  have r := (rl_rng hV.2.2.1.2.2.1 (CM V noD)).resolve_left h
  have f := (fh_rng hV.1.2.1 (CM V noD) (rl V (CM V noD))).resolve_left r.2.2.2
  exact WOK_6 hV r.1 r.2.1 f.1 f.2
theorem stV_ok : ∀ (n : Nat) {V : Int → Int}, WOK V → WOK (stV n V)
  | 0, _, h => h
  | n + 1, V, h => by
    rw [stV]
    split
    · exact h
    · next q => exact stV_ok n (nxV_ok h q)
theorem tho_nx {W V c hh : Int → Int} (hW : WOK W) (h : tho W V c hh) (hr : rl W c ≠ -1) : tho W (nxV V) (nxc W c) (cup hh (rl W c) (fh W c (rl W c))) := by
  have er := tho_rl hW h
  have hV := h.2.1
  have r := (rl_rng hW.2.2.1.2.2.1 c).resolve_left hr
  have ef := tho_fh hW h r.1 r.2.1
  have e5 : V 5 = W 5 := h.1.1 5 (by decide)
  have ok := nxV_ok hV (by rw [er]; exact hr)
  unfold nxV at ok ⊢
  unfold nxc
  rw [er, ef] at ok ⊢
  generalize fh W c (rl W c) = s at r ok ⊢
  generalize rl W c = o at r ok ⊢
  have eo : ∀ p k, 0 ≤ k → k < 14 → oo (wS V o 6 s) p k = if p = o ∧ k = 6 then s else oo V p k := fun p k k0 k1 => oo_S (by decide) (by decide) k0 k1
  refine ⟨⟨fun j hj => (wS_A r.1 (by decide) j hj).trans (h.1.1 j hj), fun p k p0 k0 k1 hk => ?_⟩, ok, fun p p0 p1 => ⟨?_, ?_⟩⟩
  · rw [eo p k k0 k1, if_neg (by omega)]
    exact h.1.2 p k p0 k0 k1 hk
  · have hp := (hV.2.2.2.2 p p0 (by omega)).1
    rw [CM_S hV.1.1.2.2.2.1 hV.1.2.2.2.2 noD r.1 hp.2.2.2.2.2.1 hp.2.2.2.2.2.2.2.2.2.2.1]
    show (if p = o then CMh W (FL W noD) o s else c p) = _
    by_cases z : p = o
    · rw [if_pos z, if_pos z, CMh_H hW h.1 p0 p1, z]
    · rw [if_neg z, if_neg z, (h.2.2 p p0 p1).1]
      rfl
  · rw [eo p 6 (by decide) (by decide)]
    show (if p = o then s else hh p) = _
    by_cases z : p = o
    · rw [if_pos z, if_pos ⟨z, rfl⟩]
    · rw [if_neg z, if_neg (fun y => z y.1)]
      exact (h.2.2 p p0 p1).2
theorem tho_st {W : Int → Int} (hW : WOK W) : ∀ (n : Nat) {V c hh : Int → Int}, tho W V c hh → tho W (stV n V) (stc W n c) (stH W n c hh) ∧ snV n V = stN W n c
  | 0, _, _, _, h => ⟨h, rfl⟩
  | n + 1, V, c, hh, h => by
    have er := tho_rl hW h
    rw [stV, stc, stH, snV, stN, er]
    by_cases q : rl W c = -1
    · rw [if_pos q, if_pos q, if_pos q, if_pos q, if_pos q]
      exact ⟨h, rfl⟩
    · rw [if_neg q, if_neg q, if_neg q, if_neg q, if_neg q]
      have ih := tho_st hW n (tho_nx hW h q)
      exact ⟨ih.1, by rw [ih.2]⟩
theorem tho_ini {W : Int → Int} (hW : WOK W) : tho W W (CM W noD) (fun o => oo W o 6) := ⟨⟨fun _ _ => rfl, fun _ _ _ _ _ _ => rfl⟩, hW, fun _ _ _ => ⟨rfl, rfl⟩⟩
theorem sp_244h {σ : zM} {V : Int → Int} {c : Int → Int} {o h : Int} (hW : WOK V) (hg : goH σ V o h) (hC : rcC σ V c (V 7)) (o0 : 0 ≤ o) (o1 : o < V 5) (hw11 : oo V o 11 ≠ -1) : zcall 244 [.ref 287, .int (Int32.ofInt o)] σ = some (some (.int (Int32.ofInt (if had V c o then 1 else 0))), σ) := by
  have h5 := hW.2.2.1
  obtain ⟨ho, -, b1, b2, -, -, -, b3⟩ := hW.2.2.2.2 o o0 o1
  have h0 := hW.1.1.1
  have h8 := hW.1.1.2.1
  have h9 := hW.1.2.2.1
  have h1 := hW.1.2.1
  have r := HH_rng hW.un c (V 7) (oo V o 12) (oo V o 1) (oo V o 13)
  have e : ∀ k, 0 ≤ k → k < 14 → k ≠ 6 → rO σ k o = oo V o k := fun k k0 k1 kn => (rO_of hg.1 k o).trans (by rw [oo_S (by decide) (by decide) k0 k1, if_neg (by omega)])
  have s12 := e 12 (by decide) (by decide) (by decide)
  have s11 := e 11 (by decide) (by decide) (by decide)
  have s13 := e 13 (by decide) (by decide) (by decide)
  have s1 := e 1 (by decide) (by decide) (by decide)
  refine zcc_244 (ze_244_0 _ _ _ ?_)
  rw [sp_173r o0 (by omega) (by decide) (by decide), zbI_s, sp_173r o0 (by omega) (by decide) (by decide), zbI_s, sp_173r o0 (by omega) (by decide) (by decide), zbI_s, s12, s1, s13, sp_220c hW.un hC (by omega) (by omega) (by omega) (by omega) (by omega) (by omega), zbI_s, sp_173r o0 (by omega) (by decide) (by decide), zbI_s, s11]
  simp (disch := first | assumption | exact isR33 | exact isT104 | exact isF99 | exact isF101 | exact isR3 | omega | (refine isTk ?_; omega) | (refine isOk isR33 ?_; omega) | (refine isOk ?_ ?_; assumption; omega)) only [mm_r, mm_rl, mm_add, mm_sub, mm_mul, mm_addJ, mm_mulJ, mm_lt, mm_le, mm_eq, mm_z, mm_cl, mm_w, mm_wl, mm_ite, mm_i2l, mm_l2i, mm_ltJ, mm_leJ, mm_eqJ, mm_clt, mm_cle, mm_cgt, mm_cge, mm_ceq, mm_b, mm_nb, mm_nb0, mm_nb1, mm_vb0, mm_vb1, mm_vbc, mm_vy0, mm_vy1, mm_at, mm_ne, mm_nj, mm_Lw, mm_Nw, mm_atJ, mm_neJ, mm_njJ, zbI_s, zbV_s, zbJ_s, cond_t, Bool.true_and, Bool.and_true, if_true, if_false, not_true, not_false_iff, Classical.not_not, zel_r, zel_42, zel_12, zel_71, zel_80, zel_89, zel_110, zel_188, zel_103, zel_195, zr_o, zr_1, zr_2, zr_3, zr_4, zr_5, zr_6, zr_7, zr_8, zr_9, zq_o, zq_v, zt_o, zt_1, zt_2, zt_3, zt_4, zt_5, zf_o, zf_1, za_w1, za_w2, za_w3, za_cm, za_sl, Int.toNat_natCast, Int.toNat_natCast_add_one, mm_t0, mm_t1, mm_t2, mm_t3, mm_t4, mm_t5, mm_t6, mm_t7, mm_t8, mm_t9, mm_t10, mm_t11, mm_t12, mm_t13, za_1, za_64, za_65, za_66, za_67, za_68, za_71, za_80, za_89, za_98, za_103, za_110, za_121, za_122, za_123, za_124, za_125, za_126, za_188, za_193, za_194, za_195, za_286, za_288, za_289, za_290, za_291, za_292, za_293, za_294, za_295, za_296, za_297, za_298, za_299, za_300, za_301, za_302, za_303, za_304, za_305, za_306, za_307, za_308, za_309, za_310, za_311, za_312]
  by_cases q : had V c o
  · have q' : HH V c (V 7) (oo V o 12) (oo V o 1) (oo V o 13) = oo V o 11 := q
    rw [if_neg (fun p => p q'), if_pos q]
  · have q' : ¬ HH V c (V 7) (oo V o 12) (oo V o 1) (oo V o 13) = oo V o 11 := q
    rw [if_pos q', if_neg q]
theorem lp_246e {σ0 : zM} {V : Int → Int} {o : Int} (hW : WOK V) (o0 : 0 ≤ o) (o1 : o < V 5) (f t : Int) (hf1 : -1 ≤ f) (hf2 : f < 200) (ht1 : 0 ≤ t) (ht2 : t < 200) (hstop : f ≠ -1 ∨ V 1 ≤ t) (σ : zM) (a : Int) (hg : goH σ V o a) (hk : thK σ0 σ) : zwp (zev 246 13 [some (.ref 287), some (.int (Int32.ofInt o)), some (.int (Int32.ofInt (oo V o 6))), some (.int (Int32.ofInt f)), some (.int (Int32.ofInt t))] [] σ) (fun v τ => v = some (.int (Int32.ofInt f)) ∧ gone τ V noD ∧ thK σ0 τ) := by
  have h5 := hW.2.2.1
  have h1 := hW.1.2.1
  have h9 := hW.1.2.2.1
  obtain ⟨-, -, -, -, -, -, -, b0, b1, -⟩ := (hW.2.2.2.2 o o0 o1).1
  have e1 : zN σ 288 1 = V 1 := (wv_k hg.1 1).trans (wS_A o0 (by decide) 1 (by decide))
  have hend : zwp (zbV (zcall 174 [.ref 287, .int (Int32.ofInt o), .int (Int32.ofInt (6)), .int (Int32.ofInt (oo V o 6))] σ) (fun τ6 => zbV (zcall 209 [.ref 287, .int (Int32.ofInt o)] τ6) (fun τ7 => some (some (.int (Int32.ofInt f)), τ7)))) (fun v τ => v = some (.int (Int32.ofInt f)) ∧ gone τ V noD ∧ thK σ0 τ) := by
    rw [sp_174 o0 (by omega) (by decide) (by decide), zbV_s]
    have hX := hg.set (x := oo V o 6) o0 (by omega) (by omega)
    unfold goH at hX
    rw [wS_self] at hX
    refine zwp_V _ (sp_209g hW o0 o1 hX) ?_
    rintro υ ⟨g1, g2, g3⟩
    exact zwp_ret ⟨rfl, g1, (hk.zw 288 _ _ (.inl rfl)).tr (g3.mono (by omega))⟩
  refine zwp_of (fun r h => ze_246_13 _ _ _ _ _ r h) ?_
  refine zwp_cd (by simp (disch := first | assumption | exact isR33 | exact isT104 | exact isF99 | exact isF101 | exact isR3 | omega | (refine isTk ?_; omega) | (refine isOk isR33 ?_; omega) | (refine isOk ?_ ?_; assumption; omega)) only [mm_r, mm_rl, mm_add, mm_sub, mm_mul, mm_addJ, mm_mulJ, mm_lt, mm_le, mm_eq, mm_z, mm_cl, mm_w, mm_wl, mm_ite, mm_i2l, mm_l2i, mm_ltJ, mm_leJ, mm_eqJ, mm_clt, mm_cle, mm_cgt, mm_cge, mm_ceq, mm_b, mm_nb, mm_nb0, mm_nb1, mm_vb0, mm_vb1, mm_vbc, mm_vy0, mm_vy1, mm_at, mm_ne, mm_nj, mm_Lw, mm_Nw, mm_atJ, mm_neJ, mm_njJ, zbI_s, zbV_s, zbJ_s, cond_t, Bool.true_and, Bool.and_true, if_true, if_false, not_true, not_false_iff, Classical.not_not, zel_r, zel_42, zel_12, zel_71, zel_80, zel_89, zel_110, zel_188, zel_103, zel_195, zr_o, zr_1, zr_2, zr_3, zr_4, zr_5, zr_6, zr_7, zr_8, zr_9, zq_o, zq_v, zt_o, zt_1, zt_2, zt_3, zt_4, zt_5, zf_o, zf_1, za_w1, za_w2, za_w3, za_cm, za_sl, Int.toNat_natCast, Int.toNat_natCast_add_one, mm_t0, mm_t1, mm_t2, mm_t3, mm_t4, mm_t5, mm_t6, mm_t7, mm_t8, mm_t9, mm_t10, mm_t11, mm_t12, mm_t13, za_1, za_64, za_65, za_66, za_67, za_68, za_71, za_80, za_89, za_98, za_103, za_110, za_121, za_122, za_123, za_124, za_125, za_126, za_188, za_193, za_194, za_195, za_286, za_288, za_289, za_290, za_291, za_292, za_293, za_294, za_295, za_296, za_297, za_298, za_299, za_300, za_301, za_302, za_303, za_304, za_305, za_306, za_307, za_308, za_309, za_310, za_311, za_312]) ?_
  by_cases q : V 1 ≤ t
  · refine zwp_t (by try simp (disch := first | assumption | exact isR33 | exact isT104 | exact isF99 | exact isF101 | exact isR3 | omega | (refine isTk ?_; omega) | (refine isOk isR33 ?_; omega) | (refine isOk ?_ ?_; assumption; omega)) only [mm_r, mm_rl, mm_add, mm_sub, mm_mul, mm_addJ, mm_mulJ, mm_lt, mm_le, mm_eq, mm_z, mm_cl, mm_w, mm_wl, mm_ite, mm_i2l, mm_l2i, mm_ltJ, mm_leJ, mm_eqJ, mm_clt, mm_cle, mm_cgt, mm_cge, mm_ceq, mm_b, mm_nb, mm_nb0, mm_nb1, mm_vb0, mm_vb1, mm_vbc, mm_vy0, mm_vy1, mm_at, mm_ne, mm_nj, mm_Lw, mm_Nw, mm_atJ, mm_neJ, mm_njJ, zbI_s, zbV_s, zbJ_s, cond_t, Bool.true_and, Bool.and_true, if_true, if_false, not_true, not_false_iff, Classical.not_not, zel_r, zel_42, zel_12, zel_71, zel_80, zel_89, zel_110, zel_188, zel_103, zel_195, zr_o, zr_1, zr_2, zr_3, zr_4, zr_5, zr_6, zr_7, zr_8, zr_9, zq_o, zq_v, zt_o, zt_1, zt_2, zt_3, zt_4, zt_5, zf_o, zf_1, za_w1, za_w2, za_w3, za_cm, za_sl, Int.toNat_natCast, Int.toNat_natCast_add_one, mm_t0, mm_t1, mm_t2, mm_t3, mm_t4, mm_t5, mm_t6, mm_t7, mm_t8, mm_t9, mm_t10, mm_t11, mm_t12, mm_t13, za_1, za_64, za_65, za_66, za_67, za_68, za_71, za_80, za_89, za_98, za_103, za_110, za_121, za_122, za_123, za_124, za_125, za_126, za_188, za_193, za_194, za_195, za_286, za_288, za_289, za_290, za_291, za_292, za_293, za_294, za_295, za_296, za_297, za_298, za_299, za_300, za_301, za_302, za_303, za_304, za_305, za_306, za_307, za_308, za_309, za_310, za_311, za_312, e1]
                     first | done | omega) ?_
    exact hend
  · refine zwp_f (by try simp (disch := first | assumption | exact isR33 | exact isT104 | exact isF99 | exact isF101 | exact isR3 | omega | (refine isTk ?_; omega) | (refine isOk isR33 ?_; omega) | (refine isOk ?_ ?_; assumption; omega)) only [mm_r, mm_rl, mm_add, mm_sub, mm_mul, mm_addJ, mm_mulJ, mm_lt, mm_le, mm_eq, mm_z, mm_cl, mm_w, mm_wl, mm_ite, mm_i2l, mm_l2i, mm_ltJ, mm_leJ, mm_eqJ, mm_clt, mm_cle, mm_cgt, mm_cge, mm_ceq, mm_b, mm_nb, mm_nb0, mm_nb1, mm_vb0, mm_vb1, mm_vbc, mm_vy0, mm_vy1, mm_at, mm_ne, mm_nj, mm_Lw, mm_Nw, mm_atJ, mm_neJ, mm_njJ, zbI_s, zbV_s, zbJ_s, cond_t, Bool.true_and, Bool.and_true, if_true, if_false, not_true, not_false_iff, Classical.not_not, zel_r, zel_42, zel_12, zel_71, zel_80, zel_89, zel_110, zel_188, zel_103, zel_195, zr_o, zr_1, zr_2, zr_3, zr_4, zr_5, zr_6, zr_7, zr_8, zr_9, zq_o, zq_v, zt_o, zt_1, zt_2, zt_3, zt_4, zt_5, zf_o, zf_1, za_w1, za_w2, za_w3, za_cm, za_sl, Int.toNat_natCast, Int.toNat_natCast_add_one, mm_t0, mm_t1, mm_t2, mm_t3, mm_t4, mm_t5, mm_t6, mm_t7, mm_t8, mm_t9, mm_t10, mm_t11, mm_t12, mm_t13, za_1, za_64, za_65, za_66, za_67, za_68, za_71, za_80, za_89, za_98, za_103, za_110, za_121, za_122, za_123, za_124, za_125, za_126, za_188, za_193, za_194, za_195, za_286, za_288, za_289, za_290, za_291, za_292, za_293, za_294, za_295, za_296, za_297, za_298, za_299, za_300, za_301, za_302, za_303, za_304, za_305, za_306, za_307, za_308, za_309, za_310, za_311, za_312, e1]
                     first | done | omega) ?_
    refine zwp_t (by try simp (disch := first | assumption | exact isR33 | exact isT104 | exact isF99 | exact isF101 | exact isR3 | omega | (refine isTk ?_; omega) | (refine isOk isR33 ?_; omega) | (refine isOk ?_ ?_; assumption; omega)) only [mm_r, mm_rl, mm_add, mm_sub, mm_mul, mm_addJ, mm_mulJ, mm_lt, mm_le, mm_eq, mm_z, mm_cl, mm_w, mm_wl, mm_ite, mm_i2l, mm_l2i, mm_ltJ, mm_leJ, mm_eqJ, mm_clt, mm_cle, mm_cgt, mm_cge, mm_ceq, mm_b, mm_nb, mm_nb0, mm_nb1, mm_vb0, mm_vb1, mm_vbc, mm_vy0, mm_vy1, mm_at, mm_ne, mm_nj, mm_Lw, mm_Nw, mm_atJ, mm_neJ, mm_njJ, zbI_s, zbV_s, zbJ_s, cond_t, Bool.true_and, Bool.and_true, if_true, if_false, not_true, not_false_iff, Classical.not_not, zel_r, zel_42, zel_12, zel_71, zel_80, zel_89, zel_110, zel_188, zel_103, zel_195, zr_o, zr_1, zr_2, zr_3, zr_4, zr_5, zr_6, zr_7, zr_8, zr_9, zq_o, zq_v, zt_o, zt_1, zt_2, zt_3, zt_4, zt_5, zf_o, zf_1, za_w1, za_w2, za_w3, za_cm, za_sl, Int.toNat_natCast, Int.toNat_natCast_add_one, mm_t0, mm_t1, mm_t2, mm_t3, mm_t4, mm_t5, mm_t6, mm_t7, mm_t8, mm_t9, mm_t10, mm_t11, mm_t12, mm_t13, za_1, za_64, za_65, za_66, za_67, za_68, za_71, za_80, za_89, za_98, za_103, za_110, za_121, za_122, za_123, za_124, za_125, za_126, za_188, za_193, za_194, za_195, za_286, za_288, za_289, za_290, za_291, za_292, za_293, za_294, za_295, za_296, za_297, za_298, za_299, za_300, za_301, za_302, za_303, za_304, za_305, za_306, za_307, za_308, za_309, za_310, za_311, za_312]
                     first | done | omega) ?_
    exact hend
theorem lp_246 {σ0 : zM} {V : Int → Int} {o : Int} (hW : WOK V) (o0 : 0 ≤ o) (o1 : o < V 5) (hw : oo V o 11 ≠ -1) : ∀ (k t : Nat) (σ : zM) (a : Int), (t : Int) + k = V 1 → goH σ V o a → thK σ0 σ → zwp (zev 246 13 [some (.ref 287), some (.int (Int32.ofInt o)), some (.int (Int32.ofInt (oo V o 6))), some (.int (Int32.ofInt (-1))), some (.int (Int32.ofInt t))] [] σ) (fun v τ => v = some (.int (Int32.ofInt (zfst (hdP V (CM V noD) o) k t))) ∧ gone τ V noD ∧ thK σ0 τ)
  | 0, t, σ, a, e, hg, hk => by
    have h9 := hW.1.2.2.1
    exact lp_246e hW o0 o1 (-1) t (by omega) (by omega) (by omega) (by omega) (.inr (by omega)) σ a hg hk
  | k + 1, t, σ, a, e, hg, hk => by
    have h5 := hW.2.2.1
    have h9 := hW.1.2.2.1
    have e1 : zN σ 288 1 = V 1 := (wv_k hg.1 1).trans (wS_A o0 (by decide) 1 (by decide))
    have ez : zfst (hdP V (CM V noD) o) (k + 1) t = if hdP V (CM V noD) o t = true then (t : Int) else zfst (hdP V (CM V noD) o) k ((t : Int) + 1) := rfl
    have eP : (hdP V (CM V noD) o t = true) ↔ had V (cup (CM V noD) o (CMh V (FL V noD) o t)) o := by
      unfold hdP
      rw [decide_eq_true_eq]
    rw [ez]
    simp only [eP]
    refine zwp_of (fun r h => ze_246_13 _ _ _ _ _ r h) ?_
    refine zwp_cd (by simp (disch := first | assumption | exact isR33 | exact isT104 | exact isF99 | exact isF101 | exact isR3 | omega | (refine isTk ?_; omega) | (refine isOk isR33 ?_; omega) | (refine isOk ?_ ?_; assumption; omega)) only [mm_r, mm_rl, mm_add, mm_sub, mm_mul, mm_addJ, mm_mulJ, mm_lt, mm_le, mm_eq, mm_z, mm_cl, mm_w, mm_wl, mm_ite, mm_i2l, mm_l2i, mm_ltJ, mm_leJ, mm_eqJ, mm_clt, mm_cle, mm_cgt, mm_cge, mm_ceq, mm_b, mm_nb, mm_nb0, mm_nb1, mm_vb0, mm_vb1, mm_vbc, mm_vy0, mm_vy1, mm_at, mm_ne, mm_nj, mm_Lw, mm_Nw, mm_atJ, mm_neJ, mm_njJ, zbI_s, zbV_s, zbJ_s, cond_t, Bool.true_and, Bool.and_true, if_true, if_false, not_true, not_false_iff, Classical.not_not, zel_r, zel_42, zel_12, zel_71, zel_80, zel_89, zel_110, zel_188, zel_103, zel_195, zr_o, zr_1, zr_2, zr_3, zr_4, zr_5, zr_6, zr_7, zr_8, zr_9, zq_o, zq_v, zt_o, zt_1, zt_2, zt_3, zt_4, zt_5, zf_o, zf_1, za_w1, za_w2, za_w3, za_cm, za_sl, Int.toNat_natCast, Int.toNat_natCast_add_one, mm_t0, mm_t1, mm_t2, mm_t3, mm_t4, mm_t5, mm_t6, mm_t7, mm_t8, mm_t9, mm_t10, mm_t11, mm_t12, mm_t13, za_1, za_64, za_65, za_66, za_67, za_68, za_71, za_80, za_89, za_98, za_103, za_110, za_121, za_122, za_123, za_124, za_125, za_126, za_188, za_193, za_194, za_195, za_286, za_288, za_289, za_290, za_291, za_292, za_293, za_294, za_295, za_296, za_297, za_298, za_299, za_300, za_301, za_302, za_303, za_304, za_305, za_306, za_307, za_308, za_309, za_310, za_311, za_312]) ?_
    refine zwp_f (by try simp (disch := first | assumption | exact isR33 | exact isT104 | exact isF99 | exact isF101 | exact isR3 | omega | (refine isTk ?_; omega) | (refine isOk isR33 ?_; omega) | (refine isOk ?_ ?_; assumption; omega)) only [mm_r, mm_rl, mm_add, mm_sub, mm_mul, mm_addJ, mm_mulJ, mm_lt, mm_le, mm_eq, mm_z, mm_cl, mm_w, mm_wl, mm_ite, mm_i2l, mm_l2i, mm_ltJ, mm_leJ, mm_eqJ, mm_clt, mm_cle, mm_cgt, mm_cge, mm_ceq, mm_b, mm_nb, mm_nb0, mm_nb1, mm_vb0, mm_vb1, mm_vbc, mm_vy0, mm_vy1, mm_at, mm_ne, mm_nj, mm_Lw, mm_Nw, mm_atJ, mm_neJ, mm_njJ, zbI_s, zbV_s, zbJ_s, cond_t, Bool.true_and, Bool.and_true, if_true, if_false, not_true, not_false_iff, Classical.not_not, zel_r, zel_42, zel_12, zel_71, zel_80, zel_89, zel_110, zel_188, zel_103, zel_195, zr_o, zr_1, zr_2, zr_3, zr_4, zr_5, zr_6, zr_7, zr_8, zr_9, zq_o, zq_v, zt_o, zt_1, zt_2, zt_3, zt_4, zt_5, zf_o, zf_1, za_w1, za_w2, za_w3, za_cm, za_sl, Int.toNat_natCast, Int.toNat_natCast_add_one, mm_t0, mm_t1, mm_t2, mm_t3, mm_t4, mm_t5, mm_t6, mm_t7, mm_t8, mm_t9, mm_t10, mm_t11, mm_t12, mm_t13, za_1, za_64, za_65, za_66, za_67, za_68, za_71, za_80, za_89, za_98, za_103, za_110, za_121, za_122, za_123, za_124, za_125, za_126, za_188, za_193, za_194, za_195, za_286, za_288, za_289, za_290, za_291, za_292, za_293, za_294, za_295, za_296, za_297, za_298, za_299, za_300, za_301, za_302, za_303, za_304, za_305, za_306, za_307, za_308, za_309, za_310, za_311, za_312, e1]
                     first | done | omega) ?_
    refine zwp_f (by decide) ?_
    rw [sp_174 o0 (by omega) (by decide) (by decide), zbV_s]
    refine zwp_V _ (sp_209h hW o0 o1 (h := t) (by omega) (by omega) (hg.set o0 (by omega) (by omega))) ?_
    rintro τ ⟨hg2, hr, hf⟩
    have hk2 : thK σ0 τ := (hk.zw 288 _ _ (.inl rfl)).tr (hf.mono (by omega))
    rw [sp_244h hW hg2 hr o0 o1 hw, zbI_s]
    by_cases q : had V (cup (CM V noD) o (CMh V (FL V noD) o t)) o
    · rw [if_pos q, if_pos q]
      refine zwp_f (by decide) ?_
      rw [mm_add]
      exact lp_246e hW o0 o1 t _ (by omega) (by omega) (by omega) (by omega) (.inl (by omega)) τ t hg2 hk2
    · rw [if_neg q, if_neg q]
      refine zwp_t (by decide) ?_
      rw [mm_add]
      exact lp_246 hW o0 o1 hw k (t + 1) τ t (by omega) hg2 hk2
theorem sp_246 {σ : zM} {V : Int → Int} {o : Int} (hW : WOK V) (o0 : 0 ≤ o) (o1 : o < V 5) (hw : oo V o 11 ≠ -1) (hg : gone σ V noD) (h24 : zN σ 287 24 = 0) : zwp (zcall 246 [.ref 287, .int (Int32.ofInt o)] σ) (fun v τ => v = some (.int (Int32.ofInt (fh V (CM V noD) o))) ∧ gone τ V noD ∧ thK σ τ) := by
  have h5 := hW.2.2.1
  have s6 : rO σ 6 o = oo V o 6 := rO_of hg.1.1 6 o
  refine zwp_of (fun r h => zcc_246 (ze_246_0 _ _ r h)) ?_
  rw [sp_173r o0 (by omega) (by decide) (by decide), zbI_s, s6]
  exact lp_246 hW o0 o1 hw (V 1).toNat 0 σ (oo V o 6) (by have := hW.1.2.1; omega) (hg.H o o0 o1 h24) mf.rf
theorem lp_247 {σ0 : zM} {V : Int → Int} (hW : WOK V) (h24 : zN σ0 287 24 = 0) : ∀ (k o : Nat) (σ : zM), (o : Int) + k = V 5 → gone σ V noD → thK σ0 σ → zwp (zev 247 6 [some (.ref 287), some (.int (Int32.ofInt o))] [] σ) (fun v τ => v = some (.int (Int32.ofInt (zfst (rlP V (CM V noD)) k o))) ∧ gone τ V noD ∧ thK σ0 τ)
  | 0, o, σ, e, hg, hk => by
    have h5 := hW.2.2.1
    have e5 : zN σ 288 5 = V 5 := wv_k hg.1.1 5
    refine zwp_of (fun r h => ze_247_6 _ _ r h) ?_
    refine zwp_cd (by simp (disch := first | assumption | exact isR33 | exact isT104 | exact isF99 | exact isF101 | exact isR3 | omega | (refine isTk ?_; omega) | (refine isOk isR33 ?_; omega) | (refine isOk ?_ ?_; assumption; omega)) only [mm_r, mm_rl, mm_add, mm_sub, mm_mul, mm_addJ, mm_mulJ, mm_lt, mm_le, mm_eq, mm_z, mm_cl, mm_w, mm_wl, mm_ite, mm_i2l, mm_l2i, mm_ltJ, mm_leJ, mm_eqJ, mm_clt, mm_cle, mm_cgt, mm_cge, mm_ceq, mm_b, mm_nb, mm_nb0, mm_nb1, mm_vb0, mm_vb1, mm_vbc, mm_vy0, mm_vy1, mm_at, mm_ne, mm_nj, mm_Lw, mm_Nw, mm_atJ, mm_neJ, mm_njJ, zbI_s, zbV_s, zbJ_s, cond_t, Bool.true_and, Bool.and_true, if_true, if_false, not_true, not_false_iff, Classical.not_not, zel_r, zel_42, zel_12, zel_71, zel_80, zel_89, zel_110, zel_188, zel_103, zel_195, zr_o, zr_1, zr_2, zr_3, zr_4, zr_5, zr_6, zr_7, zr_8, zr_9, zq_o, zq_v, zt_o, zt_1, zt_2, zt_3, zt_4, zt_5, zf_o, zf_1, za_w1, za_w2, za_w3, za_cm, za_sl, Int.toNat_natCast, Int.toNat_natCast_add_one, mm_t0, mm_t1, mm_t2, mm_t3, mm_t4, mm_t5, mm_t6, mm_t7, mm_t8, mm_t9, mm_t10, mm_t11, mm_t12, mm_t13, za_1, za_64, za_65, za_66, za_67, za_68, za_71, za_80, za_89, za_98, za_103, za_110, za_121, za_122, za_123, za_124, za_125, za_126, za_188, za_193, za_194, za_195, za_286, za_288, za_289, za_290, za_291, za_292, za_293, za_294, za_295, za_296, za_297, za_298, za_299, za_300, za_301, za_302, za_303, za_304, za_305, za_306, za_307, za_308, za_309, za_310, za_311, za_312]) ?_
    refine zwp_t (by try simp (disch := first | assumption | exact isR33 | exact isT104 | exact isF99 | exact isF101 | exact isR3 | omega | (refine isTk ?_; omega) | (refine isOk isR33 ?_; omega) | (refine isOk ?_ ?_; assumption; omega)) only [mm_r, mm_rl, mm_add, mm_sub, mm_mul, mm_addJ, mm_mulJ, mm_lt, mm_le, mm_eq, mm_z, mm_cl, mm_w, mm_wl, mm_ite, mm_i2l, mm_l2i, mm_ltJ, mm_leJ, mm_eqJ, mm_clt, mm_cle, mm_cgt, mm_cge, mm_ceq, mm_b, mm_nb, mm_nb0, mm_nb1, mm_vb0, mm_vb1, mm_vbc, mm_vy0, mm_vy1, mm_at, mm_ne, mm_nj, mm_Lw, mm_Nw, mm_atJ, mm_neJ, mm_njJ, zbI_s, zbV_s, zbJ_s, cond_t, Bool.true_and, Bool.and_true, if_true, if_false, not_true, not_false_iff, Classical.not_not, zel_r, zel_42, zel_12, zel_71, zel_80, zel_89, zel_110, zel_188, zel_103, zel_195, zr_o, zr_1, zr_2, zr_3, zr_4, zr_5, zr_6, zr_7, zr_8, zr_9, zq_o, zq_v, zt_o, zt_1, zt_2, zt_3, zt_4, zt_5, zf_o, zf_1, za_w1, za_w2, za_w3, za_cm, za_sl, Int.toNat_natCast, Int.toNat_natCast_add_one, mm_t0, mm_t1, mm_t2, mm_t3, mm_t4, mm_t5, mm_t6, mm_t7, mm_t8, mm_t9, mm_t10, mm_t11, mm_t12, mm_t13, za_1, za_64, za_65, za_66, za_67, za_68, za_71, za_80, za_89, za_98, za_103, za_110, za_121, za_122, za_123, za_124, za_125, za_126, za_188, za_193, za_194, za_195, za_286, za_288, za_289, za_290, za_291, za_292, za_293, za_294, za_295, za_296, za_297, za_298, za_299, za_300, za_301, za_302, za_303, za_304, za_305, za_306, za_307, za_308, za_309, za_310, za_311, za_312, e5]
                     first | done | omega) ?_
    exact zwp_ret ⟨rfl, hg, hk⟩
  | k + 1, o, σ, e, hg, hk => by
    have h5 := hW.2.2.1
    have h1 := hW.1.2.1
    have h9 := hW.1.2.2.1
    have e5 : zN σ 288 5 = V 5 := wv_k hg.1.1 5
    have s11 : rO σ 11 o = oo V o 11 := rO_of hg.1.1 11 o
    have b3 := (hW.2.2.2.2 o (by omega) (by omega)).2.2.2.2.2.2.2
    have ez : zfst (rlP V (CM V noD)) (k + 1) o = if rlP V (CM V noD) o = true then (o : Int) else zfst (rlP V (CM V noD)) k ((o : Int) + 1) := rfl
    have eP : (rlP V (CM V noD) o = true) ↔ (oo V o 11 ≠ -1 ∧ ¬ had V (CM V noD) o ∧ fh V (CM V noD) o ≠ -1) := by
      unfold rlP
      rw [decide_eq_true_eq]
    rw [ez]
    simp only [eP]
    have step : ∀ τ, gone τ V noD → thK σ0 τ → zwp (zev 247 6 [some (.ref 287), some (.int (Int32.ofInt o + Int32.ofInt 1))] [] τ) (fun v τ => v = some (.int (Int32.ofInt (zfst (rlP V (CM V noD)) k ((o : Int) + 1)))) ∧ gone τ V noD ∧ thK σ0 τ) := by
      intro τ ht1 ht2
      rw [mm_add]
      exact lp_247 hW h24 k (o + 1) τ (by omega) ht1 ht2
    refine zwp_of (fun r h => ze_247_6 _ _ r h) ?_
    refine zwp_cd (by simp (disch := first | assumption | exact isR33 | exact isT104 | exact isF99 | exact isF101 | exact isR3 | omega | (refine isTk ?_; omega) | (refine isOk isR33 ?_; omega) | (refine isOk ?_ ?_; assumption; omega)) only [mm_r, mm_rl, mm_add, mm_sub, mm_mul, mm_addJ, mm_mulJ, mm_lt, mm_le, mm_eq, mm_z, mm_cl, mm_w, mm_wl, mm_ite, mm_i2l, mm_l2i, mm_ltJ, mm_leJ, mm_eqJ, mm_clt, mm_cle, mm_cgt, mm_cge, mm_ceq, mm_b, mm_nb, mm_nb0, mm_nb1, mm_vb0, mm_vb1, mm_vbc, mm_vy0, mm_vy1, mm_at, mm_ne, mm_nj, mm_Lw, mm_Nw, mm_atJ, mm_neJ, mm_njJ, zbI_s, zbV_s, zbJ_s, cond_t, Bool.true_and, Bool.and_true, if_true, if_false, not_true, not_false_iff, Classical.not_not, zel_r, zel_42, zel_12, zel_71, zel_80, zel_89, zel_110, zel_188, zel_103, zel_195, zr_o, zr_1, zr_2, zr_3, zr_4, zr_5, zr_6, zr_7, zr_8, zr_9, zq_o, zq_v, zt_o, zt_1, zt_2, zt_3, zt_4, zt_5, zf_o, zf_1, za_w1, za_w2, za_w3, za_cm, za_sl, Int.toNat_natCast, Int.toNat_natCast_add_one, mm_t0, mm_t1, mm_t2, mm_t3, mm_t4, mm_t5, mm_t6, mm_t7, mm_t8, mm_t9, mm_t10, mm_t11, mm_t12, mm_t13, za_1, za_64, za_65, za_66, za_67, za_68, za_71, za_80, za_89, za_98, za_103, za_110, za_121, za_122, za_123, za_124, za_125, za_126, za_188, za_193, za_194, za_195, za_286, za_288, za_289, za_290, za_291, za_292, za_293, za_294, za_295, za_296, za_297, za_298, za_299, za_300, za_301, za_302, za_303, za_304, za_305, za_306, za_307, za_308, za_309, za_310, za_311, za_312]) ?_
    refine zwp_f (by try simp (disch := first | assumption | exact isR33 | exact isT104 | exact isF99 | exact isF101 | exact isR3 | omega | (refine isTk ?_; omega) | (refine isOk isR33 ?_; omega) | (refine isOk ?_ ?_; assumption; omega)) only [mm_r, mm_rl, mm_add, mm_sub, mm_mul, mm_addJ, mm_mulJ, mm_lt, mm_le, mm_eq, mm_z, mm_cl, mm_w, mm_wl, mm_ite, mm_i2l, mm_l2i, mm_ltJ, mm_leJ, mm_eqJ, mm_clt, mm_cle, mm_cgt, mm_cge, mm_ceq, mm_b, mm_nb, mm_nb0, mm_nb1, mm_vb0, mm_vb1, mm_vbc, mm_vy0, mm_vy1, mm_at, mm_ne, mm_nj, mm_Lw, mm_Nw, mm_atJ, mm_neJ, mm_njJ, zbI_s, zbV_s, zbJ_s, cond_t, Bool.true_and, Bool.and_true, if_true, if_false, not_true, not_false_iff, Classical.not_not, zel_r, zel_42, zel_12, zel_71, zel_80, zel_89, zel_110, zel_188, zel_103, zel_195, zr_o, zr_1, zr_2, zr_3, zr_4, zr_5, zr_6, zr_7, zr_8, zr_9, zq_o, zq_v, zt_o, zt_1, zt_2, zt_3, zt_4, zt_5, zf_o, zf_1, za_w1, za_w2, za_w3, za_cm, za_sl, Int.toNat_natCast, Int.toNat_natCast_add_one, mm_t0, mm_t1, mm_t2, mm_t3, mm_t4, mm_t5, mm_t6, mm_t7, mm_t8, mm_t9, mm_t10, mm_t11, mm_t12, mm_t13, za_1, za_64, za_65, za_66, za_67, za_68, za_71, za_80, za_89, za_98, za_103, za_110, za_121, za_122, za_123, za_124, za_125, za_126, za_188, za_193, za_194, za_195, za_286, za_288, za_289, za_290, za_291, za_292, za_293, za_294, za_295, za_296, za_297, za_298, za_299, za_300, za_301, za_302, za_303, za_304, za_305, za_306, za_307, za_308, za_309, za_310, za_311, za_312, e5]
                     first | done | omega) ?_
    rw [sp_173r (o := o) (by omega) (by omega) (by decide) (by decide), zbI_s, s11]
    by_cases w : oo V o 11 = -1
    · refine zwp_t (by rw [w]) ?_
      rw [if_neg (fun p => p.1 w)]
      exact step σ hg hk
    · refine zwp_f (by rw [mm_eq (by omega) (by omega) (by omega) (by omega)]; exact w) ?_
      refine zwp_IE (sp_244 hW hg.1.1 hg.rc (by omega) (by omega) w) ?_
      rintro τ rfl
      by_cases q : had V (CM V noD) o
      · rw [if_neg (fun p => p.2.1 q : ¬ (oo V o 11 ≠ -1 ∧ ¬ had V (CM V noD) o ∧ fh V (CM V noD) o ≠ -1)), if_pos q]
        refine zwp_t (by decide) ?_
        exact step _ hg hk
      · rw [if_neg q]
        refine zwp_f (by decide) ?_
        refine zwp_IE (sp_246 hW (by omega) (by omega) w hg ((hk.1 287 (by omega) 24).trans h24)) ?_
        rintro υ ⟨hg2, hk2⟩
        have rf := fh_rng h1 (CM V noD) o
        by_cases q2 : fh V (CM V noD) o = -1
        · refine zwp_t (by rw [q2]) ?_
          rw [if_neg (fun p => p.2.2 q2)]
          exact step υ hg2 (hk.tr hk2)
        · refine zwp_f (by try simp (disch := first | assumption | exact isR33 | exact isT104 | exact isF99 | exact isF101 | exact isR3 | omega | (refine isTk ?_; omega) | (refine isOk isR33 ?_; omega) | (refine isOk ?_ ?_; assumption; omega)) only [mm_r, mm_rl, mm_add, mm_sub, mm_mul, mm_addJ, mm_mulJ, mm_lt, mm_le, mm_eq, mm_z, mm_cl, mm_w, mm_wl, mm_ite, mm_i2l, mm_l2i, mm_ltJ, mm_leJ, mm_eqJ, mm_clt, mm_cle, mm_cgt, mm_cge, mm_ceq, mm_b, mm_nb, mm_nb0, mm_nb1, mm_vb0, mm_vb1, mm_vbc, mm_vy0, mm_vy1, mm_at, mm_ne, mm_nj, mm_Lw, mm_Nw, mm_atJ, mm_neJ, mm_njJ, zbI_s, zbV_s, zbJ_s, cond_t, Bool.true_and, Bool.and_true, if_true, if_false, not_true, not_false_iff, Classical.not_not, zel_r, zel_42, zel_12, zel_71, zel_80, zel_89, zel_110, zel_188, zel_103, zel_195, zr_o, zr_1, zr_2, zr_3, zr_4, zr_5, zr_6, zr_7, zr_8, zr_9, zq_o, zq_v, zt_o, zt_1, zt_2, zt_3, zt_4, zt_5, zf_o, zf_1, za_w1, za_w2, za_w3, za_cm, za_sl, Int.toNat_natCast, Int.toNat_natCast_add_one, mm_t0, mm_t1, mm_t2, mm_t3, mm_t4, mm_t5, mm_t6, mm_t7, mm_t8, mm_t9, mm_t10, mm_t11, mm_t12, mm_t13, za_1, za_64, za_65, za_66, za_67, za_68, za_71, za_80, za_89, za_98, za_103, za_110, za_121, za_122, za_123, za_124, za_125, za_126, za_188, za_193, za_194, za_195, za_286, za_288, za_289, za_290, za_291, za_292, za_293, za_294, za_295, za_296, za_297, za_298, za_299, za_300, za_301, za_302, za_303, za_304, za_305, za_306, za_307, za_308, za_309, za_310, za_311, za_312]
                           first | done | omega) ?_
          rw [if_pos ⟨w, q, q2⟩]
          exact zwp_ret ⟨rfl, hg2, hk.tr hk2⟩
theorem sp_247 {σ : zM} {V : Int → Int} (hB : rB0 σ V) : zwp (zcall 247 [.ref 287] σ) (fun v τ => v = some (.int (Int32.ofInt (rl V (CM V noD)))) ∧ gone τ V noD ∧ thK σ τ) := by
  have hW := hB.2.1
  have h5 := hW.2.2.1
  refine zwp_of (fun r h => zcc_247 (ze_247_0 _ r h)) ?_
  refine zwp_V _ (sp_210 hW.1 (by omega) (by omega) (fun o o0 o1 => (hW.2.2.2.2 o o0 o1).1) hB.1 hB.dR) ?_
  rintro τ ⟨hf, hg⟩
  refine zwp_mono (lp_247 (σ0 := τ) hW ((hf.1 287 (by omega) 24).trans hB.2.2.1) (V 5).toNat 0 τ (by omega) hg mf.rf) ?_
  rintro v υ ⟨h1, h2, h3⟩
  exact ⟨h1, h2, (hf.mono (by omega)).tr h3⟩
theorem lp_249 {σ0 : zM} {n : Int} (h24 : zN σ0 287 24 = 0) (h25 : zN σ0 287 25 = -1) (n0 : 0 ≤ n) (n1 : n ≤ 50) : ∀ (k m : Nat) (V : Int → Int) (σ : zM), (m : Int) + k = n → WOK V → gone σ V noD → thK σ0 σ → zwp (zev 249 7 [some (.ref 287), some (.int (Int32.ofInt n)), some (.int (Int32.ofInt m)), some (.int (Int32.ofInt (rl V (CM V noD))))] [] σ) (fun v τ => v = some (.int (Int32.ofInt (if rl (stV k V) (CM (stV k V) noD) = -1 then m + snV k V else -1))) ∧ wv τ 288 = stV k V ∧ thK σ0 τ)
  | 0, m, V, σ, e, hV, hg, hk => by
    have h5 := hV.2.2.1
    have rr := rl_rng h5.2.2.1 (CM V noD)
    rw [stV, snV, Int.add_zero]
    refine zwp_of (fun r h => ze_249_7 _ _ _ _ r h) ?_
    by_cases q : rl V (CM V noD) = -1
    · rw [if_pos q]
      refine zwp_t (by rw [q]) ?_
      refine zwp_f (by rw [q]; exact fun p => p rfl) ?_
      exact zwp_ret ⟨rfl, hg.1.1, hk⟩
    · rw [if_neg q]
      refine zwp_f (by rw [mm_eq (by omega) (by omega) (by omega) (by omega)]; exact q) ?_
      refine zwp_t (by rw [mm_le (by omega) (by omega) (by omega) (by omega)]; omega) ?_
      refine zwp_t (by rw [mm_eq (by omega) (by omega) (by omega) (by omega)]; exact q) ?_
      exact zwp_ret ⟨rfl, hg.1.1, hk⟩
  | k + 1, m, V, σ, e, hV, hg, hk => by
    have h5 := hV.2.2.1
    have h1 := hV.1.2.1
    have h9 := hV.1.2.2.1
    have rr := rl_rng h5.2.2.1 (CM V noD)
    rw [stV, snV]
    refine zwp_of (fun r h => ze_249_7 _ _ _ _ r h) ?_
    by_cases q : rl V (CM V noD) = -1
    · rw [if_pos q, if_pos q, if_pos q, Int.add_zero]
      refine zwp_t (by rw [q]) ?_
      refine zwp_f (by rw [q]; exact fun p => p rfl) ?_
      exact zwp_ret ⟨rfl, hg.1.1, hk⟩
    · rw [if_neg q, if_neg q]
      have ok := nxV_ok hV q
      obtain ⟨r0, r1, r2, r3⟩ := rr.resolve_left q
      have f0 := (fh_rng h1 (CM V noD) (rl V (CM V noD))).resolve_left r3
      refine zwp_f (by rw [mm_eq (by omega) (by omega) (by omega) (by omega)]; exact q) ?_
      refine zwp_f (by rw [mm_le (by omega) (by omega) (by omega) (by omega)]; omega) ?_
      refine zwp_IE (sp_246 hV r0 r1 r2 hg ((hk.1 287 (by omega) 24).trans h24)) ?_
      rintro τ ⟨hg2, hk2⟩
      have hk3 := hk.tr hk2
      rw [sp_174 r0 (by omega) (by decide) (by decide), zbV_s]
      have hw : wv (zw τ 288 (80 + 14 * rl V (CM V noD) + 6).toNat (fh V (CM V noD) (rl V (CM V noD)))) 288 = nxV V := wv_set hg2.1.1 r0 (by decide) (by omega) (by omega)
      have hk4 : thK σ0 (zw τ 288 (80 + 14 * rl V (CM V noD) + 6).toNat (fh V (CM V noD) (rl V (CM V noD)))) := hk3.zw 288 _ _ (.inl rfl)
      refine zwp_IE (sp_247 ⟨hw, ok, (hk4.1 287 (by omega) 24).trans h24, (hk4.1 287 (by omega) 25).trans h25⟩) ?_
      rintro υ ⟨hg5, hk5⟩
      have l := lp_249 h24 h25 n0 n1 k (m + 1) (nxV V) υ (by omega) ok hg5 (hk4.tr hk5)
      rw [mm_add]
      rw [show (m : Int) + (1 + snV k (nxV V)) = ((m + 1 : Nat) : Int) + snV k (nxV V) by omega]
      exact l
theorem sp_249 {σ : zM} {V : Int → Int} {n : Int} (hB : rB0 σ V) (n0 : 0 ≤ n) (n1 : n ≤ 50) : zwp (zcall 249 [.ref 287, .int (Int32.ofInt n)] σ) (fun v τ => v = some (.int (Int32.ofInt (if rl (stV n.toNat V) (CM (stV n.toNat V) noD) = -1 then snV n.toNat V else -1))) ∧ wv τ 288 = stV n.toNat V ∧ thK σ τ) := by
  refine zwp_of (fun r h => zcc_249 (ze_249_0 _ _ r h)) ?_
  refine zwp_IE (sp_247 hB) ?_
  rintro τ ⟨hg, hk⟩
  have l := lp_249 (σ0 := σ) (n := n) hB.2.2.1 hB.2.2.2 n0 n1 n.toNat 0 V τ (by omega) hB.2.1 hg hk
  rw [show ((0 : Nat) : Int) + snV n.toNat V = snV n.toNat V by omega] at l
  exact l
theorem lp_250 {σ0 : zM} {W : Int → Int} (hW : WOK W) (hw : wv σ0 288 = W) : ∀ (k i : Nat) (σ : zM), (i : Int) + k = W 5 → mf (fun b => b = 305) σ0 σ → (∀ o, 0 ≤ o → o < (i : Int) → zN σ 305 o.toNat = oo W o 6) → zwp (zev 250 2 [some (.ref 287), some (.int (Int32.ofInt i))] [] σ) (fun v τ => v = none ∧ mf (fun b => b = 305) σ0 τ ∧ ∀ o, 0 ≤ o → o < W 5 → zN τ 305 o.toNat = oo W o 6)
  | 0, i, σ, e, hf, hv => by
    have h5 := hW.2.2.1
    have e5 : zN σ 288 5 = W 5 := (hf.1 288 (by decide) 5).trans (wv_k hw 5)
    refine zwp_of (fun r h => ze_250_2 _ _ r h) ?_
    refine zwp_cd (by simp (disch := first | assumption | exact isR33 | exact isT104 | exact isF99 | exact isF101 | exact isR3 | omega | (refine isTk ?_; omega) | (refine isOk isR33 ?_; omega) | (refine isOk ?_ ?_; assumption; omega)) only [mm_r, mm_rl, mm_add, mm_sub, mm_mul, mm_addJ, mm_mulJ, mm_lt, mm_le, mm_eq, mm_z, mm_cl, mm_w, mm_wl, mm_ite, mm_i2l, mm_l2i, mm_ltJ, mm_leJ, mm_eqJ, mm_clt, mm_cle, mm_cgt, mm_cge, mm_ceq, mm_b, mm_nb, mm_nb0, mm_nb1, mm_vb0, mm_vb1, mm_vbc, mm_vy0, mm_vy1, mm_at, mm_ne, mm_nj, mm_Lw, mm_Nw, mm_atJ, mm_neJ, mm_njJ, zbI_s, zbV_s, zbJ_s, cond_t, Bool.true_and, Bool.and_true, if_true, if_false, not_true, not_false_iff, Classical.not_not, zel_r, zel_42, zel_12, zel_71, zel_80, zel_89, zel_110, zel_188, zel_103, zel_195, zr_o, zr_1, zr_2, zr_3, zr_4, zr_5, zr_6, zr_7, zr_8, zr_9, zq_o, zq_v, zt_o, zt_1, zt_2, zt_3, zt_4, zt_5, zf_o, zf_1, za_w1, za_w2, za_w3, za_cm, za_sl, Int.toNat_natCast, Int.toNat_natCast_add_one, mm_t0, mm_t1, mm_t2, mm_t3, mm_t4, mm_t5, mm_t6, mm_t7, mm_t8, mm_t9, mm_t10, mm_t11, mm_t12, mm_t13, za_1, za_64, za_65, za_66, za_67, za_68, za_71, za_80, za_89, za_98, za_103, za_110, za_121, za_122, za_123, za_124, za_125, za_126, za_188, za_193, za_194, za_195, za_286, za_288, za_289, za_290, za_291, za_292, za_293, za_294, za_295, za_296, za_297, za_298, za_299, za_300, za_301, za_302, za_303, za_304, za_305, za_306, za_307, za_308, za_309, za_310, za_311, za_312]) ?_
    refine zwp_t (by try simp (disch := first | assumption | exact isR33 | exact isT104 | exact isF99 | exact isF101 | exact isR3 | omega | (refine isTk ?_; omega) | (refine isOk isR33 ?_; omega) | (refine isOk ?_ ?_; assumption; omega)) only [mm_r, mm_rl, mm_add, mm_sub, mm_mul, mm_addJ, mm_mulJ, mm_lt, mm_le, mm_eq, mm_z, mm_cl, mm_w, mm_wl, mm_ite, mm_i2l, mm_l2i, mm_ltJ, mm_leJ, mm_eqJ, mm_clt, mm_cle, mm_cgt, mm_cge, mm_ceq, mm_b, mm_nb, mm_nb0, mm_nb1, mm_vb0, mm_vb1, mm_vbc, mm_vy0, mm_vy1, mm_at, mm_ne, mm_nj, mm_Lw, mm_Nw, mm_atJ, mm_neJ, mm_njJ, zbI_s, zbV_s, zbJ_s, cond_t, Bool.true_and, Bool.and_true, if_true, if_false, not_true, not_false_iff, Classical.not_not, zel_r, zel_42, zel_12, zel_71, zel_80, zel_89, zel_110, zel_188, zel_103, zel_195, zr_o, zr_1, zr_2, zr_3, zr_4, zr_5, zr_6, zr_7, zr_8, zr_9, zq_o, zq_v, zt_o, zt_1, zt_2, zt_3, zt_4, zt_5, zf_o, zf_1, za_w1, za_w2, za_w3, za_cm, za_sl, Int.toNat_natCast, Int.toNat_natCast_add_one, mm_t0, mm_t1, mm_t2, mm_t3, mm_t4, mm_t5, mm_t6, mm_t7, mm_t8, mm_t9, mm_t10, mm_t11, mm_t12, mm_t13, za_1, za_64, za_65, za_66, za_67, za_68, za_71, za_80, za_89, za_98, za_103, za_110, za_121, za_122, za_123, za_124, za_125, za_126, za_188, za_193, za_194, za_195, za_286, za_288, za_289, za_290, za_291, za_292, za_293, za_294, za_295, za_296, za_297, za_298, za_299, za_300, za_301, za_302, za_303, za_304, za_305, za_306, za_307, za_308, za_309, za_310, za_311, za_312, e5]
                     first | done | omega) ?_
    exact zwp_ret ⟨rfl, hf, fun o o0 o1 => hv o o0 (by omega)⟩
  | k + 1, i, σ, e, hf, hv => by
    have h5 := hW.2.2.1
    have e5 : zN σ 288 5 = W 5 := (hf.1 288 (by decide) 5).trans (wv_k hw 5)
    have s6 : rO σ 6 i = oo W i 6 := rO_of ((hf.wv 288 (by decide)).trans hw) 6 i
    have b6 := (hW.2.2.2.2 i (by omega) (by omega)).1.2.2.2.2.2.2.2
    refine zwp_of (fun r h => ze_250_2 _ _ r h) ?_
    refine zwp_cd (by simp (disch := first | assumption | exact isR33 | exact isT104 | exact isF99 | exact isF101 | exact isR3 | omega | (refine isTk ?_; omega) | (refine isOk isR33 ?_; omega) | (refine isOk ?_ ?_; assumption; omega)) only [mm_r, mm_rl, mm_add, mm_sub, mm_mul, mm_addJ, mm_mulJ, mm_lt, mm_le, mm_eq, mm_z, mm_cl, mm_w, mm_wl, mm_ite, mm_i2l, mm_l2i, mm_ltJ, mm_leJ, mm_eqJ, mm_clt, mm_cle, mm_cgt, mm_cge, mm_ceq, mm_b, mm_nb, mm_nb0, mm_nb1, mm_vb0, mm_vb1, mm_vbc, mm_vy0, mm_vy1, mm_at, mm_ne, mm_nj, mm_Lw, mm_Nw, mm_atJ, mm_neJ, mm_njJ, zbI_s, zbV_s, zbJ_s, cond_t, Bool.true_and, Bool.and_true, if_true, if_false, not_true, not_false_iff, Classical.not_not, zel_r, zel_42, zel_12, zel_71, zel_80, zel_89, zel_110, zel_188, zel_103, zel_195, zr_o, zr_1, zr_2, zr_3, zr_4, zr_5, zr_6, zr_7, zr_8, zr_9, zq_o, zq_v, zt_o, zt_1, zt_2, zt_3, zt_4, zt_5, zf_o, zf_1, za_w1, za_w2, za_w3, za_cm, za_sl, Int.toNat_natCast, Int.toNat_natCast_add_one, mm_t0, mm_t1, mm_t2, mm_t3, mm_t4, mm_t5, mm_t6, mm_t7, mm_t8, mm_t9, mm_t10, mm_t11, mm_t12, mm_t13, za_1, za_64, za_65, za_66, za_67, za_68, za_71, za_80, za_89, za_98, za_103, za_110, za_121, za_122, za_123, za_124, za_125, za_126, za_188, za_193, za_194, za_195, za_286, za_288, za_289, za_290, za_291, za_292, za_293, za_294, za_295, za_296, za_297, za_298, za_299, za_300, za_301, za_302, za_303, za_304, za_305, za_306, za_307, za_308, za_309, za_310, za_311, za_312]) ?_
    refine zwp_f (by try simp (disch := first | assumption | exact isR33 | exact isT104 | exact isF99 | exact isF101 | exact isR3 | omega | (refine isTk ?_; omega) | (refine isOk isR33 ?_; omega) | (refine isOk ?_ ?_; assumption; omega)) only [mm_r, mm_rl, mm_add, mm_sub, mm_mul, mm_addJ, mm_mulJ, mm_lt, mm_le, mm_eq, mm_z, mm_cl, mm_w, mm_wl, mm_ite, mm_i2l, mm_l2i, mm_ltJ, mm_leJ, mm_eqJ, mm_clt, mm_cle, mm_cgt, mm_cge, mm_ceq, mm_b, mm_nb, mm_nb0, mm_nb1, mm_vb0, mm_vb1, mm_vbc, mm_vy0, mm_vy1, mm_at, mm_ne, mm_nj, mm_Lw, mm_Nw, mm_atJ, mm_neJ, mm_njJ, zbI_s, zbV_s, zbJ_s, cond_t, Bool.true_and, Bool.and_true, if_true, if_false, not_true, not_false_iff, Classical.not_not, zel_r, zel_42, zel_12, zel_71, zel_80, zel_89, zel_110, zel_188, zel_103, zel_195, zr_o, zr_1, zr_2, zr_3, zr_4, zr_5, zr_6, zr_7, zr_8, zr_9, zq_o, zq_v, zt_o, zt_1, zt_2, zt_3, zt_4, zt_5, zf_o, zf_1, za_w1, za_w2, za_w3, za_cm, za_sl, Int.toNat_natCast, Int.toNat_natCast_add_one, mm_t0, mm_t1, mm_t2, mm_t3, mm_t4, mm_t5, mm_t6, mm_t7, mm_t8, mm_t9, mm_t10, mm_t11, mm_t12, mm_t13, za_1, za_64, za_65, za_66, za_67, za_68, za_71, za_80, za_89, za_98, za_103, za_110, za_121, za_122, za_123, za_124, za_125, za_126, za_188, za_193, za_194, za_195, za_286, za_288, za_289, za_290, za_291, za_292, za_293, za_294, za_295, za_296, za_297, za_298, za_299, za_300, za_301, za_302, za_303, za_304, za_305, za_306, za_307, za_308, za_309, za_310, za_311, za_312, e5]
                     first | done | omega) ?_
    rw [sp_173r (o := i) (by omega) (by omega) (by decide) (by decide), zbI_s, s6]
    refine zwp_cd (by simp (disch := first | assumption | exact isR33 | exact isT104 | exact isF99 | exact isF101 | exact isR3 | omega | (refine isTk ?_; omega) | (refine isOk isR33 ?_; omega) | (refine isOk ?_ ?_; assumption; omega)) only [mm_r, mm_rl, mm_add, mm_sub, mm_mul, mm_addJ, mm_mulJ, mm_lt, mm_le, mm_eq, mm_z, mm_cl, mm_w, mm_wl, mm_ite, mm_i2l, mm_l2i, mm_ltJ, mm_leJ, mm_eqJ, mm_clt, mm_cle, mm_cgt, mm_cge, mm_ceq, mm_b, mm_nb, mm_nb0, mm_nb1, mm_vb0, mm_vb1, mm_vbc, mm_vy0, mm_vy1, mm_at, mm_ne, mm_nj, mm_Lw, mm_Nw, mm_atJ, mm_neJ, mm_njJ, zbI_s, zbV_s, zbJ_s, cond_t, Bool.true_and, Bool.and_true, if_true, if_false, not_true, not_false_iff, Classical.not_not, zel_r, zel_42, zel_12, zel_71, zel_80, zel_89, zel_110, zel_188, zel_103, zel_195, zr_o, zr_1, zr_2, zr_3, zr_4, zr_5, zr_6, zr_7, zr_8, zr_9, zq_o, zq_v, zt_o, zt_1, zt_2, zt_3, zt_4, zt_5, zf_o, zf_1, za_w1, za_w2, za_w3, za_cm, za_sl, Int.toNat_natCast, Int.toNat_natCast_add_one, mm_t0, mm_t1, mm_t2, mm_t3, mm_t4, mm_t5, mm_t6, mm_t7, mm_t8, mm_t9, mm_t10, mm_t11, mm_t12, mm_t13, za_1, za_64, za_65, za_66, za_67, za_68, za_71, za_80, za_89, za_98, za_103, za_110, za_121, za_122, za_123, za_124, za_125, za_126, za_188, za_193, za_194, za_195, za_286, za_288, za_289, za_290, za_291, za_292, za_293, za_294, za_295, za_296, za_297, za_298, za_299, za_300, za_301, za_302, za_303, za_304, za_305, za_306, za_307, za_308, za_309, za_310, za_311, za_312]) ?_
    refine zwp_letE (τ' := zw σ 305 i (oo W i 6)) (by simp (disch := first | assumption | exact isR33 | exact isT104 | exact isF99 | exact isF101 | exact isR3 | omega | (refine isTk ?_; omega) | (refine isOk isR33 ?_; omega) | (refine isOk ?_ ?_; assumption; omega)) only [mm_r, mm_rl, mm_add, mm_sub, mm_mul, mm_addJ, mm_mulJ, mm_lt, mm_le, mm_eq, mm_z, mm_cl, mm_w, mm_wl, mm_ite, mm_i2l, mm_l2i, mm_ltJ, mm_leJ, mm_eqJ, mm_clt, mm_cle, mm_cgt, mm_cge, mm_ceq, mm_b, mm_nb, mm_nb0, mm_nb1, mm_vb0, mm_vb1, mm_vbc, mm_vy0, mm_vy1, mm_at, mm_ne, mm_nj, mm_Lw, mm_Nw, mm_atJ, mm_neJ, mm_njJ, zbI_s, zbV_s, zbJ_s, cond_t, Bool.true_and, Bool.and_true, if_true, if_false, not_true, not_false_iff, Classical.not_not, zel_r, zel_42, zel_12, zel_71, zel_80, zel_89, zel_110, zel_188, zel_103, zel_195, zr_o, zr_1, zr_2, zr_3, zr_4, zr_5, zr_6, zr_7, zr_8, zr_9, zq_o, zq_v, zt_o, zt_1, zt_2, zt_3, zt_4, zt_5, zf_o, zf_1, za_w1, za_w2, za_w3, za_cm, za_sl, Int.toNat_natCast, Int.toNat_natCast_add_one, mm_t0, mm_t1, mm_t2, mm_t3, mm_t4, mm_t5, mm_t6, mm_t7, mm_t8, mm_t9, mm_t10, mm_t11, mm_t12, mm_t13, za_1, za_64, za_65, za_66, za_67, za_68, za_71, za_80, za_89, za_98, za_103, za_110, za_121, za_122, za_123, za_124, za_125, za_126, za_188, za_193, za_194, za_195, za_286, za_288, za_289, za_290, za_291, za_292, za_293, za_294, za_295, za_296, za_297, za_298, za_299, za_300, za_301, za_302, za_303, za_304, za_305, za_306, za_307, za_308, za_309, za_310, za_311, za_312]) ?_
    rw [mm_add]
    refine lp_250 hW hw k (i + 1) _ (by omega) (hf.zw 305 _ _ rfl) (fun o o0 o1 => ?_)
    by_cases z : o = i
    · rw [z, Int.toNat_natCast, mm_at rfl rfl (by omega) (by omega)]
    · rw [mm_nj (by omega)]
      exact hv o o0 (by omega)
theorem sp_250 {σ : zM} {W : Int → Int} (hW : WOK W) (hw : wv σ 288 = W) : zwp (zcall 250 [.ref 287] σ) (fun v τ => v = none ∧ mf (fun b => b = 305) σ τ ∧ ∀ o, 0 ≤ o → o < W 5 → zN τ 305 o.toNat = oo W o 6) := by
  refine zwp_of (fun r h => zcc_250 (ze_250_0 _ r h)) ?_
  exact lp_250 hW hw (W 5).toNat 0 σ (by have := hW.2.2.1; omega) mf.rf (fun o o0 o1 => by omega)
theorem lp_251 {σ0 : zM} {W : Int → Int} (hW : WOK W) (hv : ∀ o, 0 ≤ o → o < W 5 → zN σ0 305 o.toNat = oo W o 6) : ∀ (k i : Nat) (σ : zM), (i : Int) + k = W 5 → mf (fun b => b = 288) σ0 σ → (∀ j : Int, (j < 80 ∨ (j - 80) % 14 ≠ 6 ∨ (j - 80) / 14 < i ∨ W 5 ≤ (j - 80) / 14) → wv σ 288 j = W j) → zwp (zev 251 2 [some (.ref 287), some (.int (Int32.ofInt i))] [] σ) (fun v τ => v = none ∧ mf (fun b => b = 288) σ0 τ ∧ wv τ 288 = W)
  | 0, i, σ, e, hf, hw => by
    have h5 := hW.2.2.1
    have e5 : zN σ 288 5 = W 5 := hw 5 (by omega)
    refine zwp_of (fun r h => ze_251_2 _ _ r h) ?_
    refine zwp_cd (by simp (disch := first | assumption | exact isR33 | exact isT104 | exact isF99 | exact isF101 | exact isR3 | omega | (refine isTk ?_; omega) | (refine isOk isR33 ?_; omega) | (refine isOk ?_ ?_; assumption; omega)) only [mm_r, mm_rl, mm_add, mm_sub, mm_mul, mm_addJ, mm_mulJ, mm_lt, mm_le, mm_eq, mm_z, mm_cl, mm_w, mm_wl, mm_ite, mm_i2l, mm_l2i, mm_ltJ, mm_leJ, mm_eqJ, mm_clt, mm_cle, mm_cgt, mm_cge, mm_ceq, mm_b, mm_nb, mm_nb0, mm_nb1, mm_vb0, mm_vb1, mm_vbc, mm_vy0, mm_vy1, mm_at, mm_ne, mm_nj, mm_Lw, mm_Nw, mm_atJ, mm_neJ, mm_njJ, zbI_s, zbV_s, zbJ_s, cond_t, Bool.true_and, Bool.and_true, if_true, if_false, not_true, not_false_iff, Classical.not_not, zel_r, zel_42, zel_12, zel_71, zel_80, zel_89, zel_110, zel_188, zel_103, zel_195, zr_o, zr_1, zr_2, zr_3, zr_4, zr_5, zr_6, zr_7, zr_8, zr_9, zq_o, zq_v, zt_o, zt_1, zt_2, zt_3, zt_4, zt_5, zf_o, zf_1, za_w1, za_w2, za_w3, za_cm, za_sl, Int.toNat_natCast, Int.toNat_natCast_add_one, mm_t0, mm_t1, mm_t2, mm_t3, mm_t4, mm_t5, mm_t6, mm_t7, mm_t8, mm_t9, mm_t10, mm_t11, mm_t12, mm_t13, za_1, za_64, za_65, za_66, za_67, za_68, za_71, za_80, za_89, za_98, za_103, za_110, za_121, za_122, za_123, za_124, za_125, za_126, za_188, za_193, za_194, za_195, za_286, za_288, za_289, za_290, za_291, za_292, za_293, za_294, za_295, za_296, za_297, za_298, za_299, za_300, za_301, za_302, za_303, za_304, za_305, za_306, za_307, za_308, za_309, za_310, za_311, za_312]) ?_
    refine zwp_t (by try simp (disch := first | assumption | exact isR33 | exact isT104 | exact isF99 | exact isF101 | exact isR3 | omega | (refine isTk ?_; omega) | (refine isOk isR33 ?_; omega) | (refine isOk ?_ ?_; assumption; omega)) only [mm_r, mm_rl, mm_add, mm_sub, mm_mul, mm_addJ, mm_mulJ, mm_lt, mm_le, mm_eq, mm_z, mm_cl, mm_w, mm_wl, mm_ite, mm_i2l, mm_l2i, mm_ltJ, mm_leJ, mm_eqJ, mm_clt, mm_cle, mm_cgt, mm_cge, mm_ceq, mm_b, mm_nb, mm_nb0, mm_nb1, mm_vb0, mm_vb1, mm_vbc, mm_vy0, mm_vy1, mm_at, mm_ne, mm_nj, mm_Lw, mm_Nw, mm_atJ, mm_neJ, mm_njJ, zbI_s, zbV_s, zbJ_s, cond_t, Bool.true_and, Bool.and_true, if_true, if_false, not_true, not_false_iff, Classical.not_not, zel_r, zel_42, zel_12, zel_71, zel_80, zel_89, zel_110, zel_188, zel_103, zel_195, zr_o, zr_1, zr_2, zr_3, zr_4, zr_5, zr_6, zr_7, zr_8, zr_9, zq_o, zq_v, zt_o, zt_1, zt_2, zt_3, zt_4, zt_5, zf_o, zf_1, za_w1, za_w2, za_w3, za_cm, za_sl, Int.toNat_natCast, Int.toNat_natCast_add_one, mm_t0, mm_t1, mm_t2, mm_t3, mm_t4, mm_t5, mm_t6, mm_t7, mm_t8, mm_t9, mm_t10, mm_t11, mm_t12, mm_t13, za_1, za_64, za_65, za_66, za_67, za_68, za_71, za_80, za_89, za_98, za_103, za_110, za_121, za_122, za_123, za_124, za_125, za_126, za_188, za_193, za_194, za_195, za_286, za_288, za_289, za_290, za_291, za_292, za_293, za_294, za_295, za_296, za_297, za_298, za_299, za_300, za_301, za_302, za_303, za_304, za_305, za_306, za_307, za_308, za_309, za_310, za_311, za_312, e5]
                     first | done | omega) ?_
    exact zwp_ret ⟨rfl, hf, funext fun j => hw j (by omega)⟩
  | k + 1, i, σ, e, hf, hw => by
    have h5 := hW.2.2.1
    have e5 : zN σ 288 5 = W 5 := hw 5 (by omega)
    have e305 : zN σ 305 i = oo W i 6 := (hf.1 305 (by decide) i).trans (hv i (by omega) (by omega))
    have b6 := (hW.2.2.2.2 i (by omega) (by omega)).1.2.2.2.2.2.2.2
    refine zwp_of (fun r h => ze_251_2 _ _ r h) ?_
    refine zwp_cd (by simp (disch := first | assumption | exact isR33 | exact isT104 | exact isF99 | exact isF101 | exact isR3 | omega | (refine isTk ?_; omega) | (refine isOk isR33 ?_; omega) | (refine isOk ?_ ?_; assumption; omega)) only [mm_r, mm_rl, mm_add, mm_sub, mm_mul, mm_addJ, mm_mulJ, mm_lt, mm_le, mm_eq, mm_z, mm_cl, mm_w, mm_wl, mm_ite, mm_i2l, mm_l2i, mm_ltJ, mm_leJ, mm_eqJ, mm_clt, mm_cle, mm_cgt, mm_cge, mm_ceq, mm_b, mm_nb, mm_nb0, mm_nb1, mm_vb0, mm_vb1, mm_vbc, mm_vy0, mm_vy1, mm_at, mm_ne, mm_nj, mm_Lw, mm_Nw, mm_atJ, mm_neJ, mm_njJ, zbI_s, zbV_s, zbJ_s, cond_t, Bool.true_and, Bool.and_true, if_true, if_false, not_true, not_false_iff, Classical.not_not, zel_r, zel_42, zel_12, zel_71, zel_80, zel_89, zel_110, zel_188, zel_103, zel_195, zr_o, zr_1, zr_2, zr_3, zr_4, zr_5, zr_6, zr_7, zr_8, zr_9, zq_o, zq_v, zt_o, zt_1, zt_2, zt_3, zt_4, zt_5, zf_o, zf_1, za_w1, za_w2, za_w3, za_cm, za_sl, Int.toNat_natCast, Int.toNat_natCast_add_one, mm_t0, mm_t1, mm_t2, mm_t3, mm_t4, mm_t5, mm_t6, mm_t7, mm_t8, mm_t9, mm_t10, mm_t11, mm_t12, mm_t13, za_1, za_64, za_65, za_66, za_67, za_68, za_71, za_80, za_89, za_98, za_103, za_110, za_121, za_122, za_123, za_124, za_125, za_126, za_188, za_193, za_194, za_195, za_286, za_288, za_289, za_290, za_291, za_292, za_293, za_294, za_295, za_296, za_297, za_298, za_299, za_300, za_301, za_302, za_303, za_304, za_305, za_306, za_307, za_308, za_309, za_310, za_311, za_312]) ?_
    refine zwp_f (by try simp (disch := first | assumption | exact isR33 | exact isT104 | exact isF99 | exact isF101 | exact isR3 | omega | (refine isTk ?_; omega) | (refine isOk isR33 ?_; omega) | (refine isOk ?_ ?_; assumption; omega)) only [mm_r, mm_rl, mm_add, mm_sub, mm_mul, mm_addJ, mm_mulJ, mm_lt, mm_le, mm_eq, mm_z, mm_cl, mm_w, mm_wl, mm_ite, mm_i2l, mm_l2i, mm_ltJ, mm_leJ, mm_eqJ, mm_clt, mm_cle, mm_cgt, mm_cge, mm_ceq, mm_b, mm_nb, mm_nb0, mm_nb1, mm_vb0, mm_vb1, mm_vbc, mm_vy0, mm_vy1, mm_at, mm_ne, mm_nj, mm_Lw, mm_Nw, mm_atJ, mm_neJ, mm_njJ, zbI_s, zbV_s, zbJ_s, cond_t, Bool.true_and, Bool.and_true, if_true, if_false, not_true, not_false_iff, Classical.not_not, zel_r, zel_42, zel_12, zel_71, zel_80, zel_89, zel_110, zel_188, zel_103, zel_195, zr_o, zr_1, zr_2, zr_3, zr_4, zr_5, zr_6, zr_7, zr_8, zr_9, zq_o, zq_v, zt_o, zt_1, zt_2, zt_3, zt_4, zt_5, zf_o, zf_1, za_w1, za_w2, za_w3, za_cm, za_sl, Int.toNat_natCast, Int.toNat_natCast_add_one, mm_t0, mm_t1, mm_t2, mm_t3, mm_t4, mm_t5, mm_t6, mm_t7, mm_t8, mm_t9, mm_t10, mm_t11, mm_t12, mm_t13, za_1, za_64, za_65, za_66, za_67, za_68, za_71, za_80, za_89, za_98, za_103, za_110, za_121, za_122, za_123, za_124, za_125, za_126, za_188, za_193, za_194, za_195, za_286, za_288, za_289, za_290, za_291, za_292, za_293, za_294, za_295, za_296, za_297, za_298, za_299, za_300, za_301, za_302, za_303, za_304, za_305, za_306, za_307, za_308, za_309, za_310, za_311, za_312, e5]
                     first | done | omega) ?_
    refine zwp_cd (by simp (disch := first | assumption | exact isR33 | exact isT104 | exact isF99 | exact isF101 | exact isR3 | omega | (refine isTk ?_; omega) | (refine isOk isR33 ?_; omega) | (refine isOk ?_ ?_; assumption; omega)) only [mm_r, mm_rl, mm_add, mm_sub, mm_mul, mm_addJ, mm_mulJ, mm_lt, mm_le, mm_eq, mm_z, mm_cl, mm_w, mm_wl, mm_ite, mm_i2l, mm_l2i, mm_ltJ, mm_leJ, mm_eqJ, mm_clt, mm_cle, mm_cgt, mm_cge, mm_ceq, mm_b, mm_nb, mm_nb0, mm_nb1, mm_vb0, mm_vb1, mm_vbc, mm_vy0, mm_vy1, mm_at, mm_ne, mm_nj, mm_Lw, mm_Nw, mm_atJ, mm_neJ, mm_njJ, zbI_s, zbV_s, zbJ_s, cond_t, Bool.true_and, Bool.and_true, if_true, if_false, not_true, not_false_iff, Classical.not_not, zel_r, zel_42, zel_12, zel_71, zel_80, zel_89, zel_110, zel_188, zel_103, zel_195, zr_o, zr_1, zr_2, zr_3, zr_4, zr_5, zr_6, zr_7, zr_8, zr_9, zq_o, zq_v, zt_o, zt_1, zt_2, zt_3, zt_4, zt_5, zf_o, zf_1, za_w1, za_w2, za_w3, za_cm, za_sl, Int.toNat_natCast, Int.toNat_natCast_add_one, mm_t0, mm_t1, mm_t2, mm_t3, mm_t4, mm_t5, mm_t6, mm_t7, mm_t8, mm_t9, mm_t10, mm_t11, mm_t12, mm_t13, za_1, za_64, za_65, za_66, za_67, za_68, za_71, za_80, za_89, za_98, za_103, za_110, za_121, za_122, za_123, za_124, za_125, za_126, za_188, za_193, za_194, za_195, za_286, za_288, za_289, za_290, za_291, za_292, za_293, za_294, za_295, za_296, za_297, za_298, za_299, za_300, za_301, za_302, za_303, za_304, za_305, za_306, za_307, za_308, za_309, za_310, za_311, za_312]) ?_
    rw [mm_cl (by omega) (by omega), Int.toNat_natCast, mm_r σ 305 i, e305, sp_174 (o := i) (by omega) (by omega) (by decide) (by decide), zbV_s, mm_add]
    refine lp_251 hW hv k (i + 1) _ (by omega) (hf.zw 288 _ _ rfl) (fun j hj => ?_)
    show zN (zw σ 288 _ _) 288 j.toNat = W j
    by_cases z : j = 80 + 14 * i + 6
    · rw [mm_at rfl (by omega) (by omega) (by omega), z]
      rfl
    · by_cases z2 : j.toNat = (80 + 14 * (i : Int) + 6).toNat
      · omega
      · rw [mm_nj z2]
        exact hw j (by omega)
theorem sp_251 {σ : zM} {W V : Int → Int} (hW : WOK W) (hE : eqH W V) (hw : wv σ 288 = V) (hv : ∀ o, 0 ≤ o → o < W 5 → zN σ 305 o.toNat = oo W o 6) : zwp (zcall 251 [.ref 287] σ) (fun v τ => v = none ∧ mf (fun b => b = 288) σ τ ∧ wv τ 288 = W) := by
  refine zwp_of (fun r h => zcc_251 (ze_251_0 _ r h)) ?_
  refine lp_251 hW hv (W 5).toNat 0 σ (by have := hW.2.2.1; omega) mf.rf (fun j hj => ?_)
  rw [hw]
  by_cases q : j < 80
  · exact hE.1 j q
  · have := hE.2 ((j - 80) / 14) ((j - 80) % 14) (by omega) (by omega) (by omega) (by omega)
    unfold oo at this
    rw [show 80 + 14 * ((j - 80) / 14) + (j - 80) % 14 = j by omega] at this
    exact this
theorem rq_rest {σ : zM} {W : Int → Int} (hB : rB0 σ W) : zwp (zcall 248 [.ref 287] σ) (fun v τ => v = some (.int (Int32.ofInt (Erest W))) ∧ rK σ τ) := by
  have e0 : zN σ 288 0 = W 0 := wv_k hB.1 0
  unfold Erest
  refine zwp_of (fun r h => zcc_248 (ze_248_0 _ r h)) ?_
  rw [sp_166, zbI_s, e0]
  simp only [mm_z, mm_b]
  refine zwp_ite (fun q => ?_) (fun q => ?_)
  · rw [if_neg q]
    exact zwp_ret ⟨rfl, rK.rf⟩
  · rw [if_pos (Classical.not_not.mp q)]
    refine zwp_IE (sp_247 hB) ?_
    rintro τ ⟨hg, hk⟩
    exact zwp_ret ⟨rfl, hk.rK (hg.1.1.trans hB.1.symm)⟩
theorem rest_end {σ τ υ ω : zM} {W : Int → Int} (hB : rB0 σ W) (h1 : mf (fun b => b = 305) σ τ) (h2 : thK τ υ) (h3 : mf (fun b => b = 288) υ ω) (hw : wv ω 288 = W) : rK σ ω := by
  have h : mf (fun b => b = 288 ∨ 294 ≤ b ∧ b ≤ 305) σ ω := ((h1.mono (by omega)).tr (mf.mono h2 (by omega))).tr (h3.mono (by omega))
  exact ⟨h.mono fun b hb => by unfold refS; omega, fun k _ => h.1 287 (by omega) k, hw.trans hB.1.symm⟩
theorem rq_rests {σ : zM} {W : Int → Int} {n : Int} (hB : rB0 σ W) (hn0 : -2147483648 ≤ n) (hn1 : n < 2147483648) : zwp (zcall 252 [.ref 287, .int (Int32.ofInt n)] σ) (fun v τ => v = some (.int (Int32.ofInt (Erests W n))) ∧ rK σ τ) := by
  have hW := hB.2.1
  have e0 : zN σ 288 0 = W 0 := wv_k hB.1 0
  unfold Erests
  refine zwp_of (fun r h => zcc_252 (ze_252_0 _ _ r h)) ?_
  rw [sp_166, zbI_s, e0]
  simp only [mm_z, mm_b]
  refine zwp_ite (fun q => ?_) (fun q => ?_)
  · rw [if_neg (fun p => q p.1)]
    exact zwp_ret ⟨rfl, rK.rf⟩
  · have q := Classical.not_not.mp q
    rw [show (Int32.ofInt n).toInt64 = Int64.ofInt n from mm_i2l hn0 hn1, sp_163 (by omega) (by omega) (by omega) (by omega) (by omega) (by omega), zbI_s]
    simp only [mm_b, Classical.not_not]
    refine zwp_ite (fun q2 => ?_) (fun q2 => ?_)
    · rw [if_pos (⟨q, q2⟩ : 0 < W 0 ∧ 0 ≤ n ∧ n ≤ 50)]
      refine zwp_V _ (sp_250 hW hB.1) ?_
      rintro τ ⟨h1, hv⟩
      have hB2 : rB0 τ W := ⟨(h1.wv 288 (by decide)).trans hB.1, hW, (h1.1 287 (by decide) 24).trans hB.2.2.1, (h1.1 287 (by decide) 25).trans hB.2.2.2⟩
      refine zwp_IE (sp_249 hB2 q2.1 q2.2) ?_
      rintro υ ⟨hw, hk⟩
      have ht := tho_st hW n.toNat (tho_ini hW)
      refine zwp_V _ (sp_251 hW ht.1.1 hw (fun o o0 o1 => (hk.1 305 (by omega) _).trans (hv o o0 o1))) ?_
      rintro ω ⟨h3, hw3⟩
      rw [tho_rl hW ht.1, ht.2]
      exact zwp_ret ⟨rfl, rest_end hB h1 hk h3 hw3⟩
    · rw [if_neg (fun p => q2 p.2)]
      exact zwp_ret ⟨rfl, rK.rf⟩
theorem rq_sent {σ : zM} {W : Int → Int} {o n : Int} (hB : rB0 σ W) (ho0 : -2147483648 ≤ o) (ho1 : o < 2147483648) (hn0 : -2147483648 ≤ n) (hn1 : n < 2147483648) : zwp (zcall 253 [.ref 287, .int (Int32.ofInt o), .int (Int32.ofInt n)] σ) (fun v τ => v = some (.int (Int32.ofInt (Esent W o n))) ∧ rK σ τ) := by
  have hW := hB.2.1
  have h5 := hW.2.2.1
  have e5 : zN σ 288 5 = W 5 := wv_k hB.1 5
  have s := sp_170 (n := o) (σ := σ) (by omega) (by omega) (by omega)
  rw [e5] at s
  unfold Esent
  refine zwp_of (fun r h => zcc_253 (ze_253_0 _ _ _ r h)) ?_
  rw [show (Int32.ofInt o).toInt64 = Int64.ofInt o from mm_i2l ho0 ho1, s, zbI_s]
  simp only [mm_z, mm_b]
  refine zwp_ite (fun q => ?_) (fun q => ?_)
  · rw [if_neg (fun p => q p.1)]
    exact zwp_ret ⟨rfl, rK.rf⟩
  · have q := Classical.not_not.mp q
    rw [show (Int32.ofInt n).toInt64 = Int64.ofInt n from mm_i2l hn0 hn1, sp_163 (by omega) (by omega) (by omega) (by omega) (by omega) (by omega), zbI_s]
    simp only [mm_b, Classical.not_not]
    refine zwp_ite (fun q2 => ?_) (fun q2 => ?_)
    · rw [if_pos (⟨q, q2⟩ : inO W o ∧ 0 ≤ n ∧ n ≤ 50)]
      refine zwp_V _ (sp_250 hW hB.1) ?_
      rintro τ ⟨h1, hv⟩
      have hB2 : rB0 τ W := ⟨(h1.wv 288 (by decide)).trans hB.1, hW, (h1.1 287 (by decide) 24).trans hB.2.2.1, (h1.1 287 (by decide) 25).trans hB.2.2.2⟩
      refine zwp_IE (sp_249 hB2 q2.1 q2.2) ?_
      rintro υ ⟨hw, hk⟩
      have ht := tho_st hW n.toNat (tho_ini hW)
      have s6 : rO υ 6 o = stH W n.toNat (CM W noD) (fun o => oo W o 6) o := (rO_of hw 6 o).trans (ht.1.2.2 o q.1 q.2).2.symm
      rw [sp_173r q.1 (by omega) (by decide) (by decide), zbI_s, s6]
      refine zwp_V _ (sp_251 hW ht.1.1 hw (fun o o0 o1 => (hk.1 305 (by omega) _).trans (hv o o0 o1))) ?_
      rintro ω ⟨h3, hw3⟩
      exact zwp_ret ⟨rfl, rest_end hB h1 hk h3 hw3⟩
    · rw [if_neg (fun p => q2 p.2)]
      exact zwp_ret ⟨rfl, rK.rf⟩
