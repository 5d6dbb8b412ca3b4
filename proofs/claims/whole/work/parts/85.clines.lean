/-! THE TEXT: the class reads lines -/
noncomputable def rRealm (T : Int → Int) (sz : Int) (s : tk) (W : Int → Int) : rdZ := wd T sz 1000000 s fun s => wd T sz 1000006 s fun s => nm T sz 2 8 s fun a s => wd T sz 1000007 s fun s => nm T sz 5 99 s fun b s => okR s (uHd W a b)
noncomputable def rRoad (T : Int → Int) (sz : Int) (s : tk) (W : Int → Int) : rdZ := if 12 ≤ W 2 then er 3 s.2.1 else nm T sz 0 (W 0 - 1) (nxt T sz s) fun a s => wd T sz 1000008 s fun s1 => nm T sz 0 (W 0 - 1) s1 fun b s => if a = b ∨ RD W a b ≠ -1 then er 2 s1.2.1 else wd T sz 1000007 s fun s => nm T sz 1 20 s fun h s => okR s (uRo W a b h)
noncomputable def rFlood (T : Int → Int) (sz : Int) (s : tk) (W : Int → Int) : rdZ := if 8 ≤ W 3 then er 3 s.2.1 else nm T sz 0 (W 0 - 1) (nxt T sz s) fun a s => wd T sz 1000008 s fun s1 => nm T sz 0 (W 0 - 1) s1 fun b s => if RD W a b = -1 then er 2 s1.2.1 else wd T sz 1000009 s fun s => nm T sz 0 (W 1 - 1) s fun f s => wd T sz 1000008 s fun s => nm T sz f (W 1 - 1) s fun t s => okR s (uFl W (RD W a b) f t)
noncomputable def rRider (T : Int → Int) (sz : Int) (s : tk) (W : Int → Int) : rdZ := if 6 ≤ W 4 then er 3 s.2.1 else wd T sz 1000010 (nxt T sz s) fun s => nm T sz 1 9 s fun p s => wd T sz 1000011 s fun s => nm T sz 0 20 s fun r s => okR s (uRi W p r)
noncomputable def rWish (T : Int → Int) (sz : Int) (s : tk) (W : Int → Int) : rdZ := wd T sz 1000005 s fun s1 => nm T sz 0 (W 5 - 1) s1 fun n s => if oo W n 2 = -1 then er 2 s1.2.1 else wd T sz 1000015 s fun s => nm T sz 0 9 s fun x s => wd T sz 1000017 s fun s => nm T sz 0 (W 0 - 1) s fun t s => wd T sz 1000013 s fun s => nm T sz 0 (W 1 - 1) s fun h s => okR s (uWi W n x t h)
noncomputable def rSeal (T : Int → Int) (sz : Int) (s : tk) (W : Int → Int) : rdZ := wd T sz 1000018 s fun s => nm T sz 0 99 s fun v s => okR s (wU W 7 v)
theorem bd_80 {σ : zM} {f p : Int} {W : Int → Int} (hb : bdC σ f p W) (h20 : 0 ≤ W 2) (h2 : W 2 ≤ 12) {x y : Int32} : zcall 80 [.ref 3, .int x, .int y] σ = some (some (.int (Int32.ofInt (RD W x.toInt y.toInt))), σ) := by
  obtain ⟨a, a0, a1, rfl⟩ := mm_ex x
  obtain ⟨b, b0, b1, rfl⟩ := mm_ex y
  rw [mm_to a0 a1, mm_to b0 b1]
  exact sp_80 isR3 hb.2.2.2.1 h20 h2 a0 a1 b0 b1
theorem zbI_thru {o o' : Option zR} {k : Int32 → zM → Option zR} {Q : Option Value → zM → Prop} (ho : ∀ v τ, o' = some (some (.int v), τ) → o = some (some (.int v), τ)) (h : zwp (zbI o' k) Q) : zwp (zbI o k) Q := by
  obtain ⟨w, τ, h1, h2⟩ := h
  rcases o' with _ | ⟨_ | v, τ'⟩
  · exact absurd h1 (by intro e; cases e)
  · exact absurd h1 (by intro e; cases e)
  · cases v with
    | int v =>
      rw [ho v τ' rfl]
      exact ⟨w, τ, h1, h2⟩
    | _ => exact absurd h1 (by intro e; cases e)
theorem c59 {σ0 σ : zM} {T : Int → Int} {sz : Int} {s : tk} {W : Int → Int} {k : Int32 → zM → Option zR} {K : Int → tk → rdZ} (h : gC σ T sz s W) (hW : WOK W) (hf : rdF σ0 σ) (hok : ∀ τ, 0 ≤ s.2.2.2 → s.2.2.2 ≤ W 0 - 1 → gC τ T sz (nxt T sz s) W → zN τ 2 7 = s.2.1 → rdF σ0 τ → mf (fun b => b = 2) σ τ → CR σ0 (k (Int32.ofInt s.2.2.2) τ) (K s.2.2.2 (nxt T sz s))) (hno : ∀ τ f, bdC τ f s.2.1 W → rdF σ0 τ → mf (fun b => b = 2) σ τ → CR σ0 (k (Int32.ofInt (-1)) τ) (er f s.2.1)) : CR σ0 (zbI (zcall 59 [.ref 2] σ) k) (nm T sz 0 (W 0 - 1) s K) := by
  have h5 := hW.2.2.1
  have h8 := hW.1.1.2.1
  have h80 := hW.1.1.1
  have e1 := h.2.2.2.2.2.1.2.1
  refine zbI_thru (o' := zcall 58 [.ref 2, .int (Int32.ofInt 0), .int (Int32.ofInt (W 0 - 1))] σ) (fun v τ e => ?_) (cn h (by omega) (by decide) (by decide) (by omega) (by omega) hf hok hno)
  refine zcc_59 (ze_59_0 _ _ ?_)
  rw [mm_r σ 3 1, e1, mm_sub, e, zbI_s]
theorem c60 {σ0 σ : zM} {T : Int → Int} {sz : Int} {s : tk} {W : Int → Int} {k : Int32 → zM → Option zR} {K : Int → tk → rdZ} (h : gC σ T sz s W) (hW : WOK W) (hf : rdF σ0 σ) (hok : ∀ τ, 0 ≤ s.2.2.2 → s.2.2.2 ≤ W 1 - 1 → gC τ T sz (nxt T sz s) W → zN τ 2 7 = s.2.1 → rdF σ0 τ → mf (fun b => b = 2) σ τ → CR σ0 (k (Int32.ofInt s.2.2.2) τ) (K s.2.2.2 (nxt T sz s))) (hno : ∀ τ f, bdC τ f s.2.1 W → rdF σ0 τ → mf (fun b => b = 2) σ τ → CR σ0 (k (Int32.ofInt (-1)) τ) (er f s.2.1)) : CR σ0 (zbI (zcall 60 [.ref 2] σ) k) (nm T sz 0 (W 1 - 1) s K) := by
  have h5 := hW.2.2.1
  have h9 := hW.1.2.2.1
  have h1 := hW.1.2.1
  have e2 := h.2.2.2.2.2.1.2.2.1
  refine zbI_thru (o' := zcall 58 [.ref 2, .int (Int32.ofInt 0), .int (Int32.ofInt (W 1 - 1))] σ) (fun v τ e => ?_) (cn h (by omega) (by decide) (by decide) (by omega) (by omega) hf hok hno)
  refine zcc_60 (ze_60_0 _ _ ?_)
  rw [mm_r σ 3 2, e2, mm_sub, e, zbI_s]
theorem c64 {σ0 σ : zM} {T : Int → Int} {sz n m : Int} {s : tk} {W : Int → Int} {k : zM → Option zR} {R : rdZ} (h : gC σ T sz s W) (h5 : W 5 ≤ 10) (n0 : 0 ≤ n) (n1 : n ≤ 100) (m0 : 0 ≤ m) (m1 : m ≤ 100) (hf : rdF σ0 σ) (hok : ∀ τ, n < m → gC τ T sz (nxt T sz s) W → rdF σ0 τ → CR σ0 (k τ) R) (hno : ∀ τ, bdC τ 3 s.2.1 W → rdF σ0 τ → CR σ0 (k τ) (er 3 s.2.1)) : CR σ0 (zbV (zcall 64 [.ref 2, .int (Int32.ofInt n), .int (Int32.ofInt m)] σ) k) (if m ≤ n then er 3 s.2.1 else R) := by
  have h3 := h.2.2.1.1
  have hs := h.1.1
  obtain ⟨o1, o2, o3, o4, o5⟩ := h.2.2.2.2.1
  have h41 := h.2.2.2.1.2.1
  by_cases q : m ≤ n
  · rw [if_pos q]
    have hbd := h.bad (f := 3) (p := s.2.1) h5 (by decide) (by decide) (by decide) (by omega) (by omega)
    refine zwp_V (fun τ => τ = zw (zw σ 2 8 3) 2 9 s.2.1) ?_ (fun τ g => by
      rw [g]
      exact hno _ hbd.1 (hf.tr hbd.2))
    refine zwp_of (fun r h => zcc_64 (ze_64_0 _ _ _ r h)) ?_
    refine zwp_f (by rw [mm_lt (by omega) (by omega) (by omega) (by omega)]; omega) ?_
    rw [mm_r σ 2 4, h41, sp_54 h3, zbV_s]
    exact zwp_ret ⟨rfl, rfl⟩
  · rw [if_neg q]
    refine zwp_V (fun τ => scF σ τ ∧ gC τ T sz (nxt T sz s) W) ?_ (fun τ g => hok τ (by omega) g.2 (hf.tr g.1.R))
    refine zwp_of (fun r h => zcc_64 (ze_64_0 _ _ _ r h)) ?_
    refine zwp_t (by rw [mm_lt (by omega) (by omega) (by omega) (by omega)]; omega) ?_
    refine zwp_V _ (h.scan h5) ?_
    rintro τ ⟨g1, g2⟩
    exact zwp_ret ⟨rfl, g1, g2⟩
/-- the line has been read well: the draft tells W' -/
theorem CR_ok {σ0 σ τ : zM} {T : Int → Int} {sz : Int} {s : tk} {W W' : Int → Int} (h : gC σ T sz s W) (hf : rdF σ0 τ) (h2 : ∀ k, zN τ 2 k = zN σ 2 k) (hL : cL τ 3 W') : CR σ0 (some (none, τ)) (okR s W') := zwp_ret ⟨rfl, hf, fun p => absurd rfl p, fun _ => ⟨⟨(h2 8).trans h.2.2.1.1, (h2 9).trans h.2.2.1.2⟩, ⟨(h2 3).trans h.2.2.2.1.1, (h2 4).trans h.2.2.2.1.2.1, (h2 5).trans h.2.2.2.1.2.2.1, fun p => (h2 6).trans (h.2.2.2.1.2.2.2 p)⟩, hL⟩⟩
theorem gC.nz {σ : zM} {T : Int → Int} {sz : Int} {s : tk} {W : Int → Int} (h : gC σ T sz s W) : ¬ (¬ (zI σ 2 8 = 0)) := fun p => p (by rw [mm_r, h.2.2.1.1]; rfl)
theorem cl_72 {σ : zM} {T : Int → Int} {sz : Int} {s : tk} {W : Int → Int} (h : gC σ T sz s W) (hW : WOK W) : CR σ (zcall 72 [.ref 2] σ) (rSeal T sz s W) := by
  have h5 := hW.2.2.1
  have h20 := hW.1.1.2.2.1
  have h2 := hW.1.1.2.2.2.1
  unfold rSeal
  refine zwp_of (fun r h => zcc_72 (ze_72_0 _ r h)) ?_
  refine cw h (by omega) (by decide) rdF.rf (fun τ1 g1 f1 _ => ?_) (fun τ hb hf => by (simp only [bd_54 hb.n, bd_56 hb.n, bd_57 hb.n, bd_58 hb.n, bd_59 hb.n, bd_60 hb.n, bd_61 hb.n, bd_80 hb h20 h2, zbV_s, zbI_s, bd_z hb.n, not_false_eq_true, if_true, if_false]; (repeat' split); (all_goals exact CR_bad hf hb)))
  refine cn g1 (by omega) (by decide) (by decide) (by decide) (by decide) f1 (fun τ2 l1 l2 g2 _ f2 _ => ?_) (fun τ f hb hf _ => by (simp only [bd_54 hb.n, bd_56 hb.n, bd_57 hb.n, bd_58 hb.n, bd_59 hb.n, bd_60 hb.n, bd_61 hb.n, bd_80 hb h20 h2, zbV_s, zbI_s, bd_z hb.n, not_false_eq_true, if_true, if_false]; (repeat' split); (all_goals exact CR_bad hf hb)))
  refine zwp_f g2.nz ?_
  generalize (nxt T sz s).2.2.2 = v at l1 l2 ⊢
  refine zwp_letE (τ' := zw τ2 3 3 v) (by simp (disch := first | assumption | exact isR33 | exact isT104 | exact isF99 | exact isF101 | exact isR3 | omega | (refine isTk ?_; omega) | (refine isOk isR33 ?_; omega) | (refine isOk ?_ ?_; assumption; omega)) only [mm_r, mm_rl, mm_add, mm_sub, mm_mul, mm_addJ, mm_mulJ, mm_lt, mm_le, mm_eq, mm_z, mm_cl, mm_w, mm_wl, mm_ite, mm_i2l, mm_l2i, mm_ltJ, mm_leJ, mm_eqJ, mm_clt, mm_cle, mm_cgt, mm_cge, mm_ceq, mm_b, mm_nb, mm_nb0, mm_nb1, mm_vb0, mm_vb1, mm_vbc, mm_vy0, mm_vy1, mm_at, mm_ne, mm_nj, mm_Lw, mm_Nw, mm_atJ, mm_neJ, mm_njJ, zbI_s, zbV_s, zbJ_s, cond_t, Bool.true_and, Bool.and_true, if_true, if_false, not_true, not_false_iff, Classical.not_not, zel_r, zel_42, zel_12, zel_71, zel_80, zel_89, zel_110, zel_188, zel_103, zel_195, zr_o, zr_1, zr_2, zr_3, zr_4, zr_5, zr_6, zr_7, zr_8, zr_9, zq_o, zq_v, zt_o, zt_1, zt_2, zt_3, zt_4, zt_5, zf_o, zf_1, za_w1, za_w2, za_w3, za_cm, za_sl, Int.toNat_natCast, Int.toNat_natCast_add_one, mm_t0, mm_t1, mm_t2, mm_t3, mm_t4, mm_t5, mm_t6, mm_t7, mm_t8, mm_t9, mm_t10, mm_t11, mm_t12, mm_t13, za_1, za_64, za_65, za_66, za_67, za_68, za_71, za_80, za_89, za_98, za_103, za_110, za_121, za_122, za_123, za_124, za_125, za_126, za_188, za_193, za_194, za_195, za_286, za_288, za_289, za_290, za_291, za_292, za_293, za_294, za_295, za_296, za_297, za_298, za_299, za_300, za_301, za_302, za_303, za_304, za_305, za_306, za_307, za_308, za_309, za_310, za_311, za_312]) ?_
  refine CR_ok g2 (f2.tr ⟨(mf.rf (S := fun b => b = 2 ∨ 3 ≤ b ∧ b < 33)).zw 3 _ _ (.inr (by decide)), mm_ne (by decide)⟩) (fun k => mm_ne (by decide)) ?_
  obtain ⟨⟨l0, l1', l2', l3, l4, l5, l6, l7⟩, lr, lf, lp, lo⟩ := g2.2.2.2.2.2
  have e : ∀ i, i ≠ 7 → wU W 7 v i = W i := fun i q1 => by rw [wU_i (by decide), if_neg q1]
  have n3 : ∀ b k, b ≠ 3 → zN (zw τ2 3 3 v) b k = zN τ2 b k := fun b k hb => mm_ne hb
  have m3 : ∀ k, k ≠ 3 → zN (zw τ2 3 3 v) 3 k = zN τ2 3 k := fun k hb => mm_nj hb
  refine ⟨⟨?_, ?_, ?_, ?_, ?_, ?_, ?_, ?_⟩, fun r r0 r1 => ?_, fun f f0 f1 => ?_, fun i i0 i1 => ?_, fun o o0 o1 => ?_⟩
  · rw [m3 0 (by decide), e 6 (by decide)]; exact l0
  · rw [m3 1 (by decide), e 0 (by decide)]; exact l1'
  · rw [m3 2 (by decide), e 1 (by decide)]; exact l2'
  · rw [mm_at rfl rfl (by omega) (by omega), wU_i (by decide), if_pos rfl]
  · rw [m3 4 (by decide), e 2 (by decide)]; exact l4
  · rw [m3 5 (by decide), e 3 (by decide)]; exact l5
  · rw [m3 6 (by decide), e 4 (by decide)]; exact l6
  · rw [m3 7 (by decide), e 5 (by decide)]; exact l7
  · rw [e 2 (by decide)] at r1
    rw [n3 _ _ (by omega), n3 _ _ (by omega), n3 _ _ (by omega), e (8 + 3 * r) (by omega), e (8 + 3 * r + 1) (by omega), e (8 + 3 * r + 2) (by omega)]
    exact lr r r0 r1
  · rw [e 3 (by decide)] at f1
    rw [n3 _ _ (by omega), n3 _ _ (by omega), n3 _ _ (by omega), e (44 + 3 * f) (by omega), e (44 + 3 * f + 1) (by omega), e (44 + 3 * f + 2) (by omega)]
    exact lf f f0 f1
  · rw [e 4 (by decide)] at i1
    rw [n3 _ _ (by omega), n3 _ _ (by omega), e (68 + 2 * i) (by omega), e (68 + 2 * i + 1) (by omega)]
    exact lp i i0 i1
  · rw [e 5 (by decide)] at o1
    exact (cO_c (W := W) (W' := wU W 7 v) (fun k k0 k1 => e _ (by omega)) (hW.2.2.2.2 o o0 o1).1.2.2.2.2.2.1 (lo o o0 o1)).fr (fun k => n3 _ _ (by omega)) (fun k => n3 _ _ (by omega))
theorem cl_63 {σ : zM} {T : Int → Int} {sz : Int} {s : tk} {W : Int → Int} (h : gC σ T sz s W) (hW : WOK W) (hz : ∀ i, W i = 0) : CR σ (zcall 63 [.ref 2] σ) (rRealm T sz s W) := by
  have h5 := hW.2.2.1
  have h20 := hW.1.1.2.2.1
  have h2 := hW.1.1.2.2.2.1
  unfold rRealm
  refine zwp_of (fun r h => zcc_63 (ze_63_0 _ r h)) ?_
  refine cw h (by omega) (by decide) rdF.rf (fun τ1 g1 f1 _ => ?_) (fun τ hb hf => by (simp only [bd_54 hb.n, bd_56 hb.n, bd_57 hb.n, bd_58 hb.n, bd_59 hb.n, bd_60 hb.n, bd_61 hb.n, bd_80 hb h20 h2, zbV_s, zbI_s, bd_z hb.n, not_false_eq_true, if_true, if_false]; (repeat' split); (all_goals exact CR_bad hf hb)))
  refine cw g1 (by omega) (by decide) f1 (fun τ2 g2 f2 _ => ?_) (fun τ hb hf => by (simp only [bd_54 hb.n, bd_56 hb.n, bd_57 hb.n, bd_58 hb.n, bd_59 hb.n, bd_60 hb.n, bd_61 hb.n, bd_80 hb h20 h2, zbV_s, zbI_s, bd_z hb.n, not_false_eq_true, if_true, if_false]; (repeat' split); (all_goals exact CR_bad hf hb)))
  refine cn g2 (by omega) (by decide) (by decide) (by decide) (by decide) f2 (fun τ3 a0 a1 g3 _ f3 _ => ?_) (fun τ f hb hf _ => by (simp only [bd_54 hb.n, bd_56 hb.n, bd_57 hb.n, bd_58 hb.n, bd_59 hb.n, bd_60 hb.n, bd_61 hb.n, bd_80 hb h20 h2, zbV_s, zbI_s, bd_z hb.n, not_false_eq_true, if_true, if_false]; (repeat' split); (all_goals exact CR_bad hf hb)))
  refine cw g3 (by omega) (by decide) f3 (fun τ4 g4 f4 _ => ?_) (fun τ hb hf => by (simp only [bd_54 hb.n, bd_56 hb.n, bd_57 hb.n, bd_58 hb.n, bd_59 hb.n, bd_60 hb.n, bd_61 hb.n, bd_80 hb h20 h2, zbV_s, zbI_s, bd_z hb.n, not_false_eq_true, if_true, if_false]; (repeat' split); (all_goals exact CR_bad hf hb)))
  refine cn g4 (by omega) (by decide) (by decide) (by decide) (by decide) f4 (fun τ5 b0 b1 g5 _ f5 _ => ?_) (fun τ f hb hf _ => by (simp only [bd_54 hb.n, bd_56 hb.n, bd_57 hb.n, bd_58 hb.n, bd_59 hb.n, bd_60 hb.n, bd_61 hb.n, bd_80 hb h20 h2, zbV_s, zbI_s, bd_z hb.n, not_false_eq_true, if_true, if_false]; (repeat' split); (all_goals exact CR_bad hf hb)))
  refine zwp_f g5.nz ?_
  generalize (nxt T sz (nxt T sz s)).2.2.2 = a at a0 a1 ⊢
  generalize (nxt T sz (nxt T sz (nxt T sz (nxt T sz s)))).2.2.2 = b at b0 b1 ⊢
  refine zwp_letE (τ' := zw τ5 3 1 a) (by simp (disch := first | assumption | exact isR33 | exact isT104 | exact isF99 | exact isF101 | exact isR3 | omega | (refine isTk ?_; omega) | (refine isOk isR33 ?_; omega) | (refine isOk ?_ ?_; assumption; omega)) only [mm_r, mm_rl, mm_add, mm_sub, mm_mul, mm_addJ, mm_mulJ, mm_lt, mm_le, mm_eq, mm_z, mm_cl, mm_w, mm_wl, mm_ite, mm_i2l, mm_l2i, mm_ltJ, mm_leJ, mm_eqJ, mm_clt, mm_cle, mm_cgt, mm_cge, mm_ceq, mm_b, mm_nb, mm_nb0, mm_nb1, mm_vb0, mm_vb1, mm_vbc, mm_vy0, mm_vy1, mm_at, mm_ne, mm_nj, mm_Lw, mm_Nw, mm_atJ, mm_neJ, mm_njJ, zbI_s, zbV_s, zbJ_s, cond_t, Bool.true_and, Bool.and_true, if_true, if_false, not_true, not_false_iff, Classical.not_not, zel_r, zel_42, zel_12, zel_71, zel_80, zel_89, zel_110, zel_188, zel_103, zel_195, zr_o, zr_1, zr_2, zr_3, zr_4, zr_5, zr_6, zr_7, zr_8, zr_9, zq_o, zq_v, zt_o, zt_1, zt_2, zt_3, zt_4, zt_5, zf_o, zf_1, za_w1, za_w2, za_w3, za_cm, za_sl, Int.toNat_natCast, Int.toNat_natCast_add_one, mm_t0, mm_t1, mm_t2, mm_t3, mm_t4, mm_t5, mm_t6, mm_t7, mm_t8, mm_t9, mm_t10, mm_t11, mm_t12, mm_t13, za_1, za_64, za_65, za_66, za_67, za_68, za_71, za_80, za_89, za_98, za_103, za_110, za_121, za_122, za_123, za_124, za_125, za_126, za_188, za_193, za_194, za_195, za_286, za_288, za_289, za_290, za_291, za_292, za_293, za_294, za_295, za_296, za_297, za_298, za_299, za_300, za_301, za_302, za_303, za_304, za_305, za_306, za_307, za_308, za_309, za_310, za_311, za_312]) ?_
  refine zwp_letE (τ' := zw (zw τ5 3 1 a) 3 2 b) (by simp (disch := first | assumption | exact isR33 | exact isT104 | exact isF99 | exact isF101 | exact isR3 | omega | (refine isTk ?_; omega) | (refine isOk isR33 ?_; omega) | (refine isOk ?_ ?_; assumption; omega)) only [mm_r, mm_rl, mm_add, mm_sub, mm_mul, mm_addJ, mm_mulJ, mm_lt, mm_le, mm_eq, mm_z, mm_cl, mm_w, mm_wl, mm_ite, mm_i2l, mm_l2i, mm_ltJ, mm_leJ, mm_eqJ, mm_clt, mm_cle, mm_cgt, mm_cge, mm_ceq, mm_b, mm_nb, mm_nb0, mm_nb1, mm_vb0, mm_vb1, mm_vbc, mm_vy0, mm_vy1, mm_at, mm_ne, mm_nj, mm_Lw, mm_Nw, mm_atJ, mm_neJ, mm_njJ, zbI_s, zbV_s, zbJ_s, cond_t, Bool.true_and, Bool.and_true, if_true, if_false, not_true, not_false_iff, Classical.not_not, zel_r, zel_42, zel_12, zel_71, zel_80, zel_89, zel_110, zel_188, zel_103, zel_195, zr_o, zr_1, zr_2, zr_3, zr_4, zr_5, zr_6, zr_7, zr_8, zr_9, zq_o, zq_v, zt_o, zt_1, zt_2, zt_3, zt_4, zt_5, zf_o, zf_1, za_w1, za_w2, za_w3, za_cm, za_sl, Int.toNat_natCast, Int.toNat_natCast_add_one, mm_t0, mm_t1, mm_t2, mm_t3, mm_t4, mm_t5, mm_t6, mm_t7, mm_t8, mm_t9, mm_t10, mm_t11, mm_t12, mm_t13, za_1, za_64, za_65, za_66, za_67, za_68, za_71, za_80, za_89, za_98, za_103, za_110, za_121, za_122, za_123, za_124, za_125, za_126, za_188, za_193, za_194, za_195, za_286, za_288, za_289, za_290, za_291, za_292, za_293, za_294, za_295, za_296, za_297, za_298, za_299, za_300, za_301, za_302, za_303, za_304, za_305, za_306, za_307, za_308, za_309, za_310, za_311, za_312]) ?_
  refine zwp_letE (τ' := zw (zw (zw τ5 3 1 a) 3 2 b) 3 3 99) (by simp (disch := first | assumption | exact isR33 | exact isT104 | exact isF99 | exact isF101 | exact isR3 | omega | (refine isTk ?_; omega) | (refine isOk isR33 ?_; omega) | (refine isOk ?_ ?_; assumption; omega)) only [mm_r, mm_rl, mm_add, mm_sub, mm_mul, mm_addJ, mm_mulJ, mm_lt, mm_le, mm_eq, mm_z, mm_cl, mm_w, mm_wl, mm_ite, mm_i2l, mm_l2i, mm_ltJ, mm_leJ, mm_eqJ, mm_clt, mm_cle, mm_cgt, mm_cge, mm_ceq, mm_b, mm_nb, mm_nb0, mm_nb1, mm_vb0, mm_vb1, mm_vbc, mm_vy0, mm_vy1, mm_at, mm_ne, mm_nj, mm_Lw, mm_Nw, mm_atJ, mm_neJ, mm_njJ, zbI_s, zbV_s, zbJ_s, cond_t, Bool.true_and, Bool.and_true, if_true, if_false, not_true, not_false_iff, Classical.not_not, zel_r, zel_42, zel_12, zel_71, zel_80, zel_89, zel_110, zel_188, zel_103, zel_195, zr_o, zr_1, zr_2, zr_3, zr_4, zr_5, zr_6, zr_7, zr_8, zr_9, zq_o, zq_v, zt_o, zt_1, zt_2, zt_3, zt_4, zt_5, zf_o, zf_1, za_w1, za_w2, za_w3, za_cm, za_sl, Int.toNat_natCast, Int.toNat_natCast_add_one, mm_t0, mm_t1, mm_t2, mm_t3, mm_t4, mm_t5, mm_t6, mm_t7, mm_t8, mm_t9, mm_t10, mm_t11, mm_t12, mm_t13, za_1, za_64, za_65, za_66, za_67, za_68, za_71, za_80, za_89, za_98, za_103, za_110, za_121, za_122, za_123, za_124, za_125, za_126, za_188, za_193, za_194, za_195, za_286, za_288, za_289, za_290, za_291, za_292, za_293, za_294, za_295, za_296, za_297, za_298, za_299, za_300, za_301, za_302, za_303, za_304, za_305, za_306, za_307, za_308, za_309, za_310, za_311, za_312]) ?_
  have fS : mf (fun b => b = 3) τ5 (zw (zw (zw τ5 3 1 a) 3 2 b) 3 3 99) := (((mf.rf (S := fun b => b = 3)).zw 3 _ _ rfl).zw 3 _ _ rfl).zw 3 _ _ rfl
  refine CR_ok g5 (f5.tr ⟨fS.mono (by omega), fS.1 2 (by decide) 2⟩) (fun k => fS.1 2 (by decide) k) ?_
  obtain ⟨⟨l0, l1', l2', l3, l4, l5, l6, l7⟩, lr, lf, lp, lo⟩ := g5.2.2.2.2.2
  have e : ∀ i, 2 ≤ i → i ≠ 7 → uHd W a b i = W i := fun i q1 q2 => by rw [uHd_i, if_neg q2, if_neg (by omega), if_neg (by omega)]
  have m3 : ∀ k, k = 0 ∨ 4 ≤ k → zN (zw (zw (zw τ5 3 1 a) 3 2 b) 3 3 99) 3 k = zN τ5 3 k := fun k hb => by rw [mm_nj (by omega), mm_nj (by omega), mm_nj (by omega)]
  refine ⟨⟨?_, ?_, ?_, ?_, ?_, ?_, ?_, ?_⟩, fun r r0 r1 => ?_, fun f f0 f1 => ?_, fun i i0 i1 => ?_, fun o o0 o1 => ?_⟩
  · rw [m3 0 (by decide), e 6 (by decide) (by decide)]; exact l0
  · rw [mm_nj (by decide), mm_nj (by decide), mm_at rfl rfl (by omega) (by omega), uHd_i, if_neg (by decide), if_neg (by decide), if_pos (by decide)]
  · rw [mm_nj (by decide), mm_at rfl rfl (by omega) (by omega), uHd_i, if_neg (by decide), if_pos rfl]
  · rw [mm_at rfl rfl (by omega) (by omega), uHd_i, if_pos rfl]
  · rw [m3 4 (by decide), e 2 (by decide) (by decide)]; exact l4
  · rw [m3 5 (by decide), e 3 (by decide) (by decide)]; exact l5
  · rw [m3 6 (by decide), e 4 (by decide) (by decide)]; exact l6
  · rw [m3 7 (by decide), e 5 (by decide) (by decide)]; exact l7
  · rw [e 2 (by decide) (by decide), hz] at r1
    omega
  · rw [e 3 (by decide) (by decide), hz] at f1
    omega
  · rw [e 4 (by decide) (by decide), hz] at i1
    omega
  · rw [e 5 (by decide) (by decide), hz] at o1
    omega
theorem cl_67 {σ : zM} {T : Int → Int} {sz : Int} {s : tk} {W : Int → Int} (h : gC σ T sz s W) (hW : WOK W) : CR σ (zcall 67 [.ref 2] σ) (rRider T sz s W) := by
  have h5 := hW.2.2.1
  have h20 := hW.1.1.2.2.1
  have h2 := hW.1.1.2.2.2.1
  have e6 := h.2.2.2.2.2.1.2.2.2.2.2.2.1
  unfold rRider
  refine zwp_of (fun r h => zcc_67 (ze_67_0 _ r h)) ?_
  rw [mm_r σ 3 6, e6]
  refine c64 (n := W 4) (m := 6) h (by omega) (by omega) (by omega) (by decide) (by decide) rdF.rf (fun τ1 n1 g1 f1 => ?_) (fun τ hb hf => by (simp only [bd_54 hb.n, bd_56 hb.n, bd_57 hb.n, bd_58 hb.n, bd_59 hb.n, bd_60 hb.n, bd_61 hb.n, bd_80 hb h20 h2, zbV_s, zbI_s, bd_z hb.n, not_false_eq_true, if_true, if_false]; (repeat' split); (all_goals exact CR_bad hf hb)))
  refine cw g1 (by omega) (by decide) f1 (fun τ2 g2 f2 _ => ?_) (fun τ hb hf => by (simp only [bd_54 hb.n, bd_56 hb.n, bd_57 hb.n, bd_58 hb.n, bd_59 hb.n, bd_60 hb.n, bd_61 hb.n, bd_80 hb h20 h2, zbV_s, zbI_s, bd_z hb.n, not_false_eq_true, if_true, if_false]; (repeat' split); (all_goals exact CR_bad hf hb)))
  refine cn g2 (by omega) (by decide) (by decide) (by decide) (by decide) f2 (fun τ3 a0 a1 g3 _ f3 _ => ?_) (fun τ f hb hf _ => by (simp only [bd_54 hb.n, bd_56 hb.n, bd_57 hb.n, bd_58 hb.n, bd_59 hb.n, bd_60 hb.n, bd_61 hb.n, bd_80 hb h20 h2, zbV_s, zbI_s, bd_z hb.n, not_false_eq_true, if_true, if_false]; (repeat' split); (all_goals exact CR_bad hf hb)))
  refine cw g3 (by omega) (by decide) f3 (fun τ4 g4 f4 _ => ?_) (fun τ hb hf => by (simp only [bd_54 hb.n, bd_56 hb.n, bd_57 hb.n, bd_58 hb.n, bd_59 hb.n, bd_60 hb.n, bd_61 hb.n, bd_80 hb h20 h2, zbV_s, zbI_s, bd_z hb.n, not_false_eq_true, if_true, if_false]; (repeat' split); (all_goals exact CR_bad hf hb)))
  refine cn g4 (by omega) (by decide) (by decide) (by decide) (by decide) f4 (fun τ5 b0 b1 g5 _ f5 _ => ?_) (fun τ f hb hf _ => by (simp only [bd_54 hb.n, bd_56 hb.n, bd_57 hb.n, bd_58 hb.n, bd_59 hb.n, bd_60 hb.n, bd_61 hb.n, bd_80 hb h20 h2, zbV_s, zbI_s, bd_z hb.n, not_false_eq_true, if_true, if_false]; (repeat' split); (all_goals exact CR_bad hf hb)))
  refine zwp_f g5.nz ?_
  generalize (nxt T sz (nxt T sz s)).2.2.2 = a at a0 a1 ⊢
  generalize (nxt T sz (nxt T sz (nxt T sz (nxt T sz s)))).2.2.2 = b at b0 b1 ⊢
  have k6 := g5.2.2.2.2.2.1.2.2.2.2.2.2.1
  have k61 : ∀ x, zN (zw τ5 10 (W 4).toNat x) 3 6 = W 4 := fun x => (mm_ne (by decide)).trans k6
  have k62 : ∀ x y, zN (zw (zw τ5 10 (W 4).toNat x) 11 (W 4).toNat y) 3 6 = W 4 := fun x y => (mm_ne (by decide)).trans (k61 x)
  rw [mm_r τ5 3 6, k6]
  refine zwp_cd (zr_7 isR3 (by omega) (by omega)) ?_
  refine zwp_letE (τ' := zw τ5 10 (W 4).toNat a) (by simp (disch := first | assumption | exact isR33 | exact isT104 | exact isF99 | exact isF101 | exact isR3 | omega | (refine isTk ?_; omega) | (refine isOk isR33 ?_; omega) | (refine isOk ?_ ?_; assumption; omega)) only [mm_r, mm_rl, mm_add, mm_sub, mm_mul, mm_addJ, mm_mulJ, mm_lt, mm_le, mm_eq, mm_z, mm_cl, mm_w, mm_wl, mm_ite, mm_i2l, mm_l2i, mm_ltJ, mm_leJ, mm_eqJ, mm_clt, mm_cle, mm_cgt, mm_cge, mm_ceq, mm_b, mm_nb, mm_nb0, mm_nb1, mm_vb0, mm_vb1, mm_vbc, mm_vy0, mm_vy1, mm_at, mm_ne, mm_nj, mm_Lw, mm_Nw, mm_atJ, mm_neJ, mm_njJ, zbI_s, zbV_s, zbJ_s, cond_t, Bool.true_and, Bool.and_true, if_true, if_false, not_true, not_false_iff, Classical.not_not, zel_r, zel_42, zel_12, zel_71, zel_80, zel_89, zel_110, zel_188, zel_103, zel_195, zr_o, zr_1, zr_2, zr_3, zr_4, zr_5, zr_6, zr_7, zr_8, zr_9, zq_o, zq_v, zt_o, zt_1, zt_2, zt_3, zt_4, zt_5, zf_o, zf_1, za_w1, za_w2, za_w3, za_cm, za_sl, Int.toNat_natCast, Int.toNat_natCast_add_one, mm_t0, mm_t1, mm_t2, mm_t3, mm_t4, mm_t5, mm_t6, mm_t7, mm_t8, mm_t9, mm_t10, mm_t11, mm_t12, mm_t13, za_1, za_64, za_65, za_66, za_67, za_68, za_71, za_80, za_89, za_98, za_103, za_110, za_121, za_122, za_123, za_124, za_125, za_126, za_188, za_193, za_194, za_195, za_286, za_288, za_289, za_290, za_291, za_292, za_293, za_294, za_295, za_296, za_297, za_298, za_299, za_300, za_301, za_302, za_303, za_304, za_305, za_306, za_307, za_308, za_309, za_310, za_311, za_312]) ?_
  rw [mm_r (zw τ5 10 (W 4).toNat a) 3 6, k61]
  refine zwp_cd (zr_8 isR3 (by omega) (by omega)) ?_
  refine zwp_letE (τ' := zw (zw τ5 10 (W 4).toNat a) 11 (W 4).toNat b) (by simp (disch := first | assumption | exact isR33 | exact isT104 | exact isF99 | exact isF101 | exact isR3 | omega | (refine isTk ?_; omega) | (refine isOk isR33 ?_; omega) | (refine isOk ?_ ?_; assumption; omega)) only [mm_r, mm_rl, mm_add, mm_sub, mm_mul, mm_addJ, mm_mulJ, mm_lt, mm_le, mm_eq, mm_z, mm_cl, mm_w, mm_wl, mm_ite, mm_i2l, mm_l2i, mm_ltJ, mm_leJ, mm_eqJ, mm_clt, mm_cle, mm_cgt, mm_cge, mm_ceq, mm_b, mm_nb, mm_nb0, mm_nb1, mm_vb0, mm_vb1, mm_vbc, mm_vy0, mm_vy1, mm_at, mm_ne, mm_nj, mm_Lw, mm_Nw, mm_atJ, mm_neJ, mm_njJ, zbI_s, zbV_s, zbJ_s, cond_t, Bool.true_and, Bool.and_true, if_true, if_false, not_true, not_false_iff, Classical.not_not, zel_r, zel_42, zel_12, zel_71, zel_80, zel_89, zel_110, zel_188, zel_103, zel_195, zr_o, zr_1, zr_2, zr_3, zr_4, zr_5, zr_6, zr_7, zr_8, zr_9, zq_o, zq_v, zt_o, zt_1, zt_2, zt_3, zt_4, zt_5, zf_o, zf_1, za_w1, za_w2, za_w3, za_cm, za_sl, Int.toNat_natCast, Int.toNat_natCast_add_one, mm_t0, mm_t1, mm_t2, mm_t3, mm_t4, mm_t5, mm_t6, mm_t7, mm_t8, mm_t9, mm_t10, mm_t11, mm_t12, mm_t13, za_1, za_64, za_65, za_66, za_67, za_68, za_71, za_80, za_89, za_98, za_103, za_110, za_121, za_122, za_123, za_124, za_125, za_126, za_188, za_193, za_194, za_195, za_286, za_288, za_289, za_290, za_291, za_292, za_293, za_294, za_295, za_296, za_297, za_298, za_299, za_300, za_301, za_302, za_303, za_304, za_305, za_306, za_307, za_308, za_309, za_310, za_311, za_312]) ?_
  refine zwp_letE (τ' := zw (zw (zw τ5 10 (W 4).toNat a) 11 (W 4).toNat b) 3 6 (W 4 + 1)) (by simp (disch := first | assumption | exact isR33 | exact isT104 | exact isF99 | exact isF101 | exact isR3 | omega | (refine isTk ?_; omega) | (refine isOk isR33 ?_; omega) | (refine isOk ?_ ?_; assumption; omega)) only [mm_r, mm_rl, mm_add, mm_sub, mm_mul, mm_addJ, mm_mulJ, mm_lt, mm_le, mm_eq, mm_z, mm_cl, mm_w, mm_wl, mm_ite, mm_i2l, mm_l2i, mm_ltJ, mm_leJ, mm_eqJ, mm_clt, mm_cle, mm_cgt, mm_cge, mm_ceq, mm_b, mm_nb, mm_nb0, mm_nb1, mm_vb0, mm_vb1, mm_vbc, mm_vy0, mm_vy1, mm_at, mm_ne, mm_nj, mm_Lw, mm_Nw, mm_atJ, mm_neJ, mm_njJ, zbI_s, zbV_s, zbJ_s, cond_t, Bool.true_and, Bool.and_true, if_true, if_false, not_true, not_false_iff, Classical.not_not, zel_r, zel_42, zel_12, zel_71, zel_80, zel_89, zel_110, zel_188, zel_103, zel_195, zr_o, zr_1, zr_2, zr_3, zr_4, zr_5, zr_6, zr_7, zr_8, zr_9, zq_o, zq_v, zt_o, zt_1, zt_2, zt_3, zt_4, zt_5, zf_o, zf_1, za_w1, za_w2, za_w3, za_cm, za_sl, Int.toNat_natCast, Int.toNat_natCast_add_one, mm_t0, mm_t1, mm_t2, mm_t3, mm_t4, mm_t5, mm_t6, mm_t7, mm_t8, mm_t9, mm_t10, mm_t11, mm_t12, mm_t13, za_1, za_64, za_65, za_66, za_67, za_68, za_71, za_80, za_89, za_98, za_103, za_110, za_121, za_122, za_123, za_124, za_125, za_126, za_188, za_193, za_194, za_195, za_286, za_288, za_289, za_290, za_291, za_292, za_293, za_294, za_295, za_296, za_297, za_298, za_299, za_300, za_301, za_302, za_303, za_304, za_305, za_306, za_307, za_308, za_309, za_310, za_311, za_312, k62]) ?_
  have fS : mf (fun b => b = 3 ∨ b = 10 ∨ b = 11) τ5 (zw (zw (zw τ5 10 (W 4).toNat a) 11 (W 4).toNat b) 3 6 (W 4 + 1)) := (((mf.rf (S := fun b => b = 3 ∨ b = 10 ∨ b = 11)).zw 10 _ _ (.inr (.inl rfl))).zw 11 _ _ (.inr (.inr rfl))).zw 3 _ _ (.inl rfl)
  refine CR_ok g5 (f5.tr ⟨fS.mono (by omega), fS.1 2 (by decide) 2⟩) (fun k => fS.1 2 (by decide) k) ?_
  obtain ⟨⟨l0, l1', l2', l3, l4, l5, l6, l7⟩, lr, lf, lp, lo⟩ := g5.2.2.2.2.2
  have hi := uRi_i (W := W) (p := a) (r := b) (by omega)
  have e : ∀ i, i ≠ 4 → (i < 68 + 2 * W 4 ∨ 68 + 2 * W 4 + 1 < i) → uRi W a b i = W i := fun i q1 q2 => by rw [hi, if_neg q1, if_neg (by omega), if_neg (by omega)]
  have e4 : uRi W a b 4 = W 4 + 1 := by rw [hi, if_pos rfl]
  have m3 : ∀ k, k ≠ 6 → zN (zw (zw (zw τ5 10 (W 4).toNat a) 11 (W 4).toNat b) 3 6 (W 4 + 1)) 3 k = zN τ5 3 k := fun k hb => by rw [mm_nj hb, mm_ne (by decide), mm_ne (by decide)]
  refine ⟨⟨?_, ?_, ?_, ?_, ?_, ?_, ?_, ?_⟩, fun r r0 r1 => ?_, fun f f0 f1 => ?_, fun i i0 i1 => ?_, fun o o0 o1 => ?_⟩
  · rw [m3 0 (by decide), e 6 (by decide) (by omega)]; exact l0
  · rw [m3 1 (by decide), e 0 (by decide) (by omega)]; exact l1'
  · rw [m3 2 (by decide), e 1 (by decide) (by omega)]; exact l2'
  · rw [m3 3 (by decide), e 7 (by decide) (by omega)]; exact l3
  · rw [m3 4 (by decide), e 2 (by decide) (by omega)]; exact l4
  · rw [m3 5 (by decide), e 3 (by decide) (by omega)]; exact l5
  · rw [mm_at rfl rfl (by omega) (by omega), e4]
  · rw [m3 7 (by decide), e 5 (by decide) (by omega)]; exact l7
  · rw [e 2 (by decide) (by omega)] at r1
    rw [fS.1 _ (by omega), fS.1 _ (by omega), fS.1 _ (by omega), e (8 + 3 * r) (by omega) (by omega), e (8 + 3 * r + 1) (by omega) (by omega), e (8 + 3 * r + 2) (by omega) (by omega)]
    exact lr r r0 r1
  · rw [e 3 (by decide) (by omega)] at f1
    have := hW.1.2.2.2.2
    rw [fS.1 _ (by omega), fS.1 _ (by omega), fS.1 _ (by omega), e (44 + 3 * f) (by omega) (by omega), e (44 + 3 * f + 1) (by omega) (by omega), e (44 + 3 * f + 2) (by omega) (by omega)]
    exact lf f f0 f1
  · rw [e4] at i1
    by_cases z : i = W 4
    · subst z
      refine ⟨?_, ?_⟩
      · rw [mm_ne (by decide), mm_ne (by decide), mm_at rfl rfl (by omega) (by omega), hi, if_neg (by omega), if_pos rfl]
      · rw [mm_ne (by decide), mm_at rfl rfl (by omega) (by omega), hi, if_neg (by omega), if_neg (by omega), if_pos rfl]
    · have := lp i i0 (by omega)
      rw [e (68 + 2 * i) (by omega) (by omega), e (68 + 2 * i + 1) (by omega) (by omega)]
      refine ⟨?_, ?_⟩
      · rw [mm_ne (by decide), mm_ne (by decide), mm_nj (by omega)]
        exact this.1
      · rw [mm_ne (by decide), mm_nj (by omega), mm_ne (by decide)]
        exact this.2
  · rw [e 5 (by decide) (by omega)] at o1
    exact (cO_c (W := W) (W' := uRi W a b) (fun k k0 k1 => e _ (by omega) (by omega)) (hW.2.2.2.2 o o0 o1).1.2.2.2.2.2.1 (lo o o0 o1)).fr (fun k => fS.1 _ (by omega) k) (fun k => fS.1 _ (by omega) k)
