/-! THE LAW: what holds at each turn -/
theorem byA_r8 {x : Int32} {j : Int} : -128 ≤ byA x j ∧ byA x j < 128 := by
  have h : ∀ y : Int8, vp_nar .byte y.toInt32 = y.toInt32 := fun y => by
    have e : vp_nar .byte y.toInt32 = y.toInt32.toInt8.toInt32 := rfl
    rw [e, Int8.toInt8_toInt32]
  unfold byA
  rw [h, Int8.toInt_toInt32]
  have a := Int8.le_toInt ((x >>> (Int32.ofInt (24 - 8 * j) &&& 31)).toInt8)
  have b := Int8.toInt_lt ((x >>> (Int32.ofInt (24 - 8 * j) &&& 31)).toInt8)
  omega
def imI (σ : zM) : Prop := ∀ k, isIm k → zN σ 290 k.toNat = zN σ 286 k.toNat ∧ (zN σ 286 k.toNat ≠ 0 → WOK (imA σ k) ∧ cL σ (196 + 30 * k.toNat) (imA σ k))
def tpI (σ : zM) (n : Int) : Prop := (0 ≤ n ∧ n ≤ 2000) ∧ (zN σ 0 1 = n ∧ zN σ 287 5 = n) ∧ ∀ i : Nat, (i : Int) < n → zN σ 1 i = zN σ 291 i ∧ -128 ≤ zN σ 1 i ∧ zN σ 1 i < 128
def ftI (σ : zM) : Prop := zN σ 2 8 = zN σ 287 12 ∧ zN σ 2 9 = zN σ 287 13
def sI (σ : zM) (S : sls) : Prop := slW S ∧ slC σ S ∧ slM σ S
/-- all but the realm itself -/
def LB (σ : zM) (S : sls) (n : Int) : Prop := (∀ j, 220 ≤ j → zN σ 293 j = 0) ∧ sI σ S ∧ imI σ ∧ tpI σ n ∧ ftI σ
def LI (σ : zM) (W : Int → Int) (S : sls) (n : Int) : Prop := rB0 σ W ∧ ctC σ W ∧ w220 W ∧ LB σ S n
theorem slC.m {σ τ : zM} {S : sls} {P : Nat → Prop} (h : slC σ S) (hf : mf P σ τ) (hP : ∀ b, 189 ≤ b → b ≤ 194 → ¬ P b) : slC τ S := fun s s0 s1 => by
  have := h s s0 s1
  refine ⟨(hf.1 194 (hP _ (by omega) (by omega)) _).trans this.1, (hf.1 193 (hP _ (by omega) (by omega)) _).trans this.2.1, fun i i0 i1 => (hf.2.1 _ (hP _ (by omega) (by omega)) _).trans (this.2.2 i i0 i1)⟩
theorem slM.m {σ τ : zM} {S : sls} {P : Nat → Prop} (h : slM σ S) (hf : mf P σ τ) (hP : ∀ b, 309 ≤ b → b ≤ 311 → ¬ P b) : slM τ S := fun s s0 s1 => by
  have := h s s0 s1
  refine ⟨(hf.1 309 (hP _ (by omega) (by omega)) _).trans this.1, (hf.1 310 (hP _ (by omega) (by omega)) _).trans this.2.1, fun i i0 i1 => (hf.2.1 311 (hP _ (by omega) (by omega)) _).trans (this.2.2 i i0 i1)⟩
theorem imA_m {σ τ : zM} {k : Int} (hf : ∀ j, zN τ 289 j = zN σ 289 j) : imA τ k = imA σ k := by
  funext j
  unfold imA
  by_cases q : j.toNat < 220
  · rw [if_pos q, if_pos q, hf]
  · rw [if_neg q, if_neg q]
theorem imI.m {σ τ : zM} {P : Nat → Prop} (h : imI σ) (hf : mf P σ τ) (hP : ∀ b, (196 ≤ b ∧ b ≤ 286 ∨ 289 ≤ b ∧ b ≤ 290) → ¬ P b) : imI τ := fun k hk => by
  obtain ⟨h1, h2⟩ := h k hk
  have e := imA_m (k := k) (hf.1 289 (hP _ (by omega)))
  rw [hf.1 290 (hP _ (by omega)), hf.1 286 (hP _ (by omega)), e]
  refine ⟨h1, fun z => ?_⟩
  obtain ⟨a, b⟩ := h2 z
  exact ⟨a, b.fr (by have := a.2.2.1; omega) fun x x0 x1 => hf.1 x (hP _ (by omega))⟩
theorem tpI.m {σ τ : zM} {n : Int} (h : tpI σ n) (h0 : zN τ 0 1 = zN σ 0 1) (h1 : ∀ k, zN τ 1 k = zN σ 1 k) (h2 : ∀ k, zN τ 291 k = zN σ 291 k) (h5 : zN τ 287 5 = zN σ 287 5) : tpI τ n := by
  refine ⟨h.1, ⟨h0.trans h.2.1.1, h5.trans h.2.1.2⟩, fun i hi => ?_⟩
  rw [h1, h2]
  exact h.2.2 i hi
theorem ftI.m {σ τ : zM} (h : ftI σ) (h2 : ∀ k, zN τ 2 k = zN σ 2 k) (h12 : zN τ 287 12 = zN σ 287 12) (h13 : zN τ 287 13 = zN σ 287 13) : ftI τ := ⟨(h2 8).trans (h.1.trans h12.symm), (h2 9).trans (h.2.trans h13.symm)⟩
theorem LB.c {σ τ : zM} {S : sls} {n : Int} {P : Nat → Prop} (h : LB σ S n) (hf : mf P σ τ) (hP : ∀ b, P b → 33 ≤ b ∧ b < 187) : LB τ S n := by
  have hn : ∀ b, ¬ (33 ≤ b ∧ b < 187) → ¬ P b := fun b hb p => hb (hP b p)
  obtain ⟨h1, ⟨h2, h3, h4⟩, h5, h6, h7⟩ := h
  exact ⟨fun j hj => (hf.1 293 (hn _ (by omega)) j).trans (h1 j hj), ⟨h2, h3.m hf fun b b0 b1 => hn _ (by omega), h4.m hf fun b b0 b1 => hn _ (by omega)⟩, h5.m hf fun b b0 => hn _ (by omega), h6.m (hf.1 0 (hn _ (by omega)) _) (hf.1 1 (hn _ (by omega))) (hf.1 291 (hn _ (by omega))) (hf.1 287 (hn _ (by omega)) _), h7.m (hf.1 2 (hn _ (by omega))) (hf.1 287 (hn _ (by omega)) _) (hf.1 287 (hn _ (by omega)) _)⟩
theorem LB.r {σ τ : zM} {S : sls} {n : Int} {P : Nat → Prop} (h : LB σ S n) (hf : mf P σ τ) (hP : ∀ b, P b → 287 ≤ b ∧ b ≤ 288 ∨ 294 ≤ b ∧ b ≤ 308) (h5 : zN τ 287 5 = zN σ 287 5) (h12 : zN τ 287 12 = zN σ 287 12) (h13 : zN τ 287 13 = zN σ 287 13) : LB τ S n := by
  have hn : ∀ b, ¬ (287 ≤ b ∧ b ≤ 288 ∨ 294 ≤ b ∧ b ≤ 308) → ¬ P b := fun b hb p => hb (hP b p)
  obtain ⟨h1, ⟨h2, h3, h4⟩, h5', h6, h7⟩ := h
  exact ⟨fun j hj => (hf.1 293 (hn _ (by omega)) j).trans (h1 j hj), ⟨h2, h3.m hf fun b b0 b1 => hn _ (by omega), h4.m hf fun b b0 b1 => hn _ (by omega)⟩, h5'.m hf fun b b0 => hn _ (by omega), h6.m (hf.1 0 (hn _ (by omega)) _) (hf.1 1 (hn _ (by omega))) (hf.1 291 (hn _ (by omega))) h5, h7.m (hf.1 2 (hn _ (by omega))) h12 h13⟩
theorem rB0.m {σ τ : zM} {W : Int → Int} {P : Nat → Prop} (h : rB0 σ W) (hf : mf P σ τ) (hP : ¬ P 287 ∧ ¬ P 288) : rB0 τ W := ⟨(hf.wv 288 hP.2).trans h.1, h.2.1, (hf.1 287 hP.1 _).trans h.2.2.1, (hf.1 287 hP.1 _).trans h.2.2.2⟩
theorem ctC.m {σ τ : zM} {W : Int → Int} {P : Nat → Prop} (h : ctC σ W) (hW : WOK W) (hf : mf P σ τ) (hP : ∀ b, 33 ≤ b → b < 187 → ¬ P b) : ctC τ W := h.fr hW fun b hb => hf.1 b (hP b (by omega) (by omega))
theorem clsS_c {b : Nat} (h : clsS b) : 33 ≤ b ∧ b < 187 := by
  unfold clsS at h
  omega
theorem LI.c {σ τ : zM} {W : Int → Int} {S : sls} {n : Int} (h : LI σ W S n) (hk : cK σ τ W) : LI τ W S n := ⟨h.1.m hk.1 ⟨fun p => by have := clsS_c p; omega, fun p => by have := clsS_c p; omega⟩, hk.2, h.2.2.1, h.2.2.2.c hk.1 fun b hb => clsS_c hb⟩
theorem LI.r {σ τ : zM} {W : Int → Int} {S : sls} {n : Int} (h : LI σ W S n) (hk : rK σ τ) : LI τ W S n := ⟨h.1.k hk, h.2.1.m h.1.2.1 hk.1 fun b b0 b1 p => by unfold refS at p; omega, h.2.2.1, h.2.2.2.r hk.1 (fun b hb => hb) (hk.2.1 5 (by omega)) (hk.2.1 12 (by omega)) (hk.2.1 13 (by omega))⟩
/-- the world changes -/
theorem LI.w {σ τ υ : zM} {W W' : Int → Int} {S : sls} {n : Int} (h : LI σ W S n) (hW : WOK W') (hw : w220 W') (hc : cK' σ τ W') (hr : rK' τ υ W') : LI υ W' S n := by
  have hr0 := h.1.m hc.1 ⟨by omega, by omega⟩
  refine ⟨⟨hr.2.2, hW, (hr.2.1 24 (by omega)).trans hr0.2.2.1, (hr.2.1 25 (by omega)).trans hr0.2.2.2⟩, hc.2.m hW hr.1 fun b b0 b1 p => by unfold refS at p; omega, hw, ?_⟩
  exact (h.2.2.2.c hc.1 fun b hb => hb).r hr.1 (fun b hb => hb) (hr.2.1 5 (by omega)) (hr.2.1 12 (by omega)) (hr.2.1 13 (by omega))
/-- the slots change -/
theorem LI.s {σ τ υ : zM} {W : Int → Int} {S S' : sls} {n : Int} (h : LI σ W S n) (hS : slW S') (hc : mf slcS σ τ ∧ slC τ S') (hr : mf slmS τ υ ∧ slM υ S') : LI υ W S' n := by
  have f : mf (fun b => 189 ≤ b ∧ b ≤ 194 ∨ 309 ≤ b ∧ b ≤ 312) σ υ := (hc.1.mono fun b hb => .inl hb).tr (hr.1.mono fun b hb => .inr hb)
  obtain ⟨g1, g2, g3, h1, ⟨h2, h3, h4⟩, h5, h6, h7⟩ := h
  refine ⟨g1.m f ⟨by omega, by omega⟩, g2.m g1.2.1 f fun b b0 b1 p => by omega, g3, fun j hj => (f.1 293 (by omega) j).trans (h1 j hj), ⟨hS, hc.2.m hr.1 fun b b0 b1 p => ?_, hr.2⟩, h5.m f fun b b0 p => by omega, h6.m (f.1 0 (by omega) _) (f.1 1 (by omega)) (f.1 291 (by omega)) (f.1 287 (by omega) _), h7.m (f.1 2 (by omega)) (f.1 287 (by omega) _) (f.1 287 (by omega) _)⟩
  unfold slmS at p
  omega
/-! the script -/
def xA (xs : Nat → Int32) (i : Nat) (j : Int) : Int := (xs ((i : Int) + j).toNat).toInt
theorem xlo {xs : Nat → Int32} {i : Nat} {j : Int} : -2147483648 ≤ xA xs i j := by
  have := Int32.le_toInt (xs ((i : Int) + j).toNat)
  unfold xA
  omega
theorem xhi {xs : Nat → Int32} {i : Nat} {j : Int} : xA xs i j < 2147483648 := by
  have := Int32.toInt_lt (xs ((i : Int) + j).toNat)
  unfold xA
  omega
theorem tCd {σ : zM} {L i : Nat} {xs : Nat → Int32} {j : Int} (hs : σ.2.2 = (L, xs)) (hi : i + 8 ≤ L) (hL : L ≤ 4096) (j0 : 0 ≤ j) (j1 : j < 8) : (decide (0 ≤ (Int32.ofInt (i : Int)) + (Int32.ofInt j)) && decide (((Int32.ofInt (i : Int)) + (Int32.ofInt j)).toNatClampNeg < σ.2.2.1)) = true := by
  rw [Bool.and_eq_true, decide_eq_true_eq, decide_eq_true_eq, mm_add, hs]
  refine ⟨by rw [mm_z, mm_le (by omega) (by omega) (by omega) (by omega)]; omega, ?_⟩
  rw [mm_cl (by omega) (by omega)]
  show ((i : Int) + j).toNat < L
  omega
theorem tXd {σ : zM} {L i : Nat} {xs : Nat → Int32} {j : Int} (hs : σ.2.2 = (L, xs)) (hi : i + 8 ≤ L) (hL : L ≤ 4096) (j0 : 0 ≤ j) (j1 : j < 8) : σ.2.2.2 ((Int32.ofInt (i : Int)) + (Int32.ofInt j)).toNatClampNeg = Int32.ofInt (xA xs i j) := by
  rw [hs, mm_add, mm_cl (by omega) (by omega)]
  exact (Int32.ofInt_toInt _).symm
theorem zwp_IV {o : Option zR} {k : Int32 → zM → Option zR} {Q : Option Value → zM → Prop} {x : Int32} {P : zM → Prop} (h : zwp o (fun v τ => v = some (.int x) ∧ P τ)) (h2 : ∀ τ, P τ → zwp (k x τ) Q) : zwp (zbI o k) Q := by
  obtain ⟨v, τ, h1, rfl, h3⟩ := h
  rw [h1]
  exact h2 τ h3
/-! the law's calls -/
theorem cq_realm {σ : zM} {W : Int → Int} {T : Int → Int} {sz : Int} (hWW : WOK W) (hC : ctC σ W) (hT : tpC σ 1 T sz) (hz : zN σ 0 1 = sz) : zwp (zcall 108 [.ref 0] σ) (fun v τ => v = some (.int (Int32.ofInt (rE T sz))) ∧ mf (fun b => b = 0 ∨ b = 2 ∨ 3 ≤ b ∧ b < 187) σ τ ∧ (∀ k, k ≠ 1 → zN τ 0 k = zN σ 0 k) ∧ zN τ 0 1 = 0 ∧ ((rTxt T sz).1 = 0 → WOK (rTxt T sz).2.2.2 ∧ ctC τ (rTxt T sz).2.2.2) ∧ ((rTxt T sz).1 ≠ 0 → ctC τ W) ∧ zN τ 2 8 = (if (rTxt T sz).1 = 0 then 0 else (rTxt T sz).1) ∧ zN τ 2 9 = (if (rTxt T sz).1 = 0 then -1 else (rTxt T sz).2.1)) := by
  have hW220 := hT.1
  refine zwp_of (fun r h => zcc_108 (ze_108_0 _ r h)) ?_
  rw [mm_r σ 0 1, hz]
  refine zwp_V _ (sp_50 hT) ?_
  rintro τ ⟨f1, hP, hok⟩
  refine zwp_letE (τ' := zw τ 0 1 0) (by simp (disch := first | assumption | exact isR33 | exact isT104 | exact isF99 | exact isF101 | exact isR3 | omega | (refine isTk ?_; omega) | (refine isOk isR33 ?_; omega) | (refine isOk ?_ ?_; assumption; omega)) only [mm_r, mm_rl, mm_add, mm_sub, mm_mul, mm_addJ, mm_mulJ, mm_lt, mm_le, mm_eq, mm_z, mm_cl, mm_w, mm_wl, mm_ite, mm_i2l, mm_l2i, mm_ltJ, mm_leJ, mm_eqJ, mm_clt, mm_cle, mm_cgt, mm_cge, mm_ceq, mm_b, mm_nb, mm_nb0, mm_nb1, mm_vb0, mm_vb1, mm_vbc, mm_vy0, mm_vy1, mm_at, mm_ne, mm_nj, mm_Lw, mm_Nw, mm_atJ, mm_neJ, mm_njJ, zbI_s, zbV_s, zbJ_s, cond_t, Bool.true_and, Bool.and_true, if_true, if_false, not_true, not_false_iff, Classical.not_not, zel_r, zel_42, zel_12, zel_71, zel_80, zel_89, zel_110, zel_188, zel_103, zel_195, zr_o, zr_1, zr_2, zr_3, zr_4, zr_5, zr_6, zr_7, zr_8, zr_9, zq_o, zq_v, zt_o, zt_1, zt_2, zt_3, zt_4, zt_5, zf_o, zf_1, za_w1, za_w2, za_w3, za_cm, za_sl, Int.toNat_natCast, Int.toNat_natCast_add_one, mm_t0, mm_t1, mm_t2, mm_t3, mm_t4, mm_t5, mm_t6, mm_t7, mm_t8, mm_t9, mm_t10, mm_t11, mm_t12, mm_t13, za_1, za_64, za_65, za_66, za_67, za_68, za_71, za_80, za_89, za_98, za_103, za_110, za_121, za_122, za_123, za_124, za_125, za_126, za_188, za_193, za_194, za_195, za_286, za_288, za_289, za_290, za_291, za_292, za_293, za_294, za_295, za_296, za_297, za_298, za_299, za_300, za_301, za_302, za_303, za_304, za_305, za_306, za_307, za_308, za_309, za_310, za_311, za_312]) ?_
  have f2 : mf (fun b => b = 0 ∨ b = 2 ∨ 3 ≤ b ∧ b < 187) σ (zw τ 0 1 0) := (f1.mono (by omega)).zw 0 _ _ (.inl rfl)
  have y0 : zN (zw τ 0 1 0) 0 1 = 0 := mm_at rfl rfl (by decide) (by decide)
  have yk : ∀ k, k ≠ 1 → zN (zw τ 0 1 0) 0 k = zN σ 0 k := fun k hk => (mm_nj hk).trans (f1.1 0 (by omega) k)
  have y2 : ∀ k, zN (zw τ 0 1 0) 2 k = zN τ 2 k := fun k => mm_ne (by decide)
  by_cases q : (rTxt T sz).1 = 0
  · obtain ⟨c1, c2, c3⟩ := hP.2.2 q
    have hW := hok q
    rw [if_pos q, if_pos q]
    have hL : cL (zw τ 0 1 0) 3 (rTxt T sz).2.2.2 := c3.fr (by have := hW.2.2.1; omega) fun a a0 a1 k => mm_ne (by omega)
    refine zwp_t (by rw [mm_r, y2, c1.1]; rfl) ?_
    refine zwp_V _ (sp_75 isR33 isR3 (by decide) hW hL) ?_
    rintro τ3 ⟨f3, l3⟩
    refine zwp_V _ (sp_9 hW l3) ?_
    rintro τ4 ⟨f4, l4⟩
    have e6 := l4.1.1.1
    have hE : rE T sz = (rTxt T sz).2.2.2 6 := if_pos q
    have fs : ∀ b, sttS b → 33 ≤ b ∧ b < 187 := fun b hb => by
      unfold sttS at hb
      omega
    have f5 : mf (fun b => 33 ≤ b ∧ b < 187) (zw τ 0 1 0) τ4 := (f3.mono (by omega)).tr (f4.mono fs)
    rw [mm_r τ4 33 0, e6, ← hE]
    exact zwp_ret ⟨rfl, f2.tr (f5.mono (by omega)), fun k hk => (f5.1 0 (by omega) k).trans (yk k hk), (f5.1 0 (by omega) 1).trans y0, fun _ => ⟨hW, l4⟩, fun p => absurd q p, (f5.1 2 (by omega) 8).trans ((y2 8).trans c1.1), (f5.1 2 (by omega) 9).trans ((y2 9).trans c1.2)⟩
  · have c := hP.2.1 q
    rw [if_neg q, if_neg q]
    have hE : rE T sz = -4 := if_neg q
    have n8 : zN τ 2 8 ≠ 0 := by
      rw [c.1]
      exact q
    refine zwp_f (by rw [mm_r, y2, mm_z, mm_eq (mm_lo _ _ _) (mm_hi _ _ _) (by decide) (by decide)]; exact n8) ?_
    rw [hE]
    refine zwp_ret ⟨rfl, f2, yk, y0, fun p => absurd p q, fun _ => ?_, (y2 8).trans c.1, (y2 9).trans c.2⟩
    have hf : mf (fun b => b = 0 ∨ b = 2 ∨ 3 ≤ b ∧ b < 33) σ (zw τ 0 1 0) := (f1.mono (by omega)).zw 0 _ _ (.inl rfl)
    exact hC.m hWW hf fun b b0 b1 p => by omega
