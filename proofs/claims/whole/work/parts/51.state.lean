/-! CALLS: sends, seal -/
def cK' (σ τ : zM) (W : Int → Int) : Prop := mf (fun b => 33 ≤ b ∧ b < 187) σ τ ∧ ctC τ W
def rK' (σ τ : zM) (W : Int → Int) : Prop := mf refS σ τ ∧ (∀ k, k = 5 ∨ k = 12 ∨ k = 13 ∨ k = 24 ∨ k = 25 → zN τ 287 k = zN σ 287 k) ∧ wv τ 288 = W
theorem cK.w {σ τ : zM} {W : Int → Int} (h : cK σ τ W) : cK' σ τ W := ⟨h.1.mono (fun b hb => by unfold clsS at hb; omega), h.2⟩
theorem rK.w {σ τ : zM} {W : Int → Int} (h : rK σ τ) (hw : wv σ 288 = W) : rK' σ τ W := ⟨h.1, h.2.1, h.2.2.trans hw⟩
theorem CMh_A {W W' : Int → Int} (hW : WOK W) {o : Int} (h : eqA W W') (hy : WAY W' o = WAY W o) (hp : pac W' o = pac W o ∧ res W' o = res W o) (x : Int) : CMh W' (FL W' noD) o x = CMh W (FL W noD) o x := by
  unfold CMh
  rw [FL_A hW.1.2.2.2.2 h, hy, CMw_A hW.1.1.2.2.2.1 h, hp.1, hp.2]
theorem WOK_6 {W : Int → Int} (hW : WOK W) {o h : Int} (o0 : 0 ≤ o) (o1 : o < W 5) (h0 : 0 ≤ h) (h1 : h < W 1) : WOK (wS W o 6 h) := by
  have hA := wS_A (W := W) (o := o) (k := 6) (h := h) o0 (by decide)
  have h5 := hW.2.2.1
  have h2 := hW.1.1.2.2.2.1
  have h3 := hW.1.2.2.2.2
  have h9 := hW.1.2.2.1
  have e : ∀ p k, 0 ≤ k → k < 14 → (p ≠ o ∨ k ≠ 6) → oo (wS W o 6 h) p k = oo W p k := fun p k k0 k1 kn => by rw [oo_S (by decide) (by decide) k0 k1, if_neg (by omega)]
  have e6 : oo (wS W o 6 h) o 6 = h := by rw [oo_S (by decide) (by decide) (by decide) (by decide), if_pos ⟨rfl, rfl⟩]
  refine ⟨wRi_A hW.1 hA, ?_, ?_, ?_, fun p p0 p1 => ?_⟩
  · intro f f0 f1
    rw [hA 3 (by decide)] at f1
    rw [hA (44 + 3 * f) (by omega), hA (44 + 3 * f + 1) (by omega), hA (44 + 3 * f + 2) (by omega), hA 2 (by decide), hA 1 (by decide)]
    exact hW.2.1 f f0 f1
  · rw [hA 4 (by decide), hA 5 (by decide), hA 6 (by decide), hA 7 (by decide)]
    exact h5
  · intro i i0 i1
    rw [hA 4 (by decide)] at i1
    rw [hA _ (by omega), hA _ (by omega)]
    exact hW.2.2.2.1 i i0 i1
  · rw [hA 5 (by decide)] at p1
    obtain ⟨ho, b1, b2, b3, b4, b5, b6, b7⟩ := hW.2.2.2.2 p p0 p1
    have hp := pac_S (W := W) (o := o) (h := h) (o' := p) o0 ho.2.2.2.2.2.2.2.2.2.2.1
    have e6' : 0 ≤ oo (wS W o 6 h) p 6 ∧ oo (wS W o 6 h) p 6 < W 1 := by
      by_cases q : p = o
      · rw [q, e6]
        exact ⟨h0, h1⟩
      · rw [e p 6 (by decide) (by decide) (.inl q)]
        exact ⟨ho.2.2.2.2.2.2.2.1, b1⟩
    have k : ∀ j, 0 ≤ j → j < 14 → j ≠ 6 → oo (wS W o 6 h) p j = oo W p j := fun j j0 j1 jn => e p j j0 j1 (.inr jn)
    unfold wOrd oOk
    rw [k 4 (by decide) (by decide) (by decide), k 5 (by decide) (by decide) (by decide), k 7 (by decide) (by decide) (by decide), k 0 (by decide) (by decide) (by decide), k 1 (by decide) (by decide) (by decide), k 2 (by decide) (by decide) (by decide), k 3 (by decide) (by decide) (by decide), k 11 (by decide) (by decide) (by decide), k 12 (by decide) (by decide) (by decide), k 13 (by decide) (by decide) (by decide), hp.1, hp.2, hA 0 (by decide), hA 1 (by decide), hA 4 (by decide)]
    obtain ⟨a1, a2, a3, a4, a5, a6, a7, a8, a9, a10, a11, a12, a13, a14, a15⟩ := ho
    refine ⟨⟨a1, a2, a3, a4, a5, a6, fun i i0 i1 => ?_, e6'.1, by omega, a10, a11, a12, a13, a14, a15⟩, e6'.2, b2, b3, b4, b5, b6, b7⟩
    rw [k (8 + i) (by omega) (by omega) (by omega)]
    exact a7 i i0 i1
theorem cL_6 {σ : zM} {W : Int → Int} {o h : Int} (hW : WOK W) (o0 : 0 ≤ o) (o1 : o < W 5) (h0 : 0 ≤ h) (h1 : h < W 1) (hL : cL σ 33 W) : cL (zw σ (33 + 10 + 2 * o.toNat) 6 h) 33 (wS W o 6 h) := by
  have hA := wS_A (W := W) (o := o) (k := 6) (h := h) o0 (by decide)
  have h5 := hW.2.2.1
  have h2 := hW.1.1.2.2.2.1
  have h3 := hW.1.2.2.2.2
  have h9 := hW.1.2.2.1
  obtain ⟨⟨l0, l1, l2, l3, l4, l5, l6, l7⟩, lr, lf, lp, lo⟩ := hL
  have n33 : ∀ b, b ≠ 33 + 10 + 2 * o.toNat → ∀ k, zN (zw σ (33 + 10 + 2 * o.toNat) 6 h) b k = zN σ b k := fun b hb k => mm_ne hb
  refine ⟨?_, fun r r0 r1 => ?_, fun f f0 f1 => ?_, fun i i0 i1 => ?_, fun p p0 p1 => ?_⟩
  · rw [n33 33 (by omega), n33 33 (by omega), n33 33 (by omega), n33 33 (by omega), n33 33 (by omega), n33 33 (by omega), n33 33 (by omega), n33 33 (by omega), hA 0 (by decide), hA 1 (by decide), hA 2 (by decide), hA 3 (by decide), hA 4 (by decide), hA 5 (by decide), hA 6 (by decide), hA 7 (by decide)]
    exact ⟨l0, l1, l2, l3, l4, l5, l6, l7⟩
  · rw [hA 2 (by decide)] at r1
    rw [n33 _ (by omega), n33 _ (by omega), n33 _ (by omega), hA _ (by omega), hA _ (by omega), hA _ (by omega)]
    exact lr r r0 r1
  · rw [hA 3 (by decide)] at f1
    rw [n33 _ (by omega), n33 _ (by omega), n33 _ (by omega), hA _ (by omega), hA _ (by omega), hA _ (by omega)]
    exact lf f f0 f1
  · rw [hA 4 (by decide)] at i1
    rw [n33 _ (by omega), n33 _ (by omega), hA _ (by omega), hA _ (by omega)]
    exact lp i i0 i1
  · rw [hA 5 (by decide)] at p1
    have hO := lo p p0 p1
    have e : ∀ k, 0 ≤ k → k < 14 → (p ≠ o ∨ k ≠ 6) → oo (wS W o 6 h) p k = oo W p k := fun k k0 k1 kn => by rw [oo_S (by decide) (by decide) k0 k1, if_neg (by omega)]
    have ho := (hW.2.2.2.2 p p0 p1).1
    have v7 := ho.2.2.2.2.2.1
    unfold cO at hO ⊢
    rw [e 0 (by decide) (by decide) (by omega), e 1 (by decide) (by decide) (by omega), e 2 (by decide) (by decide) (by omega), e 3 (by decide) (by decide) (by omega), e 4 (by decide) (by decide) (by omega), e 5 (by decide) (by decide) (by omega), e 7 (by decide) (by decide) (by omega), e 11 (by decide) (by decide) (by omega), e 12 (by decide) (by decide) (by omega), e 13 (by decide) (by decide) (by omega)]
    have hv : ∀ v, 0 ≤ v → v < oo W p 7 → zN (zw σ (33 + 10 + 2 * o.toNat) 6 h) (33 + 10 + 2 * p.toNat + 1) v.toNat = oo (wS W o 6 h) p (8 + v) := fun v a b => by
      rw [n33 _ (by omega), e (8 + v) (by omega) (by omega) (by omega)]
      exact hO.2.2.2.2.2.2.2.2.1 v a b
    by_cases q : p = o
    · subst q
      have e6 : oo (wS W p 6 h) p 6 = h := by rw [oo_S (by decide) (by decide) (by decide) (by decide), if_pos ⟨rfl, rfl⟩]
      rw [e6, mm_at rfl rfl (by omega) (by omega), mm_nj (by decide), mm_nj (by decide), mm_nj (by decide), mm_nj (by decide), mm_nj (by decide), mm_nj (by decide), mm_nj (by decide), mm_nj (by decide), mm_nj (by decide), mm_nj (by decide), mm_nj (by decide)]
      obtain ⟨c0, c1, c2, c3, c4, c5, c6, c7, c8, c9, c10⟩ := hO
      exact ⟨c0, c1, c2, c3, c4, c5, rfl, c7, hv, c9, c10⟩
    · rw [e 6 (by decide) (by decide) (.inl q)]
      have n := n33 (33 + 10 + 2 * p.toNat) (by omega)
      rw [n, n, n, n, n, n, n, n, n, n, n, n]
      obtain ⟨c0, c1, c2, c3, c4, c5, c6, c7, c8, c9, c10⟩ := hO
      exact ⟨c0, c1, c2, c3, c4, c5, c6, c7, hv, c9, c10⟩
theorem ctC_6 {σ τ : zM} {W : Int → Int} {o h : Int} (hW : WOK W) (o0 : 0 ≤ o) (o1 : o < W 5) (hC : ctC σ W) (hL : cL τ 33 (wS W o 6 h)) (hv : vC τ (wS W o 6 h) o) (hk : ∀ k : Nat, (k : Int) ≠ o → zN τ 68 k = zN σ 68 k) (hf : mf (fun b => b = 33 + 10 + 2 * o.toNat ∨ b = 68 ∨ b = 127 + 6 * o.toNat + 4 ∨ b = 127 + 6 * o.toNat + 5) σ τ) : ctC τ (wS W o 6 h) := by
  have hA := wS_A (W := W) (o := o) (k := 6) (h := h) o0 (by decide)
  have h5 := hW.2.2.1
  have h2 := hW.1.1.2.2.2.1
  have h3 := hW.1.2.2.2.2
  have h8 := hW.1.1.2.1
  obtain ⟨-, hy, hF, ⟨s0, s1⟩, hs⟩ := hC
  have hy' := hy.fr h8 (τ := τ) fun b b0 b1 => hf.1 b (by omega)
  refine ⟨hL, ?_, ?_, ?_, fun p p0 p1 => ?_⟩
  · unfold wyC
    rw [hA 0 (by decide), hA 2 (by decide), DD_A h2 hA, NX_A h2 hA, RD_A h2 hA]
    refine ⟨hy'.1, hy'.2.1, hy'.2.2.1, fun r r0 r1 => ?_⟩
    rw [RH_A hA (by omega)]
    exact hy'.2.2.2 r r0 r1
  · rw [hA 1 (by decide), FL_A h3 hA]
    exact hF.fr (hf.1 99 (by omega)) (hf.1 100 (by omega))
  · rw [hA 5 (by decide), hA 7 (by decide)]
    exact ⟨(hf.1 63 (by omega) 0).trans s0, (hf.1 63 (by omega) 1).trans s1⟩
  · rw [hA 5 (by decide)] at p1
    obtain ⟨a, b, c⟩ := hs p p0 p1
    have ho := (hW.2.2.2.2 p p0 p1).1
    have e : ∀ k, 0 ≤ k → k < 14 → (p ≠ o ∨ k ≠ 6) → oo (wS W o 6 h) p k = oo W p k := fun k k0 k1 kn => by rw [oo_S (by decide) (by decide) k0 k1, if_neg (by omega)]
    have hY := WAY_S (W := W) (o := o) (h := h) (o' := p) h2 o0 ho.2.2.2.2.2.1
    have hp := pac_S (W := W) (o := o) (h := h) (o' := p) o0 ho.2.2.2.2.2.2.2.2.2.2.1
    refine ⟨?_, ?_, ?_⟩
    · unfold sC
      rw [e 5 (by decide) (by decide) (by omega), e 1 (by decide) (by decide) (by omega), e 2 (by decide) (by decide) (by omega), e 3 (by decide) (by decide) (by omega)]
      exact a.fr (hf.1 64 (by omega) _) (hf.1 65 (by omega) _) (hf.1 66 (by omega) _) (hf.1 67 (by omega) _)
    · by_cases q : p = o
      · rw [q]
        exact hv
      · have b' := b.fr (τ := τ) (hk _ (by omega)) (fun r r0 r1 => hf.1 r (by omega))
        have eI : ∀ i : Nat, tI (wS W o 6 h) (FL (wS W o 6 h) noD) (WAY W p) (oo W p 6) (pac W p) (res W p) i = tI W (FL W noD) (WAY W p) (oo W p 6) (pac W p) (res W p) i := fun i => by rw [FL_A h3 hA, tI_A h2 hA]
        have eR : ∀ i : Nat, rdw (wS W o 6 h) (WAY W p) i = rdw W (WAY W p) i := fun i => by
          unfold rdw
          rw [RD_A h2 hA]
        unfold vC tC tmC
        rw [hY, hp.1, hp.2, e 6 (by decide) (by decide) (.inl q), CM_S h2 h3 noD o0 ho.2.2.2.2.2.1 ho.2.2.2.2.2.2.2.2.2.2.1, if_neg q]
        refine ⟨⟨b'.1.1, b'.1.2.1, fun i i1 => ?_⟩, fun w => ⟨fun i i1 => ?_, fun i i1 => ?_⟩, b'.2.2⟩
        · have rl := RD_lt h2 ((WAY W p).2 i) ((WAY W p).2 ((i : Int) + 1))
          rw [eR, RH_A hA (by unfold rdw; omega)]
          exact b'.1.2.2 i i1
        · rw [eI]
          exact (b'.2.1 w).1 i i1
        · unfold tO
          rw [eI, eR, FL_A h3 hA, hA 1 (by decide)]
          exact (b'.2.1 w).2 i i1
    · intro z x x0 x1
      rw [hA 1 (by decide)] at x1
      rw [hf.1 121 (by omega)] at z
      rw [hf.1 _ (by omega), CMh_A hW hA hY hp]
      exact c z x x0 x1
def Wsends (W : Int → Int) (o h : Int) : Int → Int := if inO W o ∧ inH W h then wS W o 6 h else W
def Esends (W : Int → Int) (o h : Int) : Int := if inO W o ∧ inH W h then oo W o 6 else -2
theorem cq_sends {σ : zM} {W : Int → Int} {o h : Int} (hW : WOK W) (hC : ctC σ W) (ho0 : -2147483648 ≤ o) (ho1 : o < 2147483648) (hh0 : -2147483648 ≤ h) (hh1 : h < 2147483648) : zwp (zcall 124 [.ref 0, .int (Int32.ofInt o), .int (Int32.ofInt h)] σ) (fun v τ => v = some (.int (Int32.ofInt (Esends W o h))) ∧ cK' σ τ (Wsends W o h)) := by
  have e7 := hC.1.1.2.2.2.2.2.2.2
  have e2 := hC.1.1.2.2.1
  have h5 := hW.2.2.1
  have h8 := hW.1.1.2.1
  have h2 := hW.1.1.2.2.2.1
  have h3 := hW.1.2.2.2.2
  have s := sp_79 (p := 33) (n := o) (σ := σ) isR33 (by omega) (by omega)
  rw [e7] at s
  have s2 := sp_78 (p := 33) (n := h) (σ := σ) isR33 (by omega) (by omega)
  rw [e2] at s2
  unfold Esends Wsends
  refine zwp_of (fun r h => zcc_124 (ze_124_0 _ _ _ r h)) ?_
  simp (disch := first | assumption | exact isR33 | exact isT104 | exact isF99 | exact isF101 | exact isR3 | omega | (refine isTk ?_; omega) | (refine isOk isR33 ?_; omega) | (refine isOk ?_ ?_; assumption; omega)) only [mm_r, mm_rl, mm_add, mm_sub, mm_mul, mm_addJ, mm_mulJ, mm_lt, mm_le, mm_eq, mm_z, mm_cl, mm_w, mm_wl, mm_ite, mm_i2l, mm_l2i, mm_ltJ, mm_leJ, mm_eqJ, mm_clt, mm_cle, mm_cgt, mm_cge, mm_ceq, mm_b, mm_nb, mm_nb0, mm_nb1, mm_vb0, mm_vb1, mm_vbc, mm_vy0, mm_vy1, mm_at, mm_ne, mm_nj, mm_Lw, mm_Nw, mm_atJ, mm_neJ, mm_njJ, zbI_s, zbV_s, zbJ_s, cond_t, Bool.true_and, Bool.and_true, if_true, if_false, not_true, not_false_iff, Classical.not_not, zel_r, zel_42, zel_12, zel_71, zel_80, zel_89, zel_110, zel_188, zel_103, zel_195, zr_o, zr_1, zr_2, zr_3, zr_4, zr_5, zr_6, zr_7, zr_8, zr_9, zq_o, zq_v, zt_o, zt_1, zt_2, zt_3, zt_4, zt_5, zf_o, zf_1, za_w1, za_w2, za_w3, za_cm, za_sl, Int.toNat_natCast, Int.toNat_natCast_add_one, mm_t0, mm_t1, mm_t2, mm_t3, mm_t4, mm_t5, mm_t6, mm_t7, mm_t8, mm_t9, mm_t10, mm_t11, mm_t12, mm_t13, za_1, za_64, za_65, za_66, za_67, za_68, za_71, za_80, za_89, za_98, za_103, za_110, za_121, za_122, za_123, za_124, za_125, za_126, za_188, za_193, za_194, za_195, za_286, za_288, za_289, za_290, za_291, za_292, za_293, za_294, za_295, za_296, za_297, za_298, za_299, za_300, za_301, za_302, za_303, za_304, za_305, za_306, za_307, za_308, za_309, za_310, za_311, za_312, s, s2]
  refine zwp_ite (fun q => ?_) (fun q => ?_)
  · rw [if_neg (fun p => q p.1), if_neg (fun p => q p.1)]
    exact zwp_ret ⟨rfl, (cK.rf hC).w⟩
  · have q := Classical.not_not.mp q
    refine zwp_ite (fun q2 => ?_) (fun q2 => ?_)
    · rw [if_pos (⟨q, q2⟩ : inO W o ∧ inH W h), if_pos (⟨q, q2⟩ : inO W o ∧ inH W h)]
      have e6 := (hC.1.2.2.2.2 o q.1 q.2).2.2.2.2.2.2.1
      refine zwp_let ?_
      have hA := wS_A (W := W) (o := o) (k := 6) (h := h) q.1 (by decide)
      have hW' := WOK_6 hW q.1 q.2 q2.1 q2.2
      have hL' := cL_6 hW q.1 q.2 q2.1 q2.2 hC.1
      have ho := (hW.2.2.2.2 o q.1 q.2).1
      have hY := WAY_S (W := W) (o := o) (h := h) (o' := o) h2 q.1 ho.2.2.2.2.2.1
      have f1 : mf (fun b => b = 33 + 10 + 2 * o.toNat) σ (zw σ (33 + 10 + 2 * o.toNat) 6 h) := (mf.rf (S := fun b => b = 33 + 10 + 2 * o.toNat)).zw (33 + 10 + 2 * o.toNat) _ _ rfl
      have hT0 := (hC.2.2.2.2 o q.1 q.2).2.1.1.fr6 f1 (by omega)
      have hT : tC (zw σ (33 + 10 + 2 * o.toNat) 6 h) (127 + 6 * o.toNat) (wS W o 6 h) (WAY (wS W o 6 h) o) := by
        rw [hY]
        refine ⟨hT0.1, hT0.2.1, fun i i1 => ?_⟩
        have rl := RD_lt h2 ((WAY W o).2 i) ((WAY W o).2 ((i : Int) + 1))
        have eR : rdw (wS W o 6 h) (WAY W o) i = rdw W (WAY W o) i := by
          unfold rdw
          rw [RD_A h2 hA]
        rw [eR, RH_A hA (by unfold rdw; omega)]
        exact hT0.2.2 i i1
      have hF : flC (zw σ (33 + 10 + 2 * o.toNat) 6 h) 99 (wS W o 6 h 1) (FL (wS W o 6 h) noD) := by
        rw [hA 1 (by decide), FL_A h3 hA]
        exact hC.2.2.1.fr (f1.1 99 (by omega)) (f1.1 100 (by omega))
      refine zwp_V _ (sp_10 (o := o) hW' q.1 (by rw [hA 5 (by decide)]; exact q.2) hL' hT hF) ?_
      rintro τ ⟨hf, hv, hk⟩
      have hf2 : mf (fun b => b = 33 + 10 + 2 * o.toNat ∨ b = 68 ∨ b = 127 + 6 * o.toNat + 4 ∨ b = 127 + 6 * o.toNat + 5) σ τ := (f1.mono (by omega)).tr (hf.mono (by omega))
      rw [e6]
      refine zwp_ret ⟨rfl, hf2.mono (by omega), ctC_6 hW q.1 q.2 hC (hL'.fr (by rw [hA 5 (by decide)]; omega) fun a a0 a1 => hf.1 a (by omega)) hv (fun k kn => (hk k kn).trans (mm_ne (by omega))) hf2⟩
    · rw [if_neg (fun p => q2 p.2), if_neg (fun p => q2 p.2)]
      exact zwp_ret ⟨rfl, (cK.rf hC).w⟩
theorem rq_sends {σ : zM} {W : Int → Int} {o h : Int} (hB : rB0 σ W) (ho0 : -2147483648 ≤ o) (ho1 : o < 2147483648) (hh0 : -2147483648 ≤ h) (hh1 : h < 2147483648) : zwp (zcall 232 [.ref 287, .int (Int32.ofInt o), .int (Int32.ofInt h)] σ) (fun v τ => v = some (.int (Int32.ofInt (Esends W o h))) ∧ rK' σ τ (Wsends W o h)) := by
  have e5 : zN σ 288 5 = W 5 := wv_k hB.1 5
  have e1 : zN σ 288 1 = W 1 := wv_k hB.1 1
  have h5 := hB.2.1.2.2.1
  have h1 := hB.2.1.1.2.1
  have s := sp_170 (n := o) (σ := σ) (by omega) (by omega) (by omega)
  rw [e5] at s
  have s2 := sp_169 (n := h) (σ := σ) (by omega) (by omega) (by omega)
  rw [e1] at s2
  unfold Esends Wsends
  refine zwp_of (fun r h => zcc_232 (ze_232_0 _ _ _ r h)) ?_
  simp (disch := first | assumption | exact isR33 | exact isT104 | exact isF99 | exact isF101 | exact isR3 | omega | (refine isTk ?_; omega) | (refine isOk isR33 ?_; omega) | (refine isOk ?_ ?_; assumption; omega)) only [mm_r, mm_rl, mm_add, mm_sub, mm_mul, mm_addJ, mm_mulJ, mm_lt, mm_le, mm_eq, mm_z, mm_cl, mm_w, mm_wl, mm_ite, mm_i2l, mm_l2i, mm_ltJ, mm_leJ, mm_eqJ, mm_clt, mm_cle, mm_cgt, mm_cge, mm_ceq, mm_b, mm_nb, mm_nb0, mm_nb1, mm_vb0, mm_vb1, mm_vbc, mm_vy0, mm_vy1, mm_at, mm_ne, mm_nj, mm_Lw, mm_Nw, mm_atJ, mm_neJ, mm_njJ, zbI_s, zbV_s, zbJ_s, cond_t, Bool.true_and, Bool.and_true, if_true, if_false, not_true, not_false_iff, Classical.not_not, zel_r, zel_42, zel_12, zel_71, zel_80, zel_89, zel_110, zel_188, zel_103, zel_195, zr_o, zr_1, zr_2, zr_3, zr_4, zr_5, zr_6, zr_7, zr_8, zr_9, zq_o, zq_v, zt_o, zt_1, zt_2, zt_3, zt_4, zt_5, zf_o, zf_1, za_w1, za_w2, za_w3, za_cm, za_sl, Int.toNat_natCast, Int.toNat_natCast_add_one, mm_t0, mm_t1, mm_t2, mm_t3, mm_t4, mm_t5, mm_t6, mm_t7, mm_t8, mm_t9, mm_t10, mm_t11, mm_t12, mm_t13, za_1, za_64, za_65, za_66, za_67, za_68, za_71, za_80, za_89, za_98, za_103, za_110, za_121, za_122, za_123, za_124, za_125, za_126, za_188, za_193, za_194, za_195, za_286, za_288, za_289, za_290, za_291, za_292, za_293, za_294, za_295, za_296, za_297, za_298, za_299, za_300, za_301, za_302, za_303, za_304, za_305, za_306, za_307, za_308, za_309, za_310, za_311, za_312, s, s2]
  refine zwp_ite (fun q => ?_) (fun q => ?_)
  · rw [if_neg (fun p => q p.1), if_neg (fun p => q p.1)]
    exact zwp_ret ⟨rfl, rK.rf.w hB.1⟩
  · have q := Classical.not_not.mp q
    refine zwp_ite (fun q2 => ?_) (fun q2 => ?_)
    · rw [if_pos (⟨q, q2⟩ : inO W o ∧ inH W h), if_pos (⟨q, q2⟩ : inO W o ∧ inH W h), sp_173r q.1 (by omega) (by decide) (by decide), zbI_s, sp_174 q.1 (by omega) (by decide) (by decide), zbV_s, rO_of hB.1]
      exact zwp_ret ⟨rfl, (mf.rf (S := refS)).zw 288 _ _ (.inl ⟨by decide, by decide⟩), fun k _ => mm_ne (by decide), wv_set hB.1 q.1 (by decide) (by omega) (by omega)⟩
    · rw [if_neg (fun p => q2 p.2), if_neg (fun p => q2 p.2)]
      exact zwp_ret ⟨rfl, rK.rf.w hB.1⟩
