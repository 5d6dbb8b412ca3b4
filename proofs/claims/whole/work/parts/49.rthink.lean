/-! THOUGHTS: the reference's; latest, earliest -/
/-- W' is W but for the order o, which keeps its thing, its saying, its undoing, from and to -/
def eqO (W W' : Int → Int) (o : Int) : Prop := eqA W W' ∧ ∀ p k, 0 ≤ p → 0 ≤ k → k < 14 → (p ≠ o ∨ 1 ≤ k ∧ k ≤ 5) → oo W' p k = oo W p k
/-- behind allGo, with the world W' and the seat o open -/
def goX (σ : zM) (W W' : Int → Int) (o : Int) : Prop := wv σ 288 = W' ∧ mE (W 0).toNat (matR σ) (DD W) ∧ (∀ k, 0 ≤ k → k < W 5 → k ≠ o → seat σ W noD k) ∧ zN σ 299 10 = -1 ∧ zN σ 300 o.toNat = oo W o 5 ∧ zN σ 287 24 = 0
theorem dR_no {σ : zM} (h : zN σ 287 24 = 0) : dR σ = noD := by
  funext r x
  show decide _ = false
  exact decide_eq_false (fun p => p.1 h)
theorem wRd_A {W W' : Int → Int} (hW : wRd W) (h : eqA W W') : wRd W' := by
  have h2 := hW.2.2.2.1
  unfold wRd
  rw [h 0 (by decide), h 2 (by decide)]
  refine ⟨hW.1, hW.2.1, hW.2.2.1, h2, fun r r0 r1 => ?_⟩
  have := hW.2.2.2.2 r r0 r1
  rw [h (8 + 3 * r) (by omega), h (8 + 3 * r + 1) (by omega), h (8 + 3 * r + 2) (by omega)]
  refine ⟨this.1, fun q q0 q1 => ?_⟩
  have := this.2 q q0 q1
  unfold rdP at this ⊢
  rw [h _ (by omega), h _ (by omega)]
  exact this
theorem wRi_A {W W' : Int → Int} (hW : wRi W) (h : eqA W W') : wRi W' := by
  refine ⟨wRd_A hW.1 h, ?_⟩
  rw [h 1 (by decide), h 3 (by decide)]
  exact hW.2
theorem sp_209x {σ : zM} {W W' : Int → Int} {o : Int} (hW : WOK W) (hE : eqO W W' o) (o0 : 0 ≤ o) (o1 : o < W 5) (ho : oOk W' o) (hX : goX σ W W' o) : zwp (zcall 209 [.ref 287, .int (Int32.ofInt o)] σ) (fun v τ => v = none ∧ goX τ W W' o ∧ rcC τ W (cup (CM W noD) o (CM W' noD o)) (W 7) ∧ mf (fun b => 295 ≤ b ∧ b ≤ 300) σ τ) := by
  have h5 := hW.2.2.1
  have h2 := hW.1.1.2.2.2.1
  obtain ⟨x1, x2, x3, x4, x5, x6⟩ := hX
  have hq : qR σ W' := ⟨x1, wRd_A hW.1.1 hE.1, by rw [hE.1 0 (by decide), DD_A h2 hE.1]; exact x2⟩
  refine zwp_mono (sp_209 (wRi_A hW.1 hE.1) o0 (by omega) ho hq (dR_no x6)) ?_
  rintro v τ ⟨rfl, hf, hs⟩
  have hw : wv τ 288 = W' := (hf.1.wv 288 (by decide)).trans x1
  have e5 : oo W' o 5 = oo W o 5 := hE.2 o 5 o0 (by decide) (by decide) (.inr ⟨by decide, by decide⟩)
  have hX' : goX τ W W' o := ⟨hw, fun x y a b c d => (hf.1.1 294 (by decide) _).trans (x2 x y a b c d), fun k k0 k1 kn => (x3 k k0 k1 kn).fr hf kn k0 hW.1.1 (hW.2.2.2.2 k k0 k1).1, (hf.2.1 10 (by omega)).2.1.trans x4, hs.1.trans e5, (hf.1.1 287 (by decide) 24).trans x6⟩
  refine ⟨rfl, hX', ⟨?_, ?_, fun k k0 k1 => ?_, hX'.2.2.2.1⟩, hf.1⟩
  · have := wv_k hw 5
    rw [this]
    exact hE.1 5 (by decide)
  · have := wv_k hw 7
    rw [this]
    exact hE.1 7 (by decide)
  · have hk : ∀ j, 1 ≤ j → j ≤ 3 → rO τ j k = oo W k j := fun j j0 j1 => (rO_of hw j k).trans (hE.2 k j k0 (by omega) (by omega) (.inr ⟨j0, by omega⟩))
    refine ⟨hk 1 (by decide) (by decide), hk 2 (by decide) (by decide), hk 3 (by decide) (by decide), ?_, ?_⟩
    · by_cases q : k = o
      · rw [q]
        exact hX'.2.2.2.2.1
      · exact (hX'.2.2.1 k k0 k1 q).1
    · show _ = if k = o then CM W' noD o else CM W noD k
      by_cases q : k = o
      · rw [if_pos q, q]
        exact hs.2.1
      · rw [if_neg q]
        exact (hX'.2.2.1 k k0 k1 q).2.1
theorem wv_set {σ : zM} {W' : Int → Int} {o k v : Int} (h : wv σ 288 = W') (o0 : 0 ≤ o) (k0 : 0 ≤ k) (v0 : -2147483648 ≤ v) (v1 : v < 2147483648) : wv (zw σ 288 (80 + 14 * o + k).toNat v) 288 = wS W' o k v := by
  funext j
  show zN (zw σ 288 _ v) 288 j.toNat = if j = 80 + 14 * o + k then v else W' j
  by_cases q : j = 80 + 14 * o + k
  · rw [if_pos q, q, mm_at rfl rfl v0 v1]
  · rw [if_neg q, mm_nj (by omega), ← h]
    rfl
theorem goX.set {σ : zM} {W W' : Int → Int} {o k v : Int} (h : goX σ W W' o) (o0 : 0 ≤ o) (k0 : 0 ≤ k) (v0 : -2147483648 ≤ v) (v1 : v < 2147483648) : goX (zw σ 288 (80 + 14 * o + k).toNat v) W (wS W' o k v) o := by
  obtain ⟨x1, x2, x3, x4, x5, x6⟩ := h
  refine ⟨wv_set x1 o0 k0 v0 v1, fun x y a b c d => (mm_ne (by decide)).trans (x2 x y a b c d), fun j j0 j1 jn => ?_, (mm_ne (by decide)).trans x4, (mm_ne (by decide)).trans x5, (mm_ne (by decide)).trans x6⟩
  obtain ⟨s1, s2, s3, s4⟩ := x3 j j0 j1 jn
  exact ⟨(mm_ne (by decide)).trans s1, (mm_ne (by decide)).trans s2, ⟨(mm_ne (by decide)).trans s3.1, fun i i0 i1 => (mm_ne (by decide)).trans (s3.2 i i0 i1)⟩, fun p => ⟨fun i i1 => (mm_ne (by decide)).trans ((s4 p).1 i i1), fun i i1 i2 => (mm_ne (by decide)).trans ((s4 p).2 i i1 i2)⟩⟩
theorem gone.X {σ : zM} {W : Int → Int} (h : gone σ W noD) (o : Int) (o0 : 0 ≤ o) (o1 : o < W 5) (h24 : zN σ 287 24 = 0) : goX σ W W o := ⟨h.1.1, h.1.2.2, fun k k0 k1 _ => h.2.1 k k0 k1, h.2.2, (h.2.1 o o0 o1).1, h24⟩
/-- the order o is sent at h -/
def goH (σ : zM) (W : Int → Int) (o h : Int) : Prop := goX σ W (wS W o 6 h) o
theorem wS_self {W : Int → Int} {o k : Int} : wS W o k (oo W o k) = W := by
  funext j
  show (if j = 80 + 14 * o + k then W (80 + 14 * o + k) else W j) = W j
  split
  · next q => rw [q]
  · rfl
theorem wS_two {W : Int → Int} {o k a b : Int} : wS (wS W o k a) o k b = wS W o k b := by
  funext j
  show (if j = 80 + 14 * o + k then b else if j = 80 + 14 * o + k then a else W j) = if j = 80 + 14 * o + k then b else W j
  split <;> rfl
theorem gone.H {σ : zM} {W : Int → Int} (h : gone σ W noD) (o : Int) (o0 : 0 ≤ o) (o1 : o < W 5) (h24 : zN σ 287 24 = 0) : goH σ W o (oo W o 6) := by
  unfold goH
  rw [wS_self]
  exact h.X o o0 o1 h24
theorem goH.set {σ : zM} {W : Int → Int} {o h x : Int} (g : goH σ W o h) (o0 : 0 ≤ o) (v0 : -2147483648 ≤ x) (v1 : x < 2147483648) : goH (zw σ 288 (80 + 14 * o + 6).toNat x) W o x := by
  have := goX.set g o0 (k := 6) (by decide) v0 v1
  rw [wS_two] at this
  exact this
theorem eqO_6 {W : Int → Int} {o h : Int} (o0 : 0 ≤ o) : eqO W (wS W o 6 h) o := ⟨wS_A o0 (by decide), fun p k p0 k0 k1 hk => by rw [oo_S (by decide) (by decide) k0 k1, if_neg (by omega)]⟩
theorem oOk_6 {W : Int → Int} {o h : Int} (o0 : 0 ≤ o) (ho : oOk W o) (h0 : 0 ≤ h) (h1 : h ≤ 200) : oOk (wS W o 6 h) o := by
  obtain ⟨a1, a2, a3, a4, a5, a6, a7, a8, a9, a10, a11, a12, a13, a14, a15⟩ := ho
  have hp := pac_S (W := W) (o := o) (h := h) (o' := o) o0 a11
  have e : ∀ k, 0 ≤ k → k < 14 → k ≠ 6 → oo (wS W o 6 h) o k = oo W o k := fun k k0 k1 kn => by rw [oo_S (by decide) (by decide) k0 k1, if_neg (by omega)]
  have e6 : oo (wS W o 6 h) o 6 = h := by rw [oo_S (by decide) (by decide) (by decide) (by decide), if_pos ⟨rfl, rfl⟩]
  have e0 : wS W o 6 h 0 = W 0 := wS_A o0 (by decide) 0 (by decide)
  unfold oOk
  rw [e 4 (by decide) (by decide) (by decide), e 5 (by decide) (by decide) (by decide), e 7 (by decide) (by decide) (by decide), e 0 (by decide) (by decide) (by decide), e6, e0, hp.1, hp.2]
  refine ⟨a1, a2, a3, a4, a5, a6, fun i i0 i1 => ?_, h0, h1, a10, a11, a12, a13, a14, a15⟩
  rw [e (8 + i) (by omega) (by omega) (by omega)]
  exact a7 i i0 i1
theorem sp_209h {σ : zM} {W : Int → Int} {o h : Int} (hW : WOK W) (o0 : 0 ≤ o) (o1 : o < W 5) (h0 : 0 ≤ h) (h1 : h ≤ 200) (hX : goH σ W o h) : zwp (zcall 209 [.ref 287, .int (Int32.ofInt o)] σ) (fun v τ => v = none ∧ goH τ W o h ∧ rcC τ W (cup (CM W noD) o (CMh W (FL W noD) o h)) (W 7) ∧ mf (fun b => 295 ≤ b ∧ b ≤ 300) σ τ) := by
  have ho := (hW.2.2.2.2 o o0 o1).1
  have s := sp_209x hW (eqO_6 o0) o0 o1 (oOk_6 o0 ho h0 h1) hX
  rw [CM_S hW.1.1.2.2.2.1 hW.1.2.2.2.2 noD o0 ho.2.2.2.2.2.1 ho.2.2.2.2.2.2.2.2.2.2.1, if_pos rfl] at s
  exact s
/-- whether the order o bears where it is to come at x, if sent at h -/
def Pb (W : Int → Int) (o x h : Int) : Bool := decide (BB W (cup (CM W noD) o (CMh W (FL W noD) o h)) (W 7) (oo W o 5) (oo W o 1) x = o)
theorem sp_234h {σ : zM} {W : Int → Int} {o h x : Int} (hW : WOK W) (o0 : 0 ≤ o) (o1 : o < W 5) (h0 : 0 ≤ h) (h1 : h ≤ 200) (x0 : -2147483648 ≤ x) (x1 : x < 2147483648) (hX : goH σ W o h) : zwp (zcall 234 [.ref 287, .int (Int32.ofInt o), .int (Int32.ofInt x)] σ) (fun v τ => v = some (.int (Int32.ofInt (if Pb W o x h = true then 1 else 0))) ∧ goH τ W o h ∧ mf (fun b => 295 ≤ b ∧ b ≤ 300) σ τ) := by
  have h5 := hW.2.2.1
  have h8 := hW.1.1.2.1
  obtain ⟨ho, -, g0, g1, -⟩ := hW.2.2.2.2 o o0 o1
  have a3 := ho.2.2.1
  have a4 := ho.2.2.2.1
  have r := BB_rng W (cup (CM W noD) o (CMh W (FL W noD) o h)) (W 7) (oo W o 5) (oo W o 1) x
  refine zwp_of (fun r h => zcc_234 (ze_234_0 _ _ _ r h)) ?_
  refine zwp_V _ (sp_209h hW o0 o1 h0 h1 hX) ?_
  rintro τ ⟨hg, hr, hf⟩
  have e5 : rO τ 5 o = oo W o 5 := (rO_of hg.1 5 o).trans (by rw [oo_S (by decide) (by decide) (by decide) (by decide), if_neg (by omega)])
  have e1 : rO τ 1 o = oo W o 1 := (hr.2.2.1 o o0 o1).1
  rw [sp_173r o0 (by omega) (by decide) (by decide), zbI_s, sp_173r o0 (by omega) (by decide) (by decide), zbI_s, e5, e1, sp_219c hW.un hr (by omega) (by omega) (by omega) (by omega) x0 x1, zbI_s]
  simp (disch := first | assumption | exact isR33 | exact isT104 | exact isF99 | exact isF101 | exact isR3 | omega | (refine isTk ?_; omega) | (refine isOk isR33 ?_; omega) | (refine isOk ?_ ?_; assumption; omega)) only [mm_r, mm_rl, mm_add, mm_sub, mm_mul, mm_addJ, mm_mulJ, mm_lt, mm_le, mm_eq, mm_z, mm_cl, mm_w, mm_wl, mm_ite, mm_i2l, mm_l2i, mm_ltJ, mm_leJ, mm_eqJ, mm_clt, mm_cle, mm_cgt, mm_cge, mm_ceq, mm_b, mm_nb, mm_nb0, mm_nb1, mm_vb0, mm_vb1, mm_vbc, mm_vy0, mm_vy1, mm_at, mm_ne, mm_nj, mm_Lw, mm_Nw, mm_atJ, mm_neJ, mm_njJ, zbI_s, zbV_s, zbJ_s, cond_t, Bool.true_and, Bool.and_true, if_true, if_false, not_true, not_false_iff, Classical.not_not, zel_r, zel_42, zel_12, zel_71, zel_80, zel_89, zel_110, zel_188, zel_103, zel_195, zr_o, zr_1, zr_2, zr_3, zr_4, zr_5, zr_6, zr_7, zr_8, zr_9, zq_o, zq_v, zt_o, zt_1, zt_2, zt_3, zt_4, zt_5, zf_o, zf_1, za_w1, za_w2, za_w3, za_cm, za_sl, Int.toNat_natCast, Int.toNat_natCast_add_one, mm_t0, mm_t1, mm_t2, mm_t3, mm_t4, mm_t5, mm_t6, mm_t7, mm_t8, mm_t9, mm_t10, mm_t11, mm_t12, mm_t13, za_1, za_64, za_65, za_66, za_67, za_68, za_71, za_80, za_89, za_98, za_103, za_110, za_121, za_122, za_123, za_124, za_125, za_126, za_188, za_193, za_194, za_195, za_286, za_288, za_289, za_290, za_291, za_292, za_293, za_294, za_295, za_296, za_297, za_298, za_299, za_300, za_301, za_302, za_303, za_304, za_305, za_306, za_307, za_308, za_309, za_310, za_311, za_312]
  have eP : (Pb W o x h = true) ↔ BB W (cup (CM W noD) o (CMh W (FL W noD) o h)) (W 7) (oo W o 5) (oo W o 1) x = o := by
    unfold Pb
    rw [decide_eq_true_eq]
  simp only [eP]
  refine zwp_ite (fun q => ?_) (fun q => ?_)
  · rw [if_neg q]
    exact zwp_ret ⟨rfl, hg, hf⟩
  · rw [if_pos (Classical.not_not.mp q)]
    exact zwp_ret ⟨rfl, hg, hf⟩
/-- what a thought leaves of the reference -/
def thK (σ0 σ : zM) : Prop := mf (fun b => b = 288 ∨ 294 ≤ b ∧ b ≤ 300) σ0 σ
theorem thK.rK {σ0 τ : zM} (h : thK σ0 τ) (hw : wv τ 288 = wv σ0 288) : rK σ0 τ := ⟨h.mono (fun b hb => by unfold refS; omega), fun k _ => h.1 287 (by omega) k, hw⟩
theorem lp_235e {σ0 : zM} {W : Int → Int} {o x : Int} (hW : WOK W) (hw0 : wv σ0 288 = W) (o0 : 0 ≤ o) (o1 : o < W 5) (x0 : -2147483648 ≤ x) (x1 : x < 2147483648) (st : Int) (hst : st = 1 ∨ st = -1) {Q : Option Value → zM → Prop} (f t : Int) (hf1 : -1 ≤ f) (hf2 : f < 200) (ht1 : -1 ≤ t) (ht2 : t < 200) (hstop : f ≠ -1 ∨ ¬ (0 ≤ t ∧ t < W 1)) (σ : zM) (a : Int) (hg : goH σ W o a) (hk : thK σ0 σ) (hQ : ∀ τ, rK σ0 τ → Q (some (.int (Int32.ofInt f))) τ) : zwp (zev 235 19 [some (.ref 287), some (.int (Int32.ofInt o)), some (.int (Int32.ofInt x)), none, some (.int (Int32.ofInt st)), some (.int (Int32.ofInt (oo W o 6))), some (.int (Int32.ofInt f)), some (.int (Int32.ofInt t))] [] σ) Q := by
  have h5 := hW.2.2.1
  have h1 := hW.1.2.1
  obtain ⟨-, -, -, -, -, -, -, b0, b1, -⟩ := (hW.2.2.2.2 o o0 o1).1
  have e1 : zN σ 288 1 = W 1 := (wv_k hg.1 1).trans (wS_A o0 (by decide) 1 (by decide))
  have s := sp_169 (n := t) (σ := σ) (by omega) (by omega) (by omega)
  rw [e1] at s
  have hend : ∀ Q', (∀ τ, rK σ0 τ → Q' (some (.int (Int32.ofInt f))) τ) → zwp (some (some (.int (Int32.ofInt f)), zw σ 288 (80 + 14 * o + 6).toNat (oo W o 6))) Q' := by
    intro Q' hQ'
    refine zwp_ret (hQ' _ (thK.rK ((hk.zw 288 _ _ (.inl rfl))) ?_))
    rw [wv_set hg.1 o0 (by decide) (by omega) (by omega), wS_two, wS_self, hw0]
  refine zwp_of (fun r h => ze_235_19 _ _ _ _ _ _ _ r h) ?_
  rw [show (Int32.ofInt t).toInt64 = Int64.ofInt t from mm_i2l (by omega) (by omega), s]
  simp only [zbI_s, mm_z, mm_b]
  refine zwp_ite (fun q => ?_) (fun q => ?_)
  · rw [sp_174 o0 (by omega) (by decide) (by decide), zbV_s]
    exact hend Q hQ
  · refine zwp_t (by try simp (disch := first | assumption | exact isR33 | exact isT104 | exact isF99 | exact isF101 | exact isR3 | omega | (refine isTk ?_; omega) | (refine isOk isR33 ?_; omega) | (refine isOk ?_ ?_; assumption; omega)) only [mm_r, mm_rl, mm_add, mm_sub, mm_mul, mm_addJ, mm_mulJ, mm_lt, mm_le, mm_eq, mm_z, mm_cl, mm_w, mm_wl, mm_ite, mm_i2l, mm_l2i, mm_ltJ, mm_leJ, mm_eqJ, mm_clt, mm_cle, mm_cgt, mm_cge, mm_ceq, mm_b, mm_nb, mm_nb0, mm_nb1, mm_vb0, mm_vb1, mm_vbc, mm_vy0, mm_vy1, mm_at, mm_ne, mm_nj, mm_Lw, mm_Nw, mm_atJ, mm_neJ, mm_njJ, zbI_s, zbV_s, zbJ_s, cond_t, Bool.true_and, Bool.and_true, if_true, if_false, not_true, not_false_iff, Classical.not_not, zel_r, zel_42, zel_12, zel_71, zel_80, zel_89, zel_110, zel_188, zel_103, zel_195, zr_o, zr_1, zr_2, zr_3, zr_4, zr_5, zr_6, zr_7, zr_8, zr_9, zq_o, zq_v, zt_o, zt_1, zt_2, zt_3, zt_4, zt_5, zf_o, zf_1, za_w1, za_w2, za_w3, za_cm, za_sl, Int.toNat_natCast, Int.toNat_natCast_add_one, mm_t0, mm_t1, mm_t2, mm_t3, mm_t4, mm_t5, mm_t6, mm_t7, mm_t8, mm_t9, mm_t10, mm_t11, mm_t12, mm_t13, za_1, za_64, za_65, za_66, za_67, za_68, za_71, za_80, za_89, za_98, za_103, za_110, za_121, za_122, za_123, za_124, za_125, za_126, za_188, za_193, za_194, za_195, za_286, za_288, za_289, za_290, za_291, za_292, za_293, za_294, za_295, za_296, za_297, za_298, za_299, za_300, za_301, za_302, za_303, za_304, za_305, za_306, za_307, za_308, za_309, za_310, za_311, za_312]; first | done | omega) ?_
    rw [sp_174 o0 (by omega) (by decide) (by decide), zbV_s]
    exact hend Q hQ
theorem lp_235s {σ0 : zM} {W : Int → Int} {o x : Int} (hW : WOK W) (o0 : 0 ≤ o) (o1 : o < W 5) (x0 : -2147483648 ≤ x) (x1 : x < 2147483648) (st : Int) {Q : Option Value → zM → Prop} (t : Int) (ht1 : 0 ≤ t) (ht2 : t < W 1) (σ : zM) (a : Int) (hg : goH σ W o a) (hk : thK σ0 σ)
    (hQ : ∀ τ, goH τ W o t → thK σ0 τ → zwp (zev 235 19 [some (.ref 287), some (.int (Int32.ofInt o)), some (.int (Int32.ofInt x)), none, some (.int (Int32.ofInt st)), some (.int (Int32.ofInt (oo W o 6))), some (.int (Int32.ofInt (if Pb W o x t = true then t else -1))), some (.int (Int32.ofInt (t + st)))] [] τ) Q) : zwp (zev 235 19 [some (.ref 287), some (.int (Int32.ofInt o)), some (.int (Int32.ofInt x)), none, some (.int (Int32.ofInt st)), some (.int (Int32.ofInt (oo W o 6))), some (.int (Int32.ofInt (-1))), some (.int (Int32.ofInt t))] [] σ) Q := by
  have h5 := hW.2.2.1
  have h1 := hW.1.2.1
  have h9 := hW.1.2.2.1
  have e1 : zN σ 288 1 = W 1 := (wv_k hg.1 1).trans (wS_A o0 (by decide) 1 (by decide))
  have s := sp_169 (n := t) (σ := σ) (by omega) (by omega) (by omega)
  rw [e1] at s
  refine zwp_of (fun r h => ze_235_19 _ _ _ _ _ _ _ r h) ?_
  rw [show (Int32.ofInt t).toInt64 = Int64.ofInt t from mm_i2l (by omega) (by omega), s]
  simp only [zbI_s, mm_z, mm_b]
  refine zwp_f (fun q => q ⟨ht1, ht2⟩) ?_
  refine zwp_f (fun q => q trivial) ?_
  rw [sp_174 o0 (by omega) (by decide) (by decide), zbV_s]
  refine zwp_IE (sp_234h hW o0 o1 (h := t) (by omega) (by omega) x0 x1 (hg.set o0 (by omega) (by omega))) ?_
  rintro τ ⟨hg2, hf⟩
  have hk2 : thK σ0 τ := (hk.zw 288 _ _ (.inl rfl)).tr (hf.mono (by omega))
  have := hQ τ hg2 hk2
  simp only [mm_b]
  refine zwp_ite (fun q => ?_) (fun q => ?_)
  · rw [if_neg q] at this
    rw [mm_add]
    exact this
  · rw [if_pos (Classical.not_not.mp q)] at this
    rw [mm_add]
    exact this
def zlst (P : Int → Bool) : Nat → Int
  | 0 => -1
  | n + 1 => if P n = true then (n : Int) else zlst P n
abbrev sndb (W : Int → Int) (o h : Int) : Prop := inO W o ∧ inH W h ∧ oo W o 2 ≠ -1
def Elat (W : Int → Int) (o h : Int) : Int := if sndb W o h then zlst (Pb W o h) (W 1).toNat else -2
def Eear (W : Int → Int) (o h : Int) : Int := if sndb W o h then zfst (Pb W o h) (W 1).toNat 0 else -2
theorem lp_235d {σ0 : zM} {W : Int → Int} {o x : Int} (hW : WOK W) (hw0 : wv σ0 288 = W) (o0 : 0 ≤ o) (o1 : o < W 5) (x0 : -2147483648 ≤ x) (x1 : x < 2147483648) : ∀ (n : Nat) (σ : zM) (a : Int), (n : Int) ≤ W 1 → goH σ W o a → thK σ0 σ → zwp (zev 235 19 [some (.ref 287), some (.int (Int32.ofInt o)), some (.int (Int32.ofInt x)), none, some (.int (Int32.ofInt (-1))), some (.int (Int32.ofInt (oo W o 6))), some (.int (Int32.ofInt (-1))), some (.int (Int32.ofInt ((n : Int) - 1)))] [] σ) (fun v τ => v = some (.int (Int32.ofInt (zlst (Pb W o x) n))) ∧ rK σ0 τ)
  | 0, σ, a, hn, hg, hk => lp_235e hW hw0 o0 o1 x0 x1 (-1) (.inr rfl) (-1) _ (by decide) (by decide) (by omega) (by omega) (.inr (by omega)) σ a hg hk (fun τ h => ⟨rfl, h⟩)
  | n + 1, σ, a, hn, hg, hk => by
    have h9 := hW.1.2.2.1
    rw [show ((n + 1 : Nat) : Int) - 1 = n by omega]
    refine lp_235s hW o0 o1 x0 x1 (-1) n (by omega) (by omega) σ a hg hk (fun τ hg2 hk2 => ?_)
    have ez : zlst (Pb W o x) (n + 1) = if Pb W o x n = true then (n : Int) else zlst (Pb W o x) n := rfl
    rw [ez]
    by_cases q : Pb W o x n = true
    · rw [if_pos q, if_pos q]
      exact lp_235e hW hw0 o0 o1 x0 x1 (-1) (.inr rfl) n _ (by omega) (by omega) (by omega) (by omega) (.inl (by omega)) τ n hg2 hk2 (fun τ h => ⟨rfl, h⟩)
    · rw [if_neg q, if_neg q]
      exact lp_235d hW hw0 o0 o1 x0 x1 n τ n (by omega) hg2 hk2
theorem lp_235u {σ0 : zM} {W : Int → Int} {o x : Int} (hW : WOK W) (hw0 : wv σ0 288 = W) (o0 : 0 ≤ o) (o1 : o < W 5) (x0 : -2147483648 ≤ x) (x1 : x < 2147483648) : ∀ (k n : Nat) (σ : zM) (a : Int), (n : Int) + k = W 1 → goH σ W o a → thK σ0 σ → zwp (zev 235 19 [some (.ref 287), some (.int (Int32.ofInt o)), some (.int (Int32.ofInt x)), none, some (.int (Int32.ofInt 1)), some (.int (Int32.ofInt (oo W o 6))), some (.int (Int32.ofInt (-1))), some (.int (Int32.ofInt n))] [] σ) (fun v τ => v = some (.int (Int32.ofInt (zfst (Pb W o x) k n))) ∧ rK σ0 τ)
  | 0, n, σ, a, hn, hg, hk => by
    have h9 := hW.1.2.2.1
    exact lp_235e hW hw0 o0 o1 x0 x1 1 (.inl rfl) (-1) _ (by decide) (by decide) (by omega) (by omega) (.inr (by omega)) σ a hg hk (fun τ h => ⟨rfl, h⟩)
  | k + 1, n, σ, a, hn, hg, hk => by
    have h9 := hW.1.2.2.1
    refine lp_235s hW o0 o1 x0 x1 1 n (by omega) (by omega) σ a hg hk (fun τ hg2 hk2 => ?_)
    have ez : zfst (Pb W o x) (k + 1) n = if Pb W o x n = true then (n : Int) else zfst (Pb W o x) k ((n : Int) + 1) := rfl
    rw [ez]
    by_cases q : Pb W o x n = true
    · rw [if_pos q, if_pos q]
      exact lp_235e hW hw0 o0 o1 x0 x1 1 (.inl rfl) n _ (by omega) (by omega) (by omega) (by omega) (.inl (by omega)) τ n hg2 hk2 (fun τ h => ⟨rfl, h⟩)
    · rw [if_neg q, if_neg q]
      exact lp_235u hW hw0 o0 o1 x0 x1 k (n + 1) τ n (by omega) hg2 hk2
theorem sp_233w {σ : zM} {W : Int → Int} {o h : Int} (hB : rB0 σ W) (ho0 : -2147483648 ≤ o) (ho1 : o < 2147483648) (hh0 : -2147483648 ≤ h) (hh1 : h < 2147483648) : zcall 233 [.ref 287, .int (Int32.ofInt o), .int (Int32.ofInt h)] σ = some (some (.int (Int32.ofInt (if sndb W o h then 1 else 0))), σ) := by
  have e5 : zN σ 288 5 = W 5 := wv_k hB.1 5
  have e1 : zN σ 288 1 = W 1 := wv_k hB.1 1
  have h5 := hB.2.1.2.2.1
  have h1 := hB.2.1.1.2.1
  rw [sp_233 ho0 ho1 hh0 hh1 (by omega) (by omega) (by omega), e5, e1]
  have : zN σ 288 (80 + 14 * o + 2).toNat = oo W o 2 := rO_of hB.1 2 o
  rw [this]
theorem sp_151w {σ : zM} {W : Int → Int} {o h : Int} (hW : WOK W) (hL : cL σ 33 W) (ho0 : -2147483648 ≤ o) (ho1 : o < 2147483648) (hh0 : -2147483648 ≤ h) (hh1 : h < 2147483648) : zcall 151 [.ref 0, .int (Int32.ofInt o), .int (Int32.ofInt h)] σ = some (some (.int (Int32.ofInt (if sndb W o h then 1 else 0))), σ) := by
  have e7 := hL.1.2.2.2.2.2.2.2
  have e2 := hL.1.2.2.1
  have h5 := hW.2.2.1
  rw [sp_151 ho0 ho1 hh0 hh1 (by omega), e7, e2]
  have : ((0 ≤ o ∧ o < W 5) ∧ (0 ≤ h ∧ h < W 1) ∧ zN σ (33 + 10 + 2 * o.toNat) 2 ≠ -1) ↔ sndb W o h := by
    constructor
    · intro q
      have := (hL.2.2.2.2 o q.1.1 q.1.2).2.2.1
      rw [this] at q
      exact q
    · intro q
      have := (hL.2.2.2.2 o q.1.1 q.1.2).2.2.1
      rw [this]
      exact q
  simp only [this]
theorem rq_latest {σ : zM} {W : Int → Int} {o h : Int} (hB : rB0 σ W) (ho0 : -2147483648 ≤ o) (ho1 : o < 2147483648) (hh0 : -2147483648 ≤ h) (hh1 : h < 2147483648) : zwp (zcall 236 [.ref 287, .int (Int32.ofInt o), .int (Int32.ofInt h)] σ) (fun v τ => v = some (.int (Int32.ofInt (Elat W o h))) ∧ rK σ τ) := by
  have e1 : zN σ 288 1 = W 1 := wv_k hB.1 1
  have h5 := hB.2.1.2.2.1
  have h1 := hB.2.1.1.2.1
  have h9 := hB.2.1.1.2.2.1
  unfold Elat
  refine zwp_of (fun r h => zcc_236 (ze_236_0 _ _ _ r h)) ?_
  rw [sp_233w hB ho0 ho1 hh0 hh1]
  simp only [zbI_s, mm_z, mm_b]
  refine zwp_ite (fun q => ?_) (fun q => ?_)
  · rw [if_neg q]
    exact zwp_ret ⟨rfl, rK.rf⟩
  · have q := Classical.not_not.mp q
    rw [if_pos q]
    refine zwp_cd (by simp (disch := first | assumption | exact isR33 | exact isT104 | exact isF99 | exact isF101 | exact isR3 | omega | (refine isTk ?_; omega) | (refine isOk isR33 ?_; omega) | (refine isOk ?_ ?_; assumption; omega)) only [mm_r, mm_rl, mm_add, mm_sub, mm_mul, mm_addJ, mm_mulJ, mm_lt, mm_le, mm_eq, mm_z, mm_cl, mm_w, mm_wl, mm_ite, mm_i2l, mm_l2i, mm_ltJ, mm_leJ, mm_eqJ, mm_clt, mm_cle, mm_cgt, mm_cge, mm_ceq, mm_b, mm_nb, mm_nb0, mm_nb1, mm_vb0, mm_vb1, mm_vbc, mm_vy0, mm_vy1, mm_at, mm_ne, mm_nj, mm_Lw, mm_Nw, mm_atJ, mm_neJ, mm_njJ, zbI_s, zbV_s, zbJ_s, cond_t, Bool.true_and, Bool.and_true, if_true, if_false, not_true, not_false_iff, Classical.not_not, zel_r, zel_42, zel_12, zel_71, zel_80, zel_89, zel_110, zel_188, zel_103, zel_195, zr_o, zr_1, zr_2, zr_3, zr_4, zr_5, zr_6, zr_7, zr_8, zr_9, zq_o, zq_v, zt_o, zt_1, zt_2, zt_3, zt_4, zt_5, zf_o, zf_1, za_w1, za_w2, za_w3, za_cm, za_sl, Int.toNat_natCast, Int.toNat_natCast_add_one, mm_t0, mm_t1, mm_t2, mm_t3, mm_t4, mm_t5, mm_t6, mm_t7, mm_t8, mm_t9, mm_t10, mm_t11, mm_t12, mm_t13, za_1, za_64, za_65, za_66, za_67, za_68, za_71, za_80, za_89, za_98, za_103, za_110, za_121, za_122, za_123, za_124, za_125, za_126, za_188, za_193, za_194, za_195, za_286, za_288, za_289, za_290, za_291, za_292, za_293, za_294, za_295, za_296, za_297, za_298, za_299, za_300, za_301, za_302, za_303, za_304, za_305, za_306, za_307, za_308, za_309, za_310, za_311, za_312]) ?_
    simp (disch := first | assumption | exact isR33 | exact isT104 | exact isF99 | exact isF101 | exact isR3 | omega | (refine isTk ?_; omega) | (refine isOk isR33 ?_; omega) | (refine isOk ?_ ?_; assumption; omega)) only [mm_r, mm_rl, mm_add, mm_sub, mm_mul, mm_addJ, mm_mulJ, mm_lt, mm_le, mm_eq, mm_z, mm_cl, mm_w, mm_wl, mm_ite, mm_i2l, mm_l2i, mm_ltJ, mm_leJ, mm_eqJ, mm_clt, mm_cle, mm_cgt, mm_cge, mm_ceq, mm_b, mm_nb, mm_nb0, mm_nb1, mm_vb0, mm_vb1, mm_vbc, mm_vy0, mm_vy1, mm_at, mm_ne, mm_nj, mm_Lw, mm_Nw, mm_atJ, mm_neJ, mm_njJ, zbI_s, zbV_s, zbJ_s, cond_t, Bool.true_and, Bool.and_true, if_true, if_false, not_true, not_false_iff, Classical.not_not, zel_r, zel_42, zel_12, zel_71, zel_80, zel_89, zel_110, zel_188, zel_103, zel_195, zr_o, zr_1, zr_2, zr_3, zr_4, zr_5, zr_6, zr_7, zr_8, zr_9, zq_o, zq_v, zt_o, zt_1, zt_2, zt_3, zt_4, zt_5, zf_o, zf_1, za_w1, za_w2, za_w3, za_cm, za_sl, Int.toNat_natCast, Int.toNat_natCast_add_one, mm_t0, mm_t1, mm_t2, mm_t3, mm_t4, mm_t5, mm_t6, mm_t7, mm_t8, mm_t9, mm_t10, mm_t11, mm_t12, mm_t13, za_1, za_64, za_65, za_66, za_67, za_68, za_71, za_80, za_89, za_98, za_103, za_110, za_121, za_122, za_123, za_124, za_125, za_126, za_188, za_193, za_194, za_195, za_286, za_288, za_289, za_290, za_291, za_292, za_293, za_294, za_295, za_296, za_297, za_298, za_299, za_300, za_301, za_302, za_303, za_304, za_305, za_306, za_307, za_308, za_309, za_310, za_311, za_312, e1]
    refine zwp_IE (E := zlst (Pb W o h) (W 1).toNat) (P := fun τ => rK σ τ) ?_ (fun τ hk => zwp_ret ⟨rfl, hk⟩)
    refine zwp_of (fun r h => zcc_235 (ze_235_0 _ _ _ _ _ r h)) ?_
    refine zwp_V _ (sp_210c hB) ?_
    rintro τ ⟨hk, hg⟩
    have s6 : rO τ 6 o = oo W o 6 := rO_of hg.1.1 6 o
    rw [sp_173r q.1.1 (by omega) (by decide) (by decide), zbI_s, s6]
    have l := lp_235d (σ0 := τ) (x := h) hB.2.1 hg.1.1 q.1.1 q.1.2 hh0 hh1 (W 1).toNat τ (oo W o 6) (by omega) (hg.H o q.1.1 q.1.2 ((hk.2.1 24 (by omega)).trans hB.2.2.1)) mf.rf
    rw [show (((W 1).toNat : Nat) : Int) = W 1 by omega] at l
    exact zwp_mono l (fun v υ g => ⟨g.1, hk.tr g.2⟩)
theorem rq_earliest {σ : zM} {W : Int → Int} {o h : Int} (hB : rB0 σ W) (ho0 : -2147483648 ≤ o) (ho1 : o < 2147483648) (hh0 : -2147483648 ≤ h) (hh1 : h < 2147483648) : zwp (zcall 237 [.ref 287, .int (Int32.ofInt o), .int (Int32.ofInt h)] σ) (fun v τ => v = some (.int (Int32.ofInt (Eear W o h))) ∧ rK σ τ) := by
  have h5 := hB.2.1.2.2.1
  have h1 := hB.2.1.1.2.1
  have h9 := hB.2.1.1.2.2.1
  unfold Eear
  refine zwp_of (fun r h => zcc_237 (ze_237_0 _ _ _ r h)) ?_
  rw [sp_233w hB ho0 ho1 hh0 hh1]
  simp only [zbI_s, mm_z, mm_b]
  refine zwp_ite (fun q => ?_) (fun q => ?_)
  · rw [if_neg q]
    exact zwp_ret ⟨rfl, rK.rf⟩
  · have q := Classical.not_not.mp q
    rw [if_pos q]
    refine zwp_IE (E := zfst (Pb W o h) (W 1).toNat 0) (P := fun τ => rK σ τ) ?_ (fun τ hk => zwp_ret ⟨rfl, hk⟩)
    refine zwp_of (fun r h => zcc_235 (ze_235_0 _ _ _ _ _ r h)) ?_
    refine zwp_V _ (sp_210c hB) ?_
    rintro τ ⟨hk, hg⟩
    have s6 : rO τ 6 o = oo W o 6 := rO_of hg.1.1 6 o
    rw [sp_173r q.1.1 (by omega) (by decide) (by decide), zbI_s, s6]
    have l := lp_235u (σ0 := τ) (x := h) hB.2.1 hg.1.1 q.1.1 q.1.2 hh0 hh1 (W 1).toNat 0 τ (oo W o 6) (by omega) (hg.H o q.1.1 q.1.2 ((hk.2.1 24 (by omega)).trans hB.2.2.1)) mf.rf
    exact zwp_mono l (fun v υ g => ⟨g.1, hk.tr g.2⟩)
