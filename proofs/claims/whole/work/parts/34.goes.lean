/-! RIDES: the reference's -/
/-- a realm as far as rides need it -/
def wRi (W : Int → Int) : Prop := wRd W ∧ 0 ≤ W 1 ∧ W 1 ≤ 99 ∧ 0 ≤ W 3 ∧ W 3 ≤ 8
def gF (o : Int) (σ τ : zM) : Prop := mf (fun r => r = 296 ∨ r = 297 ∨ r = 299) σ τ ∧ (∀ j : Nat, (j : Int) ≠ o → zN τ 299 j = zN σ 299 j) ∧ ∀ j : Nat, ((j : Int) < 32 * o ∨ 32 * o + 32 ≤ j) → zN τ 296 j = zN σ 296 j ∧ zN τ 297 j = zN σ 297 j
theorem gF.rf {o : Int} {σ : zM} : gF o σ σ := ⟨mf.rf, fun _ _ => rfl, fun _ _ => ⟨rfl, rfl⟩⟩
theorem gF.tr {o : Int} {σ τ υ : zM} (h : gF o σ τ) (g : gF o τ υ) : gF o σ υ := ⟨h.1.tr g.1, fun j hj => (g.2.1 j hj).trans (h.2.1 j hj), fun j hj => ⟨(g.2.2 j hj).1.trans (h.2.2 j hj).1, (g.2.2 j hj).2.trans (h.2.2 j hj).2⟩⟩
theorem gF.w6 {o : Int} {σ : zM} {k : Nat} (v : Int) (h0 : 32 * o ≤ k) (h1 : (k : Int) < 32 * o + 32) : gF o σ (zw σ 296 k v) := ⟨mf.rf.zw 296 _ _ (.inl rfl), fun j hj => mm_ne (by decide), fun j hj => ⟨mm_nj (by omega), mm_ne (by decide)⟩⟩
theorem gF.w7 {o : Int} {σ : zM} {k : Nat} (v : Int) (h0 : 32 * o ≤ k) (h1 : (k : Int) < 32 * o + 32) : gF o σ (zw σ 297 k v) := ⟨mf.rf.zw 297 _ _ (.inr (.inl rfl)), fun j hj => mm_ne (by decide), fun j hj => ⟨mm_ne (by decide), mm_nj (by omega)⟩⟩
theorem gF.w9 {o : Int} {σ : zM} {k : Nat} (v : Int) (h0 : (k : Int) = o) : gF o σ (zw σ 299 k v) := ⟨mf.rf.zw 299 _ _ (.inr (.inr rfl)), fun j hj => mm_nj (by omega), fun j hj => ⟨mm_ne (by decide), mm_ne (by decide)⟩⟩
theorem dR_fr {σ τ : zM} (h1 : ∀ k, zN τ 287 k = zN σ 287 k) (h2 : ∀ k, zN τ 301 k = zN σ 301 k) (h3 : ∀ k, zN τ 302 k = zN σ 302 k) : dR τ = dR σ := by
  funext r h
  unfold dR
  rw [h1, h2, h3]
theorem gF.W {o : Int} {σ τ : zM} (h : gF o σ τ) : wv τ 288 = wv σ 288 := h.1.wv 288 (by decide)
theorem gF.D {o : Int} {σ τ : zM} (h : gF o σ τ) : dR τ = dR σ := dR_fr (h.1.1 287 (by decide)) (h.1.1 301 (by decide)) (h.1.1 302 (by decide))
theorem gF.R {o : Int} {σ τ : zM} (h : gF o σ τ) {w : wy} (hR : wR σ o w) : wR τ o w := ⟨(h.1.1 298 (by decide) _).trans hR.1, fun i i0 i1 => (h.1.1 295 (by decide) _).trans (hR.2 i i0 i1)⟩
theorem lp_208_95 {o p r i ρ : Int} {σ : zM} {Q : Option Value → zM → Prop} (hW : wRi (wv σ 288)) (o0 : 0 ≤ o) (o1 : o < 11) (p0 : 1 ≤ p) (p1 : p ≤ 9) (r0 : 0 ≤ r) (r1 : r ≤ 20) (i0 : 0 ≤ i) (i1 : i < 32) (ρ0 : 0 ≤ ρ) (ρ1 : ρ < 12) (hρ0 : 1 ≤ RH (wv σ 288) ρ) (hρ1 : RH (wv σ 288) ρ ≤ 20) :
    ∀ (k : Nat) (t : Int), (wv σ 288 1 - t).toNat = k → 0 ≤ t → t ≤ 100000 →
    zwp (zev 208 12 [some (.ref 287), some (.int (Int32.ofInt o)), none, some (.int (Int32.ofInt p)), some (.int (Int32.ofInt r)), some (.int (Int32.ofInt (dry (FL (wv σ 288) (dR σ) ρ) (wv σ 288 1) t + p * RH (wv σ 288) ρ))), some (.int (Int32.ofInt (32 * o))), some (.int (Int32.ofInt (i + 1))), none] [] (zw σ 297 (32 * o + i).toNat (dry (FL (wv σ 288) (dR σ) ρ) (wv σ 288 1) t))) Q →
    zwp (zev 208 95 [some (.ref 287), some (.int (Int32.ofInt o)), none, some (.int (Int32.ofInt p)), some (.int (Int32.ofInt r)), some (.int (Int32.ofInt t)), some (.int (Int32.ofInt (32 * o))), some (.int (Int32.ofInt i)), some (.int (Int32.ofInt ρ))] [] σ) Q
  | k, t, e, t0, t1, K => by
    have s3 : zN σ 288 3 = wv σ 288 3 := rfl
    have s1 : zN σ 288 1 = wv σ 288 1 := rfl
    have h3 := hW.2.2.2.1
    have h4 := hW.2.2.2.2
    have h5 := hW.2.2.1
    rw [dry_eq] at K
    refine zwp_of (fun r h => ze_208_95 _ _ _ _ _ _ _ _ r h) ?_
    rw [sp_205 ρ0 ρ1 t0 (by omega) (by omega) (by omega), zbI_s, s1]
    by_cases q : t < wv σ 288 1 ∧ FL (wv σ 288) (dR σ) ρ t = true
    · rw [if_pos q] at K ⊢
      rw [if_neg (by decide)]
      cases k with
      | zero => omega
      | succ k =>
        simp (disch := first | assumption | exact isR33 | exact isT104 | exact isF99 | exact isF101 | exact isR3 | omega | (refine isTk ?_; omega) | (refine isOk isR33 ?_; omega) | (refine isOk ?_ ?_; assumption; omega)) only [mm_r, mm_rl, mm_add, mm_sub, mm_mul, mm_addJ, mm_mulJ, mm_lt, mm_le, mm_eq, mm_z, mm_cl, mm_w, mm_wl, mm_ite, mm_i2l, mm_l2i, mm_ltJ, mm_leJ, mm_eqJ, mm_clt, mm_cle, mm_cgt, mm_cge, mm_ceq, mm_b, mm_nb, mm_nb0, mm_nb1, mm_vb0, mm_vb1, mm_vbc, mm_vy0, mm_vy1, mm_at, mm_ne, mm_nj, mm_Lw, mm_Nw, mm_atJ, mm_neJ, mm_njJ, zbI_s, zbV_s, zbJ_s, cond_t, Bool.true_and, Bool.and_true, if_true, if_false, not_true, not_false_iff, zel_r, zel_42, zel_12, zel_71, zel_80, zel_89, zel_110, zel_188, zel_103, zel_195, zr_o, zr_1, zr_2, zr_3, zr_4, zr_5, zr_6, zr_7, zr_8, zr_9, zq_o, zq_v, zt_o, zt_1, zt_2, zt_3, zt_4, zt_5, zf_o, zf_1, za_w1, za_w2, za_w3, za_cm, za_sl, Int.toNat_natCast, mm_t0, mm_t1, mm_t2, mm_t3, mm_t4, mm_t5, mm_t6, mm_t7, mm_t8, mm_t9, mm_t10, mm_t11, mm_t12, mm_t13, za_1, za_64, za_65, za_66, za_67, za_68, za_71, za_80, za_89, za_98, za_103, za_110, za_121, za_122, za_123, za_124, za_125, za_126, za_188, za_193, za_194, za_195, za_286, za_288, za_289, za_290, za_291, za_292, za_293, za_294, za_295, za_296, za_297, za_298, za_299, za_300, za_301, za_302, za_303, za_304, za_305, za_306, za_307, za_308, za_309, za_310, za_311, za_312]
        exact lp_208_95 hW o0 o1 p0 p1 r0 r1 i0 i1 ρ0 ρ1 hρ0 hρ1 k (t + 1) (by omega) (by omega) (by omega) K
    · rw [if_neg q] at K ⊢
      rw [if_pos (by decide)]
      simp (disch := first | assumption | exact isR33 | exact isT104 | exact isF99 | exact isF101 | exact isR3 | omega | (refine isTk ?_; omega) | (refine isOk isR33 ?_; omega) | (refine isOk ?_ ?_; assumption; omega)) only [mm_r, mm_rl, mm_add, mm_sub, mm_mul, mm_addJ, mm_mulJ, mm_lt, mm_le, mm_eq, mm_z, mm_cl, mm_w, mm_wl, mm_ite, mm_i2l, mm_l2i, mm_ltJ, mm_leJ, mm_eqJ, mm_clt, mm_cle, mm_cgt, mm_cge, mm_ceq, mm_b, mm_nb, mm_nb0, mm_nb1, mm_vb0, mm_vb1, mm_vbc, mm_vy0, mm_vy1, mm_at, mm_ne, mm_nj, mm_Lw, mm_Nw, mm_atJ, mm_neJ, mm_njJ, zbI_s, zbV_s, zbJ_s, cond_t, Bool.true_and, Bool.and_true, if_true, if_false, not_true, not_false_iff, zel_r, zel_42, zel_12, zel_71, zel_80, zel_89, zel_110, zel_188, zel_103, zel_195, zr_o, zr_1, zr_2, zr_3, zr_4, zr_5, zr_6, zr_7, zr_8, zr_9, zq_o, zq_v, zt_o, zt_1, zt_2, zt_3, zt_4, zt_5, zf_o, zf_1, za_w1, za_w2, za_w3, za_cm, za_sl, Int.toNat_natCast, mm_t0, mm_t1, mm_t2, mm_t3, mm_t4, mm_t5, mm_t6, mm_t7, mm_t8, mm_t9, mm_t10, mm_t11, mm_t12, mm_t13, za_1, za_64, za_65, za_66, za_67, za_68, za_71, za_80, za_89, za_98, za_103, za_110, za_121, za_122, za_123, za_124, za_125, za_126, za_188, za_193, za_194, za_195, za_286, za_288, za_289, za_290, za_291, za_292, za_293, za_294, za_295, za_296, za_297, za_298, za_299, za_300, za_301, za_302, za_303, za_304, za_305, za_306, za_307, za_308, za_309, za_310, za_311, za_312]
      refine zwp_let ?_
      rw [sp_199 ρ0 (by omega), zbI_s]
      have hp := pRH p0 p1 hρ0 hρ1
      have e2 : zN (zw σ 297 (32 * o + i).toNat t) 288 (8 + 3 * ρ + 2).toNat = RH (wv σ 288) ρ := mm_ne (by decide)
      simp (disch := first | assumption | exact isR33 | exact isT104 | exact isF99 | exact isF101 | exact isR3 | omega | (refine isTk ?_; omega) | (refine isOk isR33 ?_; omega) | (refine isOk ?_ ?_; assumption; omega)) only [mm_r, mm_rl, mm_add, mm_sub, mm_mul, mm_addJ, mm_mulJ, mm_lt, mm_le, mm_eq, mm_z, mm_cl, mm_w, mm_wl, mm_ite, mm_i2l, mm_l2i, mm_ltJ, mm_leJ, mm_eqJ, mm_clt, mm_cle, mm_cgt, mm_cge, mm_ceq, mm_b, mm_nb, mm_nb0, mm_nb1, mm_vb0, mm_vb1, mm_vbc, mm_vy0, mm_vy1, mm_at, mm_ne, mm_nj, mm_Lw, mm_Nw, mm_atJ, mm_neJ, mm_njJ, zbI_s, zbV_s, zbJ_s, cond_t, Bool.true_and, Bool.and_true, if_true, if_false, not_true, not_false_iff, zel_r, zel_42, zel_12, zel_71, zel_80, zel_89, zel_110, zel_188, zel_103, zel_195, zr_o, zr_1, zr_2, zr_3, zr_4, zr_5, zr_6, zr_7, zr_8, zr_9, zq_o, zq_v, zt_o, zt_1, zt_2, zt_3, zt_4, zt_5, zf_o, zf_1, za_w1, za_w2, za_w3, za_cm, za_sl, Int.toNat_natCast, mm_t0, mm_t1, mm_t2, mm_t3, mm_t4, mm_t5, mm_t6, mm_t7, mm_t8, mm_t9, mm_t10, mm_t11, mm_t12, mm_t13, za_1, za_64, za_65, za_66, za_67, za_68, za_71, za_80, za_89, za_98, za_103, za_110, za_121, za_122, za_123, za_124, za_125, za_126, za_188, za_193, za_194, za_195, za_286, za_288, za_289, za_290, za_291, za_292, za_293, za_294, za_295, za_296, za_297, za_298, za_299, za_300, za_301, za_302, za_303, za_304, za_305, za_306, za_307, za_308, za_309, za_310, za_311, za_312, e2]
      exact K
/-- when the rider of the seat o is where -/
def tR (σ : zM) (o : Int) (W : Int → Int) (F : Int → Int → Bool) (w : wy) (h p r : Int) (n : Nat) : Prop := (∀ i : Nat, i < n → zN σ 296 (32 * o + i).toNat = tI W F w h p r i) ∧ ∀ i : Nat, i < n → (i : Int) + 1 < w.1 → zN σ 297 (32 * o + i).toNat = tO W F w h p r i
theorem lp_208 {o h p r : Int} {W : Int → Int} {D : Int → Int → Bool} {w : wy} {σ0 : zM} (hW : wRi W) (o0 : 0 ≤ o) (o1 : o < 11) (h0 : 0 ≤ h) (h1 : h ≤ 200) (p0 : 1 ≤ p) (p1 : p ≤ 9) (r0 : 0 ≤ r) (r1 : r ≤ 20) (hw : wyOk W w) (hw1 : w.1 ≤ 32) (hWσ : wv σ0 288 = W) (hDσ : dR σ0 = D) (hRσ : wR σ0 o w) :
    ∀ (k i : Nat) (σ : zM), (i : Int) + k + 1 = w.1 → gF o σ0 σ → tR σ o W (FL W D) w h p r i →
    zwp (zev 208 12 [some (.ref 287), some (.int (Int32.ofInt o)), none, some (.int (Int32.ofInt p)), some (.int (Int32.ofInt r)), some (.int (Int32.ofInt (tI W (FL W D) w h p r i))), some (.int (Int32.ofInt (32 * o))), some (.int (Int32.ofInt i)), none] [] σ) (fun v τ => v = none ∧ gF o σ0 τ ∧ tR τ o W (FL W D) w h p r w.1.toNat ∧ zN τ 299 o.toNat = if tI W (FL W D) w h p r (w.1 - 1).toNat < W 1 then tI W (FL W D) w h p r (w.1 - 1).toNat else -1)
  | k, i, σ, e, hf, hT => by
    have hR := hf.R hRσ
    have hN : zN σ 298 o.toNat = w.1 := hR.1
    have eW := hf.W.trans hWσ
    have eD := hf.D.trans hDσ
    have s1 : zN σ 288 1 = W 1 := by
      have : wv σ 288 1 = W 1 := by rw [eW]
      exact this
    have a := tI_rng hW.1 hW.2.2.1 (F := FL W D) hw h0 h1 p0 p1 r0 r1 i (by omega)
    have b0 := hW.2.1
    have b1 := hW.2.2.1
    have hT' : tR (zw σ 296 (32 * o + i).toNat (tI W (FL W D) w h p r i)) o W (FL W D) w h p r i ∧ zN (zw σ 296 (32 * o + i).toNat (tI W (FL W D) w h p r i)) 296 (32 * o + i).toNat = tI W (FL W D) w h p r i := by
      refine ⟨⟨fun j hj => ?_, fun j hj hj2 => ?_⟩, mm_at rfl rfl (by omega) (by omega)⟩
      · rw [mm_nj (by omega)]
        exact hT.1 j hj
      · rw [mm_ne (by decide)]
        exact hT.2 j hj hj2
    have hf' : gF o σ0 (zw σ 296 (32 * o + i).toNat (tI W (FL W D) w h p r i)) := hf.tr (gF.w6 _ (by omega) (by omega))
    refine zwp_of (fun r h => ze_208_12 _ _ _ _ _ _ _ r h) ?_
    simp (disch := first | assumption | exact isR33 | exact isT104 | exact isF99 | exact isF101 | exact isR3 | omega | (refine isTk ?_; omega) | (refine isOk isR33 ?_; omega) | (refine isOk ?_ ?_; assumption; omega)) only [mm_r, mm_rl, mm_add, mm_sub, mm_mul, mm_addJ, mm_mulJ, mm_lt, mm_le, mm_eq, mm_z, mm_cl, mm_w, mm_wl, mm_ite, mm_i2l, mm_l2i, mm_ltJ, mm_leJ, mm_eqJ, mm_clt, mm_cle, mm_cgt, mm_cge, mm_ceq, mm_b, mm_nb, mm_nb0, mm_nb1, mm_vb0, mm_vb1, mm_vbc, mm_vy0, mm_vy1, mm_at, mm_ne, mm_nj, mm_Lw, mm_Nw, mm_atJ, mm_neJ, mm_njJ, zbI_s, zbV_s, zbJ_s, cond_t, Bool.true_and, Bool.and_true, if_true, if_false, not_true, not_false_iff, zel_r, zel_42, zel_12, zel_71, zel_80, zel_89, zel_110, zel_188, zel_103, zel_195, zr_o, zr_1, zr_2, zr_3, zr_4, zr_5, zr_6, zr_7, zr_8, zr_9, zq_o, zq_v, zt_o, zt_1, zt_2, zt_3, zt_4, zt_5, zf_o, zf_1, za_w1, za_w2, za_w3, za_cm, za_sl, Int.toNat_natCast, mm_t0, mm_t1, mm_t2, mm_t3, mm_t4, mm_t5, mm_t6, mm_t7, mm_t8, mm_t9, mm_t10, mm_t11, mm_t12, mm_t13, za_1, za_64, za_65, za_66, za_67, za_68, za_71, za_80, za_89, za_98, za_103, za_110, za_121, za_122, za_123, za_124, za_125, za_126, za_188, za_193, za_194, za_195, za_286, za_288, za_289, za_290, za_291, za_292, za_293, za_294, za_295, za_296, za_297, za_298, za_299, za_300, za_301, za_302, za_303, za_304, za_305, za_306, za_307, za_308, za_309, za_310, za_311, za_312, hN]
    rw [if_neg (by omega)]
    refine zwp_let ?_
    simp (disch := first | assumption | exact isR33 | exact isT104 | exact isF99 | exact isF101 | exact isR3 | omega | (refine isTk ?_; omega) | (refine isOk isR33 ?_; omega) | (refine isOk ?_ ?_; assumption; omega)) only [mm_r, mm_rl, mm_add, mm_sub, mm_mul, mm_addJ, mm_mulJ, mm_lt, mm_le, mm_eq, mm_z, mm_cl, mm_w, mm_wl, mm_ite, mm_i2l, mm_l2i, mm_ltJ, mm_leJ, mm_eqJ, mm_clt, mm_cle, mm_cgt, mm_cge, mm_ceq, mm_b, mm_nb, mm_nb0, mm_nb1, mm_vb0, mm_vb1, mm_vbc, mm_vy0, mm_vy1, mm_at, mm_ne, mm_nj, mm_Lw, mm_Nw, mm_atJ, mm_neJ, mm_njJ, zbI_s, zbV_s, zbJ_s, cond_t, Bool.true_and, Bool.and_true, if_true, if_false, not_true, not_false_iff, zel_r, zel_42, zel_12, zel_71, zel_80, zel_89, zel_110, zel_188, zel_103, zel_195, zr_o, zr_1, zr_2, zr_3, zr_4, zr_5, zr_6, zr_7, zr_8, zr_9, zq_o, zq_v, zt_o, zt_1, zt_2, zt_3, zt_4, zt_5, zf_o, zf_1, za_w1, za_w2, za_w3, za_cm, za_sl, Int.toNat_natCast, mm_t0, mm_t1, mm_t2, mm_t3, mm_t4, mm_t5, mm_t6, mm_t7, mm_t8, mm_t9, mm_t10, mm_t11, mm_t12, mm_t13, za_1, za_64, za_65, za_66, za_67, za_68, za_71, za_80, za_89, za_98, za_103, za_110, za_121, za_122, za_123, za_124, za_125, za_126, za_188, za_193, za_194, za_195, za_286, za_288, za_289, za_290, za_291, za_292, za_293, za_294, za_295, za_296, za_297, za_298, za_299, za_300, za_301, za_302, za_303, za_304, za_305, za_306, za_307, za_308, za_309, za_310, za_311, za_312, hN]
    cases k with
    | zero =>
      rw [if_neg (by omega)]
      refine zwp_of (fun r h => ze_208_12 _ _ _ _ _ _ _ r h) ?_
      simp (disch := first | assumption | exact isR33 | exact isT104 | exact isF99 | exact isF101 | exact isR3 | omega | (refine isTk ?_; omega) | (refine isOk isR33 ?_; omega) | (refine isOk ?_ ?_; assumption; omega)) only [mm_r, mm_rl, mm_add, mm_sub, mm_mul, mm_addJ, mm_mulJ, mm_lt, mm_le, mm_eq, mm_z, mm_cl, mm_w, mm_wl, mm_ite, mm_i2l, mm_l2i, mm_ltJ, mm_leJ, mm_eqJ, mm_clt, mm_cle, mm_cgt, mm_cge, mm_ceq, mm_b, mm_nb, mm_nb0, mm_nb1, mm_vb0, mm_vb1, mm_vbc, mm_vy0, mm_vy1, mm_at, mm_ne, mm_nj, mm_Lw, mm_Nw, mm_atJ, mm_neJ, mm_njJ, zbI_s, zbV_s, zbJ_s, cond_t, Bool.true_and, Bool.and_true, if_true, if_false, not_true, not_false_iff, zel_r, zel_42, zel_12, zel_71, zel_80, zel_89, zel_110, zel_188, zel_103, zel_195, zr_o, zr_1, zr_2, zr_3, zr_4, zr_5, zr_6, zr_7, zr_8, zr_9, zq_o, zq_v, zt_o, zt_1, zt_2, zt_3, zt_4, zt_5, zf_o, zf_1, za_w1, za_w2, za_w3, za_cm, za_sl, Int.toNat_natCast, mm_t0, mm_t1, mm_t2, mm_t3, mm_t4, mm_t5, mm_t6, mm_t7, mm_t8, mm_t9, mm_t10, mm_t11, mm_t12, mm_t13, za_1, za_64, za_65, za_66, za_67, za_68, za_71, za_80, za_89, za_98, za_103, za_110, za_121, za_122, za_123, za_124, za_125, za_126, za_188, za_193, za_194, za_195, za_286, za_288, za_289, za_290, za_291, za_292, za_293, za_294, za_295, za_296, za_297, za_298, za_299, za_300, za_301, za_302, za_303, za_304, za_305, za_306, za_307, za_308, za_309, za_310, za_311, za_312, hN, s1]
      rw [if_pos (by omega)]
      have hfin : ∀ v, tR (zw (zw σ 296 (32 * o + i).toNat (tI W (FL W D) w h p r i)) 299 o.toNat v) o W (FL W D) w h p r w.1.toNat := by
        intro v
        refine ⟨fun j hj => ?_, fun j hj hj2 => ?_⟩
        · rw [mm_ne (by decide)]
          by_cases ej : j = i
          · rw [ej]
            exact hT'.2
          · exact hT'.1.1 j (by omega)
        · rw [mm_ne (by decide)]
          exact hT'.1.2 j (by omega) hj2
      have ei : (w.1 - 1).toNat = i := by omega
      rw [ei]
      split
      · next q =>
        refine zwp_let (zwp_ret ⟨rfl, hf'.tr (gF.w9 _ (by omega)), hfin _, ?_⟩)
        rw [mm_at rfl rfl (by omega) (by omega), if_neg (by omega)]
      · next q =>
        refine zwp_let (zwp_ret ⟨rfl, hf'.tr (gF.w9 _ (by omega)), hfin _, ?_⟩)
        rw [mm_at rfl rfl (by omega) (by omega), if_pos (by omega)]
    | succ k =>
      have hr := hw.rd hW.1 (i := i) (by omega)
      have eW' := hf'.W.trans hWσ
      have eD' := hf'.D.trans hDσ
      have c1 : zN σ 295 (32 * o + i).toNat = w.2 i := hR.2 i (by omega) (by omega)
      have c2 : zN σ 295 (32 * o + i + 1).toNat = w.2 ((i : Int) + 1) := by
        rw [show 32 * o + (i : Int) + 1 = 32 * o + (i + 1) by omega]
        exact hR.2 _ (by omega) (by omega)
      have c3 := hw.2.1 i (by omega) (by omega)
      have c4 := hw.2.1 ((i : Int) + 1) (by omega) (by omega)
      have c5 := hW.1.2.1
      have n2 : zN (zw σ 296 (32 * o + i).toNat (tI W (FL W D) w h p r i)) 288 2 = W 2 := by
        have : wv (zw σ 296 (32 * o + i).toNat (tI W (FL W D) w h p r i)) 288 2 = W 2 := by rw [eW']
        exact this
      have n3 := hW.1.2.2.1
      have n4 := hW.1.2.2.2.1
      have hp := pRH p0 p1 hr.2.2.2.1 hr.2.2.2.2
      have hgo : zwp (zev 208 95 [some (.ref 287), some (.int (Int32.ofInt o)), none, some (.int (Int32.ofInt p)), some (.int (Int32.ofInt r)), some (.int (Int32.ofInt (tI W (FL W D) w h p r i + (if i = 0 then 0 else r)))), some (.int (Int32.ofInt (32 * o))), some (.int (Int32.ofInt i)), some (.int (Int32.ofInt (rdw W w i)))] [] (zw σ 296 (32 * o + i).toNat (tI W (FL W D) w h p r i))) (fun v τ => v = none ∧ gF o σ0 τ ∧ tR τ o W (FL W D) w h p r w.1.toNat ∧ zN τ 299 o.toNat = if tI W (FL W D) w h p r (w.1 - 1).toNat < W 1 then tI W (FL W D) w h p r (w.1 - 1).toNat else -1) := by
        refine lp_208_95 (by rw [eW']; exact hW) o0 o1 p0 p1 r0 r1 (by omega) (by omega) hr.1 hr.2.2.1 (by rw [eW']; exact hr.2.2.2.1) (by rw [eW']; exact hr.2.2.2.2) _ _ rfl (by split <;> omega) (by split <;> omega) ?_
        rw [eW', eD']
        have b := tO_rng hW.1 hW.2.2.1 (F := FL W D) hw h0 h1 p0 p1 r0 r1 (i := i) (by omega)
        refine lp_208 hW o0 o1 h0 h1 p0 p1 r0 r1 hw hw1 hWσ hDσ hRσ k (i + 1) (zw (zw σ 296 (32 * o + i).toNat (tI W (FL W D) w h p r i)) 297 (32 * o + i).toNat (tO W (FL W D) w h p r i)) (by omega) (hf'.tr (gF.w7 _ (by omega) (by omega))) ⟨fun j hj => ?_, fun j hj hj2 => ?_⟩
        · rw [mm_ne (by decide)]
          by_cases ej : j = i
          · rw [ej]
            exact hT'.2
          · exact hT'.1.1 j (by omega)
        · by_cases ej : j = i
          · rw [ej, mm_at rfl rfl (by omega) (by omega)]
          · rw [mm_nj (by omega)]
            exact hT'.1.2 j (by omega) hj2
      rw [if_pos (by omega)]
      by_cases q : i = 0
      · rw [if_neg (by omega), c1, c2, sp_198 (by omega) (by omega) (by omega) (by omega) (by omega) (by omega), zbI_s, eW']
        rw [if_pos q] at hgo
        exact hgo
      · rw [if_pos (by omega), c1, c2, sp_198 (by omega) (by omega) (by omega) (by omega) (by omega) (by omega), zbI_s, eW']
        rw [if_neg q] at hgo
        exact hgo
theorem sp_208 {o h p r : Int} {W : Int → Int} {D : Int → Int → Bool} {w : wy} {σ : zM} (hW : wRi W) (o0 : 0 ≤ o) (o1 : o < 11) (h0 : 0 ≤ h) (h1 : h ≤ 200) (p0 : 1 ≤ p) (p1 : p ≤ 9) (r0 : 0 ≤ r) (r1 : r ≤ 20) (hw : wyOk W w) (hw0 : 0 < w.1) (hw1 : w.1 ≤ 32) (hWσ : wv σ 288 = W) (hDσ : dR σ = D) (hRσ : wR σ o w) :
    zwp (zcall 208 [.ref 287, .int (Int32.ofInt o), .int (Int32.ofInt h), .int (Int32.ofInt p), .int (Int32.ofInt r)] σ) (fun v τ => v = none ∧ gF o σ τ ∧ tR τ o W (FL W D) w h p r w.1.toNat ∧ zN τ 299 o.toNat = if tI W (FL W D) w h p r (w.1 - 1).toNat < W 1 then tI W (FL W D) w h p r (w.1 - 1).toNat else -1) := by
  refine zwp_of (fun r h => zcc_208 (ze_208_0 _ _ _ _ _ r h)) ?_
  simp (disch := first | assumption | exact isR33 | exact isT104 | exact isF99 | exact isF101 | exact isR3 | omega | (refine isTk ?_; omega) | (refine isOk isR33 ?_; omega) | (refine isOk ?_ ?_; assumption; omega)) only [mm_r, mm_rl, mm_add, mm_sub, mm_mul, mm_addJ, mm_mulJ, mm_lt, mm_le, mm_eq, mm_z, mm_cl, mm_w, mm_wl, mm_ite, mm_i2l, mm_l2i, mm_ltJ, mm_leJ, mm_eqJ, mm_clt, mm_cle, mm_cgt, mm_cge, mm_ceq, mm_b, mm_nb, mm_nb0, mm_nb1, mm_vb0, mm_vb1, mm_vbc, mm_vy0, mm_vy1, mm_at, mm_ne, mm_nj, mm_Lw, mm_Nw, mm_atJ, mm_neJ, mm_njJ, zbI_s, zbV_s, zbJ_s, cond_t, Bool.true_and, Bool.and_true, if_true, if_false, not_true, not_false_iff, zel_r, zel_42, zel_12, zel_71, zel_80, zel_89, zel_110, zel_188, zel_103, zel_195, zr_o, zr_1, zr_2, zr_3, zr_4, zr_5, zr_6, zr_7, zr_8, zr_9, zq_o, zq_v, zt_o, zt_1, zt_2, zt_3, zt_4, zt_5, zf_o, zf_1, za_w1, za_w2, za_w3, za_cm, za_sl, Int.toNat_natCast, mm_t0, mm_t1, mm_t2, mm_t3, mm_t4, mm_t5, mm_t6, mm_t7, mm_t8, mm_t9, mm_t10, mm_t11, mm_t12, mm_t13, za_1, za_64, za_65, za_66, za_67, za_68, za_71, za_80, za_89, za_98, za_103, za_110, za_121, za_122, za_123, za_124, za_125, za_126, za_188, za_193, za_194, za_195, za_286, za_288, za_289, za_290, za_291, za_292, za_293, za_294, za_295, za_296, za_297, za_298, za_299, za_300, za_301, za_302, za_303, za_304, za_305, za_306, za_307, za_308, za_309, za_310, za_311, za_312]
  exact lp_208 hW o0 o1 h0 h1 p0 p1 r0 r1 hw hw1 hWσ hDσ hRσ (w.1 - 1).toNat 0 σ (by omega) gF.rf ⟨fun j hj => absurd hj (by omega), fun j hj => absurd hj (by omega)⟩
/-! an order's way and coming, in numbers -/
def wayV (W : Int → Int) (fr : Int) (v : Int → Int) : Nat → wy
  | 0 => (1, fun _ => fr)
  | k + 1 => lead W (v k) 8 (wayV W fr v k)
def way (W : Int → Int) (fr : Int) (v : Int → Int) (n : Nat) (to : Int) : wy := lead W to 8 (wayV W fr v n)
def WAY (W : Int → Int) (o : Int) : wy := way W (oo W o 4) (fun k => oo W o (8 + k)) (oo W o 7).toNat (oo W o 5)
/-- as another rider (p, r) or at another hour -/
def CMw (W : Int → Int) (F : Int → Int → Bool) (w : wy) (h p r : Int) : Int := if w.1 = 0 then -1 else if tI W F w h p r (w.1 - 1).toNat < W 1 then tI W F w h p r (w.1 - 1).toNat else -1
def pac (W : Int → Int) (o : Int) : Int := W (68 + 2 * oo W o 0)
def res (W : Int → Int) (o : Int) : Int := W (68 + 2 * oo W o 0 + 1)
def CM (W : Int → Int) (D : Int → Int → Bool) (o : Int) : Int := CMw W (FL W D) (WAY W o) (oo W o 6) (pac W o) (res W o)
/-- an order as rides need it -/
def oOk (W : Int → Int) (o : Int) : Prop := 0 ≤ oo W o 4 ∧ oo W o 4 < W 0 ∧ 0 ≤ oo W o 5 ∧ oo W o 5 < W 0 ∧ 0 ≤ oo W o 7 ∧ oo W o 7 ≤ 3 ∧ (∀ i, 0 ≤ i → i < oo W o 7 → 0 ≤ oo W o (8 + i) ∧ oo W o (8 + i) < W 0) ∧ 0 ≤ oo W o 6 ∧ oo W o 6 ≤ 200 ∧ 0 ≤ oo W o 0 ∧ oo W o 0 < 6 ∧ 1 ≤ pac W o ∧ pac W o ≤ 9 ∧ 0 ≤ res W o ∧ res W o ≤ 20
/-- a way is none, or as it may stand, with few towns -/
def wyN (W : Int → Int) (n : Int) (w : wy) : Prop := w.1 = 0 ∨ 0 < w.1 ∧ w.1 ≤ n ∧ wyOk W w
theorem lead_N {W : Int → Int} (hW : wRd W) {g n : Int} {w : wy} (g0 : 0 ≤ g) (g1 : g < W 0) (h : wyN W n w) : wyN W (n + 7) (lead W g 8 w) ∧ ((lead W g 8 w).1 ≠ 0 → lastT (lead W g 8 w) = g) ∧ (w.1 ≠ 0 → ((lead W g 8 w).1 = 0 ↔ 1000000 ≤ DD W (lastT w) g)) := by
  rcases h with h | ⟨h0, h1, h2⟩
  · rw [lead_z (by omega)]
    exact ⟨.inl h, fun q => absurd h q, fun q => absurd h q⟩
  · have ht := h2.2.1 (w.1 - 1) (by omega) (by omega)
    change 0 ≤ lastT w ∧ lastT w < W 0 at ht
    have h8 := hW.2.1
    have hrk := rk_rng hW (a := lastT w) (b := g) ht.1 ht.2
    by_cases q : DD W (lastT w) g < 1000000
    · have lo := lead_ok hW g0 g1 8 w h2 h0 (by omega) q
      exact ⟨.inr ⟨by omega, by omega, lo.1⟩, fun _ => lo.2.1, fun _ => ⟨fun _ => by omega, fun _ => by omega⟩⟩
    · have hne : lastT w ≠ g := fun e => by
        rw [e, DD_self hW g0 g1] at q
        omega
      have ln := lead_no (W := W) (g := g) 7 h0 hne (by omega)
      exact ⟨.inl ln, fun p => absurd ln p, fun _ => ⟨fun _ => by omega, fun _ => ln⟩⟩
theorem wayV_N {W : Int → Int} (hW : wRd W) {fr : Int} {v : Int → Int} (f0 : 0 ≤ fr) (f1 : fr < W 0) : ∀ n : Nat, (∀ i : Int, 0 ≤ i → i < n → 0 ≤ v i ∧ v i < W 0) → wyN W (1 + 7 * n) (wayV W fr v n)
  | 0, _ => .inr ⟨by show (0 : Int) < 1; decide, by show (1 : Int) ≤ _; omega, by show (0 : Int) ≤ 1; decide, fun i _ _ => ⟨f0, f1⟩, fun i i0 i1 => by have i1 : i + 1 < 1 := i1; omega⟩
  | n + 1, hv => by
    have ih := wayV_N hW f0 f1 n (fun i i0 i1 => hv i i0 (by omega))
    have hn := hv n (by omega) (by omega)
    have := (lead_N hW hn.1 hn.2 ih).1
    rw [show (1 : Int) + 7 * (n + 1 : Nat) = 1 + 7 * n + 7 by omega]
    exact this
theorem WAY_N {W : Int → Int} (hW : wRd W) {o : Int} (ho : oOk W o) : wyN W 29 (WAY W o) ∧ ((WAY W o).1 ≠ 0 → lastT (WAY W o) = oo W o 5) := by
  obtain ⟨a1, a2, a3, a4, a5, a6, a7, -⟩ := ho
  have h := wayV_N hW (v := fun k => oo W o (8 + k)) a1 a2 (oo W o 7).toNat (fun i i0 i1 => a7 i i0 (by omega))
  have l := lead_N hW a3 a4 h
  refine ⟨?_, l.2.1⟩
  rcases l.1 with q | ⟨q1, q2, q3⟩
  · exact .inl q
  · change (WAY W o).1 ≤ _ at q2
    exact .inr ⟨q1, by omega, q3⟩
