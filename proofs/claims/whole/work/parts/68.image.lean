/-! CALLS: image, restore: the reference -/
abbrev isIm (k : Int) : Prop := 0 ≤ k ∧ k ≤ 2
def imA (σ : zM) (k : Int) : Int → Int := fun j => if j.toNat < 220 then zN σ 289 (220 * k.toNat + j.toNat) else 0
def w220 (W : Int → Int) : Prop := ∀ j : Int, 220 ≤ j → W j = 0
def Eim (k : Int) : Int := if isIm k then 0 else -2
theorem lp_164 {σ0 : zM} {v : Int} (v0 : 0 ≤ v) (v1 : v ≤ 2) : ∀ (k x : Nat) (σ : zM), x + k = 220 → mf (fun b => b = 289) σ0 σ → (∀ i : Nat, zN σ 289 i = if 220 * v.toNat ≤ i ∧ i < 220 * v.toNat + x then zN σ0 288 (i - 220 * v.toNat) else zN σ0 289 i) → zwp (zev 164 17 [some (.ref 287), some (.int (Int32.ofInt v)), some (.int (Int32.ofInt x))] [] σ) (fun u τ => u = some (.int (Int32.ofInt 0)) ∧ mf (fun b => b = 289 ∨ b = 290) σ0 τ ∧ (∀ k : Nat, zN τ 290 k = if k = v.toNat then 1 else zN σ0 290 k) ∧ ∀ i : Nat, zN τ 289 i = if 220 * v.toNat ≤ i ∧ i < 220 * v.toNat + 220 then zN σ0 288 (i - 220 * v.toNat) else zN σ0 289 i)
  | 0, x, σ, e, hf, hz => by
    obtain rfl : x = 220 := by omega
    refine zwp_of (fun r h => ze_164_17 _ _ _ r h) ?_
    refine zwp_t (by decide) ?_
    refine zwp_cd (za_290 (by omega) (by omega)) ?_
    rw [mm_cl (by omega) (by omega), mm_vb1, mm_w]
    refine zwp_let (zwp_ret ⟨rfl, (hf.mono (fun b hb => .inl hb)).zw 290 _ _ (.inr rfl), fun k => ?_, fun i => ?_⟩)
    · by_cases q : k = v.toNat
      · rw [if_pos q]
        exact mm_at rfl q (by decide) (by decide)
      · rw [if_neg q, mm_nj q]
        exact hf.1 290 (by omega) k
    · rw [mm_ne (by decide)]
      exact hz i
  | k + 1, x, σ, e, hf, hz => by
    have m1 := mm_lo σ 288 x
    have m2 := mm_hi σ 288 x
    refine zwp_of (fun r h => ze_164_17 _ _ _ r h) ?_
    refine zwp_f (by try simp (disch := first | assumption | exact isR33 | exact isT104 | exact isF99 | exact isF101 | exact isR3 | omega | (refine isTk ?_; omega) | (refine isOk isR33 ?_; omega) | (refine isOk ?_ ?_; assumption; omega)) only [mm_r, mm_rl, mm_add, mm_sub, mm_mul, mm_addJ, mm_mulJ, mm_lt, mm_le, mm_eq, mm_z, mm_cl, mm_w, mm_wl, mm_ite, mm_i2l, mm_l2i, mm_ltJ, mm_leJ, mm_eqJ, mm_clt, mm_cle, mm_cgt, mm_cge, mm_ceq, mm_b, mm_nb, mm_nb0, mm_nb1, mm_vb0, mm_vb1, mm_vbc, mm_vy0, mm_vy1, mm_at, mm_ne, mm_nj, mm_Lw, mm_Nw, mm_atJ, mm_neJ, mm_njJ, zbI_s, zbV_s, zbJ_s, cond_t, Bool.true_and, Bool.and_true, if_true, if_false, not_true, not_false_iff, Classical.not_not, zel_r, zel_42, zel_12, zel_71, zel_80, zel_89, zel_110, zel_188, zel_103, zel_195, zr_o, zr_1, zr_2, zr_3, zr_4, zr_5, zr_6, zr_7, zr_8, zr_9, zq_o, zq_v, zt_o, zt_1, zt_2, zt_3, zt_4, zt_5, zf_o, zf_1, za_w1, za_w2, za_w3, za_cm, za_sl, Int.toNat_natCast, Int.toNat_natCast_add_one, mm_t0, mm_t1, mm_t2, mm_t3, mm_t4, mm_t5, mm_t6, mm_t7, mm_t8, mm_t9, mm_t10, mm_t11, mm_t12, mm_t13, za_1, za_64, za_65, za_66, za_67, za_68, za_71, za_80, za_89, za_98, za_103, za_110, za_121, za_122, za_123, za_124, za_125, za_126, za_188, za_193, za_194, za_195, za_286, za_288, za_289, za_290, za_291, za_292, za_293, za_294, za_295, za_296, za_297, za_298, za_299, za_300, za_301, za_302, za_303, za_304, za_305, za_306, za_307, za_308, za_309, za_310, za_311, za_312]; first | done | omega) ?_
    refine zwp_cd (za_288 (by omega) (by omega)) ?_
    rw [mm_mul, mm_add]
    refine zwp_cd (za_289 (by omega) (by omega)) ?_
    rw [mm_cl (by omega) (by omega), mm_cl (by omega) (by omega), Int.toNat_natCast, mm_r, mm_w, mm_add]
    refine zwp_let ?_
    refine lp_164 v0 v1 k (x + 1) _ (by omega) (hf.zw 289 _ _ rfl) (fun i => ?_)
    by_cases q : i = (220 * v + x).toNat
    · rw [mm_at rfl q (by omega) (by omega), if_pos (by omega), hf.1 288 (by omega), show i - 220 * v.toNat = x by omega]
    · rw [mm_nj q, hz i]
      by_cases w : 220 * v.toNat ≤ i ∧ i < 220 * v.toNat + x
      · rw [if_pos w, if_pos (by omega)]
      · rw [if_neg w, if_neg (by omega)]
theorem rq_image {σ : zM} {W : Int → Int} {v : Int} (hw : wv σ 288 = W) (h2 : w220 W) (v0 : -2147483648 ≤ v) (v1 : v < 2147483648) : zwp (zcall 164 [.ref 287, .int (Int32.ofInt v)] σ) (fun u τ => u = some (.int (Int32.ofInt (Eim v))) ∧ mf (fun b => b = 289 ∨ b = 290) σ τ ∧ (isIm v → (∀ k : Nat, zN τ 290 k = if k = v.toNat then 1 else zN σ 290 k) ∧ imA τ v = W ∧ ∀ k : Int, 0 ≤ k → k ≠ v → imA τ k = imA σ k) ∧ (¬ isIm v → τ = σ)) := by
  have s := sp_163 (v := v) (a := 0) (b := 2) (σ := σ) (by omega) (by omega) (by omega) (by omega) (by omega) (by omega)
  refine zwp_of (fun r h => zcc_164 (ze_164_0 _ _ r h)) ?_
  rw [mm_i2l v0 v1, s, zbI_s]
  by_cases q : isIm v
  · rw [show Eim v = 0 from if_pos q, if_pos q]
    refine zwp_t (by decide) ?_
    refine zwp_mono (lp_164 (σ0 := σ) q.1 q.2 220 0 σ (by omega) mf.rf (fun i => by rw [if_neg (by omega)])) ?_
    rintro u τ ⟨rfl, hf, h9, hz⟩
    refine ⟨rfl, hf, fun _ => ⟨h9, ?_, fun k k0 kn => ?_⟩, fun p => absurd q p⟩
    · funext j
      show (if j.toNat < 220 then zN τ 289 (220 * v.toNat + j.toNat) else 0) = W j
      by_cases p : j.toNat < 220
      · rw [if_pos p, hz, if_pos (by omega), show 220 * v.toNat + j.toNat - 220 * v.toNat = j.toNat by omega, ← hw]
        rfl
      · rw [if_neg p, h2 j (by omega)]
    · funext j
      show (if j.toNat < 220 then zN τ 289 (220 * k.toNat + j.toNat) else 0) = if j.toNat < 220 then zN σ 289 (220 * k.toNat + j.toNat) else 0
      by_cases p : j.toNat < 220
      · rw [if_pos p, if_pos p, hz, if_neg (by omega)]
      · rw [if_neg p, if_neg p]
  · rw [show Eim v = -2 from if_neg q, if_neg q]
    refine zwp_f (by decide) ?_
    exact zwp_ret ⟨rfl, mf.rf, fun p => absurd p q, fun _ => rfl⟩
theorem lp_165 {σ0 : zM} {v : Int} (v0 : 0 ≤ v) (v1 : v ≤ 2) : ∀ (k x : Nat) (σ : zM), x + k = 220 → mf (fun b => b = 288) σ0 σ → (∀ i : Nat, zN σ 288 i = if i < x then zN σ0 289 (220 * v.toNat + i) else zN σ0 288 i) → zwp (zev 165 29 [some (.ref 287), some (.int (Int32.ofInt v)), some (.int (Int32.ofInt x))] [] σ) (fun u τ => u = some (.int (Int32.ofInt 0)) ∧ mf (fun b => b = 288) σ0 τ ∧ ∀ i : Nat, zN τ 288 i = if i < 220 then zN σ0 289 (220 * v.toNat + i) else zN σ0 288 i)
  | 0, x, σ, e, hf, hz => by
    obtain rfl : x = 220 := by omega
    refine zwp_of (fun r h => ze_165_29 _ _ _ r h) ?_
    refine zwp_t (by decide) ?_
    exact zwp_ret ⟨rfl, hf, hz⟩
  | k + 1, x, σ, e, hf, hz => by
    have m1 := mm_lo σ 289 (220 * v + x).toNat
    have m2 := mm_hi σ 289 (220 * v + x).toNat
    refine zwp_of (fun r h => ze_165_29 _ _ _ r h) ?_
    refine zwp_f (by try simp (disch := first | assumption | exact isR33 | exact isT104 | exact isF99 | exact isF101 | exact isR3 | omega | (refine isTk ?_; omega) | (refine isOk isR33 ?_; omega) | (refine isOk ?_ ?_; assumption; omega)) only [mm_r, mm_rl, mm_add, mm_sub, mm_mul, mm_addJ, mm_mulJ, mm_lt, mm_le, mm_eq, mm_z, mm_cl, mm_w, mm_wl, mm_ite, mm_i2l, mm_l2i, mm_ltJ, mm_leJ, mm_eqJ, mm_clt, mm_cle, mm_cgt, mm_cge, mm_ceq, mm_b, mm_nb, mm_nb0, mm_nb1, mm_vb0, mm_vb1, mm_vbc, mm_vy0, mm_vy1, mm_at, mm_ne, mm_nj, mm_Lw, mm_Nw, mm_atJ, mm_neJ, mm_njJ, zbI_s, zbV_s, zbJ_s, cond_t, Bool.true_and, Bool.and_true, if_true, if_false, not_true, not_false_iff, Classical.not_not, zel_r, zel_42, zel_12, zel_71, zel_80, zel_89, zel_110, zel_188, zel_103, zel_195, zr_o, zr_1, zr_2, zr_3, zr_4, zr_5, zr_6, zr_7, zr_8, zr_9, zq_o, zq_v, zt_o, zt_1, zt_2, zt_3, zt_4, zt_5, zf_o, zf_1, za_w1, za_w2, za_w3, za_cm, za_sl, Int.toNat_natCast, Int.toNat_natCast_add_one, mm_t0, mm_t1, mm_t2, mm_t3, mm_t4, mm_t5, mm_t6, mm_t7, mm_t8, mm_t9, mm_t10, mm_t11, mm_t12, mm_t13, za_1, za_64, za_65, za_66, za_67, za_68, za_71, za_80, za_89, za_98, za_103, za_110, za_121, za_122, za_123, za_124, za_125, za_126, za_188, za_193, za_194, za_195, za_286, za_288, za_289, za_290, za_291, za_292, za_293, za_294, za_295, za_296, za_297, za_298, za_299, za_300, za_301, za_302, za_303, za_304, za_305, za_306, za_307, za_308, za_309, za_310, za_311, za_312]; first | done | omega) ?_
    rw [mm_mul, mm_add]
    refine zwp_cd (za_289 (by omega) (by omega)) (zwp_cd (za_288 (by omega) (by omega)) ?_)
    rw [mm_cl (by omega) (by omega), mm_cl (by omega) (by omega), Int.toNat_natCast, mm_r, mm_w, mm_add]
    refine zwp_let ?_
    refine lp_165 v0 v1 k (x + 1) _ (by omega) (hf.zw 288 _ _ rfl) (fun i => ?_)
    by_cases q : i = x
    · rw [mm_at rfl q (by omega) (by omega), if_pos (by omega), hf.1 289 (by omega), show 220 * v.toNat + i = (220 * v + x).toNat by omega]
    · rw [mm_nj q, hz i]
      by_cases w : i < x
      · rw [if_pos w, if_pos (by omega)]
      · rw [if_neg w, if_neg (by omega)]
def Ere (σ : zM) (v : Int) : Int := if isIm v then (if zN σ 290 v.toNat = 0 then -6 else 0) else -2
theorem rq_restore {σ : zM} {W : Int → Int} {v : Int} (hw : wv σ 288 = W) (h2 : w220 W) (v0 : -2147483648 ≤ v) (v1 : v < 2147483648) : zwp (zcall 165 [.ref 287, .int (Int32.ofInt v)] σ) (fun u τ => u = some (.int (Int32.ofInt (Ere σ v))) ∧ mf (fun b => b = 288) σ τ ∧ wv τ 288 = if isIm v ∧ zN σ 290 v.toNat ≠ 0 then imA σ v else W) := by
  have s := sp_163 (v := v) (a := 0) (b := 2) (σ := σ) (by omega) (by omega) (by omega) (by omega) (by omega) (by omega)
  refine zwp_of (fun r h => zcc_165 (ze_165_0 _ _ r h)) ?_
  rw [mm_i2l v0 v1, s, zbI_s]
  by_cases q : isIm v
  · rw [if_pos q]
    refine zwp_t (by decide) ?_
    refine zwp_cd (za_290 (by omega) (by omega)) ?_
    have m1 := mm_lo σ 290 v.toNat
    have m2 := mm_hi σ 290 v.toNat
    by_cases q2 : zN σ 290 v.toNat = 0
    · rw [show Ere σ v = -6 from (if_pos q).trans (if_pos q2)]
      refine zwp_f (by try simp (disch := first | assumption | exact isR33 | exact isT104 | exact isF99 | exact isF101 | exact isR3 | omega | (refine isTk ?_; omega) | (refine isOk isR33 ?_; omega) | (refine isOk ?_ ?_; assumption; omega)) only [mm_r, mm_rl, mm_add, mm_sub, mm_mul, mm_addJ, mm_mulJ, mm_lt, mm_le, mm_eq, mm_z, mm_cl, mm_w, mm_wl, mm_ite, mm_i2l, mm_l2i, mm_ltJ, mm_leJ, mm_eqJ, mm_clt, mm_cle, mm_cgt, mm_cge, mm_ceq, mm_b, mm_nb, mm_nb0, mm_nb1, mm_vb0, mm_vb1, mm_vbc, mm_vy0, mm_vy1, mm_at, mm_ne, mm_nj, mm_Lw, mm_Nw, mm_atJ, mm_neJ, mm_njJ, zbI_s, zbV_s, zbJ_s, cond_t, Bool.true_and, Bool.and_true, if_true, if_false, not_true, not_false_iff, Classical.not_not, zel_r, zel_42, zel_12, zel_71, zel_80, zel_89, zel_110, zel_188, zel_103, zel_195, zr_o, zr_1, zr_2, zr_3, zr_4, zr_5, zr_6, zr_7, zr_8, zr_9, zq_o, zq_v, zt_o, zt_1, zt_2, zt_3, zt_4, zt_5, zf_o, zf_1, za_w1, za_w2, za_w3, za_cm, za_sl, Int.toNat_natCast, Int.toNat_natCast_add_one, mm_t0, mm_t1, mm_t2, mm_t3, mm_t4, mm_t5, mm_t6, mm_t7, mm_t8, mm_t9, mm_t10, mm_t11, mm_t12, mm_t13, za_1, za_64, za_65, za_66, za_67, za_68, za_71, za_80, za_89, za_98, za_103, za_110, za_121, za_122, za_123, za_124, za_125, za_126, za_188, za_193, za_194, za_195, za_286, za_288, za_289, za_290, za_291, za_292, za_293, za_294, za_295, za_296, za_297, za_298, za_299, za_300, za_301, za_302, za_303, za_304, za_305, za_306, za_307, za_308, za_309, za_310, za_311, za_312, q2]; first | done | omega) ?_
      exact zwp_ret ⟨rfl, mf.rf, by rw [if_neg (fun p => p.2 q2), hw]⟩
    · rw [show Ere σ v = 0 from (if_pos q).trans (if_neg q2)]
      refine zwp_t (by try simp (disch := first | assumption | exact isR33 | exact isT104 | exact isF99 | exact isF101 | exact isR3 | omega | (refine isTk ?_; omega) | (refine isOk isR33 ?_; omega) | (refine isOk ?_ ?_; assumption; omega)) only [mm_r, mm_rl, mm_add, mm_sub, mm_mul, mm_addJ, mm_mulJ, mm_lt, mm_le, mm_eq, mm_z, mm_cl, mm_w, mm_wl, mm_ite, mm_i2l, mm_l2i, mm_ltJ, mm_leJ, mm_eqJ, mm_clt, mm_cle, mm_cgt, mm_cge, mm_ceq, mm_b, mm_nb, mm_nb0, mm_nb1, mm_vb0, mm_vb1, mm_vbc, mm_vy0, mm_vy1, mm_at, mm_ne, mm_nj, mm_Lw, mm_Nw, mm_atJ, mm_neJ, mm_njJ, zbI_s, zbV_s, zbJ_s, cond_t, Bool.true_and, Bool.and_true, if_true, if_false, not_true, not_false_iff, Classical.not_not, zel_r, zel_42, zel_12, zel_71, zel_80, zel_89, zel_110, zel_188, zel_103, zel_195, zr_o, zr_1, zr_2, zr_3, zr_4, zr_5, zr_6, zr_7, zr_8, zr_9, zq_o, zq_v, zt_o, zt_1, zt_2, zt_3, zt_4, zt_5, zf_o, zf_1, za_w1, za_w2, za_w3, za_cm, za_sl, Int.toNat_natCast, Int.toNat_natCast_add_one, mm_t0, mm_t1, mm_t2, mm_t3, mm_t4, mm_t5, mm_t6, mm_t7, mm_t8, mm_t9, mm_t10, mm_t11, mm_t12, mm_t13, za_1, za_64, za_65, za_66, za_67, za_68, za_71, za_80, za_89, za_98, za_103, za_110, za_121, za_122, za_123, za_124, za_125, za_126, za_188, za_193, za_194, za_195, za_286, za_288, za_289, za_290, za_291, za_292, za_293, za_294, za_295, za_296, za_297, za_298, za_299, za_300, za_301, za_302, za_303, za_304, za_305, za_306, za_307, za_308, za_309, za_310, za_311, za_312]; first | done | omega) ?_
      refine zwp_mono (lp_165 (σ0 := σ) q.1 q.2 220 0 σ (by omega) mf.rf (fun i => by rw [if_neg (by omega)])) ?_
      rintro u τ ⟨rfl, hf, hz⟩
      refine ⟨rfl, hf, ?_⟩
      rw [if_pos ⟨q, q2⟩]
      funext j
      show zN τ 288 j.toNat = if j.toNat < 220 then zN σ 289 (220 * v.toNat + j.toNat) else 0
      rw [hz]
      by_cases p : j.toNat < 220
      · rw [if_pos p, if_pos p]
      · rw [if_neg p, if_neg p]
        have := h2 j (by omega)
        rw [← hw] at this
        exact this
  · rw [show Ere σ v = -2 from if_neg q, if_neg q]
    refine zwp_f (by decide) ?_
    exact zwp_ret ⟨rfl, mf.rf, by rw [if_neg (fun p => q p.1), hw]⟩
