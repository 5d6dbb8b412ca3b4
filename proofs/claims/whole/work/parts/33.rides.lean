/-! RIDES: how long a flood is waited for, when a rider comes where -/
def dryf (w : Int → Bool) (H : Int) : Nat → Int → Int
  | 0, h => h
  | k + 1, h => if w h = true then dryf w H k (h + 1) else h
def dry (w : Int → Bool) (H h : Int) : Int := dryf w H (H - h).toNat h
theorem dry_eq (w : Int → Bool) (H h : Int) : dry w H h = if h < H ∧ w h = true then dry w H (h + 1) else h := by
  unfold dry
  by_cases q : h < H
  · rw [show (H - h).toNat = (H - (h + 1)).toNat + 1 by omega, dryf]
    by_cases q2 : w h = true
    · rw [if_pos q2, if_pos ⟨q, q2⟩]
    · rw [if_neg q2, if_neg (fun p => q2 p.2)]
  · rw [show (H - h).toNat = 0 by omega, dryf, if_neg (fun p => q p.1)]
theorem dryf_rng (w : Int → Bool) (H : Int) : ∀ (k : Nat) (h : Int), h ≤ dryf w H k h ∧ dryf w H k h ≤ h + k
  | 0, h => ⟨Int.le_refl _, by show h ≤ _; omega⟩
  | k + 1, h => by
    have := dryf_rng w H k (h + 1)
    rw [dryf]
    split <;> omega
theorem dry_rng {w : Int → Bool} {H h : Int} (h0 : 0 ≤ h) (hH : H ≤ 99) : h ≤ dry w H h ∧ dry w H h ≤ h + 99 := by
  have := dryf_rng w H (H - h).toNat h
  unfold dry
  omega
def oo (W : Int → Int) (o k : Int) : Int := W (80 + 14 * o + k)
def rdw (W : Int → Int) (w : wy) (i : Nat) : Int := RD W (w.2 i) (w.2 ((i : Int) + 1))
/-- F: which road is in flood when; sent at h, pace p, rests r: when he comes to town i, when he sets out from it -/
def tI (W : Int → Int) (F : Int → Int → Bool) (w : wy) (h p r : Int) : Nat → Int
  | 0 => h
  | i + 1 => dry (F (rdw W w i)) (W 1) (tI W F w h p r i + (if i = 0 then 0 else r)) + p * RH W (rdw W w i)
def tO (W : Int → Int) (F : Int → Int → Bool) (w : wy) (h p r : Int) (i : Nat) : Int := dry (F (rdw W w i)) (W 1) (tI W F w h p r i + (if i = 0 then 0 else r))
theorem tI_s (W : Int → Int) (F : Int → Int → Bool) (w : wy) (h p r : Int) (i : Nat) : tI W F w h p r (i + 1) = tO W F w h p r i + p * RH W (rdw W w i) := rfl
theorem pRH {p x : Int} (p0 : 1 ≤ p) (p1 : p ≤ 9) (x0 : 1 ≤ x) (x1 : x ≤ 20) : 1 ≤ p * x ∧ p * x ≤ 180 := by
  constructor
  · have := Int.mul_le_mul p0 x0 (by decide) (by omega)
    omega
  · have := Int.mul_le_mul p1 x1 (by omega) (by decide)
    omega
theorem wyOk.rd {W : Int → Int} (hW : wRd W) {w : wy} (h : wyOk W w) {i : Nat} (hi : (i : Int) + 1 < w.1) : 0 ≤ rdw W w i ∧ rdw W w i < W 2 ∧ rdw W w i < 12 ∧ 1 ≤ RH W (rdw W w i) ∧ RH W (rdw W w i) ≤ 20 := by
  have := RD_ok hW (h.2.2 i (by omega) hi)
  have h2 := hW.2.2.2.1
  unfold rdw
  omega
theorem tI_rng {W : Int → Int} (hW : wRd W) (hH : W 1 ≤ 99) {F : Int → Int → Bool} {w : wy} (hw : wyOk W w) {h p r : Int} (h0 : 0 ≤ h) (h1 : h ≤ 200) (p0 : 1 ≤ p) (p1 : p ≤ 9) (r0 : 0 ≤ r) (r1 : r ≤ 20) : ∀ i : Nat, (i : Int) < w.1 → h ≤ tI W F w h p r i ∧ tI W F w h p r i ≤ 200 + 299 * i
  | 0, _ => by
    show h ≤ h ∧ h ≤ _
    omega
  | i + 1, hi => by
    have ih := tI_rng hW hH (F := F) hw h0 h1 p0 p1 r0 r1 i (by omega)
    have hr := hw.rd hW (i := i) (by omega)
    have hp := pRH p0 p1 hr.2.2.2.1 hr.2.2.2.2
    rw [tI]
    have hd := dry_rng (w := F (rdw W w i)) (H := W 1) (h := tI W F w h p r i + (if i = 0 then 0 else r)) (by split <;> omega) hH
    have hx : 0 ≤ (if i = 0 then (0 : Int) else r) ∧ (if i = 0 then (0 : Int) else r) ≤ 20 := by split <;> omega
    generalize (if i = 0 then (0 : Int) else r) = x at hd hx ⊢
    omega
theorem tO_rng {W : Int → Int} (hW : wRd W) (hH : W 1 ≤ 99) {F : Int → Int → Bool} {w : wy} (hw : wyOk W w) {h p r : Int} (h0 : 0 ≤ h) (h1 : h ≤ 200) (p0 : 1 ≤ p) (p1 : p ≤ 9) (r0 : 0 ≤ r) (r1 : r ≤ 20) {i : Nat} (hi : (i : Int) + 1 < w.1) : tI W F w h p r i ≤ tO W F w h p r i ∧ tO W F w h p r i ≤ 500 + 299 * i := by
  have a := tI_rng hW hH (F := F) hw h0 h1 p0 p1 r0 r1 i (by omega)
  unfold tO
  have hd := dry_rng (w := F (rdw W w i)) (H := W 1) (h := tI W F w h p r i + (if i = 0 then 0 else r)) (by split <;> omega) hH
  have hx : 0 ≤ (if i = 0 then (0 : Int) else r) ∧ (if i = 0 then (0 : Int) else r) ≤ 20 := by split <;> omega
  generalize (if i = 0 then (0 : Int) else r) = x at hd hx ⊢
  omega
/-- which road is in flood when: told, or drawn -/
def FL (W : Int → Int) (D : Int → Int → Bool) (r h : Int) : Bool := D r h || zany (fun f => decide (W (44 + 3 * f) = r ∧ W (44 + 3 * f + 1) ≤ h ∧ h ≤ W (44 + 3 * f + 2))) (W 3).toNat
/-- what the reference has drawn -/
def dR (σ : zM) (r h : Int) : Bool := decide (zN σ 287 24 ≠ 0 ∧ zN σ 301 r.toNat ≤ h ∧ h ≤ zN σ 302 r.toNat)
theorem lp_205 {x h : Int} {σ : zM} {n : Nat} (A : Bool) (hx0 : -2147483648 ≤ x) (hx1 : x < 2147483648) (hh0 : -2147483648 ≤ h) (hh1 : h < 2147483648) (hn : zN σ 288 3 = n) (h8 : n ≤ 8) : ∀ (k i : Nat) (b : Bool), i + k = n → b = (A || zany (fun f => decide (wv σ 288 (44 + 3 * f) = x ∧ wv σ 288 (44 + 3 * f + 1) ≤ h ∧ h ≤ wv σ 288 (44 + 3 * f + 2))) i) → zev 205 50 [some (.ref 287), some (.int (Int32.ofInt x)), some (.int (Int32.ofInt h)), some (.int (Int32.ofInt (if b = true then 1 else 0))), some (.int (Int32.ofInt i))] [] σ = some (some (.int (Int32.ofInt (if (A || zany (fun f => decide (wv σ 288 (44 + 3 * f) = x ∧ wv σ 288 (44 + 3 * f + 1) ≤ h ∧ h ≤ wv σ 288 (44 + 3 * f + 2))) n) = true then 1 else 0))), σ)
  | 0, i, b, e, hb => by
    obtain rfl : i = n := by omega
    refine ze_205_50 _ _ _ _ _ _ ?_
    simp (disch := first | assumption | exact isR33 | exact isT104 | exact isF99 | exact isF101 | exact isR3 | omega | (refine isTk ?_; omega) | (refine isOk isR33 ?_; omega) | (refine isOk ?_ ?_; assumption; omega)) only [mm_r, mm_rl, mm_add, mm_sub, mm_mul, mm_addJ, mm_mulJ, mm_lt, mm_le, mm_eq, mm_z, mm_cl, mm_w, mm_wl, mm_ite, mm_i2l, mm_l2i, mm_ltJ, mm_leJ, mm_eqJ, mm_clt, mm_cle, mm_cgt, mm_cge, mm_ceq, mm_b, mm_nb, mm_nb0, mm_nb1, mm_vb0, mm_vb1, mm_vbc, mm_vy0, mm_vy1, mm_at, mm_ne, mm_nj, mm_Lw, mm_Nw, mm_atJ, mm_neJ, mm_njJ, zbI_s, zbV_s, zbJ_s, cond_t, Bool.true_and, Bool.and_true, if_true, if_false, not_true, not_false_iff, zel_r, zel_42, zel_12, zel_71, zel_80, zel_89, zel_110, zel_188, zel_103, zel_195, zr_o, zr_1, zr_2, zr_3, zr_4, zr_5, zr_6, zr_7, zr_8, zr_9, zq_o, zq_v, zt_o, zt_1, zt_2, zt_3, zt_4, zt_5, zf_o, zf_1, za_w1, za_w2, za_w3, za_cm, za_sl, Int.toNat_natCast, mm_t0, mm_t1, mm_t2, mm_t3, mm_t4, mm_t5, mm_t6, mm_t7, mm_t8, mm_t9, mm_t10, mm_t11, mm_t12, mm_t13, za_1, za_64, za_65, za_66, za_67, za_68, za_71, za_80, za_89, za_98, za_103, za_110, za_121, za_122, za_123, za_124, za_125, za_126, za_188, za_193, za_194, za_195, za_286, za_288, za_289, za_290, za_291, za_292, za_293, za_294, za_295, za_296, za_297, za_298, za_299, za_300, za_301, za_302, za_303, za_304, za_305, za_306, za_307, za_308, za_309, za_310, za_311, za_312]
    rw [if_pos (by omega), hb]
  | k + 1, i, b, e, hb => by
    have ih := lp_205 A hx0 hx1 hh0 hh1 hn h8 k (i + 1)
    have b1 := mm_lo σ 288 (44 + 3 * (i : Int)).toNat
    have b2 := mm_hi σ 288 (44 + 3 * (i : Int)).toNat
    have b3 := mm_lo σ 288 (44 + 3 * (i : Int) + 1).toNat
    have b4 := mm_hi σ 288 (44 + 3 * (i : Int) + 1).toNat
    have b5 := mm_lo σ 288 (44 + 3 * (i : Int) + 2).toNat
    have b6 := mm_hi σ 288 (44 + 3 * (i : Int) + 2).toNat
    have ez : zany (fun f => decide (wv σ 288 (44 + 3 * f) = x ∧ wv σ 288 (44 + 3 * f + 1) ≤ h ∧ h ≤ wv σ 288 (44 + 3 * f + 2))) (i + 1) = (zany (fun f => decide (wv σ 288 (44 + 3 * f) = x ∧ wv σ 288 (44 + 3 * f + 1) ≤ h ∧ h ≤ wv σ 288 (44 + 3 * f + 2))) i || decide (zN σ 288 (44 + 3 * (i : Int)).toNat = x ∧ zN σ 288 (44 + 3 * (i : Int) + 1).toNat ≤ h ∧ h ≤ zN σ 288 (44 + 3 * (i : Int) + 2).toNat)) := rfl
    rw [ez, ← Bool.or_assoc, ← hb] at ih
    refine ze_205_50 _ _ _ _ _ _ ?_
    cases b with
    | true =>
      simp (disch := first | assumption | exact isR33 | exact isT104 | exact isF99 | exact isF101 | exact isR3 | omega | (refine isTk ?_; omega) | (refine isOk isR33 ?_; omega) | (refine isOk ?_ ?_; assumption; omega)) only [mm_r, mm_rl, mm_add, mm_sub, mm_mul, mm_addJ, mm_mulJ, mm_lt, mm_le, mm_eq, mm_z, mm_cl, mm_w, mm_wl, mm_ite, mm_i2l, mm_l2i, mm_ltJ, mm_leJ, mm_eqJ, mm_clt, mm_cle, mm_cgt, mm_cge, mm_ceq, mm_b, mm_nb, mm_nb0, mm_nb1, mm_vb0, mm_vb1, mm_vbc, mm_vy0, mm_vy1, mm_at, mm_ne, mm_nj, mm_Lw, mm_Nw, mm_atJ, mm_neJ, mm_njJ, zbI_s, zbV_s, zbJ_s, cond_t, Bool.true_and, Bool.and_true, if_true, if_false, not_true, not_false_iff, zel_r, zel_42, zel_12, zel_71, zel_80, zel_89, zel_110, zel_188, zel_103, zel_195, zr_o, zr_1, zr_2, zr_3, zr_4, zr_5, zr_6, zr_7, zr_8, zr_9, zq_o, zq_v, zt_o, zt_1, zt_2, zt_3, zt_4, zt_5, zf_o, zf_1, za_w1, za_w2, za_w3, za_cm, za_sl, Int.toNat_natCast, mm_t0, mm_t1, mm_t2, mm_t3, mm_t4, mm_t5, mm_t6, mm_t7, mm_t8, mm_t9, mm_t10, mm_t11, mm_t12, mm_t13, za_1, za_64, za_65, za_66, za_67, za_68, za_71, za_80, za_89, za_98, za_103, za_110, za_121, za_122, za_123, za_124, za_125, za_126, za_188, za_193, za_194, za_195, za_286, za_288, za_289, za_290, za_291, za_292, za_293, za_294, za_295, za_296, za_297, za_298, za_299, za_300, za_301, za_302, za_303, za_304, za_305, za_306, za_307, za_308, za_309, za_310, za_311, za_312]
      rw [if_neg (by omega), if_pos (by decide)]
      exact ih true (by omega) (by rw [Bool.true_or])
    | false =>
      have i0 := ih false (by omega)
      have i1 := ih true (by omega)
      rw [Bool.false_or] at i0 i1
      simp only [Bool.false_eq_true, if_false]
      simp (disch := first | assumption | exact isR33 | exact isT104 | exact isF99 | exact isF101 | exact isR3 | omega | (refine isTk ?_; omega) | (refine isOk isR33 ?_; omega) | (refine isOk ?_ ?_; assumption; omega)) only [mm_r, mm_rl, mm_add, mm_sub, mm_mul, mm_addJ, mm_mulJ, mm_lt, mm_le, mm_eq, mm_z, mm_cl, mm_w, mm_wl, mm_ite, mm_i2l, mm_l2i, mm_ltJ, mm_leJ, mm_eqJ, mm_clt, mm_cle, mm_cgt, mm_cge, mm_ceq, mm_b, mm_nb, mm_nb0, mm_nb1, mm_vb0, mm_vb1, mm_vbc, mm_vy0, mm_vy1, mm_at, mm_ne, mm_nj, mm_Lw, mm_Nw, mm_atJ, mm_neJ, mm_njJ, zbI_s, zbV_s, zbJ_s, cond_t, Bool.true_and, Bool.and_true, if_true, if_false, not_true, not_false_iff, zel_r, zel_42, zel_12, zel_71, zel_80, zel_89, zel_110, zel_188, zel_103, zel_195, zr_o, zr_1, zr_2, zr_3, zr_4, zr_5, zr_6, zr_7, zr_8, zr_9, zq_o, zq_v, zt_o, zt_1, zt_2, zt_3, zt_4, zt_5, zf_o, zf_1, za_w1, za_w2, za_w3, za_cm, za_sl, Int.toNat_natCast, mm_t0, mm_t1, mm_t2, mm_t3, mm_t4, mm_t5, mm_t6, mm_t7, mm_t8, mm_t9, mm_t10, mm_t11, mm_t12, mm_t13, za_1, za_64, za_65, za_66, za_67, za_68, za_71, za_80, za_89, za_98, za_103, za_110, za_121, za_122, za_123, za_124, za_125, za_126, za_188, za_193, za_194, za_195, za_286, za_288, za_289, za_290, za_291, za_292, za_293, za_294, za_295, za_296, za_297, za_298, za_299, za_300, za_301, za_302, za_303, za_304, za_305, za_306, za_307, za_308, za_309, za_310, za_311, za_312]
      rw [if_neg (by omega)]
      split
      · next q => exact i0 (decide_eq_false (fun p => q p.1)).symm
      · next q =>
        rw [sp_163 (by omega) (by omega) (by omega) (by omega) (by omega) (by omega), zbI_s]
        simp (disch := first | assumption | exact isR33 | exact isT104 | exact isF99 | exact isF101 | exact isR3 | omega | (refine isTk ?_; omega) | (refine isOk isR33 ?_; omega) | (refine isOk ?_ ?_; assumption; omega)) only [mm_r, mm_rl, mm_add, mm_sub, mm_mul, mm_addJ, mm_mulJ, mm_lt, mm_le, mm_eq, mm_z, mm_cl, mm_w, mm_wl, mm_ite, mm_i2l, mm_l2i, mm_ltJ, mm_leJ, mm_eqJ, mm_clt, mm_cle, mm_cgt, mm_cge, mm_ceq, mm_b, mm_nb, mm_nb0, mm_nb1, mm_vb0, mm_vb1, mm_vbc, mm_vy0, mm_vy1, mm_at, mm_ne, mm_nj, mm_Lw, mm_Nw, mm_atJ, mm_neJ, mm_njJ, zbI_s, zbV_s, zbJ_s, cond_t, Bool.true_and, Bool.and_true, if_true, if_false, not_true, not_false_iff, zel_r, zel_42, zel_12, zel_71, zel_80, zel_89, zel_110, zel_188, zel_103, zel_195, zr_o, zr_1, zr_2, zr_3, zr_4, zr_5, zr_6, zr_7, zr_8, zr_9, zq_o, zq_v, zt_o, zt_1, zt_2, zt_3, zt_4, zt_5, zf_o, zf_1, za_w1, za_w2, za_w3, za_cm, za_sl, Int.toNat_natCast, mm_t0, mm_t1, mm_t2, mm_t3, mm_t4, mm_t5, mm_t6, mm_t7, mm_t8, mm_t9, mm_t10, mm_t11, mm_t12, mm_t13, za_1, za_64, za_65, za_66, za_67, za_68, za_71, za_80, za_89, za_98, za_103, za_110, za_121, za_122, za_123, za_124, za_125, za_126, za_188, za_193, za_194, za_195, za_286, za_288, za_289, za_290, za_291, za_292, za_293, za_294, za_295, za_296, za_297, za_298, za_299, za_300, za_301, za_302, za_303, za_304, za_305, za_306, za_307, za_308, za_309, za_310, za_311, za_312]
        split
        · next q2 => exact i0 (decide_eq_false (fun p => q2 p.2)).symm
        · next q2 => exact i1 (decide_eq_true ⟨Decidable.not_not.mp q, Decidable.not_not.mp q2⟩).symm
theorem sp_205 {x h : Int} {σ : zM} (hx0 : 0 ≤ x) (hx1 : x < 12) (hh0 : 0 ≤ h) (hh1 : h < 2147483648) (h0 : 0 ≤ zN σ 288 3) (h8 : zN σ 288 3 ≤ 8) : zcall 205 [.ref 287, .int (Int32.ofInt x), .int (Int32.ofInt h)] σ = some (some (.int (Int32.ofInt (if h < zN σ 288 1 ∧ FL (wv σ 288) (dR σ) x h = true then 1 else 0))), σ) := by
  have b1 := mm_lo σ 301 x.toNat
  have b2 := mm_hi σ 301 x.toNat
  have b3 := mm_lo σ 302 x.toNat
  have b4 := mm_hi σ 302 x.toNat
  have b5 := mm_lo σ 287 24
  have b6 := mm_hi σ 287 24
  have b7 := mm_lo σ 288 1
  have b8 := mm_hi σ 288 1
  have hl := fun A b => lp_205 (x := x) (h := h) (σ := σ) (n := (zN σ 288 3).toNat) A (by omega) (by omega) (by omega) (by omega) (by omega) (by omega) (zN σ 288 3).toNat 0 b (by omega)
  have e0 : ∀ P : Int → Bool, zany P 0 = false := fun _ => rfl
  simp only [e0, Bool.or_false] at hl
  have hl2 : ∀ A : Bool, A = dR σ x h → h < zN σ 288 1 → zev 205 50 [some (.ref 287), some (.int (Int32.ofInt x)), some (.int (Int32.ofInt h)), some (.int (Int32.ofInt (if A = true then 1 else 0))), some (.int (Int32.ofInt 0))] [] σ = some (some (.int (Int32.ofInt (if h < zN σ 288 1 ∧ FL (wv σ 288) (dR σ) x h = true then 1 else 0))), σ) := by
    intro A hA q
    have := hl A A rfl
    rw [hA] at this ⊢
    refine Eq.trans this ?_
    have e3 : (h < zN σ 288 1 ∧ FL (wv σ 288) (dR σ) x h = true) ↔ FL (wv σ 288) (dR σ) x h = true := ⟨fun p => p.2, fun p => ⟨q, p⟩⟩
    simp only [e3]
    rfl
  refine zcc_205 (ze_205_0 _ _ _ _ ?_)
  simp (disch := first | assumption | exact isR33 | exact isT104 | exact isF99 | exact isF101 | exact isR3 | omega | (refine isTk ?_; omega) | (refine isOk isR33 ?_; omega) | (refine isOk ?_ ?_; assumption; omega)) only [mm_r, mm_rl, mm_add, mm_sub, mm_mul, mm_addJ, mm_mulJ, mm_lt, mm_le, mm_eq, mm_z, mm_cl, mm_w, mm_wl, mm_ite, mm_i2l, mm_l2i, mm_ltJ, mm_leJ, mm_eqJ, mm_clt, mm_cle, mm_cgt, mm_cge, mm_ceq, mm_b, mm_nb, mm_nb0, mm_nb1, mm_vb0, mm_vb1, mm_vbc, mm_vy0, mm_vy1, mm_at, mm_ne, mm_nj, mm_Lw, mm_Nw, mm_atJ, mm_neJ, mm_njJ, zbI_s, zbV_s, zbJ_s, cond_t, Bool.true_and, Bool.and_true, if_true, if_false, not_true, not_false_iff, zel_r, zel_42, zel_12, zel_71, zel_80, zel_89, zel_110, zel_188, zel_103, zel_195, zr_o, zr_1, zr_2, zr_3, zr_4, zr_5, zr_6, zr_7, zr_8, zr_9, zq_o, zq_v, zt_o, zt_1, zt_2, zt_3, zt_4, zt_5, zf_o, zf_1, za_w1, za_w2, za_w3, za_cm, za_sl, Int.toNat_natCast, mm_t0, mm_t1, mm_t2, mm_t3, mm_t4, mm_t5, mm_t6, mm_t7, mm_t8, mm_t9, mm_t10, mm_t11, mm_t12, mm_t13, za_1, za_64, za_65, za_66, za_67, za_68, za_71, za_80, za_89, za_98, za_103, za_110, za_121, za_122, za_123, za_124, za_125, za_126, za_188, za_193, za_194, za_195, za_286, za_288, za_289, za_290, za_291, za_292, za_293, za_294, za_295, za_296, za_297, za_298, za_299, za_300, za_301, za_302, za_303, za_304, za_305, za_306, za_307, za_308, za_309, za_310, za_311, za_312]
  by_cases q : h < zN σ 288 1
  · rw [if_pos q]
    by_cases q2 : zN σ 287 24 = 0
    · rw [if_pos q2]
      exact hl2 false (decide_eq_false (fun p => p.1 q2)).symm q
    · rw [if_neg q2, sp_163 (by omega) (by omega) (by omega) (by omega) (by omega) (by omega), zbI_s]
      simp (disch := first | assumption | exact isR33 | exact isT104 | exact isF99 | exact isF101 | exact isR3 | omega | (refine isTk ?_; omega) | (refine isOk isR33 ?_; omega) | (refine isOk ?_ ?_; assumption; omega)) only [mm_r, mm_rl, mm_add, mm_sub, mm_mul, mm_addJ, mm_mulJ, mm_lt, mm_le, mm_eq, mm_z, mm_cl, mm_w, mm_wl, mm_ite, mm_i2l, mm_l2i, mm_ltJ, mm_leJ, mm_eqJ, mm_clt, mm_cle, mm_cgt, mm_cge, mm_ceq, mm_b, mm_nb, mm_nb0, mm_nb1, mm_vb0, mm_vb1, mm_vbc, mm_vy0, mm_vy1, mm_at, mm_ne, mm_nj, mm_Lw, mm_Nw, mm_atJ, mm_neJ, mm_njJ, zbI_s, zbV_s, zbJ_s, cond_t, Bool.true_and, Bool.and_true, if_true, if_false, not_true, not_false_iff, zel_r, zel_42, zel_12, zel_71, zel_80, zel_89, zel_110, zel_188, zel_103, zel_195, zr_o, zr_1, zr_2, zr_3, zr_4, zr_5, zr_6, zr_7, zr_8, zr_9, zq_o, zq_v, zt_o, zt_1, zt_2, zt_3, zt_4, zt_5, zf_o, zf_1, za_w1, za_w2, za_w3, za_cm, za_sl, Int.toNat_natCast, mm_t0, mm_t1, mm_t2, mm_t3, mm_t4, mm_t5, mm_t6, mm_t7, mm_t8, mm_t9, mm_t10, mm_t11, mm_t12, mm_t13, za_1, za_64, za_65, za_66, za_67, za_68, za_71, za_80, za_89, za_98, za_103, za_110, za_121, za_122, za_123, za_124, za_125, za_126, za_188, za_193, za_194, za_195, za_286, za_288, za_289, za_290, za_291, za_292, za_293, za_294, za_295, za_296, za_297, za_298, za_299, za_300, za_301, za_302, za_303, za_304, za_305, za_306, za_307, za_308, za_309, za_310, za_311, za_312]
      split
      · next q3 => exact hl2 false (decide_eq_false (fun p => q3 p.2)).symm q
      · next q3 => exact hl2 true (decide_eq_true ⟨q2, Decidable.not_not.mp q3⟩).symm q
  · rw [if_neg q, if_neg (fun p => q p.1)]
