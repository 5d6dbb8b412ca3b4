/-! FLOODS: the class's; years drawn -/
def cO (σ : zM) (q : Nat) (W : Int → Int) (o : Int) : Prop := zN σ q 0 = oo W o 0 ∧ zN σ q 1 = oo W o 1 ∧ zN σ q 2 = oo W o 2 ∧ zN σ q 3 = oo W o 3 ∧ zN σ q 4 = oo W o 4 ∧ zN σ q 5 = oo W o 5 ∧ zN σ q 6 = oo W o 6 ∧ zN σ q 7 = oo W o 7 ∧ (∀ v, 0 ≤ v → v < oo W o 7 → zN σ (q + 1) v.toNat = oo W o (8 + v)) ∧ zN σ q 9 = (if oo W o 11 = -1 then 0 else 1) ∧ (oo W o 11 ≠ -1 → zN σ q 10 = oo W o 11 ∧ zN σ q 11 = oo W o 12 ∧ zN σ q 12 = oo W o 13)
/-- the class's Realm at p tells W -/
def cL (σ : zM) (p : Nat) (W : Int → Int) : Prop := (zN σ p 0 = W 6 ∧ zN σ p 1 = W 0 ∧ zN σ p 2 = W 1 ∧ zN σ p 3 = W 7 ∧ zN σ p 4 = W 2 ∧ zN σ p 5 = W 3 ∧ zN σ p 6 = W 4 ∧ zN σ p 7 = W 5) ∧ (∀ r, 0 ≤ r → r < W 2 → zN σ (p + 1) r.toNat = W (8 + 3 * r) ∧ zN σ (p + 2) r.toNat = W (8 + 3 * r + 1) ∧ zN σ (p + 3) r.toNat = W (8 + 3 * r + 2)) ∧ (∀ f, 0 ≤ f → f < W 3 → zN σ (p + 4) f.toNat = W (44 + 3 * f) ∧ zN σ (p + 5) f.toNat = W (44 + 3 * f + 1) ∧ zN σ (p + 6) f.toNat = W (44 + 3 * f + 2)) ∧ (∀ i, 0 ≤ i → i < W 4 → zN σ (p + 7) i.toNat = W (68 + 2 * i) ∧ zN σ (p + 8) i.toNat = W (68 + 2 * i + 1)) ∧ ∀ o, 0 ≤ o → o < W 5 → cO σ (p + 10 + 2 * o.toNat) W o
theorem cO.fr {σ τ : zM} {q : Nat} {W : Int → Int} {o : Int} (h : cO σ q W o) (h0 : ∀ k, zN τ q k = zN σ q k) (h1 : ∀ k, zN τ (q + 1) k = zN σ (q + 1) k) : cO τ q W o := by
  unfold cO at h ⊢
  simp only [h0, h1]
  exact h
theorem cL.fr {σ τ : zM} {p : Nat} {W : Int → Int} (h : cL σ p W) (h5 : W 5 ≤ 10) (hf : ∀ a, p ≤ a → a < p + 30 → ∀ k, zN τ a k = zN σ a k) : cL τ p W := by
  obtain ⟨h1, h2, h3, h4, h6⟩ := h
  have e0 := hf p (by omega) (by omega)
  have e1 := hf (p + 1) (by omega) (by omega)
  have e2 := hf (p + 2) (by omega) (by omega)
  have e3 := hf (p + 3) (by omega) (by omega)
  have e4 := hf (p + 4) (by omega) (by omega)
  have e5 := hf (p + 5) (by omega) (by omega)
  have e6 := hf (p + 6) (by omega) (by omega)
  have e7 := hf (p + 7) (by omega) (by omega)
  have e8 := hf (p + 8) (by omega) (by omega)
  unfold cL
  simp only [e0, e1, e2, e3, e4, e5, e6, e7, e8]
  exact ⟨h1, h2, h3, h4, fun o o0 o1 => (h6 o o0 o1).fr (hf _ (by omega) (by omega)) (hf _ (by omega) (by omega))⟩
/-- the class's Floods at p: H hours, F says which road is in flood when -/
def flC (σ : zM) (p : Nat) (H : Int) (F : Int → Int → Bool) : Prop := zN σ p 1 = H ∧ ∀ r h, 0 ≤ r → r < 12 → 0 ≤ h → h < H → zN σ (p + 1) (r * 99 + h).toNat = if F r h = true then 1 else 0
theorem flC.fr {σ τ : zM} {p : Nat} {H : Int} {F : Int → Int → Bool} (h : flC σ p H F) (h0 : ∀ k, zN τ p k = zN σ p k) (h1 : ∀ k, zN τ (p + 1) k = zN σ (p + 1) k) : flC τ p H F := ⟨(h0 1).trans h.1, fun r x r0 r1 x0 x1 => (h1 _).trans (h.2 r x r0 r1 x0 x1)⟩
theorem flC.eq {σ : zM} {p : Nat} {H : Int} {F G : Int → Int → Bool} (h : flC σ p H F) (hg : ∀ r h, 0 ≤ r → r < 12 → 0 ≤ h → h < H → F r h = G r h) : flC σ p H G := ⟨h.1, fun r x r0 r1 x0 x1 => by rw [← hg r x r0 r1 x0 x1]; exact h.2 r x r0 r1 x0 x1⟩
theorem lp_46 {p : Nat} {r H : Int} {F : Int → Int → Bool} {σ : zM} (hp : isFl p) (hF : flC σ p H F) (H1 : H ≤ 99) (r0 : 0 ≤ r) (r1 : r < 12) : ∀ (k : Nat) (h : Int), (H - h).toNat = k → 0 ≤ h → h ≤ 1000000 → zev 46 2 [some (.ref p), some (.int (Int32.ofInt r)), none, some (.int (Int32.ofInt h))] [] σ = some (some (.int (Int32.ofInt (dry (F r) H h))), σ)
  | k, h, e, h0, h1 => by
    have hH := hF.1
    have b1 := mm_lo σ p 1
    rw [dry_eq]
    refine ze_46_2 _ _ _ _ _ ?_
    simp (disch := first | assumption | exact isR33 | exact isT104 | exact isF99 | exact isF101 | exact isR3 | omega | (refine isTk ?_; omega) | (refine isOk isR33 ?_; omega) | (refine isOk ?_ ?_; assumption; omega)) only [mm_r, mm_rl, mm_add, mm_sub, mm_mul, mm_addJ, mm_mulJ, mm_lt, mm_le, mm_eq, mm_z, mm_cl, mm_w, mm_wl, mm_ite, mm_i2l, mm_l2i, mm_ltJ, mm_leJ, mm_eqJ, mm_clt, mm_cle, mm_cgt, mm_cge, mm_ceq, mm_b, mm_nb, mm_nb0, mm_nb1, mm_vb0, mm_vb1, mm_vbc, mm_vy0, mm_vy1, mm_at, mm_ne, mm_nj, mm_Lw, mm_Nw, mm_atJ, mm_neJ, mm_njJ, zbI_s, zbV_s, zbJ_s, cond_t, Bool.true_and, Bool.and_true, if_true, if_false, not_true, not_false_iff, zel_r, zel_42, zel_12, zel_71, zel_80, zel_89, zel_110, zel_188, zel_103, zel_195, zr_o, zr_1, zr_2, zr_3, zr_4, zr_5, zr_6, zr_7, zr_8, zr_9, zq_o, zq_v, zt_o, zt_1, zt_2, zt_3, zt_4, zt_5, zf_o, zf_1, za_w1, za_w2, za_w3, za_cm, za_sl, Int.toNat_natCast, mm_t0, mm_t1, mm_t2, mm_t3, mm_t4, mm_t5, mm_t6, mm_t7, mm_t8, mm_t9, mm_t10, mm_t11, mm_t12, mm_t13, za_1, za_64, za_65, za_66, za_67, za_68, za_71, za_80, za_89, za_98, za_103, za_110, za_121, za_122, za_123, za_124, za_125, za_126, za_188, za_193, za_194, za_195, za_286, za_288, za_289, za_290, za_291, za_292, za_293, za_294, za_295, za_296, za_297, za_298, za_299, za_300, za_301, za_302, za_303, za_304, za_305, za_306, za_307, za_308, za_309, za_310, za_311, za_312, hH]
    by_cases q : H ≤ h
    · rw [if_pos q, if_neg (by omega)]
    · rw [if_neg q]
      have hv := hF.2 r h r0 r1 h0 (by omega)
      by_cases q2 : F r h = true
      · rw [if_pos q2] at hv
        simp (disch := first | assumption | exact isR33 | exact isT104 | exact isF99 | exact isF101 | exact isR3 | omega | (refine isTk ?_; omega) | (refine isOk isR33 ?_; omega) | (refine isOk ?_ ?_; assumption; omega)) only [mm_r, mm_rl, mm_add, mm_sub, mm_mul, mm_addJ, mm_mulJ, mm_lt, mm_le, mm_eq, mm_z, mm_cl, mm_w, mm_wl, mm_ite, mm_i2l, mm_l2i, mm_ltJ, mm_leJ, mm_eqJ, mm_clt, mm_cle, mm_cgt, mm_cge, mm_ceq, mm_b, mm_nb, mm_nb0, mm_nb1, mm_vb0, mm_vb1, mm_vbc, mm_vy0, mm_vy1, mm_at, mm_ne, mm_nj, mm_Lw, mm_Nw, mm_atJ, mm_neJ, mm_njJ, zbI_s, zbV_s, zbJ_s, cond_t, Bool.true_and, Bool.and_true, if_true, if_false, not_true, not_false_iff, zel_r, zel_42, zel_12, zel_71, zel_80, zel_89, zel_110, zel_188, zel_103, zel_195, zr_o, zr_1, zr_2, zr_3, zr_4, zr_5, zr_6, zr_7, zr_8, zr_9, zq_o, zq_v, zt_o, zt_1, zt_2, zt_3, zt_4, zt_5, zf_o, zf_1, za_w1, za_w2, za_w3, za_cm, za_sl, Int.toNat_natCast, mm_t0, mm_t1, mm_t2, mm_t3, mm_t4, mm_t5, mm_t6, mm_t7, mm_t8, mm_t9, mm_t10, mm_t11, mm_t12, mm_t13, za_1, za_64, za_65, za_66, za_67, za_68, za_71, za_80, za_89, za_98, za_103, za_110, za_121, za_122, za_123, za_124, za_125, za_126, za_188, za_193, za_194, za_195, za_286, za_288, za_289, za_290, za_291, za_292, za_293, za_294, za_295, za_296, za_297, za_298, za_299, za_300, za_301, za_302, za_303, za_304, za_305, za_306, za_307, za_308, za_309, za_310, za_311, za_312, hv]
        rw [if_neg (by decide), if_pos ⟨by omega, q2⟩]
        cases k with
        | zero => omega
        | succ k => exact lp_46 hp hF H1 r0 r1 k (h + 1) (by omega) (by omega) (by omega)
      · rw [if_neg q2] at hv
        simp (disch := first | assumption | exact isR33 | exact isT104 | exact isF99 | exact isF101 | exact isR3 | omega | (refine isTk ?_; omega) | (refine isOk isR33 ?_; omega) | (refine isOk ?_ ?_; assumption; omega)) only [mm_r, mm_rl, mm_add, mm_sub, mm_mul, mm_addJ, mm_mulJ, mm_lt, mm_le, mm_eq, mm_z, mm_cl, mm_w, mm_wl, mm_ite, mm_i2l, mm_l2i, mm_ltJ, mm_leJ, mm_eqJ, mm_clt, mm_cle, mm_cgt, mm_cge, mm_ceq, mm_b, mm_nb, mm_nb0, mm_nb1, mm_vb0, mm_vb1, mm_vbc, mm_vy0, mm_vy1, mm_at, mm_ne, mm_nj, mm_Lw, mm_Nw, mm_atJ, mm_neJ, mm_njJ, zbI_s, zbV_s, zbJ_s, cond_t, Bool.true_and, Bool.and_true, if_true, if_false, not_true, not_false_iff, zel_r, zel_42, zel_12, zel_71, zel_80, zel_89, zel_110, zel_188, zel_103, zel_195, zr_o, zr_1, zr_2, zr_3, zr_4, zr_5, zr_6, zr_7, zr_8, zr_9, zq_o, zq_v, zt_o, zt_1, zt_2, zt_3, zt_4, zt_5, zf_o, zf_1, za_w1, za_w2, za_w3, za_cm, za_sl, Int.toNat_natCast, mm_t0, mm_t1, mm_t2, mm_t3, mm_t4, mm_t5, mm_t6, mm_t7, mm_t8, mm_t9, mm_t10, mm_t11, mm_t12, mm_t13, za_1, za_64, za_65, za_66, za_67, za_68, za_71, za_80, za_89, za_98, za_103, za_110, za_121, za_122, za_123, za_124, za_125, za_126, za_188, za_193, za_194, za_195, za_286, za_288, za_289, za_290, za_291, za_292, za_293, za_294, za_295, za_296, za_297, za_298, za_299, za_300, za_301, za_302, za_303, za_304, za_305, za_306, za_307, za_308, za_309, za_310, za_311, za_312, hv]
        rw [if_neg (fun p => q2 p.2)]
theorem sp_46 {p : Nat} {r h H : Int} {F : Int → Int → Bool} {σ : zM} (hp : isFl p) (hF : flC σ p H F) (H1 : H ≤ 99) (r0 : 0 ≤ r) (r1 : r < 12) (h0 : 0 ≤ h) (h1 : h ≤ 100000) : zcall 46 [.ref p, .int (Int32.ofInt r), .int (Int32.ofInt h)] σ = some (some (.int (Int32.ofInt (dry (F r) H h))), σ) := by
  refine zcc_46 (ze_46_0 _ _ _ _ _ ?_)
  exact lp_46 hp hF H1 r0 r1 _ h rfl h0 (by omega)
theorem lp_43 {p : Nat} {x f t H : Int} {F : Int → Int → Bool} {σ0 : zM} (hp : isFl p) (H0 : 0 ≤ H) (H1 : H ≤ 99) (x0 : 0 ≤ x) (x1 : x < 12) (f0 : 0 ≤ f) (t0 : -1000000 ≤ t) (t1 : t ≤ 1000000) : ∀ (k : Nat) (h : Int) (σ : zM), (H - h).toNat = k → f ≤ h → h ≤ 1000000 → mf (fun a => a = p + 1) σ0 σ → flC σ p H (fun r y => F r y || decide (r = x ∧ f ≤ y ∧ y < h ∧ y ≤ t)) → zwp (zev 43 3 [some (.ref p), some (.int (Int32.ofInt x)), none, some (.int (Int32.ofInt t)), some (.int (Int32.ofInt h))] [] σ) (fun v τ => v = none ∧ mf (fun a => a = p + 1) σ0 τ ∧ flC τ p H (fun r y => F r y || decide (r = x ∧ f ≤ y ∧ y ≤ t)))
  | k, h, σ, e, h0, h1, hf, hF => by
    have hH := hF.1
    refine zwp_of (fun r h => ze_43_3 _ _ _ _ _ r h) ?_
    simp (disch := first | assumption | exact isR33 | exact isT104 | exact isF99 | exact isF101 | exact isR3 | omega | (refine isTk ?_; omega) | (refine isOk isR33 ?_; omega) | (refine isOk ?_ ?_; assumption; omega)) only [mm_r, mm_rl, mm_add, mm_sub, mm_mul, mm_addJ, mm_mulJ, mm_lt, mm_le, mm_eq, mm_z, mm_cl, mm_w, mm_wl, mm_ite, mm_i2l, mm_l2i, mm_ltJ, mm_leJ, mm_eqJ, mm_clt, mm_cle, mm_cgt, mm_cge, mm_ceq, mm_b, mm_nb, mm_nb0, mm_nb1, mm_vb0, mm_vb1, mm_vbc, mm_vy0, mm_vy1, mm_at, mm_ne, mm_nj, mm_Lw, mm_Nw, mm_atJ, mm_neJ, mm_njJ, zbI_s, zbV_s, zbJ_s, cond_t, Bool.true_and, Bool.and_true, if_true, if_false, not_true, not_false_iff, zel_r, zel_42, zel_12, zel_71, zel_80, zel_89, zel_110, zel_188, zel_103, zel_195, zr_o, zr_1, zr_2, zr_3, zr_4, zr_5, zr_6, zr_7, zr_8, zr_9, zq_o, zq_v, zt_o, zt_1, zt_2, zt_3, zt_4, zt_5, zf_o, zf_1, za_w1, za_w2, za_w3, za_cm, za_sl, Int.toNat_natCast, mm_t0, mm_t1, mm_t2, mm_t3, mm_t4, mm_t5, mm_t6, mm_t7, mm_t8, mm_t9, mm_t10, mm_t11, mm_t12, mm_t13, za_1, za_64, za_65, za_66, za_67, za_68, za_71, za_80, za_89, za_98, za_103, za_110, za_121, za_122, za_123, za_124, za_125, za_126, za_188, za_193, za_194, za_195, za_286, za_288, za_289, za_290, za_291, za_292, za_293, za_294, za_295, za_296, za_297, za_298, za_299, za_300, za_301, za_302, za_303, za_304, za_305, za_306, za_307, za_308, za_309, za_310, za_311, za_312, hH]
    by_cases q : t < h
    · rw [if_pos q]
      refine zwp_ret ⟨rfl, hf, hF.eq fun r y _ _ _ _ => ?_⟩
      congr 1
      exact decide_eq_decide.mpr (by omega)
    · rw [if_neg q]
      by_cases q2 : H ≤ h
      · rw [if_pos q2]
        refine zwp_ret ⟨rfl, hf, hF.eq fun r y _ _ _ _ => ?_⟩
        congr 1
        exact decide_eq_decide.mpr (by omega)
      · rw [if_neg q2]
        cases k with
        | zero => omega
        | succ k =>
          refine zwp_let ?_
          refine lp_43 hp H0 H1 x0 x1 f0 t0 t1 k (h + 1) _ (by omega) (by omega) (by omega) (hf.zw _ _ _ rfl) ⟨(mm_ne (by omega)).trans hF.1, fun r y r0 r1 y0 y1 => ?_⟩
          have hv := hF.2 r y r0 r1 y0 y1
          by_cases q3 : r = x ∧ y = h
          · obtain ⟨rfl, rfl⟩ := q3
            have hd : (F r y || decide (r = r ∧ f ≤ y ∧ y < y + 1 ∧ y ≤ t)) = true := by
              rw [decide_eq_true ⟨rfl, h0, by omega, by omega⟩, Bool.or_true]
            exact (mm_at rfl rfl (by decide) (by decide)).trans (if_pos hd).symm
          · rw [mm_nj (by omega), hv]
            have ed : decide (r = x ∧ f ≤ y ∧ y < h ∧ y ≤ t) = decide (r = x ∧ f ≤ y ∧ y < h + 1 ∧ y ≤ t) := decide_eq_decide.mpr (by omega)
            simp only [ed]
theorem sp_43 {p : Nat} {x f t H : Int} {F : Int → Int → Bool} {σ : zM} (hp : isFl p) (H0 : 0 ≤ H) (H1 : H ≤ 99) (x0 : 0 ≤ x) (x1 : x < 12) (f0 : 0 ≤ f) (f1 : f ≤ 1000000) (t0 : -1000000 ≤ t) (t1 : t ≤ 1000000) (hF : flC σ p H F) : zwp (zcall 43 [.ref p, .int (Int32.ofInt x), .int (Int32.ofInt f), .int (Int32.ofInt t)] σ) (fun v τ => v = none ∧ mf (fun a => a = p + 1) σ τ ∧ flC τ p H (fun r y => F r y || decide (r = x ∧ f ≤ y ∧ y ≤ t))) := by
  refine zwp_of (fun r h => zcc_43 (ze_43_0 _ _ _ _ _ r h)) ?_
  refine lp_43 hp H0 H1 x0 x1 f0 t0 t1 _ f σ rfl (by omega) f1 mf.rf (hF.eq fun r y _ _ _ _ => ?_)
  rw [decide_eq_false (by omega), Bool.or_false]
/-! rows filled -/
theorem lp_279 {a N : Nat} {σ0 : zM} (hz : zsh[a]? = some (101, N)) (hN : N < 1000000) : ∀ (k i : Nat) (σ : zM), i + k = N → mf (fun b => b = a) σ0 σ → (∀ j : Nat, j < i → zN σ a j = 0) → zwp (zev 279 5 [some (.ref a), some (.int (Int32.ofInt 0)), some (.int (Int32.ofInt i)), some (.int (Int32.ofInt N))] [] σ) (fun v τ => v = none ∧ mf (fun b => b = a) σ0 τ ∧ ∀ j : Nat, j < N → zN τ a j = 0)
  | 0, i, σ, e, hf, h => by
    obtain rfl : i = N := by omega
    refine zwp_of (fun r h => ze_279_5 _ _ _ _ _ r h) ?_
    simp (disch := first | assumption | exact isR33 | exact isT104 | exact isF99 | exact isF101 | exact isR3 | omega | (refine isTk ?_; omega) | (refine isOk isR33 ?_; omega) | (refine isOk ?_ ?_; assumption; omega)) only [mm_r, mm_rl, mm_add, mm_sub, mm_mul, mm_addJ, mm_mulJ, mm_lt, mm_le, mm_eq, mm_z, mm_cl, mm_w, mm_wl, mm_ite, mm_i2l, mm_l2i, mm_ltJ, mm_leJ, mm_eqJ, mm_clt, mm_cle, mm_cgt, mm_cge, mm_ceq, mm_b, mm_nb, mm_nb0, mm_nb1, mm_vb0, mm_vb1, mm_vbc, mm_vy0, mm_vy1, mm_at, mm_ne, mm_nj, mm_Lw, mm_Nw, mm_atJ, mm_neJ, mm_njJ, zbI_s, zbV_s, zbJ_s, cond_t, Bool.true_and, Bool.and_true, if_true, if_false, not_true, not_false_iff, zel_r, zel_42, zel_12, zel_71, zel_80, zel_89, zel_110, zel_188, zel_103, zel_195, zr_o, zr_1, zr_2, zr_3, zr_4, zr_5, zr_6, zr_7, zr_8, zr_9, zq_o, zq_v, zt_o, zt_1, zt_2, zt_3, zt_4, zt_5, zf_o, zf_1, za_w1, za_w2, za_w3, za_cm, za_sl, Int.toNat_natCast, mm_t0, mm_t1, mm_t2, mm_t3, mm_t4, mm_t5, mm_t6, mm_t7, mm_t8, mm_t9, mm_t10, mm_t11, mm_t12, mm_t13, za_1, za_64, za_65, za_66, za_67, za_68, za_71, za_80, za_89, za_98, za_103, za_110, za_121, za_122, za_123, za_124, za_125, za_126, za_188, za_193, za_194, za_195, za_286, za_288, za_289, za_290, za_291, za_292, za_293, za_294, za_295, za_296, za_297, za_298, za_299, za_300, za_301, za_302, za_303, za_304, za_305, za_306, za_307, za_308, za_309, za_310, za_311, za_312]
    rw [if_pos (by omega)]
    exact zwp_ret ⟨rfl, hf, h⟩
  | k + 1, i, σ, e, hf, h => by
    have hz2 : zarr a 101 (Int32.ofInt i) = true := zarr_of hz (by omega) (by omega) (by omega)
    refine zwp_of (fun r h => ze_279_5 _ _ _ _ _ r h) ?_
    simp (disch := first | assumption | exact isR33 | exact isT104 | exact isF99 | exact isF101 | exact isR3 | omega | (refine isTk ?_; omega) | (refine isOk isR33 ?_; omega) | (refine isOk ?_ ?_; assumption; omega)) only [mm_r, mm_rl, mm_add, mm_sub, mm_mul, mm_addJ, mm_mulJ, mm_lt, mm_le, mm_eq, mm_z, mm_cl, mm_w, mm_wl, mm_ite, mm_i2l, mm_l2i, mm_ltJ, mm_leJ, mm_eqJ, mm_clt, mm_cle, mm_cgt, mm_cge, mm_ceq, mm_b, mm_nb, mm_nb0, mm_nb1, mm_vb0, mm_vb1, mm_vbc, mm_vy0, mm_vy1, mm_at, mm_ne, mm_nj, mm_Lw, mm_Nw, mm_atJ, mm_neJ, mm_njJ, zbI_s, zbV_s, zbJ_s, cond_t, Bool.true_and, Bool.and_true, if_true, if_false, not_true, not_false_iff, zel_r, zel_42, zel_12, zel_71, zel_80, zel_89, zel_110, zel_188, zel_103, zel_195, zr_o, zr_1, zr_2, zr_3, zr_4, zr_5, zr_6, zr_7, zr_8, zr_9, zq_o, zq_v, zt_o, zt_1, zt_2, zt_3, zt_4, zt_5, zf_o, zf_1, za_w1, za_w2, za_w3, za_cm, za_sl, Int.toNat_natCast, mm_t0, mm_t1, mm_t2, mm_t3, mm_t4, mm_t5, mm_t6, mm_t7, mm_t8, mm_t9, mm_t10, mm_t11, mm_t12, mm_t13, za_1, za_64, za_65, za_66, za_67, za_68, za_71, za_80, za_89, za_98, za_103, za_110, za_121, za_122, za_123, za_124, za_125, za_126, za_188, za_193, za_194, za_195, za_286, za_288, za_289, za_290, za_291, za_292, za_293, za_294, za_295, za_296, za_297, za_298, za_299, za_300, za_301, za_302, za_303, za_304, za_305, za_306, za_307, za_308, za_309, za_310, za_311, za_312, hz2]
    rw [if_neg (by omega)]
    refine zwp_let (lp_279 hz hN k (i + 1) _ (by omega) (hf.zw _ _ _ rfl) (fun j hj => ?_))
    by_cases q : j = i
    · exact mm_at rfl q (by decide) (by decide)
    · rw [mm_nj q]
      exact h j (by omega)
theorem sp_279 {a N : Nat} {σ : zM} (hz : zsh[a]? = some (101, N)) (hN : N < 1000000) : zwp (zcall 279 [.ref a, .int (Int32.ofInt 0)] σ) (fun v τ => v = none ∧ mf (fun b => b = a) σ τ ∧ ∀ j : Nat, j < N → zN τ a j = 0) := by
  have h1 : zrow a = true := by
    unfold zrow
    rw [hz]
    rfl
  have h2 : zlng a = N := by
    unfold zlng
    rw [hz]
  refine zwp_of (fun r h => zcc_279 (ze_279_0 _ _ _ r h)) ?_
  rw [h1, h2, cond_t, mm_nat]
  exact lp_279 hz hN N 0 σ (by omega) mf.rf (fun j hj => absurd hj (by omega))
theorem lp_280 {a N : Nat} {x : Int} {σ0 : zM} (hz : zsh[a]? = some (100, N)) (hN : N < 1000000) (x0 : -2147483648 ≤ x) (x1 : x < 2147483648) : ∀ (k i : Nat) (σ : zM), i + k = N → mf (fun b => b = a) σ0 σ → (∀ j : Nat, j < i → zN σ a j = x) → zwp (zev 280 5 [some (.ref a), some (.int (Int32.ofInt x)), some (.int (Int32.ofInt i)), some (.int (Int32.ofInt N))] [] σ) (fun v τ => v = none ∧ mf (fun b => b = a) σ0 τ ∧ ∀ j : Nat, j < N → zN τ a j = x)
  | 0, i, σ, e, hf, h => by
    obtain rfl : i = N := by omega
    refine zwp_of (fun r h => ze_280_5 _ _ _ _ _ r h) ?_
    simp (disch := first | assumption | exact isR33 | exact isT104 | exact isF99 | exact isF101 | exact isR3 | omega | (refine isTk ?_; omega) | (refine isOk isR33 ?_; omega) | (refine isOk ?_ ?_; assumption; omega)) only [mm_r, mm_rl, mm_add, mm_sub, mm_mul, mm_addJ, mm_mulJ, mm_lt, mm_le, mm_eq, mm_z, mm_cl, mm_w, mm_wl, mm_ite, mm_i2l, mm_l2i, mm_ltJ, mm_leJ, mm_eqJ, mm_clt, mm_cle, mm_cgt, mm_cge, mm_ceq, mm_b, mm_nb, mm_nb0, mm_nb1, mm_vb0, mm_vb1, mm_vbc, mm_vy0, mm_vy1, mm_at, mm_ne, mm_nj, mm_Lw, mm_Nw, mm_atJ, mm_neJ, mm_njJ, zbI_s, zbV_s, zbJ_s, cond_t, Bool.true_and, Bool.and_true, if_true, if_false, not_true, not_false_iff, zel_r, zel_42, zel_12, zel_71, zel_80, zel_89, zel_110, zel_188, zel_103, zel_195, zr_o, zr_1, zr_2, zr_3, zr_4, zr_5, zr_6, zr_7, zr_8, zr_9, zq_o, zq_v, zt_o, zt_1, zt_2, zt_3, zt_4, zt_5, zf_o, zf_1, za_w1, za_w2, za_w3, za_cm, za_sl, Int.toNat_natCast, mm_t0, mm_t1, mm_t2, mm_t3, mm_t4, mm_t5, mm_t6, mm_t7, mm_t8, mm_t9, mm_t10, mm_t11, mm_t12, mm_t13, za_1, za_64, za_65, za_66, za_67, za_68, za_71, za_80, za_89, za_98, za_103, za_110, za_121, za_122, za_123, za_124, za_125, za_126, za_188, za_193, za_194, za_195, za_286, za_288, za_289, za_290, za_291, za_292, za_293, za_294, za_295, za_296, za_297, za_298, za_299, za_300, za_301, za_302, za_303, za_304, za_305, za_306, za_307, za_308, za_309, za_310, za_311, za_312]
    rw [if_pos (by omega)]
    exact zwp_ret ⟨rfl, hf, h⟩
  | k + 1, i, σ, e, hf, h => by
    have hz2 : zarr a 100 (Int32.ofInt i) = true := zarr_of hz (by omega) (by omega) (by omega)
    refine zwp_of (fun r h => ze_280_5 _ _ _ _ _ r h) ?_
    simp (disch := first | assumption | exact isR33 | exact isT104 | exact isF99 | exact isF101 | exact isR3 | omega | (refine isTk ?_; omega) | (refine isOk isR33 ?_; omega) | (refine isOk ?_ ?_; assumption; omega)) only [mm_r, mm_rl, mm_add, mm_sub, mm_mul, mm_addJ, mm_mulJ, mm_lt, mm_le, mm_eq, mm_z, mm_cl, mm_w, mm_wl, mm_ite, mm_i2l, mm_l2i, mm_ltJ, mm_leJ, mm_eqJ, mm_clt, mm_cle, mm_cgt, mm_cge, mm_ceq, mm_b, mm_nb, mm_nb0, mm_nb1, mm_vb0, mm_vb1, mm_vbc, mm_vy0, mm_vy1, mm_at, mm_ne, mm_nj, mm_Lw, mm_Nw, mm_atJ, mm_neJ, mm_njJ, zbI_s, zbV_s, zbJ_s, cond_t, Bool.true_and, Bool.and_true, if_true, if_false, not_true, not_false_iff, zel_r, zel_42, zel_12, zel_71, zel_80, zel_89, zel_110, zel_188, zel_103, zel_195, zr_o, zr_1, zr_2, zr_3, zr_4, zr_5, zr_6, zr_7, zr_8, zr_9, zq_o, zq_v, zt_o, zt_1, zt_2, zt_3, zt_4, zt_5, zf_o, zf_1, za_w1, za_w2, za_w3, za_cm, za_sl, Int.toNat_natCast, mm_t0, mm_t1, mm_t2, mm_t3, mm_t4, mm_t5, mm_t6, mm_t7, mm_t8, mm_t9, mm_t10, mm_t11, mm_t12, mm_t13, za_1, za_64, za_65, za_66, za_67, za_68, za_71, za_80, za_89, za_98, za_103, za_110, za_121, za_122, za_123, za_124, za_125, za_126, za_188, za_193, za_194, za_195, za_286, za_288, za_289, za_290, za_291, za_292, za_293, za_294, za_295, za_296, za_297, za_298, za_299, za_300, za_301, za_302, za_303, za_304, za_305, za_306, za_307, za_308, za_309, za_310, za_311, za_312, hz2]
    rw [if_neg (by omega)]
    refine zwp_let (lp_280 hz hN x0 x1 k (i + 1) _ (by omega) (hf.zw _ _ _ rfl) (fun j hj => ?_))
    by_cases q : j = i
    · exact mm_at rfl q x0 x1
    · rw [mm_nj q]
      exact h j (by omega)
theorem sp_280 {a N : Nat} {x : Int} {σ : zM} (hz : zsh[a]? = some (100, N)) (hN : N < 1000000) (x0 : -2147483648 ≤ x) (x1 : x < 2147483648) : zwp (zcall 280 [.ref a, .int (Int32.ofInt x)] σ) (fun v τ => v = none ∧ mf (fun b => b = a) σ τ ∧ ∀ j : Nat, j < N → zN τ a j = x) := by
  have h1 : zrow a = true := by
    unfold zrow
    rw [hz]
    rfl
  have h2 : zlng a = N := by
    unfold zlng
    rw [hz]
  refine zwp_of (fun r h => zcc_280 (ze_280_0 _ _ _ r h)) ?_
  rw [h1, h2, cond_t, mm_nat]
  exact lp_280 hz hN x0 x1 N 0 σ (by omega) mf.rf (fun j hj => absurd hj (by omega))
/-! told -/
def wFl (W : Int → Int) : Prop := ∀ f, 0 ≤ f → f < W 3 → 0 ≤ W (44 + 3 * f) ∧ W (44 + 3 * f) < W 2 ∧ 0 ≤ W (44 + 3 * f + 1) ∧ W (44 + 3 * f + 1) ≤ W (44 + 3 * f + 2) ∧ W (44 + 3 * f + 2) < W 1
def noD : Int → Int → Bool := fun _ _ => false
def flP (W : Int → Int) (r h f : Int) : Bool := decide (W (44 + 3 * f) = r ∧ W (44 + 3 * f + 1) ≤ h ∧ h ≤ W (44 + 3 * f + 2))
theorem lp_42 {p q : Nat} {W : Int → Int} {σ0 : zM} {S : Nat → Prop} (hp : isFl p) (hq : isRealm q) (hW : wRi W) (hWf : wFl W) (h5 : W 5 ≤ 10) (hS : S (p + 1)) : ∀ (k i : Nat) (σ : zM), (i : Int) + k = W 3 → cL σ q W → mf S σ0 σ → flC σ p (W 1) (fun r h => zany (flP W r h) i) → zwp (zev 42 18 [some (.ref p), some (.ref q), some (.int (Int32.ofInt i))] [] σ) (fun v τ => v = none ∧ mf S σ0 τ ∧ flC τ p (W 1) (FL W noD))
  | 0, i, σ, e, hL, hf, hF => by
    have h8 := hW.2.2.2.2
    have hn := hL.1.2.2.2.2.2.1
    refine zwp_of (fun r h => ze_42_18 _ _ _ _ r h) ?_
    simp (disch := first | assumption | exact isR33 | exact isT104 | exact isF99 | exact isF101 | exact isR3 | omega | (refine isTk ?_; omega) | (refine isOk isR33 ?_; omega) | (refine isOk ?_ ?_; assumption; omega)) only [mm_r, mm_rl, mm_add, mm_sub, mm_mul, mm_addJ, mm_mulJ, mm_lt, mm_le, mm_eq, mm_z, mm_cl, mm_w, mm_wl, mm_ite, mm_i2l, mm_l2i, mm_ltJ, mm_leJ, mm_eqJ, mm_clt, mm_cle, mm_cgt, mm_cge, mm_ceq, mm_b, mm_nb, mm_nb0, mm_nb1, mm_vb0, mm_vb1, mm_vbc, mm_vy0, mm_vy1, mm_at, mm_ne, mm_nj, mm_Lw, mm_Nw, mm_atJ, mm_neJ, mm_njJ, zbI_s, zbV_s, zbJ_s, cond_t, Bool.true_and, Bool.and_true, if_true, if_false, not_true, not_false_iff, zel_r, zel_42, zel_12, zel_71, zel_80, zel_89, zel_110, zel_188, zel_103, zel_195, zr_o, zr_1, zr_2, zr_3, zr_4, zr_5, zr_6, zr_7, zr_8, zr_9, zq_o, zq_v, zt_o, zt_1, zt_2, zt_3, zt_4, zt_5, zf_o, zf_1, za_w1, za_w2, za_w3, za_cm, za_sl, Int.toNat_natCast, mm_t0, mm_t1, mm_t2, mm_t3, mm_t4, mm_t5, mm_t6, mm_t7, mm_t8, mm_t9, mm_t10, mm_t11, mm_t12, mm_t13, za_1, za_64, za_65, za_66, za_67, za_68, za_71, za_80, za_89, za_98, za_103, za_110, za_121, za_122, za_123, za_124, za_125, za_126, za_188, za_193, za_194, za_195, za_286, za_288, za_289, za_290, za_291, za_292, za_293, za_294, za_295, za_296, za_297, za_298, za_299, za_300, za_301, za_302, za_303, za_304, za_305, za_306, za_307, za_308, za_309, za_310, za_311, za_312, hn]
    rw [if_pos (by omega)]
    refine zwp_ret ⟨rfl, hf, hF.eq fun r h _ _ _ _ => ?_⟩
    unfold FL noD
    rw [Bool.false_or, show (W 3).toNat = i by omega]
    rfl
  | k + 1, i, σ, e, hL, hf, hF => by
    have h8 := hW.2.2.2.2
    have h2 := hW.1.2.2.2.1
    have h9 := hW.2.2.1
    have h10 := hW.2.1
    have hn := hL.1.2.2.2.2.2.1
    obtain ⟨a1, a2, a3⟩ := hL.2.2.1 i (by omega) (by omega)
    obtain ⟨b1, b2, b3, b4, b5⟩ := hWf i (by omega) (by omega)
    rw [Int.toNat_natCast] at a1 a2 a3
    refine zwp_of (fun r h => ze_42_18 _ _ _ _ r h) ?_
    simp (disch := first | assumption | exact isR33 | exact isT104 | exact isF99 | exact isF101 | exact isR3 | omega | (refine isTk ?_; omega) | (refine isOk isR33 ?_; omega) | (refine isOk ?_ ?_; assumption; omega)) only [mm_r, mm_rl, mm_add, mm_sub, mm_mul, mm_addJ, mm_mulJ, mm_lt, mm_le, mm_eq, mm_z, mm_cl, mm_w, mm_wl, mm_ite, mm_i2l, mm_l2i, mm_ltJ, mm_leJ, mm_eqJ, mm_clt, mm_cle, mm_cgt, mm_cge, mm_ceq, mm_b, mm_nb, mm_nb0, mm_nb1, mm_vb0, mm_vb1, mm_vbc, mm_vy0, mm_vy1, mm_at, mm_ne, mm_nj, mm_Lw, mm_Nw, mm_atJ, mm_neJ, mm_njJ, zbI_s, zbV_s, zbJ_s, cond_t, Bool.true_and, Bool.and_true, if_true, if_false, not_true, not_false_iff, zel_r, zel_42, zel_12, zel_71, zel_80, zel_89, zel_110, zel_188, zel_103, zel_195, zr_o, zr_1, zr_2, zr_3, zr_4, zr_5, zr_6, zr_7, zr_8, zr_9, zq_o, zq_v, zt_o, zt_1, zt_2, zt_3, zt_4, zt_5, zf_o, zf_1, za_w1, za_w2, za_w3, za_cm, za_sl, Int.toNat_natCast, mm_t0, mm_t1, mm_t2, mm_t3, mm_t4, mm_t5, mm_t6, mm_t7, mm_t8, mm_t9, mm_t10, mm_t11, mm_t12, mm_t13, za_1, za_64, za_65, za_66, za_67, za_68, za_71, za_80, za_89, za_98, za_103, za_110, za_121, za_122, za_123, za_124, za_125, za_126, za_188, za_193, za_194, za_195, za_286, za_288, za_289, za_290, za_291, za_292, za_293, za_294, za_295, za_296, za_297, za_298, za_299, za_300, za_301, za_302, za_303, za_304, za_305, za_306, za_307, za_308, za_309, za_310, za_311, za_312, hn, a1, a2, a3]
    rw [if_neg (by omega)]
    refine zwp_V _ (sp_43 hp h10 h9 b1 (by omega) b3 (by omega) (by omega) (by omega) hF) ?_
    rintro τ ⟨hf2, hF2⟩
    have hpq : ∀ a, q ≤ a → a < q + 30 → ¬ a = p + 1 := by
      intro a h1 h2 h3
      rcases hp with rfl | rfl <;> rcases hq with rfl | rfl | rfl | rfl | rfl <;> omega
    exact lp_42 hp hq hW hWf h5 hS k (i + 1) τ (by omega) (hL.fr h5 fun a h1 h2 => hf2.1 a (hpq a h1 h2)) (hf.tr (hf2.mono fun a ha => ha ▸ hS)) (hF2.eq fun r h _ _ _ _ => by
      show (zany (flP W r h) i || _) = (zany (flP W r h) i || flP W r h i)
      congr 1
      exact decide_eq_decide.mpr (by omega))
theorem sp_42 {p q : Nat} {W : Int → Int} {σ : zM} (hp : isFl p) (hq : isRealm q) (hW : wRi W) (hWf : wFl W) (h5 : W 5 ≤ 10) (hL : cL σ q W) : zwp (zcall 42 [.ref p, .ref q] σ) (fun v τ => v = none ∧ mf (fun a => a = p ∨ a = p + 1) σ τ ∧ flC τ p (W 1) (FL W noD)) := by
  have hz : zsh[p + 1]? = some (101, 1188) := by
    rcases hp with rfl | rfl <;> decide +kernel
  have hpq : ∀ a, q ≤ a → a < q + 30 → ¬ (a = p ∨ a = p + 1) := by
    intro a h1 h2 h3
    rcases hp with rfl | rfl <;> rcases hq with rfl | rfl | rfl | rfl | rfl <;> omega
  have h9 := hW.2.2.1
  have h10 := hW.2.1
  refine zwp_of (fun r h => zcc_42 (ze_42_0 _ _ _ r h)) ?_
  rw [zf_o hp, cond_t]
  refine zwp_V _ (sp_279 hz (by decide)) ?_
  rintro τ ⟨hf, h0⟩
  have hf' : mf (fun a => a = p ∨ a = p + 1) σ τ := hf.mono fun a ha => .inr ha
  have hL' := hL.fr h5 fun a h1 h2 => hf'.1 a (hpq a h1 h2)
  have hn := hL'.1.2.2.1
  simp (disch := first | assumption | exact isR33 | exact isT104 | exact isF99 | exact isF101 | exact isR3 | omega | (refine isTk ?_; omega) | (refine isOk isR33 ?_; omega) | (refine isOk ?_ ?_; assumption; omega)) only [mm_r, mm_rl, mm_add, mm_sub, mm_mul, mm_addJ, mm_mulJ, mm_lt, mm_le, mm_eq, mm_z, mm_cl, mm_w, mm_wl, mm_ite, mm_i2l, mm_l2i, mm_ltJ, mm_leJ, mm_eqJ, mm_clt, mm_cle, mm_cgt, mm_cge, mm_ceq, mm_b, mm_nb, mm_nb0, mm_nb1, mm_vb0, mm_vb1, mm_vbc, mm_vy0, mm_vy1, mm_at, mm_ne, mm_nj, mm_Lw, mm_Nw, mm_atJ, mm_neJ, mm_njJ, zbI_s, zbV_s, zbJ_s, cond_t, Bool.true_and, Bool.and_true, if_true, if_false, not_true, not_false_iff, zel_r, zel_42, zel_12, zel_71, zel_80, zel_89, zel_110, zel_188, zel_103, zel_195, zr_o, zr_1, zr_2, zr_3, zr_4, zr_5, zr_6, zr_7, zr_8, zr_9, zq_o, zq_v, zt_o, zt_1, zt_2, zt_3, zt_4, zt_5, zf_o, zf_1, za_w1, za_w2, za_w3, za_cm, za_sl, Int.toNat_natCast, mm_t0, mm_t1, mm_t2, mm_t3, mm_t4, mm_t5, mm_t6, mm_t7, mm_t8, mm_t9, mm_t10, mm_t11, mm_t12, mm_t13, za_1, za_64, za_65, za_66, za_67, za_68, za_71, za_80, za_89, za_98, za_103, za_110, za_121, za_122, za_123, za_124, za_125, za_126, za_188, za_193, za_194, za_195, za_286, za_288, za_289, za_290, za_291, za_292, za_293, za_294, za_295, za_296, za_297, za_298, za_299, za_300, za_301, za_302, za_303, za_304, za_305, za_306, za_307, za_308, za_309, za_310, za_311, za_312, hn]
  refine zwp_let ?_
  have hf2 : mf (fun a => a = p ∨ a = p + 1) σ (zw τ p 1 (W 1)) := hf'.zw _ _ _ (.inl rfl)
  refine lp_42 hp hq hW hWf h5 (.inr rfl) (W 3).toNat 0 _ (by have := hW.2.2.2.1; omega) (hL.fr h5 fun a h1 h2 => hf2.1 a (hpq a h1 h2)) hf2 ⟨mm_at rfl rfl (by omega) (by omega), fun r h r0 r1 y0 y1 => ?_⟩
  rw [mm_ne (by omega), h0 _ (by omega)]
  rfl
