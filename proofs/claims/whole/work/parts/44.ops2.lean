/-! CALLS: where a rider is -/
theorem ctC.fr {σ τ : zM} {W : Int → Int} (h : ctC σ W) (hW : WOK W) (hf : ∀ b, (33 ≤ b ∧ b < 69 ∨ 72 ≤ b ∧ b ≤ 100 ∨ 111 ≤ b ∧ b ≤ 121 ∨ 127 ≤ b ∧ b < 187) → ∀ k, zN τ b k = zN σ b k) : ctC τ W := by
  have h5 := hW.2.2.1
  have h8 := hW.1.1.2.1
  obtain ⟨hL, hy, hF, ⟨s0, s1⟩, ho⟩ := h
  refine ⟨hL.fr (by omega) fun a h1 h2 => hf a (by omega), hy.fr h8 fun b b0 b1 => hf b (by omega), hF.fr (hf _ (by omega)) (hf _ (by omega)), ⟨(hf 63 (by omega) 0).trans s0, (hf 63 (by omega) 1).trans s1⟩, fun o o0 o1 => ?_⟩
  obtain ⟨a, b, c⟩ := ho o o0 o1
  refine ⟨a.fr (hf 64 (by omega) _) (hf 65 (by omega) _) (hf 66 (by omega) _) (hf 67 (by omega) _), b.fr (hf 68 (by omega) _) (fun r r0 r1 => hf r (by omega)), fun p x x0 x1 => ?_⟩
  rw [hf 121 (by omega)] at p
  rw [hf _ (by omega)]
  exact c p x x0 x1
theorem cK_of {σ τ : zM} {W : Int → Int} (h : ctC σ W) (hW : WOK W) {S : Nat → Prop} (hf : mf S σ τ) (hS : ∀ b, S b → b = 69 ∨ 101 ≤ b ∧ b ≤ 102 ∨ 104 ≤ b ∧ b ≤ 109 ∨ 122 ≤ b ∧ b ≤ 126) : cK σ τ W := ⟨hf.mono fun b hb => by have := hS b hb; unfold clsS; omega, h.fr hW fun b hb => hf.1 b fun p => by have := hS b p; omega⟩
theorem lead_pre {W : Int → Int} {g : Int} : ∀ (k : Nat) (w : wy) (i : Int), i < w.1 → (lead W g k w).2 i = w.2 i
  | 0, _, _, _ => rfl
  | k + 1, w, i, hi => by
    rw [lead]
    split
    · rfl
    · split
      · rfl
      · split
        · rfl
        · rw [lead_pre k _ i (by show i < w.1 + 1; omega)]
          show (if i = w.1 then _ else w.2 i) = _
          rw [if_neg (by omega)]
theorem lead_nx {W : Int → Int} {g : Int} : ∀ (k : Nat) (w : wy) (i : Int), 0 < w.1 → w.1 - 1 ≤ i → i + 1 < (lead W g k w).1 → (lead W g k w).2 i ≠ g ∧ (lead W g k w).2 (i + 1) = NX W ((lead W g k w).2 i) g
  | 0, w, i, w0, h0, h1 => by
    have h1 : i + 1 < w.1 := h1
    omega
  | k + 1, w, i, w0, h0, h1 => by
    have hl : lead W g (k + 1) w = if w.1 ≤ 0 then w else if lastT w = g then w else if NX W (lastT w) g = -1 then (0, w.2) else lead W g k (psh w (NX W (lastT w) g)) := rfl
    rw [hl] at h1 ⊢
    rw [if_neg (by omega)] at h1 ⊢
    by_cases q : lastT w = g
    · rw [if_pos q] at h1
      omega
    · rw [if_neg q] at h1 ⊢
      by_cases q2 : NX W (lastT w) g = -1
      · rw [if_pos q2] at h1
        have h1 : i + 1 < 0 := h1
        omega
      · rw [if_neg q2] at h1 ⊢
        by_cases q3 : i = w.1 - 1
        · have e1 : (lead W g k (psh w (NX W (lastT w) g))).2 i = lastT w := by
            rw [lead_pre k _ i (by show i < w.1 + 1; omega)]
            show (if i = w.1 then _ else w.2 i) = w.2 (w.1 - 1)
            rw [if_neg (by omega), q3]
          have e2 : (lead W g k (psh w (NX W (lastT w) g))).2 (i + 1) = NX W (lastT w) g := by
            rw [lead_pre k _ _ (by show i + 1 < w.1 + 1; omega)]
            show (if i + 1 = w.1 then _ else w.2 (i + 1)) = _
            rw [if_pos (by omega)]
          rw [e1, e2]
          exact ⟨q, rfl⟩
        · exact lead_nx k _ i (by show 0 < w.1 + 1; omega) (by show w.1 + 1 - 1 ≤ i; omega) h1
def Eway (W : Int → Int) (a b i : Int) : Int := if inT W a ∧ inT W b then (if 0 ≤ i ∧ i < (wayBy W a (-1) b).1 then (wayBy W a (-1) b).2 i else -1) else -2
theorem cq_way {σ : zM} {W : Int → Int} {a b i : Int} (hW : WOK W) (hC : ctC σ W) (ha0 : -2147483648 ≤ a) (ha1 : a < 2147483648) (hb0 : -2147483648 ≤ b) (hb1 : b < 2147483648) (hi0 : -2147483648 ≤ i) (hi1 : i < 2147483648) : zwp (zcall 111 [.ref 0, .int (Int32.ofInt a), .int (Int32.ofInt b), .int (Int32.ofInt i)] σ) (fun v τ => v = some (.int (Int32.ofInt (Eway W a b i))) ∧ cK σ τ W) := by
  have e1 := hC.1.1.2.1
  have h8 := hW.1.1.2.1
  unfold Eway
  refine zwp_of (fun r h => zcc_111 (ze_111_0 _ _ _ _ r h)) ?_
  simp (disch := first | assumption | exact isR33 | exact isT104 | exact isF99 | exact isF101 | exact isR3 | omega | (refine isTk ?_; omega) | (refine isOk isR33 ?_; omega) | (refine isOk ?_ ?_; assumption; omega)) only [mm_r, mm_rl, mm_add, mm_sub, mm_mul, mm_addJ, mm_mulJ, mm_lt, mm_le, mm_eq, mm_z, mm_cl, mm_w, mm_wl, mm_ite, mm_i2l, mm_l2i, mm_ltJ, mm_leJ, mm_eqJ, mm_clt, mm_cle, mm_cgt, mm_cge, mm_ceq, mm_b, mm_nb, mm_nb0, mm_nb1, mm_vb0, mm_vb1, mm_vbc, mm_vy0, mm_vy1, mm_at, mm_ne, mm_nj, mm_Lw, mm_Nw, mm_atJ, mm_neJ, mm_njJ, zbI_s, zbV_s, zbJ_s, cond_t, Bool.true_and, Bool.and_true, if_true, if_false, not_true, not_false_iff, Classical.not_not, zel_r, zel_42, zel_12, zel_71, zel_80, zel_89, zel_110, zel_188, zel_103, zel_195, zr_o, zr_1, zr_2, zr_3, zr_4, zr_5, zr_6, zr_7, zr_8, zr_9, zq_o, zq_v, zt_o, zt_1, zt_2, zt_3, zt_4, zt_5, zf_o, zf_1, za_w1, za_w2, za_w3, za_cm, za_sl, Int.toNat_natCast, Int.toNat_natCast_add_one, mm_t0, mm_t1, mm_t2, mm_t3, mm_t4, mm_t5, mm_t6, mm_t7, mm_t8, mm_t9, mm_t10, mm_t11, mm_t12, mm_t13, za_1, za_64, za_65, za_66, za_67, za_68, za_71, za_80, za_89, za_98, za_103, za_110, za_121, za_122, za_123, za_124, za_125, za_126, za_188, za_193, za_194, za_195, za_286, za_288, za_289, za_290, za_291, za_292, za_293, za_294, za_295, za_296, za_297, za_298, za_299, za_300, za_301, za_302, za_303, za_304, za_305, za_306, za_307, za_308, za_309, za_310, za_311, za_312, sp_77, e1]
  refine zwp_ite (fun q => ?_) (fun q => ?_)
  · rw [if_neg (fun p => q p.1)]
    exact zwp_ret ⟨rfl, cK.rf hC⟩
  · have q := Classical.not_not.mp q
    refine zwp_ite (fun q2 => ?_) (fun q2 => ?_)
    · rw [if_pos (⟨q, q2⟩ : inT W a ∧ inT W b)]
      refine zwp_IE (E := if 0 ≤ i ∧ i < (wayBy W a (-1) b).1 then (wayBy W a (-1) b).2 i else -1) (P := fun τ => cK σ τ W) ?_ (fun τ hk => zwp_ret ⟨rfl, hk⟩)
      have hN := (wayBy_N hW.1.1 q.1 q.2 (.inl rfl) q2.1 q2.2).1
      refine zwp_of (fun r h => zcc_13 (ze_13_0 _ _ _ _ r h)) ?_
      refine zwp_V _ (sp_91 isT104 hW.1.1 q.1 q.2 (.inl rfl) q2.1 q2.2 hC.2.1) ?_
      rintro τ ⟨hf, hT⟩
      have hk : cK σ τ W := cK_of hC hW hf (by omega)
      have hn := hT.1
      have b0 : (wayBy W a (-1) b).1 ≤ 15 ∧ 0 ≤ (wayBy W a (-1) b).1 := by rcases hN with h | h <;> omega
      by_cases q3 : 0 ≤ i ∧ i < (wayBy W a (-1) b).1
      · have hv := hT.2.1 i q3.1 q3.2
        rw [if_pos q3]
        simp (disch := first | assumption | exact isR33 | exact isT104 | exact isF99 | exact isF101 | exact isR3 | omega | (refine isTk ?_; omega) | (refine isOk isR33 ?_; omega) | (refine isOk ?_ ?_; assumption; omega)) only [mm_r, mm_rl, mm_add, mm_sub, mm_mul, mm_addJ, mm_mulJ, mm_lt, mm_le, mm_eq, mm_z, mm_cl, mm_w, mm_wl, mm_ite, mm_i2l, mm_l2i, mm_ltJ, mm_leJ, mm_eqJ, mm_clt, mm_cle, mm_cgt, mm_cge, mm_ceq, mm_b, mm_nb, mm_nb0, mm_nb1, mm_vb0, mm_vb1, mm_vbc, mm_vy0, mm_vy1, mm_at, mm_ne, mm_nj, mm_Lw, mm_Nw, mm_atJ, mm_neJ, mm_njJ, zbI_s, zbV_s, zbJ_s, cond_t, Bool.true_and, Bool.and_true, if_true, if_false, not_true, not_false_iff, Classical.not_not, zel_r, zel_42, zel_12, zel_71, zel_80, zel_89, zel_110, zel_188, zel_103, zel_195, zr_o, zr_1, zr_2, zr_3, zr_4, zr_5, zr_6, zr_7, zr_8, zr_9, zq_o, zq_v, zt_o, zt_1, zt_2, zt_3, zt_4, zt_5, zf_o, zf_1, za_w1, za_w2, za_w3, za_cm, za_sl, Int.toNat_natCast, Int.toNat_natCast_add_one, mm_t0, mm_t1, mm_t2, mm_t3, mm_t4, mm_t5, mm_t6, mm_t7, mm_t8, mm_t9, mm_t10, mm_t11, mm_t12, mm_t13, za_1, za_64, za_65, za_66, za_67, za_68, za_71, za_80, za_89, za_98, za_103, za_110, za_121, za_122, za_123, za_124, za_125, za_126, za_188, za_193, za_194, za_195, za_286, za_288, za_289, za_290, za_291, za_292, za_293, za_294, za_295, za_296, za_297, za_298, za_299, za_300, za_301, za_302, za_303, za_304, za_305, za_306, za_307, za_308, za_309, za_310, za_311, za_312, hn, hv]
        rw [if_neg (by omega), if_neg (by omega)]
        exact zwp_ret ⟨rfl, hk⟩
      · rw [if_neg q3]
        simp (disch := first | assumption | exact isR33 | exact isT104 | exact isF99 | exact isF101 | exact isR3 | omega | (refine isTk ?_; omega) | (refine isOk isR33 ?_; omega) | (refine isOk ?_ ?_; assumption; omega)) only [mm_r, mm_rl, mm_add, mm_sub, mm_mul, mm_addJ, mm_mulJ, mm_lt, mm_le, mm_eq, mm_z, mm_cl, mm_w, mm_wl, mm_ite, mm_i2l, mm_l2i, mm_ltJ, mm_leJ, mm_eqJ, mm_clt, mm_cle, mm_cgt, mm_cge, mm_ceq, mm_b, mm_nb, mm_nb0, mm_nb1, mm_vb0, mm_vb1, mm_vbc, mm_vy0, mm_vy1, mm_at, mm_ne, mm_nj, mm_Lw, mm_Nw, mm_atJ, mm_neJ, mm_njJ, zbI_s, zbV_s, zbJ_s, cond_t, Bool.true_and, Bool.and_true, if_true, if_false, not_true, not_false_iff, Classical.not_not, zel_r, zel_42, zel_12, zel_71, zel_80, zel_89, zel_110, zel_188, zel_103, zel_195, zr_o, zr_1, zr_2, zr_3, zr_4, zr_5, zr_6, zr_7, zr_8, zr_9, zq_o, zq_v, zt_o, zt_1, zt_2, zt_3, zt_4, zt_5, zf_o, zf_1, za_w1, za_w2, za_w3, za_cm, za_sl, Int.toNat_natCast, Int.toNat_natCast_add_one, mm_t0, mm_t1, mm_t2, mm_t3, mm_t4, mm_t5, mm_t6, mm_t7, mm_t8, mm_t9, mm_t10, mm_t11, mm_t12, mm_t13, za_1, za_64, za_65, za_66, za_67, za_68, za_71, za_80, za_89, za_98, za_103, za_110, za_121, za_122, za_123, za_124, za_125, za_126, za_188, za_193, za_194, za_195, za_286, za_288, za_289, za_290, za_291, za_292, za_293, za_294, za_295, za_296, za_297, za_298, za_299, za_300, za_301, za_302, za_303, za_304, za_305, za_306, za_307, za_308, za_309, za_310, za_311, za_312, hn]
        refine zwp_ite (fun q4 => zwp_ret ⟨rfl, hk⟩) (fun q4 => ?_)
        refine zwp_ite (fun q5 => zwp_ret ⟨rfl, hk⟩) (fun q5 => ?_)
        exfalso; omega
    · rw [if_neg (fun p => q2 p.2)]
      exact zwp_ret ⟨rfl, cK.rf hC⟩
theorem lp_204 {σ : zM} {W : Int → Int} {a b i : Int} (hW : wRd W) (hw : wv σ 288 = W) (hE : mE (W 0).toNat (matR σ) (DD W)) (a0 : 0 ≤ a) (a1 : a < W 0) (b0 : 0 ≤ b) (b1 : b < W 0) (hl : DD W a b < 1000000) (i1 : i < 2147483648) : ∀ (m k : Nat), (k : Int) + m = i → (k : Int) < (wayBy W a (-1) b).1 → zev 204 49 [some (.ref 287), none, some (.int (Int32.ofInt b)), some (.int (Int32.ofInt i)), some (.int (Int32.ofInt ((wayBy W a (-1) b).2 k))), some (.int (Int32.ofInt k))] [] σ = some (some (.int (Int32.ofInt (if i < (wayBy W a (-1) b).1 then (wayBy W a (-1) b).2 i else -1))), σ)
  | 0, k, e, hk => by
    refine ze_204_49 _ _ _ _ _ _ ?_
    simp (disch := first | assumption | exact isR33 | exact isT104 | exact isF99 | exact isF101 | exact isR3 | omega | (refine isTk ?_; omega) | (refine isOk isR33 ?_; omega) | (refine isOk ?_ ?_; assumption; omega)) only [mm_r, mm_rl, mm_add, mm_sub, mm_mul, mm_addJ, mm_mulJ, mm_lt, mm_le, mm_eq, mm_z, mm_cl, mm_w, mm_wl, mm_ite, mm_i2l, mm_l2i, mm_ltJ, mm_leJ, mm_eqJ, mm_clt, mm_cle, mm_cgt, mm_cge, mm_ceq, mm_b, mm_nb, mm_nb0, mm_nb1, mm_vb0, mm_vb1, mm_vbc, mm_vy0, mm_vy1, mm_at, mm_ne, mm_nj, mm_Lw, mm_Nw, mm_atJ, mm_neJ, mm_njJ, zbI_s, zbV_s, zbJ_s, cond_t, Bool.true_and, Bool.and_true, if_true, if_false, not_true, not_false_iff, Classical.not_not, zel_r, zel_42, zel_12, zel_71, zel_80, zel_89, zel_110, zel_188, zel_103, zel_195, zr_o, zr_1, zr_2, zr_3, zr_4, zr_5, zr_6, zr_7, zr_8, zr_9, zq_o, zq_v, zt_o, zt_1, zt_2, zt_3, zt_4, zt_5, zf_o, zf_1, za_w1, za_w2, za_w3, za_cm, za_sl, Int.toNat_natCast, Int.toNat_natCast_add_one, mm_t0, mm_t1, mm_t2, mm_t3, mm_t4, mm_t5, mm_t6, mm_t7, mm_t8, mm_t9, mm_t10, mm_t11, mm_t12, mm_t13, za_1, za_64, za_65, za_66, za_67, za_68, za_71, za_80, za_89, za_98, za_103, za_110, za_121, za_122, za_123, za_124, za_125, za_126, za_188, za_193, za_194, za_195, za_286, za_288, za_289, za_290, za_291, za_292, za_293, za_294, za_295, za_296, za_297, za_298, za_299, za_300, za_301, za_302, za_303, za_304, za_305, za_306, za_307, za_308, za_309, za_310, za_311, za_312]
    rw [if_pos (by omega), if_pos (by omega), show i = k by omega]
  | m + 1, k, e, hk => by
    have h8 := hW.2.1
    have hN := wayBy_N hW a0 a1 (.inl rfl) b0 b1
    rcases hN.1 with hz | ⟨n0, n1, n2⟩
    · omega
    have hlast := hN.2 (by omega)
    have ht := n2.2.1 k (by omega) hk
    have hE2 : wayBy W a (-1) b = lead W b 8 (1, fun _ => a) := if_pos rfl
    refine ze_204_49 _ _ _ _ _ _ ?_
    simp (disch := first | assumption | exact isR33 | exact isT104 | exact isF99 | exact isF101 | exact isR3 | omega | (refine isTk ?_; omega) | (refine isOk isR33 ?_; omega) | (refine isOk ?_ ?_; assumption; omega)) only [mm_r, mm_rl, mm_add, mm_sub, mm_mul, mm_addJ, mm_mulJ, mm_lt, mm_le, mm_eq, mm_z, mm_cl, mm_w, mm_wl, mm_ite, mm_i2l, mm_l2i, mm_ltJ, mm_leJ, mm_eqJ, mm_clt, mm_cle, mm_cgt, mm_cge, mm_ceq, mm_b, mm_nb, mm_nb0, mm_nb1, mm_vb0, mm_vb1, mm_vbc, mm_vy0, mm_vy1, mm_at, mm_ne, mm_nj, mm_Lw, mm_Nw, mm_atJ, mm_neJ, mm_njJ, zbI_s, zbV_s, zbJ_s, cond_t, Bool.true_and, Bool.and_true, if_true, if_false, not_true, not_false_iff, Classical.not_not, zel_r, zel_42, zel_12, zel_71, zel_80, zel_89, zel_110, zel_188, zel_103, zel_195, zr_o, zr_1, zr_2, zr_3, zr_4, zr_5, zr_6, zr_7, zr_8, zr_9, zq_o, zq_v, zt_o, zt_1, zt_2, zt_3, zt_4, zt_5, zf_o, zf_1, za_w1, za_w2, za_w3, za_cm, za_sl, Int.toNat_natCast, Int.toNat_natCast_add_one, mm_t0, mm_t1, mm_t2, mm_t3, mm_t4, mm_t5, mm_t6, mm_t7, mm_t8, mm_t9, mm_t10, mm_t11, mm_t12, mm_t13, za_1, za_64, za_65, za_66, za_67, za_68, za_71, za_80, za_89, za_98, za_103, za_110, za_121, za_122, za_123, za_124, za_125, za_126, za_188, za_193, za_194, za_195, za_286, za_288, za_289, za_290, za_291, za_292, za_293, za_294, za_295, za_296, za_297, za_298, za_299, za_300, za_301, za_302, za_303, za_304, za_305, za_306, za_307, za_308, za_309, za_310, za_311, za_312]
    rw [if_neg (by omega)]
    by_cases q : (wayBy W a (-1) b).2 k = b
    · have hge : ¬ i < (wayBy W a (-1) b).1 := by
        intro hi
        have := lead_nx (W := W) (g := b) 8 (1, fun _ => a) k (by show (0 : Int) < 1; decide) (by show (1 : Int) - 1 ≤ k; omega) (by rw [← hE2]; omega)
        rw [← hE2] at this
        exact this.1 q
      rw [if_neg (fun p => p q), if_neg hge]
    · rw [if_pos q]
      have hk1 : (k : Int) + 1 < (wayBy W a (-1) b).1 := by
        rcases Decidable.em ((k : Int) + 1 < (wayBy W a (-1) b).1) with h | h
        · exact h
        · have : (wayBy W a (-1) b).2 k = b := by
            refine Eq.trans ?_ hlast
            show _ = (wayBy W a (-1) b).2 ((wayBy W a (-1) b).1 - 1)
            rw [show (wayBy W a (-1) b).1 - 1 = k by omega]
          exact absurd this q
      have hnx := lead_nx (W := W) (g := b) 8 (1, fun _ => a) k (by show (0 : Int) < 1; decide) (by show (1 : Int) - 1 ≤ k; omega) (by rw [← hE2]; exact hk1)
      rw [← hE2] at hnx
      have hdd : DD W ((wayBy W a (-1) b).2 k) b < 1000000 := by
        rcases Decidable.em (DD W ((wayBy W a (-1) b).2 k) b < 1000000) with h | h
        · exact h
        · have e1 : NX W ((wayBy W a (-1) b).2 k) b = -1 := if_pos (.inr (by omega))
          have := n2.2.1 ((k : Int) + 1) (by omega) hk1
          rw [hnx.2, e1] at this
          omega
      have s := sp_202 (σ := σ) (a := (wayBy W a (-1) b).2 k) (b := b) (T := (W 0).toNat) (by rw [hw]; exact hW) (by rw [wv_k hw 0]; show W 0 = _; omega) (by rw [hw]; exact hE) ht.1 (by omega) b0 (by omega) q (by rw [hw]; exact hdd)
      rw [hw, ← hnx.2] at s
      rw [s, zbI_s]
      exact lp_204 hW hw hE a0 a1 b0 b1 hl i1 m (k + 1) (by omega) hk1
theorem rq_way {σ : zM} {W : Int → Int} {a b i : Int} (hB : rB0 σ W) (ha0 : -2147483648 ≤ a) (ha1 : a < 2147483648) (hb0 : -2147483648 ≤ b) (hb1 : b < 2147483648) (hi0 : -2147483648 ≤ i) (hi1 : i < 2147483648) : zwp (zcall 204 [.ref 287, .int (Int32.ofInt a), .int (Int32.ofInt b), .int (Int32.ofInt i)] σ) (fun v τ => v = some (.int (Int32.ofInt (Eway W a b i))) ∧ rK σ τ) := by
  have e0 : zN σ 288 0 = W 0 := wv_k hB.1 0
  have h0 := hB.2.1.1.1.1
  have h8 := hB.2.1.1.1.2.1
  have s1 := sp_168 (n := a) (σ := σ) (by omega) (by omega) (by omega)
  have s2 := sp_168 (n := b) (σ := σ) (by omega) (by omega) (by omega)
  rw [e0] at s1 s2
  unfold Eway
  refine zwp_of (fun r h => zcc_204 (ze_204_0 _ _ _ _ r h)) ?_
  simp (disch := first | assumption | exact isR33 | exact isT104 | exact isF99 | exact isF101 | exact isR3 | omega | (refine isTk ?_; omega) | (refine isOk isR33 ?_; omega) | (refine isOk ?_ ?_; assumption; omega)) only [mm_r, mm_rl, mm_add, mm_sub, mm_mul, mm_addJ, mm_mulJ, mm_lt, mm_le, mm_eq, mm_z, mm_cl, mm_w, mm_wl, mm_ite, mm_i2l, mm_l2i, mm_ltJ, mm_leJ, mm_eqJ, mm_clt, mm_cle, mm_cgt, mm_cge, mm_ceq, mm_b, mm_nb, mm_nb0, mm_nb1, mm_vb0, mm_vb1, mm_vbc, mm_vy0, mm_vy1, mm_at, mm_ne, mm_nj, mm_Lw, mm_Nw, mm_atJ, mm_neJ, mm_njJ, zbI_s, zbV_s, zbJ_s, cond_t, Bool.true_and, Bool.and_true, if_true, if_false, not_true, not_false_iff, Classical.not_not, zel_r, zel_42, zel_12, zel_71, zel_80, zel_89, zel_110, zel_188, zel_103, zel_195, zr_o, zr_1, zr_2, zr_3, zr_4, zr_5, zr_6, zr_7, zr_8, zr_9, zq_o, zq_v, zt_o, zt_1, zt_2, zt_3, zt_4, zt_5, zf_o, zf_1, za_w1, za_w2, za_w3, za_cm, za_sl, Int.toNat_natCast, Int.toNat_natCast_add_one, mm_t0, mm_t1, mm_t2, mm_t3, mm_t4, mm_t5, mm_t6, mm_t7, mm_t8, mm_t9, mm_t10, mm_t11, mm_t12, mm_t13, za_1, za_64, za_65, za_66, za_67, za_68, za_71, za_80, za_89, za_98, za_103, za_110, za_121, za_122, za_123, za_124, za_125, za_126, za_188, za_193, za_194, za_195, za_286, za_288, za_289, za_290, za_291, za_292, za_293, za_294, za_295, za_296, za_297, za_298, za_299, za_300, za_301, za_302, za_303, za_304, za_305, za_306, za_307, za_308, za_309, za_310, za_311, za_312, s1, s2]
  refine zwp_ite (fun q => ?_) (fun q => ?_)
  · rw [if_neg (fun p => q p.1)]
    exact zwp_ret ⟨rfl, rK.rf⟩
  · have q := Classical.not_not.mp q
    refine zwp_ite (fun q2 => ?_) (fun q2 => ?_)
    · rw [if_pos (⟨q, q2⟩ : inT W a ∧ inT W b)]
      refine zwp_V _ (sp_200 (by rw [hB.1]; exact hB.2.1.1.1)) ?_
      rintro τ ⟨hf, hE⟩
      rw [hB.1, e0] at hE
      have e : zN τ 294 (8 * a + b).toNat = DD W a b := hE a b q.1 (by omega) q2.1 (by omega)
      have hk : rK σ τ := rK_go (hf.mono (by omega))
      rw [sp_201 q.1 (by omega) q2.1 (by omega), zbI_s, e]
      have r := DD_rng hB.2.1.1.1 q.1 q.2 q2.1 q2.2
      have hN := wayBy_N hB.2.1.1.1 q.1 q.2 (.inl rfl) q2.1 q2.2
      have hE2 : wayBy W a (-1) b = lead W b 8 (1, fun _ => a) := if_pos rfl
      simp (disch := first | assumption | exact isR33 | exact isT104 | exact isF99 | exact isF101 | exact isR3 | omega | (refine isTk ?_; omega) | (refine isOk isR33 ?_; omega) | (refine isOk ?_ ?_; assumption; omega)) only [mm_r, mm_rl, mm_add, mm_sub, mm_mul, mm_addJ, mm_mulJ, mm_lt, mm_le, mm_eq, mm_z, mm_cl, mm_w, mm_wl, mm_ite, mm_i2l, mm_l2i, mm_ltJ, mm_leJ, mm_eqJ, mm_clt, mm_cle, mm_cgt, mm_cge, mm_ceq, mm_b, mm_nb, mm_nb0, mm_nb1, mm_vb0, mm_vb1, mm_vbc, mm_vy0, mm_vy1, mm_at, mm_ne, mm_nj, mm_Lw, mm_Nw, mm_atJ, mm_neJ, mm_njJ, zbI_s, zbV_s, zbJ_s, cond_t, Bool.true_and, Bool.and_true, if_true, if_false, not_true, not_false_iff, Classical.not_not, zel_r, zel_42, zel_12, zel_71, zel_80, zel_89, zel_110, zel_188, zel_103, zel_195, zr_o, zr_1, zr_2, zr_3, zr_4, zr_5, zr_6, zr_7, zr_8, zr_9, zq_o, zq_v, zt_o, zt_1, zt_2, zt_3, zt_4, zt_5, zf_o, zf_1, za_w1, za_w2, za_w3, za_cm, za_sl, Int.toNat_natCast, Int.toNat_natCast_add_one, mm_t0, mm_t1, mm_t2, mm_t3, mm_t4, mm_t5, mm_t6, mm_t7, mm_t8, mm_t9, mm_t10, mm_t11, mm_t12, mm_t13, za_1, za_64, za_65, za_66, za_67, za_68, za_71, za_80, za_89, za_98, za_103, za_110, za_121, za_122, za_123, za_124, za_125, za_126, za_188, za_193, za_194, za_195, za_286, za_288, za_289, za_290, za_291, za_292, za_293, za_294, za_295, za_296, za_297, za_298, za_299, za_300, za_301, za_302, za_303, za_304, za_305, za_306, za_307, za_308, za_309, za_310, za_311, za_312]
      refine zwp_ite (fun q3 => ?_) (fun q3 => ?_)
      · have hz : (wayBy W a (-1) b).1 = 0 := by
          rw [hE2]
          refine lead_no 7 (by show (0 : Int) < 1; decide) ?_ q3
          intro h
          have h : a = b := h
          rw [h, DD_self hB.2.1.1.1 q2.1 q2.2] at q3
          omega
        rw [if_neg (by omega)]
        exact zwp_ret ⟨rfl, hk⟩
      · refine zwp_ite (fun q4 => ?_) (fun q4 => ?_)
        · have hpos : 0 < (wayBy W a (-1) b).1 := by
            have := (lead_N hB.2.1.1.1 q2.1 q2.2 (wy1 q.1 q.2)).2.2 (by show (1 : Int) ≠ 0; decide)
            rcases hN.1 with h | h
            · rw [hE2] at h
              have := this.mp h
              have : 1000000 ≤ DD W a b := this
              omega
            · exact h.1
          have h00 : (wayBy W a (-1) b).2 0 = a := by
            rw [hE2, lead_pre 8 _ 0 (by show (0 : Int) < 1; decide)]
          have l := lp_204 (i := i) hB.2.1.1.1 ((hf.wv 288 (by decide)).trans hB.1) hE q.1 q.2 q2.1 q2.2 (by omega) hi1 i.toNat 0 (by omega) hpos
          rw [show (((0 : Nat) : Int)) = 0 from rfl, h00] at l
          have ee : (if 0 ≤ i ∧ i < (wayBy W a (-1) b).1 then (wayBy W a (-1) b).2 i else -1) = (if i < (wayBy W a (-1) b).1 then (wayBy W a (-1) b).2 i else -1) := by
            by_cases z : i < (wayBy W a (-1) b).1
            · rw [if_pos ⟨q4, z⟩, if_pos z]
            · rw [if_neg (fun p => z p.2), if_neg z]
          rw [ee]
          exact zwp_E l ⟨rfl, hk⟩
        · rw [if_neg (by omega)]
          exact zwp_ret ⟨rfl, hk⟩
    · rw [if_neg (fun p => q2 p.2)]
      exact zwp_ret ⟨rfl, rK.rf⟩
/-! when he comes to each town -/
def TIo (W : Int → Int) (D : Int → Int → Bool) (o : Int) : Nat → Int := tI W (FL W D) (WAY W o) (oo W o 6) (pac W o) (res W o)
def TOo (W : Int → Int) (D : Int → Int → Bool) (o : Int) : Nat → Int := tO W (FL W D) (WAY W o) (oo W o 6) (pac W o) (res W o)
def Epasses (W : Int → Int) (o i : Int) : Int := if inO W o then (if 0 ≤ i ∧ i < (WAY W o).1 then TIo W noD o i.toNat else -1) else -2
theorem WOK.tr {W : Int → Int} (hW : WOK W) {o : Int} (h : inO W o) (D : Int → Int → Bool) : wyN W 29 (WAY W o) ∧ 0 ≤ (WAY W o).1 ∧ (WAY W o).1 ≤ 29 ∧ (∀ i : Nat, (i : Int) < (WAY W o).1 → 0 ≤ TIo W D o i ∧ TIo W D o i ≤ 9000) ∧ (∀ i : Nat, (i : Int) + 1 < (WAY W o).1 → TIo W D o i ≤ TOo W D o i ∧ TOo W D o i < TIo W D o (i + 1) ∧ 0 ≤ TOo W D o i ∧ TOo W D o i ≤ 9000) := by
  have ho := (hW.2.2.2.2 o h.1 h.2).1
  have hh := hW.1.2.2.1
  have hN := (WAY_N hW.1.1 ho).1
  obtain ⟨-, -, -, -, -, -, -, t0, t1, -, -, p0, p1, s0, s1⟩ := ho
  refine ⟨hN, ?_⟩
  rcases hN with q | ⟨w0, w1, w2⟩
  · exact ⟨by omega, by omega, fun i hi => by omega, fun i hi => by omega⟩
  · refine ⟨by omega, w1, fun i hi => ?_, fun i hi => ?_⟩
    · have t := tI_rng hW.1.1 hh (F := FL W D) w2 t0 t1 p0 p1 s0 s1 i hi
      unfold TIo
      omega
    · have t := tI_rng hW.1.1 hh (F := FL W D) w2 t0 t1 p0 p1 s0 s1 i (by omega)
      have u := tO_rng hW.1.1 hh (F := FL W D) w2 t0 t1 p0 p1 s0 s1 (i := i) hi
      have r := w2.rd hW.1.1 (i := i) hi
      have pr := pRH p0 p1 r.2.2.2.1 r.2.2.2.2
      have s := tI_s W (FL W D) (WAY W o) (oo W o 6) (pac W o) (res W o) i
      unfold TIo TOo
      omega
theorem sp_96 {a : Nat} {i N : Int} {T : Nat → Int} {σ : zM} (ha : isTrip a) (hi0 : -2147483648 ≤ i) (hi1 : i < 2147483648) (hn : zN σ a 0 = N) (hN : N ≤ 29) (hN0 : 0 ≤ N) (hT : 0 ≤ i → i < N → zN σ (a + 4) i.toNat = T i.toNat) : zcall 96 [.ref a, .int (Int32.ofInt i)] σ = some (some (.int (Int32.ofInt (if 0 ≤ i ∧ i < N then T i.toNat else -1))), σ) := by
  refine zcc_96 (ze_96_0 _ _ _ _ ?_)
  simp (disch := first | assumption | exact isR33 | exact isT104 | exact isF99 | exact isF101 | exact isR3 | omega | (refine isTk ?_; omega) | (refine isOk isR33 ?_; omega) | (refine isOk ?_ ?_; assumption; omega)) only [mm_r, mm_rl, mm_add, mm_sub, mm_mul, mm_addJ, mm_mulJ, mm_lt, mm_le, mm_eq, mm_z, mm_cl, mm_w, mm_wl, mm_ite, mm_i2l, mm_l2i, mm_ltJ, mm_leJ, mm_eqJ, mm_clt, mm_cle, mm_cgt, mm_cge, mm_ceq, mm_b, mm_nb, mm_nb0, mm_nb1, mm_vb0, mm_vb1, mm_vbc, mm_vy0, mm_vy1, mm_at, mm_ne, mm_nj, mm_Lw, mm_Nw, mm_atJ, mm_neJ, mm_njJ, zbI_s, zbV_s, zbJ_s, cond_t, Bool.true_and, Bool.and_true, if_true, if_false, not_true, not_false_iff, Classical.not_not, zel_r, zel_42, zel_12, zel_71, zel_80, zel_89, zel_110, zel_188, zel_103, zel_195, zr_o, zr_1, zr_2, zr_3, zr_4, zr_5, zr_6, zr_7, zr_8, zr_9, zq_o, zq_v, zt_o, zt_1, zt_2, zt_3, zt_4, zt_5, zf_o, zf_1, za_w1, za_w2, za_w3, za_cm, za_sl, Int.toNat_natCast, Int.toNat_natCast_add_one, mm_t0, mm_t1, mm_t2, mm_t3, mm_t4, mm_t5, mm_t6, mm_t7, mm_t8, mm_t9, mm_t10, mm_t11, mm_t12, mm_t13, za_1, za_64, za_65, za_66, za_67, za_68, za_71, za_80, za_89, za_98, za_103, za_110, za_121, za_122, za_123, za_124, za_125, za_126, za_188, za_193, za_194, za_195, za_286, za_288, za_289, za_290, za_291, za_292, za_293, za_294, za_295, za_296, za_297, za_298, za_299, za_300, za_301, za_302, za_303, za_304, za_305, za_306, za_307, za_308, za_309, za_310, za_311, za_312, hn]
  by_cases q : 0 ≤ i ∧ i < N
  · rw [if_neg (by omega), if_neg (by omega), if_pos q, hT q.1 q.2]
  · rw [if_neg q]
    by_cases q2 : i < 0
    · rw [if_pos q2]
    · rw [if_neg q2, if_pos (by omega)]
theorem cq_passes {σ : zM} {W : Int → Int} {o i : Int} (hW : WOK W) (hC : ctC σ W) (ho0 : -2147483648 ≤ o) (ho1 : o < 2147483648) (hi0 : -2147483648 ≤ i) (hi1 : i < 2147483648) : zwp (zcall 115 [.ref 0, .int (Int32.ofInt o), .int (Int32.ofInt i)] σ) (fun v τ => v = some (.int (Int32.ofInt (Epasses W o i))) ∧ cK σ τ W) := by
  have e7 := hC.1.1.2.2.2.2.2.2.2
  have h5 := hW.2.2.1
  have s := sp_79 (p := 33) (n := o) (σ := σ) isR33 (by omega) (by omega)
  rw [e7] at s
  unfold Epasses
  refine zwp_of (fun r h => zcc_115 (ze_115_0 _ _ _ r h)) ?_
  simp (disch := first | assumption | exact isR33 | exact isT104 | exact isF99 | exact isF101 | exact isR3 | omega | (refine isTk ?_; omega) | (refine isOk isR33 ?_; omega) | (refine isOk ?_ ?_; assumption; omega)) only [mm_r, mm_rl, mm_add, mm_sub, mm_mul, mm_addJ, mm_mulJ, mm_lt, mm_le, mm_eq, mm_z, mm_cl, mm_w, mm_wl, mm_ite, mm_i2l, mm_l2i, mm_ltJ, mm_leJ, mm_eqJ, mm_clt, mm_cle, mm_cgt, mm_cge, mm_ceq, mm_b, mm_nb, mm_nb0, mm_nb1, mm_vb0, mm_vb1, mm_vbc, mm_vy0, mm_vy1, mm_at, mm_ne, mm_nj, mm_Lw, mm_Nw, mm_atJ, mm_neJ, mm_njJ, zbI_s, zbV_s, zbJ_s, cond_t, Bool.true_and, Bool.and_true, if_true, if_false, not_true, not_false_iff, Classical.not_not, zel_r, zel_42, zel_12, zel_71, zel_80, zel_89, zel_110, zel_188, zel_103, zel_195, zr_o, zr_1, zr_2, zr_3, zr_4, zr_5, zr_6, zr_7, zr_8, zr_9, zq_o, zq_v, zt_o, zt_1, zt_2, zt_3, zt_4, zt_5, zf_o, zf_1, za_w1, za_w2, za_w3, za_cm, za_sl, Int.toNat_natCast, Int.toNat_natCast_add_one, mm_t0, mm_t1, mm_t2, mm_t3, mm_t4, mm_t5, mm_t6, mm_t7, mm_t8, mm_t9, mm_t10, mm_t11, mm_t12, mm_t13, za_1, za_64, za_65, za_66, za_67, za_68, za_71, za_80, za_89, za_98, za_103, za_110, za_121, za_122, za_123, za_124, za_125, za_126, za_188, za_193, za_194, za_195, za_286, za_288, za_289, za_290, za_291, za_292, za_293, za_294, za_295, za_296, za_297, za_298, za_299, za_300, za_301, za_302, za_303, za_304, za_305, za_306, za_307, za_308, za_309, za_310, za_311, za_312, s]
  refine zwp_ite (fun q => ?_) (fun q => ?_)
  · rw [if_neg q]
    exact zwp_ret ⟨rfl, cK.rf hC⟩
  · have q := Classical.not_not.mp q
    have hv := (hC.2.2.2.2 o q.1 q.2).2.1
    have ht := hW.tr (o := o) q noD
    rw [if_pos (q : inO W o)]
    rw [sp_96 (T := TIo W noD o) (isTk (by omega)) hi0 hi1 hv.1.1 ht.2.2.1 ht.2.1 (fun h0 h1 => (hv.2.1 (by omega)).1 _ (by omega)), zbI_s]
    exact zwp_ret ⟨rfl, cK.rf hC⟩
theorem rq_passes {σ : zM} {W : Int → Int} {o i : Int} (hB : rB0 σ W) (ho0 : -2147483648 ≤ o) (ho1 : o < 2147483648) (hi0 : -2147483648 ≤ i) (hi1 : i < 2147483648) : zwp (zcall 214 [.ref 287, .int (Int32.ofInt o), .int (Int32.ofInt i)] σ) (fun v τ => v = some (.int (Int32.ofInt (Epasses W o i))) ∧ rK σ τ) := by
  have e5 : zN σ 288 5 = W 5 := wv_k hB.1 5
  have h5 := hB.2.1.2.2.1
  have s := sp_170 (n := o) (σ := σ) (by omega) (by omega) (by omega)
  rw [e5] at s
  unfold Epasses
  refine zwp_of (fun r h => zcc_214 (ze_214_0 _ _ _ r h)) ?_
  simp (disch := first | assumption | exact isR33 | exact isT104 | exact isF99 | exact isF101 | exact isR3 | omega | (refine isTk ?_; omega) | (refine isOk isR33 ?_; omega) | (refine isOk ?_ ?_; assumption; omega)) only [mm_r, mm_rl, mm_add, mm_sub, mm_mul, mm_addJ, mm_mulJ, mm_lt, mm_le, mm_eq, mm_z, mm_cl, mm_w, mm_wl, mm_ite, mm_i2l, mm_l2i, mm_ltJ, mm_leJ, mm_eqJ, mm_clt, mm_cle, mm_cgt, mm_cge, mm_ceq, mm_b, mm_nb, mm_nb0, mm_nb1, mm_vb0, mm_vb1, mm_vbc, mm_vy0, mm_vy1, mm_at, mm_ne, mm_nj, mm_Lw, mm_Nw, mm_atJ, mm_neJ, mm_njJ, zbI_s, zbV_s, zbJ_s, cond_t, Bool.true_and, Bool.and_true, if_true, if_false, not_true, not_false_iff, Classical.not_not, zel_r, zel_42, zel_12, zel_71, zel_80, zel_89, zel_110, zel_188, zel_103, zel_195, zr_o, zr_1, zr_2, zr_3, zr_4, zr_5, zr_6, zr_7, zr_8, zr_9, zq_o, zq_v, zt_o, zt_1, zt_2, zt_3, zt_4, zt_5, zf_o, zf_1, za_w1, za_w2, za_w3, za_cm, za_sl, Int.toNat_natCast, Int.toNat_natCast_add_one, mm_t0, mm_t1, mm_t2, mm_t3, mm_t4, mm_t5, mm_t6, mm_t7, mm_t8, mm_t9, mm_t10, mm_t11, mm_t12, mm_t13, za_1, za_64, za_65, za_66, za_67, za_68, za_71, za_80, za_89, za_98, za_103, za_110, za_121, za_122, za_123, za_124, za_125, za_126, za_188, za_193, za_194, za_195, za_286, za_288, za_289, za_290, za_291, za_292, za_293, za_294, za_295, za_296, za_297, za_298, za_299, za_300, za_301, za_302, za_303, za_304, za_305, za_306, za_307, za_308, za_309, za_310, za_311, za_312, s]
  refine zwp_ite (fun q => ?_) (fun q => ?_)
  · rw [if_pos (q : inO W o)]
    have ht := hB.2.1.tr (o := o) q noD
    refine zwp_V _ (sp_210c hB) ?_
    rintro τ ⟨hk, hg⟩
    obtain ⟨g1, g2, g3, g4⟩ := hg.2.1 o q.1 q.2
    have e := g3.1
    simp (disch := first | assumption | exact isR33 | exact isT104 | exact isF99 | exact isF101 | exact isR3 | omega | (refine isTk ?_; omega) | (refine isOk isR33 ?_; omega) | (refine isOk ?_ ?_; assumption; omega)) only [mm_r, mm_rl, mm_add, mm_sub, mm_mul, mm_addJ, mm_mulJ, mm_lt, mm_le, mm_eq, mm_z, mm_cl, mm_w, mm_wl, mm_ite, mm_i2l, mm_l2i, mm_ltJ, mm_leJ, mm_eqJ, mm_clt, mm_cle, mm_cgt, mm_cge, mm_ceq, mm_b, mm_nb, mm_nb0, mm_nb1, mm_vb0, mm_vb1, mm_vbc, mm_vy0, mm_vy1, mm_at, mm_ne, mm_nj, mm_Lw, mm_Nw, mm_atJ, mm_neJ, mm_njJ, zbI_s, zbV_s, zbJ_s, cond_t, Bool.true_and, Bool.and_true, if_true, if_false, not_true, not_false_iff, Classical.not_not, zel_r, zel_42, zel_12, zel_71, zel_80, zel_89, zel_110, zel_188, zel_103, zel_195, zr_o, zr_1, zr_2, zr_3, zr_4, zr_5, zr_6, zr_7, zr_8, zr_9, zq_o, zq_v, zt_o, zt_1, zt_2, zt_3, zt_4, zt_5, zf_o, zf_1, za_w1, za_w2, za_w3, za_cm, za_sl, Int.toNat_natCast, Int.toNat_natCast_add_one, mm_t0, mm_t1, mm_t2, mm_t3, mm_t4, mm_t5, mm_t6, mm_t7, mm_t8, mm_t9, mm_t10, mm_t11, mm_t12, mm_t13, za_1, za_64, za_65, za_66, za_67, za_68, za_71, za_80, za_89, za_98, za_103, za_110, za_121, za_122, za_123, za_124, za_125, za_126, za_188, za_193, za_194, za_195, za_286, za_288, za_289, za_290, za_291, za_292, za_293, za_294, za_295, za_296, za_297, za_298, za_299, za_300, za_301, za_302, za_303, za_304, za_305, za_306, za_307, za_308, za_309, za_310, za_311, za_312, e, sp_163]
    by_cases q2 : 0 ≤ i ∧ i < (WAY W o).1
    · have v := (g4 (by omega)).1 i.toNat (by omega)
      rw [show (32 * o + (i.toNat : Int)) = 32 * o + i by omega] at v
      rw [if_pos q2, if_neg (by omega)]
      try simp (disch := first | assumption | exact isR33 | exact isT104 | exact isF99 | exact isF101 | exact isR3 | omega | (refine isTk ?_; omega) | (refine isOk isR33 ?_; omega) | (refine isOk ?_ ?_; assumption; omega)) only [mm_r, mm_rl, mm_add, mm_sub, mm_mul, mm_addJ, mm_mulJ, mm_lt, mm_le, mm_eq, mm_z, mm_cl, mm_w, mm_wl, mm_ite, mm_i2l, mm_l2i, mm_ltJ, mm_leJ, mm_eqJ, mm_clt, mm_cle, mm_cgt, mm_cge, mm_ceq, mm_b, mm_nb, mm_nb0, mm_nb1, mm_vb0, mm_vb1, mm_vbc, mm_vy0, mm_vy1, mm_at, mm_ne, mm_nj, mm_Lw, mm_Nw, mm_atJ, mm_neJ, mm_njJ, zbI_s, zbV_s, zbJ_s, cond_t, Bool.true_and, Bool.and_true, if_true, if_false, not_true, not_false_iff, Classical.not_not, zel_r, zel_42, zel_12, zel_71, zel_80, zel_89, zel_110, zel_188, zel_103, zel_195, zr_o, zr_1, zr_2, zr_3, zr_4, zr_5, zr_6, zr_7, zr_8, zr_9, zq_o, zq_v, zt_o, zt_1, zt_2, zt_3, zt_4, zt_5, zf_o, zf_1, za_w1, za_w2, za_w3, za_cm, za_sl, Int.toNat_natCast, Int.toNat_natCast_add_one, mm_t0, mm_t1, mm_t2, mm_t3, mm_t4, mm_t5, mm_t6, mm_t7, mm_t8, mm_t9, mm_t10, mm_t11, mm_t12, mm_t13, za_1, za_64, za_65, za_66, za_67, za_68, za_71, za_80, za_89, za_98, za_103, za_110, za_121, za_122, za_123, za_124, za_125, za_126, za_188, za_193, za_194, za_195, za_286, za_288, za_289, za_290, za_291, za_292, za_293, za_294, za_295, za_296, za_297, za_298, za_299, za_300, za_301, za_302, za_303, za_304, za_305, za_306, za_307, za_308, za_309, za_310, za_311, za_312, v]
      exact zwp_ret ⟨rfl, hk⟩
    · rw [if_neg q2, if_pos (by omega)]
      exact zwp_ret ⟨rfl, hk⟩
  · rw [if_neg (q : ¬ inO W o)]
    exact zwp_ret ⟨rfl, rK.rf⟩
