/-! THE TEXT: the class reads an order's way, an order, a line -/
theorem lp_70 {σ0 : zM} {T : Int → Int} {sz : Int} {W : Int → Int} {q : Nat} (hW : WOK W) (h5 : W 5 < 10) (hq : q = 13 + 2 * (W 5).toNat) : ∀ (k i : Nat) (s : tk) (vs : Int → Int) (σ : zM) (L V : Nat → Int), i + k = 3 → (i = 0 ∨ s.1 = 2) → gQ σ T sz s W q L V → rdF σ0 σ → (∀ j : Nat, j < i → V j = vs j ∧ 0 ≤ vs j ∧ vs j < W 0) → L 7 = i → zwp (zev 70 23 [some (.ref 2), some (.ref q), some (.int (Int32.ofInt i))] [] σ) (fun v τ => v = none ∧ ((∃ (nv : Nat) (vs' : Int → Int) (s' : tk) (V' : Nat → Int), (∀ K, rvia T sz (W 0) k i vs s K = K nv vs' s') ∧ nv ≤ 3 ∧ (∀ j : Nat, j < nv → V' j = vs' j ∧ 0 ≤ vs' j ∧ vs' j < W 0) ∧ gQ τ T sz s' W q (lU L 7 nv) V' ∧ rdF σ0 τ) ∨ ∃ f p, (∀ K, rvia T sz (W 0) k i vs s K = er f p) ∧ bdQ σ0 τ f p))
  | 0, i, s, vs, σ, L, V, e, hi, h, hf, hv, hL7 => by
    refine zwp_of (fun r h => ze_70_23 _ _ _ r h) ?_
    refine zwp_t (by rw [mm_le (by omega) (by omega) (by omega) (by omega)]; omega) ?_
    refine zwp_ret ⟨rfl, .inl ⟨i, vs, s, V, fun K => rfl, by omega, hv, ⟨h.1, fun k => ?_, h.2.2⟩, hf⟩⟩
    show _ = if k = 7 then (i : Int) else L k
    by_cases z : k = 7
    · rw [if_pos z, z, h.2.1, hL7]
    · rw [if_neg z]
      exact h.2.1 k
  | k + 1, i, s, vs, σ, L, V, e, hi, h, hf, hv, hL7 => by
    have h5' := hW.2.2.1
    have h8 := hW.1.1.2.1
    have h80 := hW.1.1.1
    have hQ := zoQ (W := W) (by omega) h5 hq
    have zo := zq_o hQ.1
    have hbody : zwp (cond (zobj q 3) (zbI (zcall 58 [.ref 2, .int (Int32.ofInt (0)), .int ((zI σ 3 1) - (Int32.ofInt (1)))] σ) (fun v4 τ4 => cond (zarr (q + 1) 100 (Int32.ofInt i)) (zlet (zsI τ4 (q + 1) (Int32.ofInt i).toNatClampNeg v4) (fun τ5 => cond (zobj q 3) (zlet (zsI τ5 q 7 ((Int32.ofInt i) + (Int32.ofInt (1)))) (fun τ6 => zev 70 23 [some (.ref 2), some (.ref q), some (.int ((Int32.ofInt i) + (Int32.ofInt (1))))] [] τ6)) none)) none)) none) (fun v τ => v = none ∧ ((∃ (nv : Nat) (vs' : Int → Int) (s' : tk) (V' : Nat → Int), (∀ K, rvia T sz (W 0) (k + 1) i vs s K = K nv vs' s') ∧ nv ≤ 3 ∧ (∀ j : Nat, j < nv → V' j = vs' j ∧ 0 ≤ vs' j ∧ vs' j < W 0) ∧ gQ τ T sz s' W q (lU L 7 nv) V' ∧ rdF σ0 τ) ∨ ∃ f p, (∀ K, rvia T sz (W 0) (k + 1) i vs s K = er f p) ∧ bdQ σ0 τ f p)) := by
      refine zwp_cd zo ?_
      have k1 := h.1.2.2.2.2.2.1.2.1
      rw [mm_r σ 3 1, k1, mm_sub]
      refine zwp_IC (o58 h.1 (by omega) (by decide) (by decide) (by omega) (by omega)) ?_
      rintro v τ ⟨m2, f2, ⟨rfl, q1, u0, u1, g2⟩ | ⟨rfl, f, hE, hB⟩⟩
      · refine ⟨_, rfl, ?_⟩
        have gq := h.sc g2 m2 (by omega)
        have ff := hf.tr f2
        have en : ∀ K, rvia T sz (W 0) (k + 1) i vs s K = if (nxt T sz s).1 = 2 then rvia T sz (W 0) k ((i : Int) + 1) (vU vs i s.2.2.2) (nxt T sz s) K else K ((i : Int) + 1) (vU vs i s.2.2.2) (nxt T sz s) := fun K => by
          rw [rvia]
          unfold nm
          rw [if_pos q1, if_pos ⟨u0, u1⟩]
        generalize s.2.2.2 = u at u0 u1 en ⊢
        refine zwp_cd (zq_v hQ.1 (by omega) (by omega)) ?_
        refine zwp_letE (τ' := zw τ (q + 1) i u) (by simp (disch := first | assumption | exact isR33 | exact isT104 | exact isF99 | exact isF101 | exact isR3 | omega | (refine isTk ?_; omega) | (refine isOk isR33 ?_; omega) | (refine isOk ?_ ?_; assumption; omega)) only [mm_r, mm_rl, mm_add, mm_sub, mm_mul, mm_addJ, mm_mulJ, mm_lt, mm_le, mm_eq, mm_z, mm_cl, mm_w, mm_wl, mm_ite, mm_i2l, mm_l2i, mm_ltJ, mm_leJ, mm_eqJ, mm_clt, mm_cle, mm_cgt, mm_cge, mm_ceq, mm_b, mm_nb, mm_nb0, mm_nb1, mm_vb0, mm_vb1, mm_vbc, mm_vy0, mm_vy1, mm_at, mm_ne, mm_nj, mm_Lw, mm_Nw, mm_atJ, mm_neJ, mm_njJ, zbI_s, zbV_s, zbJ_s, cond_t, Bool.true_and, Bool.and_true, if_true, if_false, not_true, not_false_iff, Classical.not_not, zel_r, zel_42, zel_12, zel_71, zel_80, zel_89, zel_110, zel_188, zel_103, zel_195, zr_o, zr_1, zr_2, zr_3, zr_4, zr_5, zr_6, zr_7, zr_8, zr_9, zq_o, zq_v, zt_o, zt_1, zt_2, zt_3, zt_4, zt_5, zf_o, zf_1, za_w1, za_w2, za_w3, za_cm, za_sl, Int.toNat_natCast, Int.toNat_natCast_add_one, mm_t0, mm_t1, mm_t2, mm_t3, mm_t4, mm_t5, mm_t6, mm_t7, mm_t8, mm_t9, mm_t10, mm_t11, mm_t12, mm_t13, za_1, za_64, za_65, za_66, za_67, za_68, za_71, za_80, za_89, za_98, za_103, za_110, za_121, za_122, za_123, za_124, za_125, za_126, za_188, za_193, za_194, za_195, za_286, za_288, za_289, za_290, za_291, za_292, za_293, za_294, za_295, za_296, za_297, za_298, za_299, za_300, za_301, za_302, za_303, za_304, za_305, za_306, za_307, za_308, za_309, za_310, za_311, za_312]) ?_
        refine zwp_cd zo ?_
        refine zwp_letE (τ' := zw (zw τ (q + 1) i u) q 7 ((i : Int) + 1)) (by simp (disch := first | assumption | exact isR33 | exact isT104 | exact isF99 | exact isF101 | exact isR3 | omega | (refine isTk ?_; omega) | (refine isOk isR33 ?_; omega) | (refine isOk ?_ ?_; assumption; omega)) only [mm_r, mm_rl, mm_add, mm_sub, mm_mul, mm_addJ, mm_mulJ, mm_lt, mm_le, mm_eq, mm_z, mm_cl, mm_w, mm_wl, mm_ite, mm_i2l, mm_l2i, mm_ltJ, mm_leJ, mm_eqJ, mm_clt, mm_cle, mm_cgt, mm_cge, mm_ceq, mm_b, mm_nb, mm_nb0, mm_nb1, mm_vb0, mm_vb1, mm_vbc, mm_vy0, mm_vy1, mm_at, mm_ne, mm_nj, mm_Lw, mm_Nw, mm_atJ, mm_neJ, mm_njJ, zbI_s, zbV_s, zbJ_s, cond_t, Bool.true_and, Bool.and_true, if_true, if_false, not_true, not_false_iff, Classical.not_not, zel_r, zel_42, zel_12, zel_71, zel_80, zel_89, zel_110, zel_188, zel_103, zel_195, zr_o, zr_1, zr_2, zr_3, zr_4, zr_5, zr_6, zr_7, zr_8, zr_9, zq_o, zq_v, zt_o, zt_1, zt_2, zt_3, zt_4, zt_5, zf_o, zf_1, za_w1, za_w2, za_w3, za_cm, za_sl, Int.toNat_natCast, Int.toNat_natCast_add_one, mm_t0, mm_t1, mm_t2, mm_t3, mm_t4, mm_t5, mm_t6, mm_t7, mm_t8, mm_t9, mm_t10, mm_t11, mm_t12, mm_t13, za_1, za_64, za_65, za_66, za_67, za_68, za_71, za_80, za_89, za_98, za_103, za_110, za_121, za_122, za_123, za_124, za_125, za_126, za_188, za_193, za_194, za_195, za_286, za_288, za_289, za_290, za_291, za_292, za_293, za_294, za_295, za_296, za_297, za_298, za_299, za_300, za_301, za_302, za_303, za_304, za_305, za_306, za_307, za_308, za_309, za_310, za_311, za_312]) ?_
        have hm3 : mf (fun b => b = q ∨ b = q + 1) τ (zw (zw τ (q + 1) i u) q 7 ((i : Int) + 1)) := (mf.rf.zw _ _ _ (.inr rfl)).zw _ _ _ (.inl rfl)
        have g3 : gQ (zw (zw τ (q + 1) i u) q 7 ((i : Int) + 1)) T sz (nxt T sz s) W q (lU L 7 ((i : Int) + 1)) (lU V i u) := by
          refine ⟨gq.1.q (by omega) h5 hq hm3, fun j => ?_, fun j => ?_⟩
          · show _ = if j = 7 then (i : Int) + 1 else L j
            by_cases z : j = 7
            · rw [if_pos z, mm_at rfl z (by omega) (by omega)]
            · rw [if_neg z, mm_nj z, mm_ne (by omega)]
              exact gq.2.1 j
          · show _ = if j = i then u else V j
            rw [mm_ne (by omega)]
            by_cases z : j = i
            · rw [if_pos z, mm_at rfl z (by omega) (by omega)]
            · rw [if_neg z, mm_nj z]
              exact gq.2.2 j
        have f3 : rdF σ0 (zw (zw τ (q + 1) i u) q 7 ((i : Int) + 1)) := ff.tr ⟨hm3.mono (by omega), hm3.1 2 (by omega) 2⟩
        generalize zw (zw τ (q + 1) i u) q 7 ((i : Int) + 1) = υ at g3 f3 ⊢
        have hv3 : ∀ j : Nat, j < i + 1 → lU V i u j = vU vs i u j ∧ 0 ≤ vU vs i u j ∧ vU vs i u j < W 0 := by
          intro j hj
          unfold lU vU
          by_cases z : j = i
          · rw [if_pos z, if_pos (by omega)]
            exact ⟨rfl, u0, by omega⟩
          · rw [if_neg z, if_neg (by omega)]
            exact hv j (by omega)
        rw [mm_add]
        have eL : ∀ nv : Int, lU (lU L 7 ((i : Int) + 1)) 7 nv = lU L 7 nv := fun nv => by
          funext j
          unfold lU
          split <;> rfl
        by_cases z : (nxt T sz s).1 = 2
        · have l := lp_70 hW h5 hq k (i + 1) (nxt T sz s) (vU vs i u) υ (lU L 7 ((i : Int) + 1)) (lU V i u) (by omega) (.inr z) g3 f3 hv3 rfl
          refine zwp_mono l ?_
          rintro v ω ⟨rfl, ⟨nv, vs', s', V', c1, c2, c3, c4, c5⟩ | ⟨f, p, c1, c2⟩⟩
          · refine ⟨rfl, .inl ⟨nv, vs', s', V', fun K => ?_, c2, c3, ?_, c5⟩⟩
            · rw [en, if_pos z]
              exact c1 K
            · rw [eL] at c4
              exact c4
          · refine ⟨rfl, .inr ⟨f, p, fun K => ?_, c2⟩⟩
            rw [en, if_pos z]
            exact c1 K
        · have hres : zwp (some (none, υ)) (fun v τ => v = none ∧ ((∃ (nv : Nat) (vs' : Int → Int) (s' : tk) (V' : Nat → Int), (∀ K, rvia T sz (W 0) (k + 1) i vs s K = K nv vs' s') ∧ nv ≤ 3 ∧ (∀ j : Nat, j < nv → V' j = vs' j ∧ 0 ≤ vs' j ∧ vs' j < W 0) ∧ gQ τ T sz s' W q (lU L 7 nv) V' ∧ rdF σ0 τ) ∨ ∃ f p, (∀ K, rvia T sz (W 0) (k + 1) i vs s K = er f p) ∧ bdQ σ0 τ f p)) := by
            refine zwp_ret ⟨rfl, .inl ⟨i + 1, vU vs i u, nxt T sz s, lU V i u, fun K => ?_, by omega, hv3, g3, f3⟩⟩
            rw [en, if_neg z]
            rfl
          refine zwp_of (fun r h => ze_70_23 _ _ _ r h) ?_
          by_cases z2 : 3 ≤ (i : Int) + 1
          · refine zwp_t (by rw [mm_le (by omega) (by omega) (by omega) (by omega)]; omega) ?_
            exact hres
          · refine zwp_f (by rw [mm_le (by omega) (by omega) (by omega) (by omega)]; omega) ?_
            refine zwp_f g3.1.nz ?_
            refine zwp_f (by rw [mm_z, mm_eq (by omega) (by omega) (by omega) (by omega)]; omega) ?_
            have hk := g3.1.2.2.2.1.1
            have ok := g3.1.2.2.2.2.1.1
            refine zwp_t (by rw [mm_r, hk, mm_eq (by omega) (by omega) (by omega) (by omega)]; exact z) ?_
            exact hres
      · refine ⟨_, rfl, ?_⟩
        have hb := hB.q (hf.tr f2)
        refine zwp_cd (zq_v hQ.1 (by omega) (by omega)) (zwp_let (zwp_cd zo (zwp_let ?_)))
        have hb3 : bdQ σ0 (zsI (zsI τ (q + 1) (Int32.ofInt (i : Int)).toNatClampNeg (Int32.ofInt (-1))) q 7 (Int32.ofInt (i : Int) + Int32.ofInt 1)) f s.2.1 := (hb.w hQ (zsI_m τ (q + 1) _ _ (.inr rfl))).w hQ (zsI_m _ q 7 _ (.inl rfl))
        generalize zsI (zsI τ (q + 1) (Int32.ofInt (i : Int)).toNatClampNeg (Int32.ofInt (-1))) q 7 (Int32.ofInt (i : Int) + Int32.ofInt 1) = υ at hb3 ⊢
        have hres : zwp (some (none, υ)) (fun v τ => v = none ∧ ((∃ (nv : Nat) (vs' : Int → Int) (s' : tk) (V' : Nat → Int), (∀ K, rvia T sz (W 0) (k + 1) i vs s K = K nv vs' s') ∧ nv ≤ 3 ∧ (∀ j : Nat, j < nv → V' j = vs' j ∧ 0 ≤ vs' j ∧ vs' j < W 0) ∧ gQ τ T sz s' W q (lU L 7 nv) V' ∧ rdF σ0 τ) ∨ ∃ f p, (∀ K, rvia T sz (W 0) (k + 1) i vs s K = er f p) ∧ bdQ σ0 τ f p)) := by
          refine zwp_ret ⟨rfl, .inr ⟨f, s.2.1, fun K => ?_, hb3⟩⟩
          rw [rvia]
          exact hE _
        refine zwp_of (fun r h => ze_70_23 _ _ _ r h) ?_
        refine zwp_ite (fun _ => hres) (fun _ => zwp_t (bd_z hb3.n) hres)
    refine zwp_of (fun r h => ze_70_23 _ _ _ r h) ?_
    refine zwp_f (by rw [mm_le (by omega) (by omega) (by omega) (by omega)]; omega) ?_
    refine zwp_f h.1.nz ?_
    by_cases z : i = 0
    · refine zwp_t (by rw [z]; rfl) ?_
      exact hbody
    · refine zwp_f (by rw [mm_z, mm_eq (by omega) (by omega) (by omega) (by omega)]; omega) ?_
      have hk := h.1.2.2.2.1.1
      have s2 : s.1 = 2 := hi.resolve_left z
      refine zwp_f (by rw [mm_r, hk, s2]; exact fun p => p rfl) ?_
      exact hbody
/-- the way of an order -/
noncomputable def rWay (T : Int → Int) (sz : Int) (W : Int → Int) (s : tk) (K : Int → (Int → Int) → tk → rdZ) : rdZ := wif T sz 1000016 s (fun s => rvia T sz (W 0) 3 0 (vs0 W) s K) (K 0 (vs0 W) s)
theorem sp_70 {σ0 σ : zM} {T : Int → Int} {sz : Int} {s : tk} {W : Int → Int} {q : Nat} {L V : Nat → Int} (h : gQ σ T sz s W q L V) (hf : rdF σ0 σ) (hW : WOK W) (h5 : W 5 < 10) (hq : q = 13 + 2 * (W 5).toNat) : zwp (zcall 70 [.ref 2, .ref q] σ) (fun v τ => v = none ∧ ((∃ (nv : Nat) (vs' : Int → Int) (s' : tk) (V' : Nat → Int), (∀ K, rWay T sz W s K = K nv vs' s') ∧ nv ≤ 3 ∧ (∀ j : Nat, j < nv → V' j = vs' j ∧ 0 ≤ vs' j ∧ vs' j < W 0) ∧ gQ τ T sz s' W q (lU L 7 nv) V' ∧ rdF σ0 τ) ∨ ∃ f p, (∀ K, rWay T sz W s K = er f p) ∧ bdQ σ0 τ f p)) := by
  have h5' := hW.2.2.1
  have hQ := zoQ (W := W) (by omega) h5 hq
  have zo := zq_o hQ.1
  refine zwp_of (fun r h => zcc_70 (ze_70_0 _ _ r h)) ?_
  refine zwp_cd zo ?_
  refine zwp_letE (τ' := zw σ q 7 0) (by simp (disch := first | assumption | exact isR33 | exact isT104 | exact isF99 | exact isF101 | exact isR3 | omega | (refine isTk ?_; omega) | (refine isOk isR33 ?_; omega) | (refine isOk ?_ ?_; assumption; omega)) only [mm_r, mm_rl, mm_add, mm_sub, mm_mul, mm_addJ, mm_mulJ, mm_lt, mm_le, mm_eq, mm_z, mm_cl, mm_w, mm_wl, mm_ite, mm_i2l, mm_l2i, mm_ltJ, mm_leJ, mm_eqJ, mm_clt, mm_cle, mm_cgt, mm_cge, mm_ceq, mm_b, mm_nb, mm_nb0, mm_nb1, mm_vb0, mm_vb1, mm_vbc, mm_vy0, mm_vy1, mm_at, mm_ne, mm_nj, mm_Lw, mm_Nw, mm_atJ, mm_neJ, mm_njJ, zbI_s, zbV_s, zbJ_s, cond_t, Bool.true_and, Bool.and_true, if_true, if_false, not_true, not_false_iff, Classical.not_not, zel_r, zel_42, zel_12, zel_71, zel_80, zel_89, zel_110, zel_188, zel_103, zel_195, zr_o, zr_1, zr_2, zr_3, zr_4, zr_5, zr_6, zr_7, zr_8, zr_9, zq_o, zq_v, zt_o, zt_1, zt_2, zt_3, zt_4, zt_5, zf_o, zf_1, za_w1, za_w2, za_w3, za_cm, za_sl, Int.toNat_natCast, Int.toNat_natCast_add_one, mm_t0, mm_t1, mm_t2, mm_t3, mm_t4, mm_t5, mm_t6, mm_t7, mm_t8, mm_t9, mm_t10, mm_t11, mm_t12, mm_t13, za_1, za_64, za_65, za_66, za_67, za_68, za_71, za_80, za_89, za_98, za_103, za_110, za_121, za_122, za_123, za_124, za_125, za_126, za_188, za_193, za_194, za_195, za_286, za_288, za_289, za_290, za_291, za_292, za_293, za_294, za_295, za_296, za_297, za_298, za_299, za_300, za_301, za_302, za_303, za_304, za_305, za_306, za_307, za_308, za_309, za_310, za_311, za_312]) ?_
  have hm3 : mf (fun b => b = q ∨ b = q + 1) σ (zw σ q 7 0) := mf.rf.zw _ _ _ (.inl rfl)
  have g3 : gQ (zw σ q 7 0) T sz s W q (lU L 7 0) V := by
    refine ⟨h.1.q (by omega) h5 hq hm3, fun j => ?_, fun j => (mm_ne (by omega)).trans (h.2.2 j)⟩
    show _ = if j = 7 then 0 else L j
    by_cases z : j = 7
    · rw [if_pos z, mm_at rfl z (by omega) (by omega)]
    · rw [if_neg z, mm_nj z]
      exact h.2.1 j
  have f3 : rdF σ0 (zw σ q 7 0) := hf.tr ⟨hm3.mono (by omega), hm3.1 2 (by omega) 2⟩
  generalize zw σ q 7 0 = τ0 at g3 f3 ⊢
  obtain ⟨b, hb, e⟩ := sp_55 (a := 1000016) g3.1.t (by decide)
  rw [e, zbI_s]
  rcases hb with ⟨rfl, hw⟩ | ⟨rfl, hw⟩
  · refine zwp_t (by decide) ?_
    refine zwp_V _ (o56 (a := 1000016) g3.1 (by omega) (by decide)) ?_
    rintro τ1 (⟨-, g1, s1⟩ | ⟨n1, -⟩)
    · have l := lp_70 (σ0 := σ0) hW h5 hq 3 0 (nxt T sz s) (vs0 W) τ1 (lU L 7 0) V rfl (.inl rfl) (g3.sc g1 s1.1 (by omega)) (f3.tr s1.R) (fun j hj => absurd hj (by omega)) rfl
      refine zwp_mono l ?_
      have em : ∀ K, rWay T sz W s K = rvia T sz (W 0) 3 0 (vs0 W) (nxt T sz s) K := fun K => wif_y hw
      have eL : ∀ nv : Int, lU (lU L 7 0) 7 nv = lU L 7 nv := fun nv => by
        funext j
        unfold lU
        split <;> rfl
      rintro v ω ⟨rfl, ⟨nv, vs', s', V', c1, c2, c3, c4, c5⟩ | ⟨f, p, c1, c2⟩⟩
      · refine ⟨rfl, .inl ⟨nv, vs', s', V', fun K => (em K).trans (c1 K), c2, c3, ?_, c5⟩⟩
        rw [eL] at c4
        exact c4
      · exact ⟨rfl, .inr ⟨f, p, fun K => (em K).trans (c1 K), c2⟩⟩
    · exact absurd hw n1
  · refine zwp_f (by decide) ?_
    exact zwp_ret ⟨rfl, .inl ⟨0, vs0 W, s, V, fun K => wif_n hw, by decide, fun j hj => absurd hj (by omega), g3, f3⟩⟩
