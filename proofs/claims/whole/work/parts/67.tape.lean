/-! CALLS: feed, end -/
def byA (x : Int32) (j : Int) : Int := (vp_nar .byte ((x >>> (Int32.ofInt (24 - 8 * j) &&& 31)).toInt8.toInt32)).toInt
theorem zs_n (σ : zM) (a k : Nat) (v : Int32) : zsI σ a k v = zw σ a k v.toInt := by
  unfold zw
  rw [Int32.ofInt_toInt]
theorem byA_rng (x : Int32) (j : Int) : -2147483648 ≤ byA x j ∧ byA x j < 2147483648 := by
  have a := Int32.le_toInt (vp_nar .byte ((x >>> (Int32.ofInt (24 - 8 * j) &&& 31)).toInt8.toInt32))
  have b := Int32.toInt_lt (vp_nar .byte ((x >>> (Int32.ofInt (24 - 8 * j) &&& 31)).toInt8.toInt32))
  unfold byA
  omega
/-- the tape after m more -/
def tpA (r : Nat) (σ τ : zM) (n : Int) (xs : Nat → Int32) (m : Nat) : Prop := ∀ i : Nat, zN τ r i = if n ≤ i ∧ (i : Int) < n + m then byA (xs ((i - n.toNat) / 4)) ((((i - n.toNat) % 4 : Nat)) : Int) else zN σ r i
def fdK (σ τ : zM) : Prop := mf (fun b => b = 0 ∨ b = 1) σ τ ∧ ∀ k : Nat, k ≠ 1 → zN τ 0 k = zN σ 0 k
theorem lp_106 {σ0 : zM} {n : Int} {xs : Nat → Int32} {q : Nat} (n0 : 0 ≤ n) (n1 : n + 20 ≤ 2000) (hq : q < 5) : ∀ (k j : Nat) (σ : zM), j + k = 4 → fdK σ0 σ → zN σ 0 1 = n + (4 * q + j : Nat) → tpA 1 σ0 σ n xs (4 * q + j) → zwp (zev 106 3 [some (.ref 0), some (.int (xs q)), some (.int (Int32.ofInt (24 - 8 * (j : Int))))] [] σ) (fun v τ => v = none ∧ fdK σ0 τ ∧ zN τ 0 1 = n + (4 * q + 4 : Nat) ∧ tpA 1 σ0 τ n xs (4 * q + 4))
  | 0, j, σ, e, hf, hn, ht => by
    obtain rfl : j = 4 := by omega
    refine zwp_of (fun r h => ze_106_3 _ _ _ r h) ?_
    refine zwp_t (by decide) ?_
    exact zwp_ret ⟨rfl, hf, hn, ht⟩
  | k + 1, j, σ, e, hf, hn, ht => by
    have br := byA_rng (xs q) j
    refine zwp_of (fun r h => ze_106_3 _ _ _ r h) ?_
    refine zwp_f (by try simp (disch := first | assumption | exact isR33 | exact isT104 | exact isF99 | exact isF101 | exact isR3 | omega | (refine isTk ?_; omega) | (refine isOk isR33 ?_; omega) | (refine isOk ?_ ?_; assumption; omega)) only [mm_r, mm_rl, mm_add, mm_sub, mm_mul, mm_addJ, mm_mulJ, mm_lt, mm_le, mm_eq, mm_z, mm_cl, mm_w, mm_wl, mm_ite, mm_i2l, mm_l2i, mm_ltJ, mm_leJ, mm_eqJ, mm_clt, mm_cle, mm_cgt, mm_cge, mm_ceq, mm_b, mm_nb, mm_nb0, mm_nb1, mm_vb0, mm_vb1, mm_vbc, mm_vy0, mm_vy1, mm_at, mm_ne, mm_nj, mm_Lw, mm_Nw, mm_atJ, mm_neJ, mm_njJ, zbI_s, zbV_s, zbJ_s, cond_t, Bool.true_and, Bool.and_true, if_true, if_false, not_true, not_false_iff, Classical.not_not, zel_r, zel_42, zel_12, zel_71, zel_80, zel_89, zel_110, zel_188, zel_103, zel_195, zr_o, zr_1, zr_2, zr_3, zr_4, zr_5, zr_6, zr_7, zr_8, zr_9, zq_o, zq_v, zt_o, zt_1, zt_2, zt_3, zt_4, zt_5, zf_o, zf_1, za_w1, za_w2, za_w3, za_cm, za_sl, Int.toNat_natCast, Int.toNat_natCast_add_one, mm_t0, mm_t1, mm_t2, mm_t3, mm_t4, mm_t5, mm_t6, mm_t7, mm_t8, mm_t9, mm_t10, mm_t11, mm_t12, mm_t13, za_1, za_64, za_65, za_66, za_67, za_68, za_71, za_80, za_89, za_98, za_103, za_110, za_121, za_122, za_123, za_124, za_125, za_126, za_188, za_193, za_194, za_195, za_286, za_288, za_289, za_290, za_291, za_292, za_293, za_294, za_295, za_296, za_297, za_298, za_299, za_300, za_301, za_302, za_303, za_304, za_305, za_306, za_307, za_308, za_309, za_310, za_311, za_312]; first | done | omega) ?_
    refine zwp_f (by try simp (disch := first | assumption | exact isR33 | exact isT104 | exact isF99 | exact isF101 | exact isR3 | omega | (refine isTk ?_; omega) | (refine isOk isR33 ?_; omega) | (refine isOk ?_ ?_; assumption; omega)) only [mm_r, mm_rl, mm_add, mm_sub, mm_mul, mm_addJ, mm_mulJ, mm_lt, mm_le, mm_eq, mm_z, mm_cl, mm_w, mm_wl, mm_ite, mm_i2l, mm_l2i, mm_ltJ, mm_leJ, mm_eqJ, mm_clt, mm_cle, mm_cgt, mm_cge, mm_ceq, mm_b, mm_nb, mm_nb0, mm_nb1, mm_vb0, mm_vb1, mm_vbc, mm_vy0, mm_vy1, mm_at, mm_ne, mm_nj, mm_Lw, mm_Nw, mm_atJ, mm_neJ, mm_njJ, zbI_s, zbV_s, zbJ_s, cond_t, Bool.true_and, Bool.and_true, if_true, if_false, not_true, not_false_iff, Classical.not_not, zel_r, zel_42, zel_12, zel_71, zel_80, zel_89, zel_110, zel_188, zel_103, zel_195, zr_o, zr_1, zr_2, zr_3, zr_4, zr_5, zr_6, zr_7, zr_8, zr_9, zq_o, zq_v, zt_o, zt_1, zt_2, zt_3, zt_4, zt_5, zf_o, zf_1, za_w1, za_w2, za_w3, za_cm, za_sl, Int.toNat_natCast, Int.toNat_natCast_add_one, mm_t0, mm_t1, mm_t2, mm_t3, mm_t4, mm_t5, mm_t6, mm_t7, mm_t8, mm_t9, mm_t10, mm_t11, mm_t12, mm_t13, za_1, za_64, za_65, za_66, za_67, za_68, za_71, za_80, za_89, za_98, za_103, za_110, za_121, za_122, za_123, za_124, za_125, za_126, za_188, za_193, za_194, za_195, za_286, za_288, za_289, za_290, za_291, za_292, za_293, za_294, za_295, za_296, za_297, za_298, za_299, za_300, za_301, za_302, za_303, za_304, za_305, za_306, za_307, za_308, za_309, za_310, za_311, za_312, hn]; first | done | omega) ?_
    rw [mm_r, hn, mm_cl (by omega) (by omega)]
    refine zwp_cd (za_1 (by omega) (by omega)) ?_
    rw [zs_n]
    refine zwp_let ?_
    rw [mm_r, mm_ne (by decide), hn, mm_add, mm_w, mm_add]
    refine zwp_let ?_
    rw [show (24 - 8 * (j : Int) + -8) = 24 - 8 * ((j + 1 : Nat) : Int) by omega]
    refine lp_106 n0 n1 hq k (j + 1) _ (by omega) ⟨(hf.1.zw 1 _ _ (.inr rfl)).zw 0 _ _ (.inl rfl), fun k hk => (mm_nj hk).trans ((mm_ne (by decide)).trans (hf.2 k hk))⟩ ?_ (fun i => ?_)
    · rw [mm_at rfl rfl (by omega) (by omega)]
      omega
    · rw [mm_ne (by decide)]
      change zN (zw σ 1 (n + (4 * q + j : Nat)).toNat (byA (xs q) j)) 1 i = _
      by_cases z : i = (n + (4 * q + j : Nat)).toNat
      · rw [mm_at rfl z (by omega) (by omega), if_pos (by omega), show (i - n.toNat) / 4 = q by omega, show (i - n.toNat) % 4 = j by omega]
      · rw [mm_nj z, ht i]
        by_cases w : n ≤ (i : Int) ∧ (i : Int) < n + (4 * q + j : Nat)
        · rw [if_pos w, if_pos (by omega)]
        · rw [if_neg w, if_neg (by omega)]
theorem sp_106 {σ0 σ : zM} {n : Int} {xs : Nat → Int32} {q : Nat} (n0 : 0 ≤ n) (n1 : n + 20 ≤ 2000) (hq : q < 5) (hf : fdK σ0 σ) (hn : zN σ 0 1 = n + (4 * q : Nat)) (ht : tpA 1 σ0 σ n xs (4 * q)) : zwp (zcall 106 [.ref 0, .int (xs q)] σ) (fun v τ => v = none ∧ fdK σ0 τ ∧ zN τ 0 1 = n + (4 * (q + 1) : Nat) ∧ tpA 1 σ0 τ n xs (4 * (q + 1))) := by
  refine zwp_of (fun r h => zcc_106 (ze_106_0 _ _ r h)) ?_
  exact lp_106 n0 n1 hq 4 0 σ (by omega) hf hn ht
def x5 (a b c d e : Int32) : Nat → Int32
  | 0 => a
  | 1 => b
  | 2 => c
  | 3 => d
  | _ => e
def Efd (n : Int) : Int := if n + 20 ≤ 2000 then n + 20 else -1
theorem tpA_0 {r : Nat} {σ : zM} {n : Int} {xs : Nat → Int32} : tpA r σ σ n xs 0 := fun i => by
  rw [if_neg (by omega)]
theorem cq_feed {σ : zM} {n : Int} {a b c d e : Int32} (n0 : 0 ≤ n) (n1 : n ≤ 2000) (hn : zN σ 0 1 = n) : zwp (zcall 105 [.ref 0, .int a, .int b, .int c, .int d, .int e] σ) (fun v τ => v = some (.int (Int32.ofInt (Efd n))) ∧ fdK σ τ ∧ (n + 20 ≤ 2000 → zN τ 0 1 = n + 20 ∧ tpA 1 σ τ n (x5 a b c d e) 20) ∧ (¬ n + 20 ≤ 2000 → τ = σ)) := by
  refine zwp_of (fun r h => zcc_105 (ze_105_0 _ _ _ _ _ _ r h)) ?_
  rw [mm_r, hn, mm_add]
  by_cases q : n + 20 ≤ 2000
  · rw [show Efd n = n + 20 from if_pos q]
    refine zwp_t (by try simp (disch := first | assumption | exact isR33 | exact isT104 | exact isF99 | exact isF101 | exact isR3 | omega | (refine isTk ?_; omega) | (refine isOk isR33 ?_; omega) | (refine isOk ?_ ?_; assumption; omega)) only [mm_r, mm_rl, mm_add, mm_sub, mm_mul, mm_addJ, mm_mulJ, mm_lt, mm_le, mm_eq, mm_z, mm_cl, mm_w, mm_wl, mm_ite, mm_i2l, mm_l2i, mm_ltJ, mm_leJ, mm_eqJ, mm_clt, mm_cle, mm_cgt, mm_cge, mm_ceq, mm_b, mm_nb, mm_nb0, mm_nb1, mm_vb0, mm_vb1, mm_vbc, mm_vy0, mm_vy1, mm_at, mm_ne, mm_nj, mm_Lw, mm_Nw, mm_atJ, mm_neJ, mm_njJ, zbI_s, zbV_s, zbJ_s, cond_t, Bool.true_and, Bool.and_true, if_true, if_false, not_true, not_false_iff, Classical.not_not, zel_r, zel_42, zel_12, zel_71, zel_80, zel_89, zel_110, zel_188, zel_103, zel_195, zr_o, zr_1, zr_2, zr_3, zr_4, zr_5, zr_6, zr_7, zr_8, zr_9, zq_o, zq_v, zt_o, zt_1, zt_2, zt_3, zt_4, zt_5, zf_o, zf_1, za_w1, za_w2, za_w3, za_cm, za_sl, Int.toNat_natCast, Int.toNat_natCast_add_one, mm_t0, mm_t1, mm_t2, mm_t3, mm_t4, mm_t5, mm_t6, mm_t7, mm_t8, mm_t9, mm_t10, mm_t11, mm_t12, mm_t13, za_1, za_64, za_65, za_66, za_67, za_68, za_71, za_80, za_89, za_98, za_103, za_110, za_121, za_122, za_123, za_124, za_125, za_126, za_188, za_193, za_194, za_195, za_286, za_288, za_289, za_290, za_291, za_292, za_293, za_294, za_295, za_296, za_297, za_298, za_299, za_300, za_301, za_302, za_303, za_304, za_305, za_306, za_307, za_308, za_309, za_310, za_311, za_312]; first | done | omega) ?_
    refine zwp_V _ (sp_106 (q := 0) (xs := x5 a b c d e) n0 q (by decide) (⟨mf.rf, fun _ _ => rfl⟩ : fdK σ σ) (by omega) tpA_0) ?_
    rintro τ1 ⟨f1, h1, t1⟩
    refine zwp_V _ (sp_106 (q := 1) (xs := x5 a b c d e) n0 q (by decide) f1 h1 t1) ?_
    rintro τ2 ⟨f2, h2, t2⟩
    refine zwp_V _ (sp_106 (q := 2) (xs := x5 a b c d e) n0 q (by decide) f2 h2 t2) ?_
    rintro τ3 ⟨f3, h3, t3⟩
    refine zwp_V _ (sp_106 (q := 3) (xs := x5 a b c d e) n0 q (by decide) f3 h3 t3) ?_
    rintro τ4 ⟨f4, h4, t4⟩
    refine zwp_V _ (sp_106 (q := 4) (xs := x5 a b c d e) n0 q (by decide) f4 h4 t4) ?_
    rintro τ5 ⟨f5, h5, t5⟩
    have h5' : zN τ5 0 1 = n + 20 := by omega
    rw [mm_r, h5']
    exact zwp_ret ⟨rfl, f5, fun _ => ⟨h5', t5⟩, fun p => absurd q p⟩
  · rw [show Efd n = -1 from if_neg q]
    refine zwp_f (by try simp (disch := first | assumption | exact isR33 | exact isT104 | exact isF99 | exact isF101 | exact isR3 | omega | (refine isTk ?_; omega) | (refine isOk isR33 ?_; omega) | (refine isOk ?_ ?_; assumption; omega)) only [mm_r, mm_rl, mm_add, mm_sub, mm_mul, mm_addJ, mm_mulJ, mm_lt, mm_le, mm_eq, mm_z, mm_cl, mm_w, mm_wl, mm_ite, mm_i2l, mm_l2i, mm_ltJ, mm_leJ, mm_eqJ, mm_clt, mm_cle, mm_cgt, mm_cge, mm_ceq, mm_b, mm_nb, mm_nb0, mm_nb1, mm_vb0, mm_vb1, mm_vbc, mm_vy0, mm_vy1, mm_at, mm_ne, mm_nj, mm_Lw, mm_Nw, mm_atJ, mm_neJ, mm_njJ, zbI_s, zbV_s, zbJ_s, cond_t, Bool.true_and, Bool.and_true, if_true, if_false, not_true, not_false_iff, Classical.not_not, zel_r, zel_42, zel_12, zel_71, zel_80, zel_89, zel_110, zel_188, zel_103, zel_195, zr_o, zr_1, zr_2, zr_3, zr_4, zr_5, zr_6, zr_7, zr_8, zr_9, zq_o, zq_v, zt_o, zt_1, zt_2, zt_3, zt_4, zt_5, zf_o, zf_1, za_w1, za_w2, za_w3, za_cm, za_sl, Int.toNat_natCast, Int.toNat_natCast_add_one, mm_t0, mm_t1, mm_t2, mm_t3, mm_t4, mm_t5, mm_t6, mm_t7, mm_t8, mm_t9, mm_t10, mm_t11, mm_t12, mm_t13, za_1, za_64, za_65, za_66, za_67, za_68, za_71, za_80, za_89, za_98, za_103, za_110, za_121, za_122, za_123, za_124, za_125, za_126, za_188, za_193, za_194, za_195, za_286, za_288, za_289, za_290, za_291, za_292, za_293, za_294, za_295, za_296, za_297, za_298, za_299, za_300, za_301, za_302, za_303, za_304, za_305, za_306, za_307, za_308, za_309, za_310, za_311, za_312]; first | done | omega) ?_
    exact zwp_ret ⟨rfl, ⟨mf.rf, fun _ _ => rfl⟩, fun p => absurd p q, fun _ => rfl⟩
def Een (n x : Int) : Int := if 0 ≤ x ∧ x ≤ n then x else -1
theorem cq_end {σ : zM} {n x : Int} (n0 : 0 ≤ n) (n1 : n ≤ 2000) (hn : zN σ 0 1 = n) (x0 : -2147483648 ≤ x) (x1 : x < 2147483648) : zwp (zcall 107 [.ref 0, .int (Int32.ofInt x)] σ) (fun v τ => v = some (.int (Int32.ofInt (Een n x))) ∧ τ = if 0 ≤ x ∧ x ≤ n then zw σ 0 1 x else σ) := by
  refine zwp_of (fun r h => zcc_107 (ze_107_0 _ _ r h)) ?_
  by_cases q : 0 ≤ x ∧ x ≤ n
  · rw [show Een n x = x from if_pos q, if_pos q]
    refine zwp_f (by try simp (disch := first | assumption | exact isR33 | exact isT104 | exact isF99 | exact isF101 | exact isR3 | omega | (refine isTk ?_; omega) | (refine isOk isR33 ?_; omega) | (refine isOk ?_ ?_; assumption; omega)) only [mm_r, mm_rl, mm_add, mm_sub, mm_mul, mm_addJ, mm_mulJ, mm_lt, mm_le, mm_eq, mm_z, mm_cl, mm_w, mm_wl, mm_ite, mm_i2l, mm_l2i, mm_ltJ, mm_leJ, mm_eqJ, mm_clt, mm_cle, mm_cgt, mm_cge, mm_ceq, mm_b, mm_nb, mm_nb0, mm_nb1, mm_vb0, mm_vb1, mm_vbc, mm_vy0, mm_vy1, mm_at, mm_ne, mm_nj, mm_Lw, mm_Nw, mm_atJ, mm_neJ, mm_njJ, zbI_s, zbV_s, zbJ_s, cond_t, Bool.true_and, Bool.and_true, if_true, if_false, not_true, not_false_iff, Classical.not_not, zel_r, zel_42, zel_12, zel_71, zel_80, zel_89, zel_110, zel_188, zel_103, zel_195, zr_o, zr_1, zr_2, zr_3, zr_4, zr_5, zr_6, zr_7, zr_8, zr_9, zq_o, zq_v, zt_o, zt_1, zt_2, zt_3, zt_4, zt_5, zf_o, zf_1, za_w1, za_w2, za_w3, za_cm, za_sl, Int.toNat_natCast, Int.toNat_natCast_add_one, mm_t0, mm_t1, mm_t2, mm_t3, mm_t4, mm_t5, mm_t6, mm_t7, mm_t8, mm_t9, mm_t10, mm_t11, mm_t12, mm_t13, za_1, za_64, za_65, za_66, za_67, za_68, za_71, za_80, za_89, za_98, za_103, za_110, za_121, za_122, za_123, za_124, za_125, za_126, za_188, za_193, za_194, za_195, za_286, za_288, za_289, za_290, za_291, za_292, za_293, za_294, za_295, za_296, za_297, za_298, za_299, za_300, za_301, za_302, za_303, za_304, za_305, za_306, za_307, za_308, za_309, za_310, za_311, za_312]; first | done | omega) ?_
    refine zwp_t (by try simp (disch := first | assumption | exact isR33 | exact isT104 | exact isF99 | exact isF101 | exact isR3 | omega | (refine isTk ?_; omega) | (refine isOk isR33 ?_; omega) | (refine isOk ?_ ?_; assumption; omega)) only [mm_r, mm_rl, mm_add, mm_sub, mm_mul, mm_addJ, mm_mulJ, mm_lt, mm_le, mm_eq, mm_z, mm_cl, mm_w, mm_wl, mm_ite, mm_i2l, mm_l2i, mm_ltJ, mm_leJ, mm_eqJ, mm_clt, mm_cle, mm_cgt, mm_cge, mm_ceq, mm_b, mm_nb, mm_nb0, mm_nb1, mm_vb0, mm_vb1, mm_vbc, mm_vy0, mm_vy1, mm_at, mm_ne, mm_nj, mm_Lw, mm_Nw, mm_atJ, mm_neJ, mm_njJ, zbI_s, zbV_s, zbJ_s, cond_t, Bool.true_and, Bool.and_true, if_true, if_false, not_true, not_false_iff, Classical.not_not, zel_r, zel_42, zel_12, zel_71, zel_80, zel_89, zel_110, zel_188, zel_103, zel_195, zr_o, zr_1, zr_2, zr_3, zr_4, zr_5, zr_6, zr_7, zr_8, zr_9, zq_o, zq_v, zt_o, zt_1, zt_2, zt_3, zt_4, zt_5, zf_o, zf_1, za_w1, za_w2, za_w3, za_cm, za_sl, Int.toNat_natCast, Int.toNat_natCast_add_one, mm_t0, mm_t1, mm_t2, mm_t3, mm_t4, mm_t5, mm_t6, mm_t7, mm_t8, mm_t9, mm_t10, mm_t11, mm_t12, mm_t13, za_1, za_64, za_65, za_66, za_67, za_68, za_71, za_80, za_89, za_98, za_103, za_110, za_121, za_122, za_123, za_124, za_125, za_126, za_188, za_193, za_194, za_195, za_286, za_288, za_289, za_290, za_291, za_292, za_293, za_294, za_295, za_296, za_297, za_298, za_299, za_300, za_301, za_302, za_303, za_304, za_305, za_306, za_307, za_308, za_309, za_310, za_311, za_312, hn]; first | done | omega) ?_
    exact zwp_let (zwp_ret ⟨rfl, rfl⟩)
  · rw [show Een n x = -1 from if_neg q, if_neg q]
    by_cases q2 : x < 0
    · refine zwp_t (by try simp (disch := first | assumption | exact isR33 | exact isT104 | exact isF99 | exact isF101 | exact isR3 | omega | (refine isTk ?_; omega) | (refine isOk isR33 ?_; omega) | (refine isOk ?_ ?_; assumption; omega)) only [mm_r, mm_rl, mm_add, mm_sub, mm_mul, mm_addJ, mm_mulJ, mm_lt, mm_le, mm_eq, mm_z, mm_cl, mm_w, mm_wl, mm_ite, mm_i2l, mm_l2i, mm_ltJ, mm_leJ, mm_eqJ, mm_clt, mm_cle, mm_cgt, mm_cge, mm_ceq, mm_b, mm_nb, mm_nb0, mm_nb1, mm_vb0, mm_vb1, mm_vbc, mm_vy0, mm_vy1, mm_at, mm_ne, mm_nj, mm_Lw, mm_Nw, mm_atJ, mm_neJ, mm_njJ, zbI_s, zbV_s, zbJ_s, cond_t, Bool.true_and, Bool.and_true, if_true, if_false, not_true, not_false_iff, Classical.not_not, zel_r, zel_42, zel_12, zel_71, zel_80, zel_89, zel_110, zel_188, zel_103, zel_195, zr_o, zr_1, zr_2, zr_3, zr_4, zr_5, zr_6, zr_7, zr_8, zr_9, zq_o, zq_v, zt_o, zt_1, zt_2, zt_3, zt_4, zt_5, zf_o, zf_1, za_w1, za_w2, za_w3, za_cm, za_sl, Int.toNat_natCast, Int.toNat_natCast_add_one, mm_t0, mm_t1, mm_t2, mm_t3, mm_t4, mm_t5, mm_t6, mm_t7, mm_t8, mm_t9, mm_t10, mm_t11, mm_t12, mm_t13, za_1, za_64, za_65, za_66, za_67, za_68, za_71, za_80, za_89, za_98, za_103, za_110, za_121, za_122, za_123, za_124, za_125, za_126, za_188, za_193, za_194, za_195, za_286, za_288, za_289, za_290, za_291, za_292, za_293, za_294, za_295, za_296, za_297, za_298, za_299, za_300, za_301, za_302, za_303, za_304, za_305, za_306, za_307, za_308, za_309, za_310, za_311, za_312]; first | done | omega) ?_
      exact zwp_ret ⟨rfl, rfl⟩
    · refine zwp_f (by try simp (disch := first | assumption | exact isR33 | exact isT104 | exact isF99 | exact isF101 | exact isR3 | omega | (refine isTk ?_; omega) | (refine isOk isR33 ?_; omega) | (refine isOk ?_ ?_; assumption; omega)) only [mm_r, mm_rl, mm_add, mm_sub, mm_mul, mm_addJ, mm_mulJ, mm_lt, mm_le, mm_eq, mm_z, mm_cl, mm_w, mm_wl, mm_ite, mm_i2l, mm_l2i, mm_ltJ, mm_leJ, mm_eqJ, mm_clt, mm_cle, mm_cgt, mm_cge, mm_ceq, mm_b, mm_nb, mm_nb0, mm_nb1, mm_vb0, mm_vb1, mm_vbc, mm_vy0, mm_vy1, mm_at, mm_ne, mm_nj, mm_Lw, mm_Nw, mm_atJ, mm_neJ, mm_njJ, zbI_s, zbV_s, zbJ_s, cond_t, Bool.true_and, Bool.and_true, if_true, if_false, not_true, not_false_iff, Classical.not_not, zel_r, zel_42, zel_12, zel_71, zel_80, zel_89, zel_110, zel_188, zel_103, zel_195, zr_o, zr_1, zr_2, zr_3, zr_4, zr_5, zr_6, zr_7, zr_8, zr_9, zq_o, zq_v, zt_o, zt_1, zt_2, zt_3, zt_4, zt_5, zf_o, zf_1, za_w1, za_w2, za_w3, za_cm, za_sl, Int.toNat_natCast, Int.toNat_natCast_add_one, mm_t0, mm_t1, mm_t2, mm_t3, mm_t4, mm_t5, mm_t6, mm_t7, mm_t8, mm_t9, mm_t10, mm_t11, mm_t12, mm_t13, za_1, za_64, za_65, za_66, za_67, za_68, za_71, za_80, za_89, za_98, za_103, za_110, za_121, za_122, za_123, za_124, za_125, za_126, za_188, za_193, za_194, za_195, za_286, za_288, za_289, za_290, za_291, za_292, za_293, za_294, za_295, za_296, za_297, za_298, za_299, za_300, za_301, za_302, za_303, za_304, za_305, za_306, za_307, za_308, za_309, za_310, za_311, za_312]; first | done | omega) ?_
      refine zwp_f (by try simp (disch := first | assumption | exact isR33 | exact isT104 | exact isF99 | exact isF101 | exact isR3 | omega | (refine isTk ?_; omega) | (refine isOk isR33 ?_; omega) | (refine isOk ?_ ?_; assumption; omega)) only [mm_r, mm_rl, mm_add, mm_sub, mm_mul, mm_addJ, mm_mulJ, mm_lt, mm_le, mm_eq, mm_z, mm_cl, mm_w, mm_wl, mm_ite, mm_i2l, mm_l2i, mm_ltJ, mm_leJ, mm_eqJ, mm_clt, mm_cle, mm_cgt, mm_cge, mm_ceq, mm_b, mm_nb, mm_nb0, mm_nb1, mm_vb0, mm_vb1, mm_vbc, mm_vy0, mm_vy1, mm_at, mm_ne, mm_nj, mm_Lw, mm_Nw, mm_atJ, mm_neJ, mm_njJ, zbI_s, zbV_s, zbJ_s, cond_t, Bool.true_and, Bool.and_true, if_true, if_false, not_true, not_false_iff, Classical.not_not, zel_r, zel_42, zel_12, zel_71, zel_80, zel_89, zel_110, zel_188, zel_103, zel_195, zr_o, zr_1, zr_2, zr_3, zr_4, zr_5, zr_6, zr_7, zr_8, zr_9, zq_o, zq_v, zt_o, zt_1, zt_2, zt_3, zt_4, zt_5, zf_o, zf_1, za_w1, za_w2, za_w3, za_cm, za_sl, Int.toNat_natCast, Int.toNat_natCast_add_one, mm_t0, mm_t1, mm_t2, mm_t3, mm_t4, mm_t5, mm_t6, mm_t7, mm_t8, mm_t9, mm_t10, mm_t11, mm_t12, mm_t13, za_1, za_64, za_65, za_66, za_67, za_68, za_71, za_80, za_89, za_98, za_103, za_110, za_121, za_122, za_123, za_124, za_125, za_126, za_188, za_193, za_194, za_195, za_286, za_288, za_289, za_290, za_291, za_292, za_293, za_294, za_295, za_296, za_297, za_298, za_299, za_300, za_301, za_302, za_303, za_304, za_305, za_306, za_307, za_308, za_309, za_310, za_311, za_312, hn]; first | done | omega) ?_
      exact zwp_ret ⟨rfl, rfl⟩
theorem rq_end {σ : zM} {n x : Int} (n0 : 0 ≤ n) (n1 : n ≤ 2000) (hn : zN σ 287 5 = n) (x0 : -2147483648 ≤ x) (x1 : x < 2147483648) : zwp (zcall 176 [.ref 287, .int (Int32.ofInt x)] σ) (fun v τ => v = some (.int (Int32.ofInt (Een n x))) ∧ τ = if 0 ≤ x ∧ x ≤ n then zw σ 287 5 x else σ) := by
  have s := sp_163 (v := x) (a := 0) (b := n) (σ := σ) (by omega) (by omega) (by omega) (by omega) (by omega) (by omega)
  refine zwp_of (fun r h => zcc_176 (ze_176_0 _ _ r h)) ?_
  rw [mm_i2l x0 x1, mm_r, hn, mm_i2l (by omega) (by omega), s, zbI_s]
  by_cases q : 0 ≤ x ∧ x ≤ n
  · rw [show Een n x = x from if_pos q, if_pos q]
    refine zwp_t (by decide) ?_
    exact zwp_let (zwp_ret ⟨rfl, by rw [if_pos q]; rfl⟩)
  · rw [show Een n x = -1 from if_neg q, if_neg q]
    refine zwp_f (by decide) ?_
    exact zwp_ret ⟨rfl, by rw [if_neg q]⟩
theorem q_i4 : ∀ i : Nat, i < 20 → Int32.ofInt i / Int32.ofInt 4 = Int32.ofInt ((i / 4 : Nat) : Int) ∧ (Int32.ofInt 24 - Int32.ofInt 8 * (Int32.ofInt i - Int32.ofInt i / Int32.ofInt 4 * Int32.ofInt 4)) = Int32.ofInt (24 - 8 * ((i % 4 : Nat) : Int)) := by decide +kernel
theorem lp_175 {σ0 : zM} {n : Int} {xs : Nat → Int32} (n0 : 0 ≤ n) (n1 : n + 20 ≤ 2000) : ∀ (k i : Nat) (σ : zM), i + k = 20 → mf (fun b => b = 291) σ0 σ → (∀ q : Nat, q < 5 → zI σ 292 q = xs q) → zN σ 287 5 = n → tpA 291 σ0 σ n xs i → zwp (zev 175 55 [some (.ref 287), none, none, none, none, none, some (.int (Int32.ofInt i))] [] σ) (fun v τ => v = some (.int (Int32.ofInt (n + 20))) ∧ mf (fun b => b = 291 ∨ b = 287) σ0 τ ∧ (∀ k : Nat, k ≠ 5 → zN τ 287 k = zN σ0 287 k) ∧ zN τ 287 5 = n + 20 ∧ tpA 291 σ0 τ n xs 20)
  | 0, i, σ, e, hf, hx, hn, ht => by
    obtain rfl : i = 20 := by omega
    refine zwp_of (fun r h => ze_175_55 _ _ r h) ?_
    refine zwp_t (by decide) ?_
    rw [mm_r, hn, mm_add, mm_w]
    refine zwp_let ?_
    rw [mm_r, mm_at rfl rfl (by omega) (by omega)]
    refine zwp_ret ⟨rfl, (hf.mono (fun b hb => .inl hb)).zw 287 _ _ (.inr rfl), fun k hk => (mm_nj hk).trans (hf.1 287 (by omega) k), mm_at rfl rfl (by omega) (by omega), fun i => ?_⟩
    rw [mm_ne (by decide)]
    exact ht i
  | k + 1, i, σ, e, hf, hx, hn, ht => by
    obtain ⟨e1, e2⟩ := q_i4 i (by omega)
    have br := byA_rng (xs (i / 4)) ((i % 4 : Nat) : Int)
    have hx2 := hx (i / 4) (by omega)
    refine zwp_of (fun r h => ze_175_55 _ _ r h) ?_
    refine zwp_f (by try simp (disch := first | assumption | exact isR33 | exact isT104 | exact isF99 | exact isF101 | exact isR3 | omega | (refine isTk ?_; omega) | (refine isOk isR33 ?_; omega) | (refine isOk ?_ ?_; assumption; omega)) only [mm_r, mm_rl, mm_add, mm_sub, mm_mul, mm_addJ, mm_mulJ, mm_lt, mm_le, mm_eq, mm_z, mm_cl, mm_w, mm_wl, mm_ite, mm_i2l, mm_l2i, mm_ltJ, mm_leJ, mm_eqJ, mm_clt, mm_cle, mm_cgt, mm_cge, mm_ceq, mm_b, mm_nb, mm_nb0, mm_nb1, mm_vb0, mm_vb1, mm_vbc, mm_vy0, mm_vy1, mm_at, mm_ne, mm_nj, mm_Lw, mm_Nw, mm_atJ, mm_neJ, mm_njJ, zbI_s, zbV_s, zbJ_s, cond_t, Bool.true_and, Bool.and_true, if_true, if_false, not_true, not_false_iff, Classical.not_not, zel_r, zel_42, zel_12, zel_71, zel_80, zel_89, zel_110, zel_188, zel_103, zel_195, zr_o, zr_1, zr_2, zr_3, zr_4, zr_5, zr_6, zr_7, zr_8, zr_9, zq_o, zq_v, zt_o, zt_1, zt_2, zt_3, zt_4, zt_5, zf_o, zf_1, za_w1, za_w2, za_w3, za_cm, za_sl, Int.toNat_natCast, Int.toNat_natCast_add_one, mm_t0, mm_t1, mm_t2, mm_t3, mm_t4, mm_t5, mm_t6, mm_t7, mm_t8, mm_t9, mm_t10, mm_t11, mm_t12, mm_t13, za_1, za_64, za_65, za_66, za_67, za_68, za_71, za_80, za_89, za_98, za_103, za_110, za_121, za_122, za_123, za_124, za_125, za_126, za_188, za_193, za_194, za_195, za_286, za_288, za_289, za_290, za_291, za_292, za_293, za_294, za_295, za_296, za_297, za_298, za_299, za_300, za_301, za_302, za_303, za_304, za_305, za_306, za_307, za_308, za_309, za_310, za_311, za_312]; first | done | omega) ?_
    refine zwp_f (by decide) ?_
    rw [e2, e1, mm_cl (by omega) (by omega), Int.toNat_natCast, hx2]
    refine zwp_cd (za_292 (by omega) (by omega)) ?_
    refine zwp_f (by decide) ?_
    rw [mm_r, hn, mm_add, mm_cl (by omega) (by omega)]
    refine zwp_cd (za_291 (by omega) (by omega)) ?_
    rw [zs_n]
    refine zwp_let ?_
    rw [mm_add]
    refine lp_175 n0 n1 k (i + 1) _ (by omega) (hf.zw 291 _ _ rfl) (fun q hq => ?_) ((mm_ne (by decide)).trans hn) (fun y => ?_)
    · have := hx q hq
      rw [mm_r] at this ⊢
      rw [mm_ne (by decide)]
      exact this
    · change zN (zw σ 291 (n + i).toNat (byA (xs (i / 4)) ((i % 4 : Nat) : Int))) 291 y = _
      by_cases z : y = (n + i).toNat
      · rw [mm_at rfl z (by omega) (by omega), if_pos (by omega), show y - n.toNat = i by omega]
      · rw [mm_nj z, ht y]
        by_cases w : n ≤ (y : Int) ∧ (y : Int) < n + i
        · rw [if_pos w, if_pos (by omega)]
        · rw [if_neg w, if_neg (by omega)]
theorem rq_feed {σ : zM} {n : Int} {a b c d e : Int32} (n0 : 0 ≤ n) (n1 : n ≤ 2000) (hn : zN σ 287 5 = n) : zwp (zcall 175 [.ref 287, .int a, .int b, .int c, .int d, .int e] σ) (fun v τ => v = some (.int (Int32.ofInt (Efd n))) ∧ mf (fun b => b = 291 ∨ b = 292 ∨ b = 287) σ τ ∧ (∀ k : Nat, k ≠ 5 → zN τ 287 k = zN σ 287 k) ∧ (n + 20 ≤ 2000 → zN τ 287 5 = n + 20 ∧ tpA 291 σ τ n (x5 a b c d e) 20) ∧ (¬ n + 20 ≤ 2000 → τ = σ)) := by
  refine zwp_of (fun r h => zcc_175 (ze_175_0 _ _ _ _ _ _ r h)) ?_
  rw [mm_r, hn, mm_add]
  by_cases q : n + 20 ≤ 2000
  · rw [show Efd n = n + 20 from if_pos q]
    refine zwp_t (by try simp (disch := first | assumption | exact isR33 | exact isT104 | exact isF99 | exact isF101 | exact isR3 | omega | (refine isTk ?_; omega) | (refine isOk isR33 ?_; omega) | (refine isOk ?_ ?_; assumption; omega)) only [mm_r, mm_rl, mm_add, mm_sub, mm_mul, mm_addJ, mm_mulJ, mm_lt, mm_le, mm_eq, mm_z, mm_cl, mm_w, mm_wl, mm_ite, mm_i2l, mm_l2i, mm_ltJ, mm_leJ, mm_eqJ, mm_clt, mm_cle, mm_cgt, mm_cge, mm_ceq, mm_b, mm_nb, mm_nb0, mm_nb1, mm_vb0, mm_vb1, mm_vbc, mm_vy0, mm_vy1, mm_at, mm_ne, mm_nj, mm_Lw, mm_Nw, mm_atJ, mm_neJ, mm_njJ, zbI_s, zbV_s, zbJ_s, cond_t, Bool.true_and, Bool.and_true, if_true, if_false, not_true, not_false_iff, Classical.not_not, zel_r, zel_42, zel_12, zel_71, zel_80, zel_89, zel_110, zel_188, zel_103, zel_195, zr_o, zr_1, zr_2, zr_3, zr_4, zr_5, zr_6, zr_7, zr_8, zr_9, zq_o, zq_v, zt_o, zt_1, zt_2, zt_3, zt_4, zt_5, zf_o, zf_1, za_w1, za_w2, za_w3, za_cm, za_sl, Int.toNat_natCast, Int.toNat_natCast_add_one, mm_t0, mm_t1, mm_t2, mm_t3, mm_t4, mm_t5, mm_t6, mm_t7, mm_t8, mm_t9, mm_t10, mm_t11, mm_t12, mm_t13, za_1, za_64, za_65, za_66, za_67, za_68, za_71, za_80, za_89, za_98, za_103, za_110, za_121, za_122, za_123, za_124, za_125, za_126, za_188, za_193, za_194, za_195, za_286, za_288, za_289, za_290, za_291, za_292, za_293, za_294, za_295, za_296, za_297, za_298, za_299, za_300, za_301, za_302, za_303, za_304, za_305, za_306, za_307, za_308, za_309, za_310, za_311, za_312]; first | done | omega) ?_
    simp only [zs_n]
    have la := Int32.le_toInt a
    have ua := Int32.toInt_lt a
    have lb := Int32.le_toInt b
    have ub := Int32.toInt_lt b
    have lc := Int32.le_toInt c
    have uc := Int32.toInt_lt c
    have ld := Int32.le_toInt d
    have ud := Int32.toInt_lt d
    have le := Int32.le_toInt e
    have ue := Int32.toInt_lt e
    refine zwp_cd (za_292 (by decide) (by decide)) (zwp_let ?_)
    refine zwp_cd (za_292 (by decide) (by decide)) (zwp_let ?_)
    refine zwp_cd (za_292 (by decide) (by decide)) (zwp_let ?_)
    refine zwp_cd (za_292 (by decide) (by decide)) (zwp_let ?_)
    refine zwp_cd (za_292 (by decide) (by decide)) (zwp_let ?_)
    have hf : mf (fun b => b = 292) σ (zw (zw (zw (zw (zw σ 292 0 a.toInt) 292 1 b.toInt) 292 2 c.toInt) 292 3 d.toInt) 292 4 e.toInt) := (((((mf.rf (S := fun b => b = 292)).zw 292 _ _ rfl).zw 292 _ _ rfl).zw 292 _ _ rfl).zw 292 _ _ rfl).zw 292 _ _ rfl
    refine zwp_mono (lp_175 (σ0 := zw (zw (zw (zw (zw σ 292 0 a.toInt) 292 1 b.toInt) 292 2 c.toInt) 292 3 d.toInt) 292 4 e.toInt) (xs := x5 a b c d e) n0 q 20 0 _ (by omega) mf.rf (fun k hk => ?_) ((hf.1 287 (by decide) 5).trans hn) tpA_0) ?_
    · rw [mm_r]
      have : k = 0 ∨ k = 1 ∨ k = 2 ∨ k = 3 ∨ k = 4 := by omega
      rcases this with rfl | rfl | rfl | rfl | rfl
      · rw [mm_nj (by decide), mm_nj (by decide), mm_nj (by decide), mm_nj (by decide), mm_at (a := 292) (b := 292) (k := (Int32.ofInt 0).toNatClampNeg) (j := 0) rfl rfl (by omega) (by omega), Int32.ofInt_toInt]
        rfl
      · rw [mm_nj (by decide), mm_nj (by decide), mm_nj (by decide), mm_at (a := 292) (b := 292) (k := (Int32.ofInt 1).toNatClampNeg) (j := 1) rfl rfl (by omega) (by omega), Int32.ofInt_toInt]
        rfl
      · rw [mm_nj (by decide), mm_nj (by decide), mm_at (a := 292) (b := 292) (k := (Int32.ofInt 2).toNatClampNeg) (j := 2) rfl rfl (by omega) (by omega), Int32.ofInt_toInt]
        rfl
      · rw [mm_nj (by decide), mm_at (a := 292) (b := 292) (k := (Int32.ofInt 3).toNatClampNeg) (j := 3) rfl rfl (by omega) (by omega), Int32.ofInt_toInt]
        rfl
      · rw [mm_at (a := 292) (b := 292) (k := (Int32.ofInt 4).toNatClampNeg) (j := 4) rfl rfl (by omega) (by omega), Int32.ofInt_toInt]
        rfl
    · rintro v τ ⟨rfl, g1, g2, g3, g4⟩
      refine ⟨rfl, (hf.mono (fun b hb => .inr (.inl hb))).tr (g1.mono (fun b hb => by omega)), fun k hk => (g2 k hk).trans (hf.1 287 (by decide) k), fun _ => ⟨g3, fun i => ?_⟩, fun p => absurd q p⟩
      rw [g4 i, hf.1 291 (by decide)]
  · rw [show Efd n = -1 from if_neg q]
    refine zwp_f (by try simp (disch := first | assumption | exact isR33 | exact isT104 | exact isF99 | exact isF101 | exact isR3 | omega | (refine isTk ?_; omega) | (refine isOk isR33 ?_; omega) | (refine isOk ?_ ?_; assumption; omega)) only [mm_r, mm_rl, mm_add, mm_sub, mm_mul, mm_addJ, mm_mulJ, mm_lt, mm_le, mm_eq, mm_z, mm_cl, mm_w, mm_wl, mm_ite, mm_i2l, mm_l2i, mm_ltJ, mm_leJ, mm_eqJ, mm_clt, mm_cle, mm_cgt, mm_cge, mm_ceq, mm_b, mm_nb, mm_nb0, mm_nb1, mm_vb0, mm_vb1, mm_vbc, mm_vy0, mm_vy1, mm_at, mm_ne, mm_nj, mm_Lw, mm_Nw, mm_atJ, mm_neJ, mm_njJ, zbI_s, zbV_s, zbJ_s, cond_t, Bool.true_and, Bool.and_true, if_true, if_false, not_true, not_false_iff, Classical.not_not, zel_r, zel_42, zel_12, zel_71, zel_80, zel_89, zel_110, zel_188, zel_103, zel_195, zr_o, zr_1, zr_2, zr_3, zr_4, zr_5, zr_6, zr_7, zr_8, zr_9, zq_o, zq_v, zt_o, zt_1, zt_2, zt_3, zt_4, zt_5, zf_o, zf_1, za_w1, za_w2, za_w3, za_cm, za_sl, Int.toNat_natCast, Int.toNat_natCast_add_one, mm_t0, mm_t1, mm_t2, mm_t3, mm_t4, mm_t5, mm_t6, mm_t7, mm_t8, mm_t9, mm_t10, mm_t11, mm_t12, mm_t13, za_1, za_64, za_65, za_66, za_67, za_68, za_71, za_80, za_89, za_98, za_103, za_110, za_121, za_122, za_123, za_124, za_125, za_126, za_188, za_193, za_194, za_195, za_286, za_288, za_289, za_290, za_291, za_292, za_293, za_294, za_295, za_296, za_297, za_298, za_299, za_300, za_301, za_302, za_303, za_304, za_305, za_306, za_307, za_308, za_309, za_310, za_311, za_312]; first | done | omega) ?_
    exact zwp_ret ⟨rfl, mf.rf, fun _ _ => rfl, fun p => absurd p q, fun _ => rfl⟩
/-- the tapes are alike -/
def tpK (σ : zM) (n : Int) : Prop := 0 ≤ n ∧ n ≤ 2000 ∧ zN σ 0 1 = n ∧ zN σ 287 5 = n ∧ ∀ i : Nat, (i : Int) < n → zN σ 1 i = zN σ 291 i
