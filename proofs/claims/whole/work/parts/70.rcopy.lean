/-! CALLS: image, restore: the class copies a Realm -/
def szr (r : Nat) : Nat := if r ≤ 3 then 12 else if r ≤ 6 then 8 else 6
def rwc (σ0 τ : zM) (p q R : Nat) : Prop := cp 9 [7, 6, 5, 4, 3, 2, 1, 0] σ0 τ p q ∧ ∀ r, 1 ≤ r → r ≤ R → ∀ m, m < szr r → zN τ (p + r) m = zN σ0 (q + r) m
theorem rwc.st {σ0 τ : zM} {p q R : Nat} (h : rwc σ0 τ p q R) (hR : R < 8) (hd : q + 30 ≤ p ∨ p + 30 ≤ q) : rwc σ0 (zcI τ (q + (R + 1)) 0 (p + (R + 1)) 0 (szr (R + 1))) p q (R + 1) := by
  refine ⟨h.1.row (R + 1) (by omega) (by omega) _, fun r r1 r2 m hm => ?_⟩
  rw [zcI_N]
  by_cases z : r = R + 1
  · subst z
    rw [if_pos ⟨rfl, by omega, by omega⟩, h.1.1.1 (q + (R + 1)) (by omega), Nat.sub_zero, Nat.zero_add]
  · rw [if_neg (by omega)]
    exact h.2 r r1 (by omega) m hm
theorem zr_s {q : Nat} (h : isRealm q) : ∀ r, 1 ≤ r → r ≤ 8 → zseg (q + r) 100 (Int32.ofInt 0) (Int32.ofInt (szr r)) = true := by
  obtain ⟨-, s1, s2, s3, s4, s5, s6, s7, s8, -⟩ := zo_realm q h.m
  intro r r1 r2
  have : r = 1 ∨ r = 2 ∨ r = 3 ∨ r = 4 ∨ r = 5 ∨ r = 6 ∨ r = 7 ∨ r = 8 := by omega
  rcases this with rfl | rfl | rfl | rfl | rfl | rfl | rfl | rfl
  · exact zseg_of s1 (by decide) (by decide) (by decide) (by decide)
  · exact zseg_of s2 (by decide) (by decide) (by decide) (by decide)
  · exact zseg_of s3 (by decide) (by decide) (by decide) (by decide)
  · exact zseg_of s4 (by decide) (by decide) (by decide) (by decide)
  · exact zseg_of s5 (by decide) (by decide) (by decide) (by decide)
  · exact zseg_of s6 (by decide) (by decide) (by decide) (by decide)
  · exact zseg_of s7 (by decide) (by decide) (by decide) (by decide)
  · exact zseg_of s8 (by decide) (by decide) (by decide) (by decide)
theorem isR_d {p q : Nat} (hp : isRealm p) (hq : isRealm q) (hne : p ≠ q) : q + 30 ≤ p ∨ p + 30 ≤ q := by
  rcases hp with rfl | rfl | rfl | rfl | rfl <;> rcases hq with rfl | rfl | rfl | rfl | rfl <;> first | omega | exact absurd rfl hne
theorem lp_75 {σ0 : zM} {W : Int → Int} {p q : Nat} (hp : isRealm p) (hq : isRealm q) (hne : p ≠ q) (h50 : 0 ≤ W 5) (h51 : W 5 ≤ 10) (hL : cL σ0 q W) (hv : ∀ o, 0 ≤ o → o < W 5 → oo W o 7 ≤ 3) : ∀ (k i : Nat) (σ : zM), (i : Int) + k = W 5 → mf (fun b => p ≤ b ∧ b < p + 30) σ0 σ → (∀ k, k < 8 → zN σ p k = zN σ0 q k) → (∀ r, 1 ≤ r → r ≤ 8 → ∀ m, m < szr r → zN σ (p + r) m = zN σ0 (q + r) m) → (∀ o : Int, 0 ≤ o → o < i → cO σ (p + 10 + 2 * o.toNat) W o) → zwp (zev 75 186 [some (.ref p), some (.ref q), some (.int (Int32.ofInt i))] [] σ) (fun v τ => v = none ∧ mf (fun b => p ≤ b ∧ b < p + 30) σ0 τ ∧ (∀ k, k < 8 → zN τ p k = zN σ0 q k) ∧ (∀ r, 1 ≤ r → r ≤ 8 → ∀ m, m < szr r → zN τ (p + r) m = zN σ0 (q + r) m) ∧ ∀ o : Int, 0 ≤ o → o < W 5 → cO τ (p + 10 + 2 * o.toNat) W o)
  | 0, i, σ, e, hf, h8, hr, ho => by
    have e7 : zN σ p 7 = W 5 := (h8 7 (by decide)).trans hL.1.2.2.2.2.2.2.2
    refine zwp_of (fun r h => ze_75_186 _ _ _ _ r h) ?_
    refine zwp_cd (zr_o hp) ?_
    refine zwp_t (by try simp (disch := first | assumption | exact isR33 | exact isT104 | exact isF99 | exact isF101 | exact isR3 | omega | (refine isTk ?_; omega) | (refine isOk isR33 ?_; omega) | (refine isOk ?_ ?_; assumption; omega)) only [mm_r, mm_rl, mm_add, mm_sub, mm_mul, mm_addJ, mm_mulJ, mm_lt, mm_le, mm_eq, mm_z, mm_cl, mm_w, mm_wl, mm_ite, mm_i2l, mm_l2i, mm_ltJ, mm_leJ, mm_eqJ, mm_clt, mm_cle, mm_cgt, mm_cge, mm_ceq, mm_b, mm_nb, mm_nb0, mm_nb1, mm_vb0, mm_vb1, mm_vbc, mm_vy0, mm_vy1, mm_at, mm_ne, mm_nj, mm_Lw, mm_Nw, mm_atJ, mm_neJ, mm_njJ, zbI_s, zbV_s, zbJ_s, cond_t, Bool.true_and, Bool.and_true, if_true, if_false, not_true, not_false_iff, Classical.not_not, zel_r, zel_42, zel_12, zel_71, zel_80, zel_89, zel_110, zel_188, zel_103, zel_195, zr_o, zr_1, zr_2, zr_3, zr_4, zr_5, zr_6, zr_7, zr_8, zr_9, zq_o, zq_v, zt_o, zt_1, zt_2, zt_3, zt_4, zt_5, zf_o, zf_1, za_w1, za_w2, za_w3, za_cm, za_sl, Int.toNat_natCast, Int.toNat_natCast_add_one, mm_t0, mm_t1, mm_t2, mm_t3, mm_t4, mm_t5, mm_t6, mm_t7, mm_t8, mm_t9, mm_t10, mm_t11, mm_t12, mm_t13, za_1, za_64, za_65, za_66, za_67, za_68, za_71, za_80, za_89, za_98, za_103, za_110, za_121, za_122, za_123, za_124, za_125, za_126, za_188, za_193, za_194, za_195, za_286, za_288, za_289, za_290, za_291, za_292, za_293, za_294, za_295, za_296, za_297, za_298, za_299, za_300, za_301, za_302, za_303, za_304, za_305, za_306, za_307, za_308, za_309, za_310, za_311, za_312, e7]
                     first | done | omega) ?_
    exact zwp_ret ⟨rfl, hf, h8, hr, fun o o0 o1 => ho o o0 (by omega)⟩
  | k + 1, i, σ, e, hf, h8, hr, ho => by
    have hd := isR_d hp hq hne
    have e7 : zN σ p 7 = W 5 := (h8 7 (by decide)).trans hL.1.2.2.2.2.2.2.2
    have hO := hL.2.2.2.2 i (by omega) (by omega)
    rw [Int.toNat_natCast] at hO
    have v7 := hv i (by omega) (by omega)
    have fq : ∀ b, q ≤ b → b < q + 30 → ∀ k, zN σ b k = zN σ0 b k := fun b b0 b1 => hf.1 b (by omega)
    have hO2 : cO σ (q + 10 + 2 * i) W i := hO.fr (fq _ (by omega) (by omega)) (fq _ (by omega) (by omega))
    have hb : zN σ (q + 10 + 2 * i) 9 = 0 ∨ zN σ (q + 10 + 2 * i) 9 = 1 := by
      rw [hO2.2.2.2.2.2.2.2.2.2.1]
      split
      · exact .inl rfl
      · exact .inr rfl
    refine zwp_of (fun r h => ze_75_186 _ _ _ _ r h) ?_
    refine zwp_cd (zr_o hp) ?_
    refine zwp_f (by try simp (disch := first | assumption | exact isR33 | exact isT104 | exact isF99 | exact isF101 | exact isR3 | omega | (refine isTk ?_; omega) | (refine isOk isR33 ?_; omega) | (refine isOk ?_ ?_; assumption; omega)) only [mm_r, mm_rl, mm_add, mm_sub, mm_mul, mm_addJ, mm_mulJ, mm_lt, mm_le, mm_eq, mm_z, mm_cl, mm_w, mm_wl, mm_ite, mm_i2l, mm_l2i, mm_ltJ, mm_leJ, mm_eqJ, mm_clt, mm_cle, mm_cgt, mm_cge, mm_ceq, mm_b, mm_nb, mm_nb0, mm_nb1, mm_vb0, mm_vb1, mm_vbc, mm_vy0, mm_vy1, mm_at, mm_ne, mm_nj, mm_Lw, mm_Nw, mm_atJ, mm_neJ, mm_njJ, zbI_s, zbV_s, zbJ_s, cond_t, Bool.true_and, Bool.and_true, if_true, if_false, not_true, not_false_iff, Classical.not_not, zel_r, zel_42, zel_12, zel_71, zel_80, zel_89, zel_110, zel_188, zel_103, zel_195, zr_o, zr_1, zr_2, zr_3, zr_4, zr_5, zr_6, zr_7, zr_8, zr_9, zq_o, zq_v, zt_o, zt_1, zt_2, zt_3, zt_4, zt_5, zf_o, zf_1, za_w1, za_w2, za_w3, za_cm, za_sl, Int.toNat_natCast, Int.toNat_natCast_add_one, mm_t0, mm_t1, mm_t2, mm_t3, mm_t4, mm_t5, mm_t6, mm_t7, mm_t8, mm_t9, mm_t10, mm_t11, mm_t12, mm_t13, za_1, za_64, za_65, za_66, za_67, za_68, za_71, za_80, za_89, za_98, za_103, za_110, za_121, za_122, za_123, za_124, za_125, za_126, za_188, za_193, za_194, za_195, za_286, za_288, za_289, za_290, za_291, za_292, za_293, za_294, za_295, za_296, za_297, za_298, za_299, za_300, za_301, za_302, za_303, za_304, za_305, za_306, za_307, za_308, za_309, za_310, za_311, za_312, e7]
                     first | done | omega) ?_
    refine zwp_cd (zr_o hp) (zwp_cd (zr_9 hp (by omega) (by omega)) (zwp_cd (zr_o hq) (zwp_cd (zr_9 hq (by omega) (by omega)) ?_)))
    rw [mm_cl (by omega) (by omega), Int.toNat_natCast, zel_r, zel_r]
    refine zwp_cd (zq_o (isOk hp (by omega))) ?_
    refine zwp_V _ (sp_48 (isOk hp (by omega)) (isOk hq (by omega)) (by omega) hb) ?_
    rintro τ ⟨hf2, c1, c2⟩
    rw [mm_add]
    refine lp_75 hp hq hne h50 h51 hL hv k (i + 1) τ (by omega) (hf.tr (hf2.mono (by omega))) (fun k hk => (hf2.1 p (by omega) k).trans (h8 k hk)) (fun r r1 r2 m hm => (hf2.1 (p + r) (by omega) m).trans (hr r r1 r2 m hm)) (fun o o0 o1 => ?_)
    by_cases z : o = i
    · subst z
      rw [Int.toNat_natCast]
      obtain ⟨d0, d1, d2, d3, d4, d5, d6, d7, d8, d9, d10⟩ := hO2
      refine ⟨(c1 0 (by omega)).trans d0, (c1 1 (by omega)).trans d1, (c1 2 (by omega)).trans d2, (c1 3 (by omega)).trans d3, (c1 4 (by omega)).trans d4, (c1 5 (by omega)).trans d5, (c1 6 (by omega)).trans d6, (c1 7 (by omega)).trans d7, fun v v0 v1 => (c2 v.toNat (by omega)).trans (d8 v v0 v1), (c1 9 (by omega)).trans d9, fun hn => ?_⟩
      obtain ⟨x, y, w⟩ := d10 hn
      exact ⟨(c1 10 (by omega)).trans x, (c1 11 (by omega)).trans y, (c1 12 (by omega)).trans w⟩
    · exact (ho o o0 (by omega)).fr (hf2.1 _ (by omega)) (hf2.1 _ (by omega))
theorem cL_of {σ0 τ : zM} {W : Int → Int} {p q : Nat} (hL : cL σ0 q W) (h2 : W 2 ≤ 12) (h3 : W 3 ≤ 8) (h4 : W 4 ≤ 6) (h8 : ∀ k, k < 8 → zN τ p k = zN σ0 q k) (hr : ∀ r, 1 ≤ r → r ≤ 8 → ∀ m, m < szr r → zN τ (p + r) m = zN σ0 (q + r) m) (ho : ∀ o : Int, 0 ≤ o → o < W 5 → cO τ (p + 10 + 2 * o.toNat) W o) : cL τ p W := by
  obtain ⟨⟨l0, l1, l2, l3, l4, l5, l6, l7⟩, lr, lf, lp, -⟩ := hL
  refine ⟨⟨(h8 0 (by omega)).trans l0, (h8 1 (by omega)).trans l1, (h8 2 (by omega)).trans l2, (h8 3 (by omega)).trans l3, (h8 4 (by omega)).trans l4, (h8 5 (by omega)).trans l5, (h8 6 (by omega)).trans l6, (h8 7 (by omega)).trans l7⟩, fun r r0 r1 => ?_, fun f f0 f1 => ?_, fun i i0 i1 => ?_, ho⟩
  · obtain ⟨x, y, z⟩ := lr r r0 r1
    exact ⟨(hr 1 (by omega) (by omega) _ (by show _ < 12; omega)).trans x, (hr 2 (by omega) (by omega) _ (by show _ < 12; omega)).trans y, (hr 3 (by omega) (by omega) _ (by show _ < 12; omega)).trans z⟩
  · obtain ⟨x, y, z⟩ := lf f f0 f1
    exact ⟨(hr 4 (by omega) (by omega) _ (by show _ < 8; omega)).trans x, (hr 5 (by omega) (by omega) _ (by show _ < 8; omega)).trans y, (hr 6 (by omega) (by omega) _ (by show _ < 8; omega)).trans z⟩
  · obtain ⟨x, y⟩ := lp i i0 i1
    exact ⟨(hr 7 (by omega) (by omega) _ (by show _ < 6; omega)).trans x, (hr 8 (by omega) (by omega) _ (by show _ < 6; omega)).trans y⟩
