/-! CALLS: delay -/
theorem sp_23 {σ : zM} {W : Int → Int} {o s t g h : Int} (hW : WOK W) (hC : ctC σ W) (o0 : 0 ≤ o) (o1 : o < W 5) (hl : zN σ 121 o.toNat ≠ 0) (s0 : -2147483648 ≤ s) (s1 : s < 2147483648) (ht0 : -2147483648 ≤ t) (ht1 : t < 2147483648) (hg0 : -2147483648 ≤ g) (hg1 : g < 2147483648) (hh0 : -2147483648 ≤ h) (hh1 : h < 2147483648) : zwp (zcall 23 [.ref 69, .int (Int32.ofInt o), .int (Int32.ofInt s), .int (Int32.ofInt t), .int (Int32.ofInt g), .int (Int32.ofInt h)] σ) (fun v τ => v = some (.int (Int32.ofInt (HH W (cup (CM W noD) o (CMs W o s)) (W 7) t g h))) ∧ same σ τ) := by
  have h5 := hW.2.2.1
  have r := CMs_rng hW (h := s) o0 o1
  have rb := BB_rng W (cup (CM W noD) o (CMs W o s)) (W 7) t g h
  refine zwp_of (fun r h => zcc_23 (ze_23_0 _ _ _ _ _ _ r h)) ?_
  rw [sp_17c hW hC.1.1.2.2.1 o0 o1 ((hC.2.2.2.2 o o0 o1).2.2 hl) s0 s1, zbI_s]
  refine zwp_IE (sp_22 hW hC.cc o0 o1 (by omega) (by omega) ht0 ht1 hg0 hg1 hh0 hh1) ?_
  intro τ hs
  rw [HH_eq]
  simp (disch := first | assumption | exact isR33 | exact isT104 | exact isF99 | exact isF101 | exact isR3 | omega | (refine isTk ?_; omega) | (refine isOk isR33 ?_; omega) | (refine isOk ?_ ?_; assumption; omega)) only [mm_r, mm_rl, mm_add, mm_sub, mm_mul, mm_addJ, mm_mulJ, mm_lt, mm_le, mm_eq, mm_z, mm_cl, mm_w, mm_wl, mm_ite, mm_i2l, mm_l2i, mm_ltJ, mm_leJ, mm_eqJ, mm_clt, mm_cle, mm_cgt, mm_cge, mm_ceq, mm_b, mm_nb, mm_nb0, mm_nb1, mm_vb0, mm_vb1, mm_vbc, mm_vy0, mm_vy1, mm_at, mm_ne, mm_nj, mm_Lw, mm_Nw, mm_atJ, mm_neJ, mm_njJ, zbI_s, zbV_s, zbJ_s, cond_t, Bool.true_and, Bool.and_true, if_true, if_false, not_true, not_false_iff, Classical.not_not, zel_r, zel_42, zel_12, zel_71, zel_80, zel_89, zel_110, zel_188, zel_103, zel_195, zr_o, zr_1, zr_2, zr_3, zr_4, zr_5, zr_6, zr_7, zr_8, zr_9, zq_o, zq_v, zt_o, zt_1, zt_2, zt_3, zt_4, zt_5, zf_o, zf_1, za_w1, za_w2, za_w3, za_cm, za_sl, Int.toNat_natCast, Int.toNat_natCast_add_one, mm_t0, mm_t1, mm_t2, mm_t3, mm_t4, mm_t5, mm_t6, mm_t7, mm_t8, mm_t9, mm_t10, mm_t11, mm_t12, mm_t13, za_1, za_64, za_65, za_66, za_67, za_68, za_71, za_80, za_89, za_98, za_103, za_110, za_121, za_122, za_123, za_124, za_125, za_126, za_188, za_193, za_194, za_195, za_286, za_288, za_289, za_290, za_291, za_292, za_293, za_294, za_295, za_296, za_297, za_298, za_299, za_300, za_301, za_302, za_303, za_304, za_305, za_306, za_307, za_308, za_309, za_310, za_311, za_312]
  refine zwp_ite (fun q => ?_) (fun q => ?_)
  · rw [if_neg q]
    have e := (hC.2.2.2.2 (BB W (cup (CM W noD) o (CMs W o s)) (W 7) t g h) (by omega) (by omega)).1.2.2.1
    rw [hs.k, e]
    exact zwp_ret ⟨rfl, hs⟩
  · rw [if_pos (Classical.not_not.mp q)]
    exact zwp_ret ⟨rfl, hs⟩
def Pd (W : Int → Int) (t g says h l o : Int) : Bool := decide (HH W (cup (CM W noD) o (CMs W o (oo W o 6 + l))) (W 7) t g h = says)
def fT (W : Int → Int) (t g says h l : Int) : Int := zfst (Pd W t g says h l) (W 5).toNat 0
theorem lp_29 {σ0 : zM} {W : Int → Int} {t g says h l : Int} (hW : WOK W) (hs0 : -2147483648 ≤ says) (hs1 : says < 2147483648) (l0 : 0 ≤ l) (l1 : l ≤ 1000) (ht0 : -2147483648 ≤ t) (ht1 : t < 2147483648) (hg0 : -2147483648 ≤ g) (hg1 : g < 2147483648) (hh0 : -2147483648 ≤ h) (hh1 : h < 2147483648) : ∀ (k o : Nat) (σ : zM), (o : Int) + k = W 5 → same σ0 σ → ctC σ W → (∀ p : Int, 0 ≤ p → p < W 5 → zN σ 121 p.toNat ≠ 0) → zwp (zev 29 3 [some (.ref 69), some (.int (Int32.ofInt l)), some (.int (Int32.ofInt t)), some (.int (Int32.ofInt g)), some (.int (Int32.ofInt says)), some (.int (Int32.ofInt h)), some (.int (Int32.ofInt o)), none] [] σ) (fun v τ => v = some (.int (Int32.ofInt (zfst (Pd W t g says h l) k o))) ∧ same σ0 τ)
  | 0, o, σ, e, hs, hC, hl => by
    have h5 := hW.2.2.1
    have e7 := hC.1.1.2.2.2.2.2.2.2
    refine zwp_of (fun r h => ze_29_3 _ _ _ _ _ _ _ r h) ?_
    refine zwp_t (by try simp (disch := first | assumption | exact isR33 | exact isT104 | exact isF99 | exact isF101 | exact isR3 | omega | (refine isTk ?_; omega) | (refine isOk isR33 ?_; omega) | (refine isOk ?_ ?_; assumption; omega)) only [mm_r, mm_rl, mm_add, mm_sub, mm_mul, mm_addJ, mm_mulJ, mm_lt, mm_le, mm_eq, mm_z, mm_cl, mm_w, mm_wl, mm_ite, mm_i2l, mm_l2i, mm_ltJ, mm_leJ, mm_eqJ, mm_clt, mm_cle, mm_cgt, mm_cge, mm_ceq, mm_b, mm_nb, mm_nb0, mm_nb1, mm_vb0, mm_vb1, mm_vbc, mm_vy0, mm_vy1, mm_at, mm_ne, mm_nj, mm_Lw, mm_Nw, mm_atJ, mm_neJ, mm_njJ, zbI_s, zbV_s, zbJ_s, cond_t, Bool.true_and, Bool.and_true, if_true, if_false, not_true, not_false_iff, Classical.not_not, zel_r, zel_42, zel_12, zel_71, zel_80, zel_89, zel_110, zel_188, zel_103, zel_195, zr_o, zr_1, zr_2, zr_3, zr_4, zr_5, zr_6, zr_7, zr_8, zr_9, zq_o, zq_v, zt_o, zt_1, zt_2, zt_3, zt_4, zt_5, zf_o, zf_1, za_w1, za_w2, za_w3, za_cm, za_sl, Int.toNat_natCast, Int.toNat_natCast_add_one, mm_t0, mm_t1, mm_t2, mm_t3, mm_t4, mm_t5, mm_t6, mm_t7, mm_t8, mm_t9, mm_t10, mm_t11, mm_t12, mm_t13, za_1, za_64, za_65, za_66, za_67, za_68, za_71, za_80, za_89, za_98, za_103, za_110, za_121, za_122, za_123, za_124, za_125, za_126, za_188, za_193, za_194, za_195, za_286, za_288, za_289, za_290, za_291, za_292, za_293, za_294, za_295, za_296, za_297, za_298, za_299, za_300, za_301, za_302, za_303, za_304, za_305, za_306, za_307, za_308, za_309, za_310, za_311, za_312, e7]
                     first | done | omega) ?_
    exact zwp_ret ⟨rfl, hs⟩
  | k + 1, o, σ, e, hs, hC, hl => by
    have h5 := hW.2.2.1
    have e7 := hC.1.1.2.2.2.2.2.2.2
    have e6 := (hC.1.2.2.2.2 o (by omega) (by omega)).2.2.2.2.2.2.1
    rw [Int.toNat_natCast] at e6
    have b6 := (hW.2.2.2.2 o (by omega) (by omega)).1.2.2.2.2.2.2.2
    have ez : zfst (Pd W t g says h l) (k + 1) o = if Pd W t g says h l o = true then (o : Int) else zfst (Pd W t g says h l) k ((o : Int) + 1) := rfl
    have eP : (Pd W t g says h l o = true) ↔ HH W (cup (CM W noD) o (CMs W o (oo W o 6 + l))) (W 7) t g h = says := by
      unfold Pd
      rw [decide_eq_true_eq]
    have r := HH_rng hW.un (cup (CM W noD) o (CMs W o (oo W o 6 + l))) (W 7) t g h
    rw [ez]
    simp only [eP]
    refine zwp_of (fun r h => ze_29_3 _ _ _ _ _ _ _ r h) ?_
    simp (disch := first | assumption | exact isR33 | exact isT104 | exact isF99 | exact isF101 | exact isR3 | omega | (refine isTk ?_; omega) | (refine isOk isR33 ?_; omega) | (refine isOk ?_ ?_; assumption; omega)) only [mm_r, mm_rl, mm_add, mm_sub, mm_mul, mm_addJ, mm_mulJ, mm_lt, mm_le, mm_eq, mm_z, mm_cl, mm_w, mm_wl, mm_ite, mm_i2l, mm_l2i, mm_ltJ, mm_leJ, mm_eqJ, mm_clt, mm_cle, mm_cgt, mm_cge, mm_ceq, mm_b, mm_nb, mm_nb0, mm_nb1, mm_vb0, mm_vb1, mm_vbc, mm_vy0, mm_vy1, mm_at, mm_ne, mm_nj, mm_Lw, mm_Nw, mm_atJ, mm_neJ, mm_njJ, zbI_s, zbV_s, zbJ_s, cond_t, Bool.true_and, Bool.and_true, if_true, if_false, not_true, not_false_iff, Classical.not_not, zel_r, zel_42, zel_12, zel_71, zel_80, zel_89, zel_110, zel_188, zel_103, zel_195, zr_o, zr_1, zr_2, zr_3, zr_4, zr_5, zr_6, zr_7, zr_8, zr_9, zq_o, zq_v, zt_o, zt_1, zt_2, zt_3, zt_4, zt_5, zf_o, zf_1, za_w1, za_w2, za_w3, za_cm, za_sl, Int.toNat_natCast, Int.toNat_natCast_add_one, mm_t0, mm_t1, mm_t2, mm_t3, mm_t4, mm_t5, mm_t6, mm_t7, mm_t8, mm_t9, mm_t10, mm_t11, mm_t12, mm_t13, za_1, za_64, za_65, za_66, za_67, za_68, za_71, za_80, za_89, za_98, za_103, za_110, za_121, za_122, za_123, za_124, za_125, za_126, za_188, za_193, za_194, za_195, za_286, za_288, za_289, za_290, za_291, za_292, za_293, za_294, za_295, za_296, za_297, za_298, za_299, za_300, za_301, za_302, za_303, za_304, za_305, za_306, za_307, za_308, za_309, za_310, za_311, za_312, e7, e6]
    rw [if_neg (by omega)]
    refine zwp_IE (sp_23 (o := o) (s := oo W o 6 + l) hW hC (by omega) (by omega) (hl o (by omega) (by omega)) (by omega) (by omega) ht0 ht1 hg0 hg1 hh0 hh1) ?_
    intro τ hs2
    simp (disch := first | assumption | exact isR33 | exact isT104 | exact isF99 | exact isF101 | exact isR3 | omega | (refine isTk ?_; omega) | (refine isOk isR33 ?_; omega) | (refine isOk ?_ ?_; assumption; omega)) only [mm_r, mm_rl, mm_add, mm_sub, mm_mul, mm_addJ, mm_mulJ, mm_lt, mm_le, mm_eq, mm_z, mm_cl, mm_w, mm_wl, mm_ite, mm_i2l, mm_l2i, mm_ltJ, mm_leJ, mm_eqJ, mm_clt, mm_cle, mm_cgt, mm_cge, mm_ceq, mm_b, mm_nb, mm_nb0, mm_nb1, mm_vb0, mm_vb1, mm_vbc, mm_vy0, mm_vy1, mm_at, mm_ne, mm_nj, mm_Lw, mm_Nw, mm_atJ, mm_neJ, mm_njJ, zbI_s, zbV_s, zbJ_s, cond_t, Bool.true_and, Bool.and_true, if_true, if_false, not_true, not_false_iff, Classical.not_not, zel_r, zel_42, zel_12, zel_71, zel_80, zel_89, zel_110, zel_188, zel_103, zel_195, zr_o, zr_1, zr_2, zr_3, zr_4, zr_5, zr_6, zr_7, zr_8, zr_9, zq_o, zq_v, zt_o, zt_1, zt_2, zt_3, zt_4, zt_5, zf_o, zf_1, za_w1, za_w2, za_w3, za_cm, za_sl, Int.toNat_natCast, Int.toNat_natCast_add_one, mm_t0, mm_t1, mm_t2, mm_t3, mm_t4, mm_t5, mm_t6, mm_t7, mm_t8, mm_t9, mm_t10, mm_t11, mm_t12, mm_t13, za_1, za_64, za_65, za_66, za_67, za_68, za_71, za_80, za_89, za_98, za_103, za_110, za_121, za_122, za_123, za_124, za_125, za_126, za_188, za_193, za_194, za_195, za_286, za_288, za_289, za_290, za_291, za_292, za_293, za_294, za_295, za_296, za_297, za_298, za_299, za_300, za_301, za_302, za_303, za_304, za_305, za_306, za_307, za_308, za_309, za_310, za_311, za_312]
    refine zwp_ite (fun q => ?_) (fun q => ?_)
    · rw [if_neg q]
      exact lp_29 hW hs0 hs1 l0 l1 ht0 ht1 hg0 hg1 hh0 hh1 k (o + 1) τ (by omega) (hs.tr hs2) (hs2.ct hW hC) (fun p p0 p1 => by rw [hs2.k]; exact hl p p0 p1)
    · rw [if_pos (Classical.not_not.mp q)]
      exact zwp_ret ⟨rfl, hs.tr hs2⟩
theorem sp_29 {σ : zM} {W : Int → Int} {t g says h l : Int} (hW : WOK W) (hC : ctC σ W) (hl : ∀ p : Int, 0 ≤ p → p < W 5 → zN σ 121 p.toNat ≠ 0) (hs0 : -2147483648 ≤ says) (hs1 : says < 2147483648) (l0 : 0 ≤ l) (l1 : l ≤ 1000) (ht0 : -2147483648 ≤ t) (ht1 : t < 2147483648) (hg0 : -2147483648 ≤ g) (hg1 : g < 2147483648) (hh0 : -2147483648 ≤ h) (hh1 : h < 2147483648) : zwp (zcall 29 [.ref 69, .int (Int32.ofInt l), .int (Int32.ofInt t), .int (Int32.ofInt g), .int (Int32.ofInt says), .int (Int32.ofInt h)] σ) (fun v τ => v = some (.int (Int32.ofInt (fT W t g says h l))) ∧ same σ τ) := by
  refine zwp_of (fun r h => zcc_29 (ze_29_0 _ _ _ _ _ _ r h)) ?_
  exact lp_29 hW hs0 hs1 l0 l1 ht0 ht1 hg0 hg1 hh0 hh1 (W 5).toNat 0 σ (by have := hW.2.2.1; omega) same.rf hC hl
/-- the first delay that turns it -/
def dlL (f : Int → Int) : Nat → Int → Int
  | 0, _ => -1
  | k + 1, l => if f l = -1 then dlL f k (l + 1) else l
def dlA (f : Int → Int) (what : Int) (k : Nat) (l : Int) : Int := if dlL f k l = -1 then -1 else if what = 0 then dlL f k l else f (dlL f k l)
theorem dlA_0 {f : Int → Int} {what l : Int} : dlA f what 0 l = -1 := if_pos rfl
theorem dlA_no {f : Int → Int} {what l : Int} {k : Nat} (h : f l = -1) : dlA f what (k + 1) l = dlA f what k (l + 1) := by
  have e : dlL f (k + 1) l = dlL f k (l + 1) := if_pos h
  unfold dlA
  rw [e]
theorem dlA_yes {f : Int → Int} {what l : Int} {k : Nat} (h : f l ≠ -1) (l0 : 0 ≤ l) : dlA f what (k + 1) l = if what = 0 then l else f l := by
  have e : dlL f (k + 1) l = l := if_neg h
  unfold dlA
  rw [e, if_neg (by omega)]
def Edel (W : Int → Int) (t g says h what : Int) : Int := if asked W t g h ∧ (-1 ≤ says ∧ says < 10) ∧ 0 ≤ what ∧ what ≤ 1 then (if HH W (CM W noD) (W 7) t g h = says then (if what = 0 then 0 else -1) else dlA (fT W t g says h) what (W 1).toNat 1) else -2
theorem lp_129 {σ0 : zM} {W : Int → Int} {t g says h what : Int} (hW : WOK W) (hs0 : -1 ≤ says) (hs1 : says < 10) (w0 : 0 ≤ what) (w1 : what ≤ 1) (ht0 : -2147483648 ≤ t) (ht1 : t < 2147483648) (hg0 : -2147483648 ≤ g) (hg1 : g < 2147483648) (hh0 : -2147483648 ≤ h) (hh1 : h < 2147483648) : ∀ (k l : Nat) (σ : zM), (l : Int) + k = W 1 + 1 → cK σ0 σ W → (∀ p : Int, 0 ≤ p → p < W 5 → zN σ 121 p.toNat ≠ 0) → 0 < l → zwp (zev 129 68 [some (.ref 0), some (.int (Int32.ofInt t)), some (.int (Int32.ofInt g)), some (.int (Int32.ofInt says)), some (.int (Int32.ofInt h)), some (.int (Int32.ofInt what)), some (.int (Int32.ofInt l)), none] [] σ) (fun v τ => v = some (.int (Int32.ofInt (dlA (fT W t g says h) what k l))) ∧ cK σ0 τ W)
  | 0, l, σ, e, hk, hl, l0 => by
    have h9 := hW.1.2.2.1
    have h1 := hW.1.2.1
    have e2 := hk.2.1.1.2.2.1
    rw [dlA_0]
    refine zwp_of (fun r h => ze_129_68 _ _ _ _ _ _ _ r h) ?_
    refine zwp_t (by try simp (disch := first | assumption | exact isR33 | exact isT104 | exact isF99 | exact isF101 | exact isR3 | omega | (refine isTk ?_; omega) | (refine isOk isR33 ?_; omega) | (refine isOk ?_ ?_; assumption; omega)) only [mm_r, mm_rl, mm_add, mm_sub, mm_mul, mm_addJ, mm_mulJ, mm_lt, mm_le, mm_eq, mm_z, mm_cl, mm_w, mm_wl, mm_ite, mm_i2l, mm_l2i, mm_ltJ, mm_leJ, mm_eqJ, mm_clt, mm_cle, mm_cgt, mm_cge, mm_ceq, mm_b, mm_nb, mm_nb0, mm_nb1, mm_vb0, mm_vb1, mm_vbc, mm_vy0, mm_vy1, mm_at, mm_ne, mm_nj, mm_Lw, mm_Nw, mm_atJ, mm_neJ, mm_njJ, zbI_s, zbV_s, zbJ_s, cond_t, Bool.true_and, Bool.and_true, if_true, if_false, not_true, not_false_iff, Classical.not_not, zel_r, zel_42, zel_12, zel_71, zel_80, zel_89, zel_110, zel_188, zel_103, zel_195, zr_o, zr_1, zr_2, zr_3, zr_4, zr_5, zr_6, zr_7, zr_8, zr_9, zq_o, zq_v, zt_o, zt_1, zt_2, zt_3, zt_4, zt_5, zf_o, zf_1, za_w1, za_w2, za_w3, za_cm, za_sl, Int.toNat_natCast, Int.toNat_natCast_add_one, mm_t0, mm_t1, mm_t2, mm_t3, mm_t4, mm_t5, mm_t6, mm_t7, mm_t8, mm_t9, mm_t10, mm_t11, mm_t12, mm_t13, za_1, za_64, za_65, za_66, za_67, za_68, za_71, za_80, za_89, za_98, za_103, za_110, za_121, za_122, za_123, za_124, za_125, za_126, za_188, za_193, za_194, za_195, za_286, za_288, za_289, za_290, za_291, za_292, za_293, za_294, za_295, za_296, za_297, za_298, za_299, za_300, za_301, za_302, za_303, za_304, za_305, za_306, za_307, za_308, za_309, za_310, za_311, za_312, e2]
                     first | done | omega) ?_
    exact zwp_ret ⟨rfl, hk⟩
  | k + 1, l, σ, e, hk, hl, l0 => by
    have h9 := hW.1.2.2.1
    have h5 := hW.2.2.1
    have e2 := hk.2.1.1.2.2.1
    have r := zfst_rng (Pd W t g says h l) (W 5).toNat 0 (by omega)
    change fT W t g says h l = -1 ∨ 0 ≤ fT W t g says h l ∧ fT W t g says h l < 0 + ((W 5).toNat : Int) ∧ _ at r
    refine zwp_of (fun r h => ze_129_68 _ _ _ _ _ _ _ r h) ?_
    refine zwp_f (by try simp (disch := first | assumption | exact isR33 | exact isT104 | exact isF99 | exact isF101 | exact isR3 | omega | (refine isTk ?_; omega) | (refine isOk isR33 ?_; omega) | (refine isOk ?_ ?_; assumption; omega)) only [mm_r, mm_rl, mm_add, mm_sub, mm_mul, mm_addJ, mm_mulJ, mm_lt, mm_le, mm_eq, mm_z, mm_cl, mm_w, mm_wl, mm_ite, mm_i2l, mm_l2i, mm_ltJ, mm_leJ, mm_eqJ, mm_clt, mm_cle, mm_cgt, mm_cge, mm_ceq, mm_b, mm_nb, mm_nb0, mm_nb1, mm_vb0, mm_vb1, mm_vbc, mm_vy0, mm_vy1, mm_at, mm_ne, mm_nj, mm_Lw, mm_Nw, mm_atJ, mm_neJ, mm_njJ, zbI_s, zbV_s, zbJ_s, cond_t, Bool.true_and, Bool.and_true, if_true, if_false, not_true, not_false_iff, Classical.not_not, zel_r, zel_42, zel_12, zel_71, zel_80, zel_89, zel_110, zel_188, zel_103, zel_195, zr_o, zr_1, zr_2, zr_3, zr_4, zr_5, zr_6, zr_7, zr_8, zr_9, zq_o, zq_v, zt_o, zt_1, zt_2, zt_3, zt_4, zt_5, zf_o, zf_1, za_w1, za_w2, za_w3, za_cm, za_sl, Int.toNat_natCast, Int.toNat_natCast_add_one, mm_t0, mm_t1, mm_t2, mm_t3, mm_t4, mm_t5, mm_t6, mm_t7, mm_t8, mm_t9, mm_t10, mm_t11, mm_t12, mm_t13, za_1, za_64, za_65, za_66, za_67, za_68, za_71, za_80, za_89, za_98, za_103, za_110, za_121, za_122, za_123, za_124, za_125, za_126, za_188, za_193, za_194, za_195, za_286, za_288, za_289, za_290, za_291, za_292, za_293, za_294, za_295, za_296, za_297, za_298, za_299, za_300, za_301, za_302, za_303, za_304, za_305, za_306, za_307, za_308, za_309, za_310, za_311, za_312, e2]
                     first | done | omega) ?_
    refine zwp_IE (sp_29 (l := l) hW hk.2 hl (by omega) (by omega) (by omega) (by omega) ht0 ht1 hg0 hg1 hh0 hh1) ?_
    intro τ hs
    have hk2 := hk.same hW hs
    by_cases q : fT W t g says h l = -1
    · rw [dlA_no q]
      refine zwp_t (by rw [q]) ?_
      rw [mm_add]
      exact lp_129 hW hs0 hs1 w0 w1 ht0 ht1 hg0 hg1 hh0 hh1 k (l + 1) τ (by omega) hk2 (fun p p0 p1 => by rw [hs.k]; exact hl p p0 p1) (by omega)
    · rw [dlA_yes q (by omega)]
      refine zwp_f (by try simp (disch := first | assumption | exact isR33 | exact isT104 | exact isF99 | exact isF101 | exact isR3 | omega | (refine isTk ?_; omega) | (refine isOk isR33 ?_; omega) | (refine isOk ?_ ?_; assumption; omega)) only [mm_r, mm_rl, mm_add, mm_sub, mm_mul, mm_addJ, mm_mulJ, mm_lt, mm_le, mm_eq, mm_z, mm_cl, mm_w, mm_wl, mm_ite, mm_i2l, mm_l2i, mm_ltJ, mm_leJ, mm_eqJ, mm_clt, mm_cle, mm_cgt, mm_cge, mm_ceq, mm_b, mm_nb, mm_nb0, mm_nb1, mm_vb0, mm_vb1, mm_vbc, mm_vy0, mm_vy1, mm_at, mm_ne, mm_nj, mm_Lw, mm_Nw, mm_atJ, mm_neJ, mm_njJ, zbI_s, zbV_s, zbJ_s, cond_t, Bool.true_and, Bool.and_true, if_true, if_false, not_true, not_false_iff, Classical.not_not, zel_r, zel_42, zel_12, zel_71, zel_80, zel_89, zel_110, zel_188, zel_103, zel_195, zr_o, zr_1, zr_2, zr_3, zr_4, zr_5, zr_6, zr_7, zr_8, zr_9, zq_o, zq_v, zt_o, zt_1, zt_2, zt_3, zt_4, zt_5, zf_o, zf_1, za_w1, za_w2, za_w3, za_cm, za_sl, Int.toNat_natCast, Int.toNat_natCast_add_one, mm_t0, mm_t1, mm_t2, mm_t3, mm_t4, mm_t5, mm_t6, mm_t7, mm_t8, mm_t9, mm_t10, mm_t11, mm_t12, mm_t13, za_1, za_64, za_65, za_66, za_67, za_68, za_71, za_80, za_89, za_98, za_103, za_110, za_121, za_122, za_123, za_124, za_125, za_126, za_188, za_193, za_194, za_195, za_286, za_288, za_289, za_290, za_291, za_292, za_293, za_294, za_295, za_296, za_297, za_298, za_299, za_300, za_301, za_302, za_303, za_304, za_305, za_306, za_307, za_308, za_309, za_310, za_311, za_312]; first | done | omega) ?_
      by_cases q2 : what = 0
      · rw [if_pos q2]
        refine zwp_f (by rw [q2]; exact fun p => p rfl) ?_
        exact zwp_ret ⟨rfl, hk2⟩
      · rw [if_neg q2]
        refine zwp_t (by try simp (disch := first | assumption | exact isR33 | exact isT104 | exact isF99 | exact isF101 | exact isR3 | omega | (refine isTk ?_; omega) | (refine isOk isR33 ?_; omega) | (refine isOk ?_ ?_; assumption; omega)) only [mm_r, mm_rl, mm_add, mm_sub, mm_mul, mm_addJ, mm_mulJ, mm_lt, mm_le, mm_eq, mm_z, mm_cl, mm_w, mm_wl, mm_ite, mm_i2l, mm_l2i, mm_ltJ, mm_leJ, mm_eqJ, mm_clt, mm_cle, mm_cgt, mm_cge, mm_ceq, mm_b, mm_nb, mm_nb0, mm_nb1, mm_vb0, mm_vb1, mm_vbc, mm_vy0, mm_vy1, mm_at, mm_ne, mm_nj, mm_Lw, mm_Nw, mm_atJ, mm_neJ, mm_njJ, zbI_s, zbV_s, zbJ_s, cond_t, Bool.true_and, Bool.and_true, if_true, if_false, not_true, not_false_iff, Classical.not_not, zel_r, zel_42, zel_12, zel_71, zel_80, zel_89, zel_110, zel_188, zel_103, zel_195, zr_o, zr_1, zr_2, zr_3, zr_4, zr_5, zr_6, zr_7, zr_8, zr_9, zq_o, zq_v, zt_o, zt_1, zt_2, zt_3, zt_4, zt_5, zf_o, zf_1, za_w1, za_w2, za_w3, za_cm, za_sl, Int.toNat_natCast, Int.toNat_natCast_add_one, mm_t0, mm_t1, mm_t2, mm_t3, mm_t4, mm_t5, mm_t6, mm_t7, mm_t8, mm_t9, mm_t10, mm_t11, mm_t12, mm_t13, za_1, za_64, za_65, za_66, za_67, za_68, za_71, za_80, za_89, za_98, za_103, za_110, za_121, za_122, za_123, za_124, za_125, za_126, za_188, za_193, za_194, za_195, za_286, za_288, za_289, za_290, za_291, za_292, za_293, za_294, za_295, za_296, za_297, za_298, za_299, za_300, za_301, za_302, za_303, za_304, za_305, za_306, za_307, za_308, za_309, za_310, za_311, za_312]; first | done | omega) ?_
        exact zwp_ret ⟨rfl, hk2⟩
theorem cq_delay {σ : zM} {W : Int → Int} {t g says h what : Int} (hW : WOK W) (hC : ctC σ W) (ht0 : -2147483648 ≤ t) (ht1 : t < 2147483648) (hg0 : -2147483648 ≤ g) (hg1 : g < 2147483648) (hs0 : -2147483648 ≤ says) (hs1 : says < 2147483648) (hh0 : -2147483648 ≤ h) (hh1 : h < 2147483648) (hw0 : -2147483648 ≤ what) (hw1 : what < 2147483648) : zwp (zcall 129 [.ref 0, .int (Int32.ofInt t), .int (Int32.ofInt g), .int (Int32.ofInt says), .int (Int32.ofInt h), .int (Int32.ofInt what)] σ) (fun v τ => v = some (.int (Int32.ofInt (Edel W t g says h what))) ∧ cK σ τ W) := by
  have h9 := hW.1.2.2.1
  have h1 := hW.1.2.1
  have r := HH_rng hW.un (CM W noD) (W 7) t g h
  unfold Edel
  refine zwp_of (fun r h => zcc_129 (ze_129_0 _ _ _ _ _ _ r h)) ?_
  rw [sp_150w hC.1 ht0 ht1 hg0 hg1 hh0 hh1, zbI_s, sp_157 hs0 hs1, zbI_s]
  simp only [mm_z, mm_b]
  refine zwp_ite (fun q => ?_) (fun q => ?_)
  · rw [if_neg (fun p => q p.1)]
    exact zwp_ret ⟨rfl, cK.rf hC⟩
  · have q := Classical.not_not.mp q
    refine zwp_ite (fun q2 => ?_) (fun q2 => ?_)
    · rw [if_neg (fun p => q2 p.2.1)]
      exact zwp_ret ⟨rfl, cK.rf hC⟩
    · have q2 := Classical.not_not.mp q2
      rw [sp_6c hW.un hC.cc ht0 ht1 hg0 hg1 hh0 hh1, zbI_s]
      simp (disch := first | assumption | exact isR33 | exact isT104 | exact isF99 | exact isF101 | exact isR3 | omega | (refine isTk ?_; omega) | (refine isOk isR33 ?_; omega) | (refine isOk ?_ ?_; assumption; omega)) only [mm_r, mm_rl, mm_add, mm_sub, mm_mul, mm_addJ, mm_mulJ, mm_lt, mm_le, mm_eq, mm_z, mm_cl, mm_w, mm_wl, mm_ite, mm_i2l, mm_l2i, mm_ltJ, mm_leJ, mm_eqJ, mm_clt, mm_cle, mm_cgt, mm_cge, mm_ceq, mm_b, mm_nb, mm_nb0, mm_nb1, mm_vb0, mm_vb1, mm_vbc, mm_vy0, mm_vy1, mm_at, mm_ne, mm_nj, mm_Lw, mm_Nw, mm_atJ, mm_neJ, mm_njJ, zbI_s, zbV_s, zbJ_s, cond_t, Bool.true_and, Bool.and_true, if_true, if_false, not_true, not_false_iff, Classical.not_not, zel_r, zel_42, zel_12, zel_71, zel_80, zel_89, zel_110, zel_188, zel_103, zel_195, zr_o, zr_1, zr_2, zr_3, zr_4, zr_5, zr_6, zr_7, zr_8, zr_9, zq_o, zq_v, zt_o, zt_1, zt_2, zt_3, zt_4, zt_5, zf_o, zf_1, za_w1, za_w2, za_w3, za_cm, za_sl, Int.toNat_natCast, Int.toNat_natCast_add_one, mm_t0, mm_t1, mm_t2, mm_t3, mm_t4, mm_t5, mm_t6, mm_t7, mm_t8, mm_t9, mm_t10, mm_t11, mm_t12, mm_t13, za_1, za_64, za_65, za_66, za_67, za_68, za_71, za_80, za_89, za_98, za_103, za_110, za_121, za_122, za_123, za_124, za_125, za_126, za_188, za_193, za_194, za_195, za_286, za_288, za_289, za_290, za_291, za_292, za_293, za_294, za_295, za_296, za_297, za_298, za_299, za_300, za_301, za_302, za_303, za_304, za_305, za_306, za_307, za_308, za_309, za_310, za_311, za_312]
      refine zwp_ite (fun q3 => ?_) (fun q3 => ?_)
      · rw [if_neg (fun p => by have := p.2.2; omega)]
        exact zwp_ret ⟨rfl, cK.rf hC⟩
      · refine zwp_ite (fun q4 => ?_) (fun q4 => ?_)
        · rw [if_pos (⟨q, q2, by omega, q4⟩ : asked W t g h ∧ (-1 ≤ says ∧ says < 10) ∧ 0 ≤ what ∧ what ≤ 1)]
          refine zwp_ite (fun q5 => ?_) (fun q5 => ?_)
          · rw [if_neg q5]
            refine zwp_V _ (sp_16 hW hC) ?_
            rintro τ ⟨hk, -, hl⟩
            have l := lp_129 (σ0 := σ) hW q2.1 q2.2 (by omega) q4 ht0 ht1 hg0 hg1 hh0 hh1 (W 1).toNat 1 τ (by omega) hk hl (by omega)
            exact l
          · rw [if_pos (Classical.not_not.mp q5)]
            refine zwp_ite (fun q6 => ?_) (fun q6 => ?_)
            · rw [if_neg q6]
              exact zwp_ret ⟨rfl, cK.rf hC⟩
            · rw [if_pos (Classical.not_not.mp q6)]
              exact zwp_ret ⟨rfl, cK.rf hC⟩
        · rw [if_neg (fun p => by have := p.2.2; omega)]
          exact zwp_ret ⟨rfl, cK.rf hC⟩
/-! the reference's -/
theorem sp_209g {σ : zM} {W : Int → Int} {o : Int} (hW : WOK W) (o0 : 0 ≤ o) (o1 : o < W 5) (hX : goX σ W W o) : zwp (zcall 209 [.ref 287, .int (Int32.ofInt o)] σ) (fun v τ => v = none ∧ gone τ W noD ∧ zN τ 287 24 = 0 ∧ mf (fun b => 295 ≤ b ∧ b ≤ 300) σ τ) := by
  have h5 := hW.2.2.1
  obtain ⟨x1, x2, x3, x4, x5, x6⟩ := hX
  refine zwp_mono (sp_209 hW.1 o0 (by omega) (hW.2.2.2.2 o o0 o1).1 ⟨x1, hW.1.1, x2⟩ (dR_no x6)) ?_
  rintro v τ ⟨rfl, hf, hs⟩
  refine ⟨rfl, ⟨⟨(hf.1.wv 288 (by decide)).trans x1, hW.1.1, fun x y a b c d => (hf.1.1 294 (by decide) _).trans (x2 x y a b c d)⟩, fun k k0 k1 => ?_, (hf.2.1 10 (by omega)).2.1.trans x4⟩, (hf.1.1 287 (by decide) 24).trans x6, hf.1⟩
  by_cases q : k = o
  · rw [q]
    exact hs
  · exact (x3 k k0 k1 q).fr hf q k0 hW.1.1 (hW.2.2.2.2 k k0 k1).1
theorem rcC.never {σ : zM} {W : Int → Int} {c : Int → Int} {sl o x : Int} (h : rcC σ W (cup c o x) sl) (o0 : 0 ≤ o) (o1 : o < 10) : rcC (zw σ 299 o.toNat (-1)) W (cup c o (-1)) sl := by
  refine ⟨(mm_ne (by decide)).trans h.1, (mm_ne (by decide)).trans h.2.1, fun p p0 p1 => ?_, (mm_nj (by omega)).trans h.2.2.2⟩
  obtain ⟨a, b, d, e, f⟩ := h.2.2.1 p p0 p1
  refine ⟨(mm_ne (by decide)).trans a, (mm_ne (by decide)).trans b, (mm_ne (by decide)).trans d, (mm_ne (by decide)).trans e, ?_⟩
  show _ = if p = o then -1 else c p
  by_cases q : p = o
  · rw [if_pos q, q, mm_at rfl rfl (by decide) (by decide)]
  · rw [if_neg q, mm_nj (by omega), f]
    exact if_neg q
theorem goX.come {σ : zM} {W W' : Int → Int} {o x : Int} (h : goX σ W W' o) (o0 : 0 ≤ o) (o1 : o < 10) : goX (zw σ 299 o.toNat x) W W' o := by
  obtain ⟨x1, x2, x3, x4, x5, x6⟩ := h
  refine ⟨(wv_eq fun k => mm_ne (by decide)).trans x1, fun x y a b c d => (mm_ne (by decide)).trans (x2 x y a b c d), fun j j0 j1 jn => ?_, (mm_nj (by omega)).trans x4, (mm_ne (by decide)).trans x5, (mm_ne (by decide)).trans x6⟩
  obtain ⟨s1, s2, s3, s4⟩ := x3 j j0 j1 jn
  exact ⟨(mm_ne (by decide)).trans s1, (mm_nj (by omega)).trans s2, ⟨(mm_ne (by decide)).trans s3.1, fun i i0 i1 => (mm_ne (by decide)).trans (s3.2 i i0 i1)⟩, fun p => ⟨fun i i1 => (mm_ne (by decide)).trans ((s4 p).1 i i1), fun i i1 i2 => (mm_ne (by decide)).trans ((s4 p).2 i i1 i2)⟩⟩
theorem sp_241 {σ : zM} {W : Int → Int} {t g says h l o : Int} (hW : WOK W) (o0 : 0 ≤ o) (o1 : o < W 5) (hs0 : -2147483648 ≤ says) (hs1 : says < 2147483648) (l0 : 0 ≤ l) (l1 : l ≤ 99) (ht0 : -2147483648 ≤ t) (ht1 : t < 2147483648) (hg0 : -2147483648 ≤ g) (hg1 : g < 2147483648) (hh0 : -2147483648 ≤ h) (hh1 : h < 2147483648) (hg : gone σ W noD) (h24 : zN σ 287 24 = 0) : zwp (zcall 241 [.ref 287, .int (Int32.ofInt o), .int (Int32.ofInt l), .int (Int32.ofInt t), .int (Int32.ofInt g), .int (Int32.ofInt says), .int (Int32.ofInt h)] σ) (fun v τ => v = some (.int (Int32.ofInt (if Pd W t g says h l o = true then 1 else 0))) ∧ gone τ W noD ∧ zN τ 287 24 = 0 ∧ thK σ τ) := by
  have h5 := hW.2.2.1
  have h9 := hW.1.2.2.1
  have ho := hW.2.2.2.2 o o0 o1
  have b6 := ho.1.2.2.2.2.2.2.2.1
  have b62 := ho.2.1
  have s6 : rO σ 6 o = oo W o 6 := rO_of hg.1.1 6 o
  have eP : (Pd W t g says h l o = true) ↔ HH W (cup (CM W noD) o (CMs W o (oo W o 6 + l))) (W 7) t g h = says := by
    unfold Pd
    rw [decide_eq_true_eq]
  have r := HH_rng hW.un (cup (CM W noD) o (CMs W o (oo W o 6 + l))) (W 7) t g h
  simp only [eP]
  -- the end: the hour as it was, and he goes again
  have hend : ∀ (τ : zM) (a : Int) (x : Int32) , goH τ W o a → thK σ τ → zwp (zbV (zcall 174 [.ref 287, .int (Int32.ofInt o), .int (Int32.ofInt 6), .int (Int32.ofInt (oo W o 6))] τ) (fun υ => zbV (zcall 209 [.ref 287, .int (Int32.ofInt o)] υ) (fun υ' => some (some (.int x), υ')))) (fun v τ' => v = some (.int x) ∧ gone τ' W noD ∧ zN τ' 287 24 = 0 ∧ thK σ τ') := by
    intro τ a x hH hk
    rw [sp_174 o0 (by omega) (by decide) (by decide), zbV_s]
    have hX := hH.set (x := oo W o 6) o0 (by omega) (by omega)
    unfold goH at hX
    rw [wS_self] at hX
    refine zwp_V _ (sp_209g hW o0 o1 hX) ?_
    rintro υ ⟨g1, g2, g3⟩
    exact zwp_ret ⟨rfl, g1, g2, (hk.zw 288 _ _ (.inl rfl)).tr (g3.mono (by omega))⟩
  have hH := hg.H o o0 o1 h24
  refine zwp_of (fun r h => zcc_241 (ze_241_0 _ _ _ _ _ _ _ r h)) ?_
  rw [sp_173r o0 (by omega) (by decide) (by decide), zbI_s, s6, mm_add, sp_174 o0 (by omega) (by decide) (by decide), zbV_s]
  refine zwp_V _ (sp_209h hW o0 o1 (h := oo W o 6 + l) (by omega) (by omega) (hH.set o0 (by omega) (by omega))) ?_
  rintro τ ⟨hH2, hr, hf⟩
  have hk : thK σ τ := ((mf.rf (S := fun b => b = 288 ∨ 294 ≤ b ∧ b ≤ 300)).zw 288 _ _ (.inl rfl)).tr (hf.mono (by omega))
  have e1 : zN τ 288 1 = W 1 := (wv_k hH2.1 1).trans (wS_A o0 (by decide) 1 (by decide))
  refine zwp_cd (by simp (disch := first | assumption | exact isR33 | exact isT104 | exact isF99 | exact isF101 | exact isR3 | omega | (refine isTk ?_; omega) | (refine isOk isR33 ?_; omega) | (refine isOk ?_ ?_; assumption; omega)) only [mm_r, mm_rl, mm_add, mm_sub, mm_mul, mm_addJ, mm_mulJ, mm_lt, mm_le, mm_eq, mm_z, mm_cl, mm_w, mm_wl, mm_ite, mm_i2l, mm_l2i, mm_ltJ, mm_leJ, mm_eqJ, mm_clt, mm_cle, mm_cgt, mm_cge, mm_ceq, mm_b, mm_nb, mm_nb0, mm_nb1, mm_vb0, mm_vb1, mm_vbc, mm_vy0, mm_vy1, mm_at, mm_ne, mm_nj, mm_Lw, mm_Nw, mm_atJ, mm_neJ, mm_njJ, zbI_s, zbV_s, zbJ_s, cond_t, Bool.true_and, Bool.and_true, if_true, if_false, not_true, not_false_iff, Classical.not_not, zel_r, zel_42, zel_12, zel_71, zel_80, zel_89, zel_110, zel_188, zel_103, zel_195, zr_o, zr_1, zr_2, zr_3, zr_4, zr_5, zr_6, zr_7, zr_8, zr_9, zq_o, zq_v, zt_o, zt_1, zt_2, zt_3, zt_4, zt_5, zf_o, zf_1, za_w1, za_w2, za_w3, za_cm, za_sl, Int.toNat_natCast, Int.toNat_natCast_add_one, mm_t0, mm_t1, mm_t2, mm_t3, mm_t4, mm_t5, mm_t6, mm_t7, mm_t8, mm_t9, mm_t10, mm_t11, mm_t12, mm_t13, za_1, za_64, za_65, za_66, za_67, za_68, za_71, za_80, za_89, za_98, za_103, za_110, za_121, za_122, za_123, za_124, za_125, za_126, za_188, za_193, za_194, za_195, za_286, za_288, za_289, za_290, za_291, za_292, za_293, za_294, za_295, za_296, za_297, za_298, za_299, za_300, za_301, za_302, za_303, za_304, za_305, za_306, za_307, za_308, za_309, za_310, za_311, za_312]) ?_
  by_cases q : oo W o 6 + l < W 1
  · refine zwp_t (by try simp (disch := first | assumption | exact isR33 | exact isT104 | exact isF99 | exact isF101 | exact isR3 | omega | (refine isTk ?_; omega) | (refine isOk isR33 ?_; omega) | (refine isOk ?_ ?_; assumption; omega)) only [mm_r, mm_rl, mm_add, mm_sub, mm_mul, mm_addJ, mm_mulJ, mm_lt, mm_le, mm_eq, mm_z, mm_cl, mm_w, mm_wl, mm_ite, mm_i2l, mm_l2i, mm_ltJ, mm_leJ, mm_eqJ, mm_clt, mm_cle, mm_cgt, mm_cge, mm_ceq, mm_b, mm_nb, mm_nb0, mm_nb1, mm_vb0, mm_vb1, mm_vbc, mm_vy0, mm_vy1, mm_at, mm_ne, mm_nj, mm_Lw, mm_Nw, mm_atJ, mm_neJ, mm_njJ, zbI_s, zbV_s, zbJ_s, cond_t, Bool.true_and, Bool.and_true, if_true, if_false, not_true, not_false_iff, Classical.not_not, zel_r, zel_42, zel_12, zel_71, zel_80, zel_89, zel_110, zel_188, zel_103, zel_195, zr_o, zr_1, zr_2, zr_3, zr_4, zr_5, zr_6, zr_7, zr_8, zr_9, zq_o, zq_v, zt_o, zt_1, zt_2, zt_3, zt_4, zt_5, zf_o, zf_1, za_w1, za_w2, za_w3, za_cm, za_sl, Int.toNat_natCast, Int.toNat_natCast_add_one, mm_t0, mm_t1, mm_t2, mm_t3, mm_t4, mm_t5, mm_t6, mm_t7, mm_t8, mm_t9, mm_t10, mm_t11, mm_t12, mm_t13, za_1, za_64, za_65, za_66, za_67, za_68, za_71, za_80, za_89, za_98, za_103, za_110, za_121, za_122, za_123, za_124, za_125, za_126, za_188, za_193, za_194, za_195, za_286, za_288, za_289, za_290, za_291, za_292, za_293, za_294, za_295, za_296, za_297, za_298, za_299, za_300, za_301, za_302, za_303, za_304, za_305, za_306, za_307, za_308, za_309, za_310, za_311, za_312, e1]; first | done | omega) ?_
    have eC : CMs W o (oo W o 6 + l) = CMh W (FL W noD) o (oo W o 6 + l) := if_pos ⟨by omega, q⟩
    rw [← eC] at hr
    rw [sp_220c hW.un hr ht0 ht1 hg0 hg1 hh0 hh1, zbI_s]
    by_cases q2 : HH W (cup (CM W noD) o (CMs W o (oo W o 6 + l))) (W 7) t g h = says
    · rw [if_pos q2]
      refine zwp_f (by rw [q2]; exact fun p => p rfl) ?_
      simp only [mm_z, mm_nb0, mm_nb1, if_true]
      exact hend τ _ _ hH2 hk
    · rw [if_neg q2]
      refine zwp_t (by try simp (disch := first | assumption | exact isR33 | exact isT104 | exact isF99 | exact isF101 | exact isR3 | omega | (refine isTk ?_; omega) | (refine isOk isR33 ?_; omega) | (refine isOk ?_ ?_; assumption; omega)) only [mm_r, mm_rl, mm_add, mm_sub, mm_mul, mm_addJ, mm_mulJ, mm_lt, mm_le, mm_eq, mm_z, mm_cl, mm_w, mm_wl, mm_ite, mm_i2l, mm_l2i, mm_ltJ, mm_leJ, mm_eqJ, mm_clt, mm_cle, mm_cgt, mm_cge, mm_ceq, mm_b, mm_nb, mm_nb0, mm_nb1, mm_vb0, mm_vb1, mm_vbc, mm_vy0, mm_vy1, mm_at, mm_ne, mm_nj, mm_Lw, mm_Nw, mm_atJ, mm_neJ, mm_njJ, zbI_s, zbV_s, zbJ_s, cond_t, Bool.true_and, Bool.and_true, if_true, if_false, not_true, not_false_iff, Classical.not_not, zel_r, zel_42, zel_12, zel_71, zel_80, zel_89, zel_110, zel_188, zel_103, zel_195, zr_o, zr_1, zr_2, zr_3, zr_4, zr_5, zr_6, zr_7, zr_8, zr_9, zq_o, zq_v, zt_o, zt_1, zt_2, zt_3, zt_4, zt_5, zf_o, zf_1, za_w1, za_w2, za_w3, za_cm, za_sl, Int.toNat_natCast, Int.toNat_natCast_add_one, mm_t0, mm_t1, mm_t2, mm_t3, mm_t4, mm_t5, mm_t6, mm_t7, mm_t8, mm_t9, mm_t10, mm_t11, mm_t12, mm_t13, za_1, za_64, za_65, za_66, za_67, za_68, za_71, za_80, za_89, za_98, za_103, za_110, za_121, za_122, za_123, za_124, za_125, za_126, za_188, za_193, za_194, za_195, za_286, za_288, za_289, za_290, za_291, za_292, za_293, za_294, za_295, za_296, za_297, za_298, za_299, za_300, za_301, za_302, za_303, za_304, za_305, za_306, za_307, za_308, za_309, za_310, za_311, za_312]; first | done | omega) ?_
      simp only [mm_z, mm_nb0, mm_nb1, if_true]
      exact hend τ _ _ hH2 hk
  · refine zwp_f (by try simp (disch := first | assumption | exact isR33 | exact isT104 | exact isF99 | exact isF101 | exact isR3 | omega | (refine isTk ?_; omega) | (refine isOk isR33 ?_; omega) | (refine isOk ?_ ?_; assumption; omega)) only [mm_r, mm_rl, mm_add, mm_sub, mm_mul, mm_addJ, mm_mulJ, mm_lt, mm_le, mm_eq, mm_z, mm_cl, mm_w, mm_wl, mm_ite, mm_i2l, mm_l2i, mm_ltJ, mm_leJ, mm_eqJ, mm_clt, mm_cle, mm_cgt, mm_cge, mm_ceq, mm_b, mm_nb, mm_nb0, mm_nb1, mm_vb0, mm_vb1, mm_vbc, mm_vy0, mm_vy1, mm_at, mm_ne, mm_nj, mm_Lw, mm_Nw, mm_atJ, mm_neJ, mm_njJ, zbI_s, zbV_s, zbJ_s, cond_t, Bool.true_and, Bool.and_true, if_true, if_false, not_true, not_false_iff, Classical.not_not, zel_r, zel_42, zel_12, zel_71, zel_80, zel_89, zel_110, zel_188, zel_103, zel_195, zr_o, zr_1, zr_2, zr_3, zr_4, zr_5, zr_6, zr_7, zr_8, zr_9, zq_o, zq_v, zt_o, zt_1, zt_2, zt_3, zt_4, zt_5, zf_o, zf_1, za_w1, za_w2, za_w3, za_cm, za_sl, Int.toNat_natCast, Int.toNat_natCast_add_one, mm_t0, mm_t1, mm_t2, mm_t3, mm_t4, mm_t5, mm_t6, mm_t7, mm_t8, mm_t9, mm_t10, mm_t11, mm_t12, mm_t13, za_1, za_64, za_65, za_66, za_67, za_68, za_71, za_80, za_89, za_98, za_103, za_110, za_121, za_122, za_123, za_124, za_125, za_126, za_188, za_193, za_194, za_195, za_286, za_288, za_289, za_290, za_291, za_292, za_293, za_294, za_295, za_296, za_297, za_298, za_299, za_300, za_301, za_302, za_303, za_304, za_305, za_306, za_307, za_308, za_309, za_310, za_311, za_312, e1]; first | done | omega) ?_
    have eC : CMs W o (oo W o 6 + l) = -1 := if_neg (fun p => q p.2)
    refine zwp_cd (by simp (disch := first | assumption | exact isR33 | exact isT104 | exact isF99 | exact isF101 | exact isR3 | omega | (refine isTk ?_; omega) | (refine isOk isR33 ?_; omega) | (refine isOk ?_ ?_; assumption; omega)) only [mm_r, mm_rl, mm_add, mm_sub, mm_mul, mm_addJ, mm_mulJ, mm_lt, mm_le, mm_eq, mm_z, mm_cl, mm_w, mm_wl, mm_ite, mm_i2l, mm_l2i, mm_ltJ, mm_leJ, mm_eqJ, mm_clt, mm_cle, mm_cgt, mm_cge, mm_ceq, mm_b, mm_nb, mm_nb0, mm_nb1, mm_vb0, mm_vb1, mm_vbc, mm_vy0, mm_vy1, mm_at, mm_ne, mm_nj, mm_Lw, mm_Nw, mm_atJ, mm_neJ, mm_njJ, zbI_s, zbV_s, zbJ_s, cond_t, Bool.true_and, Bool.and_true, if_true, if_false, not_true, not_false_iff, Classical.not_not, zel_r, zel_42, zel_12, zel_71, zel_80, zel_89, zel_110, zel_188, zel_103, zel_195, zr_o, zr_1, zr_2, zr_3, zr_4, zr_5, zr_6, zr_7, zr_8, zr_9, zq_o, zq_v, zt_o, zt_1, zt_2, zt_3, zt_4, zt_5, zf_o, zf_1, za_w1, za_w2, za_w3, za_cm, za_sl, Int.toNat_natCast, Int.toNat_natCast_add_one, mm_t0, mm_t1, mm_t2, mm_t3, mm_t4, mm_t5, mm_t6, mm_t7, mm_t8, mm_t9, mm_t10, mm_t11, mm_t12, mm_t13, za_1, za_64, za_65, za_66, za_67, za_68, za_71, za_80, za_89, za_98, za_103, za_110, za_121, za_122, za_123, za_124, za_125, za_126, za_188, za_193, za_194, za_195, za_286, za_288, za_289, za_290, za_291, za_292, za_293, za_294, za_295, za_296, za_297, za_298, za_299, za_300, za_301, za_302, za_303, za_304, za_305, za_306, za_307, za_308, za_309, za_310, za_311, za_312]) ?_
    refine zwp_letE (τ' := zw τ 299 o.toNat (-1)) (by simp (disch := first | assumption | exact isR33 | exact isT104 | exact isF99 | exact isF101 | exact isR3 | omega | (refine isTk ?_; omega) | (refine isOk isR33 ?_; omega) | (refine isOk ?_ ?_; assumption; omega)) only [mm_r, mm_rl, mm_add, mm_sub, mm_mul, mm_addJ, mm_mulJ, mm_lt, mm_le, mm_eq, mm_z, mm_cl, mm_w, mm_wl, mm_ite, mm_i2l, mm_l2i, mm_ltJ, mm_leJ, mm_eqJ, mm_clt, mm_cle, mm_cgt, mm_cge, mm_ceq, mm_b, mm_nb, mm_nb0, mm_nb1, mm_vb0, mm_vb1, mm_vbc, mm_vy0, mm_vy1, mm_at, mm_ne, mm_nj, mm_Lw, mm_Nw, mm_atJ, mm_neJ, mm_njJ, zbI_s, zbV_s, zbJ_s, cond_t, Bool.true_and, Bool.and_true, if_true, if_false, not_true, not_false_iff, Classical.not_not, zel_r, zel_42, zel_12, zel_71, zel_80, zel_89, zel_110, zel_188, zel_103, zel_195, zr_o, zr_1, zr_2, zr_3, zr_4, zr_5, zr_6, zr_7, zr_8, zr_9, zq_o, zq_v, zt_o, zt_1, zt_2, zt_3, zt_4, zt_5, zf_o, zf_1, za_w1, za_w2, za_w3, za_cm, za_sl, Int.toNat_natCast, Int.toNat_natCast_add_one, mm_t0, mm_t1, mm_t2, mm_t3, mm_t4, mm_t5, mm_t6, mm_t7, mm_t8, mm_t9, mm_t10, mm_t11, mm_t12, mm_t13, za_1, za_64, za_65, za_66, za_67, za_68, za_71, za_80, za_89, za_98, za_103, za_110, za_121, za_122, za_123, za_124, za_125, za_126, za_188, za_193, za_194, za_195, za_286, za_288, za_289, za_290, za_291, za_292, za_293, za_294, za_295, za_296, za_297, za_298, za_299, za_300, za_301, za_302, za_303, za_304, za_305, za_306, za_307, za_308, za_309, za_310, za_311, za_312]) ?_
    have hr2 := hr.never o0 (by omega)
    have hH3 : goH (zw τ 299 o.toNat (-1)) W o (oo W o 6 + l) := goX.come hH2 o0 (by omega)
    have hk3 : thK σ (zw τ 299 o.toNat (-1)) := hk.zw 299 _ _ (.inr ⟨by decide, by decide⟩)
    rw [← eC] at hr2
    rw [eC] at hr2
    rw [eC] at r ⊢
    rw [sp_220c hW.un hr2 ht0 ht1 hg0 hg1 hh0 hh1, zbI_s]
    by_cases q2 : HH W (cup (CM W noD) o (-1)) (W 7) t g h = says
    · rw [if_pos q2]
      refine zwp_f (by rw [q2]; exact fun p => p rfl) ?_
      simp only [mm_z, mm_nb0, mm_nb1, if_true]
      exact hend _ _ _ hH3 hk3
    · rw [if_neg q2]
      refine zwp_t (by try simp (disch := first | assumption | exact isR33 | exact isT104 | exact isF99 | exact isF101 | exact isR3 | omega | (refine isTk ?_; omega) | (refine isOk isR33 ?_; omega) | (refine isOk ?_ ?_; assumption; omega)) only [mm_r, mm_rl, mm_add, mm_sub, mm_mul, mm_addJ, mm_mulJ, mm_lt, mm_le, mm_eq, mm_z, mm_cl, mm_w, mm_wl, mm_ite, mm_i2l, mm_l2i, mm_ltJ, mm_leJ, mm_eqJ, mm_clt, mm_cle, mm_cgt, mm_cge, mm_ceq, mm_b, mm_nb, mm_nb0, mm_nb1, mm_vb0, mm_vb1, mm_vbc, mm_vy0, mm_vy1, mm_at, mm_ne, mm_nj, mm_Lw, mm_Nw, mm_atJ, mm_neJ, mm_njJ, zbI_s, zbV_s, zbJ_s, cond_t, Bool.true_and, Bool.and_true, if_true, if_false, not_true, not_false_iff, Classical.not_not, zel_r, zel_42, zel_12, zel_71, zel_80, zel_89, zel_110, zel_188, zel_103, zel_195, zr_o, zr_1, zr_2, zr_3, zr_4, zr_5, zr_6, zr_7, zr_8, zr_9, zq_o, zq_v, zt_o, zt_1, zt_2, zt_3, zt_4, zt_5, zf_o, zf_1, za_w1, za_w2, za_w3, za_cm, za_sl, Int.toNat_natCast, Int.toNat_natCast_add_one, mm_t0, mm_t1, mm_t2, mm_t3, mm_t4, mm_t5, mm_t6, mm_t7, mm_t8, mm_t9, mm_t10, mm_t11, mm_t12, mm_t13, za_1, za_64, za_65, za_66, za_67, za_68, za_71, za_80, za_89, za_98, za_103, za_110, za_121, za_122, za_123, za_124, za_125, za_126, za_188, za_193, za_194, za_195, za_286, za_288, za_289, za_290, za_291, za_292, za_293, za_294, za_295, za_296, za_297, za_298, za_299, za_300, za_301, za_302, za_303, za_304, za_305, za_306, za_307, za_308, za_309, za_310, za_311, za_312]; first | done | omega) ?_
      simp only [mm_z, mm_nb0, mm_nb1, if_true]
      exact hend _ _ _ hH3 hk3
theorem lp_242_77 {σ0 : zM} {W : Int → Int} {t g says h what l : Int} (hW : WOK W) (hs0 : -1 ≤ says) (hs1 : says < 10) (w0 : 0 ≤ what) (w1 : what ≤ 1) (l0 : 1 ≤ l) (l1 : l ≤ W 1) (ht0 : -2147483648 ≤ t) (ht1 : t < 2147483648) (hg0 : -2147483648 ≤ g) (hg1 : g < 2147483648) (hh0 : -2147483648 ≤ h) (hh1 : h < 2147483648) {Q : Option Value → zM → Prop}
    (K : ∀ τ, gone τ W noD → zN τ 287 24 = 0 → thK σ0 τ → fT W t g says h l = -1 → zwp (zev 242 63 [some (.ref 287), some (.int (Int32.ofInt t)), some (.int (Int32.ofInt g)), some (.int (Int32.ofInt says)), some (.int (Int32.ofInt h)), some (.int (Int32.ofInt what)), some (.int (Int32.ofInt (l + 1))), none] [] τ) Q)
    (K2 : ∀ τ, gone τ W noD → thK σ0 τ → fT W t g says h l ≠ -1 → Q (some (.int (Int32.ofInt (if what = 0 then l else fT W t g says h l)))) τ) : ∀ (k o : Nat) (σ : zM), (o : Int) + k = W 5 → gone σ W noD → zN σ 287 24 = 0 → thK σ0 σ → fT W t g says h l = zfst (Pd W t g says h l) k o → zwp (zev 242 77 [some (.ref 287), some (.int (Int32.ofInt t)), some (.int (Int32.ofInt g)), some (.int (Int32.ofInt says)), some (.int (Int32.ofInt h)), some (.int (Int32.ofInt what)), some (.int (Int32.ofInt l)), some (.int (Int32.ofInt o))] [] σ) Q
  | 0, o, σ, e, hg, h24, hk, hz => by
    have h5 := hW.2.2.1
    have h9 := hW.1.2.2.1
    have e5 : zN σ 288 5 = W 5 := wv_k hg.1.1 5
    refine zwp_of (fun r h => ze_242_77 _ _ _ _ _ _ _ _ r h) ?_
    refine zwp_cd (by simp (disch := first | assumption | exact isR33 | exact isT104 | exact isF99 | exact isF101 | exact isR3 | omega | (refine isTk ?_; omega) | (refine isOk isR33 ?_; omega) | (refine isOk ?_ ?_; assumption; omega)) only [mm_r, mm_rl, mm_add, mm_sub, mm_mul, mm_addJ, mm_mulJ, mm_lt, mm_le, mm_eq, mm_z, mm_cl, mm_w, mm_wl, mm_ite, mm_i2l, mm_l2i, mm_ltJ, mm_leJ, mm_eqJ, mm_clt, mm_cle, mm_cgt, mm_cge, mm_ceq, mm_b, mm_nb, mm_nb0, mm_nb1, mm_vb0, mm_vb1, mm_vbc, mm_vy0, mm_vy1, mm_at, mm_ne, mm_nj, mm_Lw, mm_Nw, mm_atJ, mm_neJ, mm_njJ, zbI_s, zbV_s, zbJ_s, cond_t, Bool.true_and, Bool.and_true, if_true, if_false, not_true, not_false_iff, Classical.not_not, zel_r, zel_42, zel_12, zel_71, zel_80, zel_89, zel_110, zel_188, zel_103, zel_195, zr_o, zr_1, zr_2, zr_3, zr_4, zr_5, zr_6, zr_7, zr_8, zr_9, zq_o, zq_v, zt_o, zt_1, zt_2, zt_3, zt_4, zt_5, zf_o, zf_1, za_w1, za_w2, za_w3, za_cm, za_sl, Int.toNat_natCast, Int.toNat_natCast_add_one, mm_t0, mm_t1, mm_t2, mm_t3, mm_t4, mm_t5, mm_t6, mm_t7, mm_t8, mm_t9, mm_t10, mm_t11, mm_t12, mm_t13, za_1, za_64, za_65, za_66, za_67, za_68, za_71, za_80, za_89, za_98, za_103, za_110, za_121, za_122, za_123, za_124, za_125, za_126, za_188, za_193, za_194, za_195, za_286, za_288, za_289, za_290, za_291, za_292, za_293, za_294, za_295, za_296, za_297, za_298, za_299, za_300, za_301, za_302, za_303, za_304, za_305, za_306, za_307, za_308, za_309, za_310, za_311, za_312]) ?_
    refine zwp_t (by try simp (disch := first | assumption | exact isR33 | exact isT104 | exact isF99 | exact isF101 | exact isR3 | omega | (refine isTk ?_; omega) | (refine isOk isR33 ?_; omega) | (refine isOk ?_ ?_; assumption; omega)) only [mm_r, mm_rl, mm_add, mm_sub, mm_mul, mm_addJ, mm_mulJ, mm_lt, mm_le, mm_eq, mm_z, mm_cl, mm_w, mm_wl, mm_ite, mm_i2l, mm_l2i, mm_ltJ, mm_leJ, mm_eqJ, mm_clt, mm_cle, mm_cgt, mm_cge, mm_ceq, mm_b, mm_nb, mm_nb0, mm_nb1, mm_vb0, mm_vb1, mm_vbc, mm_vy0, mm_vy1, mm_at, mm_ne, mm_nj, mm_Lw, mm_Nw, mm_atJ, mm_neJ, mm_njJ, zbI_s, zbV_s, zbJ_s, cond_t, Bool.true_and, Bool.and_true, if_true, if_false, not_true, not_false_iff, Classical.not_not, zel_r, zel_42, zel_12, zel_71, zel_80, zel_89, zel_110, zel_188, zel_103, zel_195, zr_o, zr_1, zr_2, zr_3, zr_4, zr_5, zr_6, zr_7, zr_8, zr_9, zq_o, zq_v, zt_o, zt_1, zt_2, zt_3, zt_4, zt_5, zf_o, zf_1, za_w1, za_w2, za_w3, za_cm, za_sl, Int.toNat_natCast, Int.toNat_natCast_add_one, mm_t0, mm_t1, mm_t2, mm_t3, mm_t4, mm_t5, mm_t6, mm_t7, mm_t8, mm_t9, mm_t10, mm_t11, mm_t12, mm_t13, za_1, za_64, za_65, za_66, za_67, za_68, za_71, za_80, za_89, za_98, za_103, za_110, za_121, za_122, za_123, za_124, za_125, za_126, za_188, za_193, za_194, za_195, za_286, za_288, za_289, za_290, za_291, za_292, za_293, za_294, za_295, za_296, za_297, za_298, za_299, za_300, za_301, za_302, za_303, za_304, za_305, za_306, za_307, za_308, za_309, za_310, za_311, za_312, e5]
                     first | done | omega) ?_
    rw [mm_add]
    exact K σ hg h24 hk hz
  | k + 1, o, σ, e, hg, h24, hk, hz => by
    have h5 := hW.2.2.1
    have h9 := hW.1.2.2.1
    have e5 : zN σ 288 5 = W 5 := wv_k hg.1.1 5
    have ez : zfst (Pd W t g says h l) (k + 1) o = if Pd W t g says h l o = true then (o : Int) else zfst (Pd W t g says h l) k ((o : Int) + 1) := rfl
    rw [ez] at hz
    refine zwp_of (fun r h => ze_242_77 _ _ _ _ _ _ _ _ r h) ?_
    refine zwp_cd (by simp (disch := first | assumption | exact isR33 | exact isT104 | exact isF99 | exact isF101 | exact isR3 | omega | (refine isTk ?_; omega) | (refine isOk isR33 ?_; omega) | (refine isOk ?_ ?_; assumption; omega)) only [mm_r, mm_rl, mm_add, mm_sub, mm_mul, mm_addJ, mm_mulJ, mm_lt, mm_le, mm_eq, mm_z, mm_cl, mm_w, mm_wl, mm_ite, mm_i2l, mm_l2i, mm_ltJ, mm_leJ, mm_eqJ, mm_clt, mm_cle, mm_cgt, mm_cge, mm_ceq, mm_b, mm_nb, mm_nb0, mm_nb1, mm_vb0, mm_vb1, mm_vbc, mm_vy0, mm_vy1, mm_at, mm_ne, mm_nj, mm_Lw, mm_Nw, mm_atJ, mm_neJ, mm_njJ, zbI_s, zbV_s, zbJ_s, cond_t, Bool.true_and, Bool.and_true, if_true, if_false, not_true, not_false_iff, Classical.not_not, zel_r, zel_42, zel_12, zel_71, zel_80, zel_89, zel_110, zel_188, zel_103, zel_195, zr_o, zr_1, zr_2, zr_3, zr_4, zr_5, zr_6, zr_7, zr_8, zr_9, zq_o, zq_v, zt_o, zt_1, zt_2, zt_3, zt_4, zt_5, zf_o, zf_1, za_w1, za_w2, za_w3, za_cm, za_sl, Int.toNat_natCast, Int.toNat_natCast_add_one, mm_t0, mm_t1, mm_t2, mm_t3, mm_t4, mm_t5, mm_t6, mm_t7, mm_t8, mm_t9, mm_t10, mm_t11, mm_t12, mm_t13, za_1, za_64, za_65, za_66, za_67, za_68, za_71, za_80, za_89, za_98, za_103, za_110, za_121, za_122, za_123, za_124, za_125, za_126, za_188, za_193, za_194, za_195, za_286, za_288, za_289, za_290, za_291, za_292, za_293, za_294, za_295, za_296, za_297, za_298, za_299, za_300, za_301, za_302, za_303, za_304, za_305, za_306, za_307, za_308, za_309, za_310, za_311, za_312]) ?_
    refine zwp_f (by try simp (disch := first | assumption | exact isR33 | exact isT104 | exact isF99 | exact isF101 | exact isR3 | omega | (refine isTk ?_; omega) | (refine isOk isR33 ?_; omega) | (refine isOk ?_ ?_; assumption; omega)) only [mm_r, mm_rl, mm_add, mm_sub, mm_mul, mm_addJ, mm_mulJ, mm_lt, mm_le, mm_eq, mm_z, mm_cl, mm_w, mm_wl, mm_ite, mm_i2l, mm_l2i, mm_ltJ, mm_leJ, mm_eqJ, mm_clt, mm_cle, mm_cgt, mm_cge, mm_ceq, mm_b, mm_nb, mm_nb0, mm_nb1, mm_vb0, mm_vb1, mm_vbc, mm_vy0, mm_vy1, mm_at, mm_ne, mm_nj, mm_Lw, mm_Nw, mm_atJ, mm_neJ, mm_njJ, zbI_s, zbV_s, zbJ_s, cond_t, Bool.true_and, Bool.and_true, if_true, if_false, not_true, not_false_iff, Classical.not_not, zel_r, zel_42, zel_12, zel_71, zel_80, zel_89, zel_110, zel_188, zel_103, zel_195, zr_o, zr_1, zr_2, zr_3, zr_4, zr_5, zr_6, zr_7, zr_8, zr_9, zq_o, zq_v, zt_o, zt_1, zt_2, zt_3, zt_4, zt_5, zf_o, zf_1, za_w1, za_w2, za_w3, za_cm, za_sl, Int.toNat_natCast, Int.toNat_natCast_add_one, mm_t0, mm_t1, mm_t2, mm_t3, mm_t4, mm_t5, mm_t6, mm_t7, mm_t8, mm_t9, mm_t10, mm_t11, mm_t12, mm_t13, za_1, za_64, za_65, za_66, za_67, za_68, za_71, za_80, za_89, za_98, za_103, za_110, za_121, za_122, za_123, za_124, za_125, za_126, za_188, za_193, za_194, za_195, za_286, za_288, za_289, za_290, za_291, za_292, za_293, za_294, za_295, za_296, za_297, za_298, za_299, za_300, za_301, za_302, za_303, za_304, za_305, za_306, za_307, za_308, za_309, za_310, za_311, za_312, e5]
                     first | done | omega) ?_
    refine zwp_IE (sp_241 (o := o) hW (by omega) (by omega) (by omega) (by omega) (by omega) (by omega) ht0 ht1 hg0 hg1 hh0 hh1 hg h24) ?_
    rintro τ ⟨g1, g2, g3⟩
    have hk2 : thK σ0 τ := hk.tr g3
    simp only [mm_z, mm_b]
    refine zwp_ite (fun q => ?_) (fun q => ?_)
    · rw [if_neg q] at hz
      rw [mm_add]
      exact lp_242_77 hW hs0 hs1 w0 w1 l0 l1 ht0 ht1 hg0 hg1 hh0 hh1 K K2 k (o + 1) τ (by omega) g1 g2 hk2 hz
    · rw [if_pos (Classical.not_not.mp q)] at hz
      have := K2 τ g1 hk2 (by omega)
      by_cases q2 : what = 0
      · rw [if_pos q2] at this
        refine zwp_f (by rw [q2]; exact fun p => p rfl) ?_
        exact zwp_ret this
      · rw [if_neg q2, hz] at this
        refine zwp_t (by try simp (disch := first | assumption | exact isR33 | exact isT104 | exact isF99 | exact isF101 | exact isR3 | omega | (refine isTk ?_; omega) | (refine isOk isR33 ?_; omega) | (refine isOk ?_ ?_; assumption; omega)) only [mm_r, mm_rl, mm_add, mm_sub, mm_mul, mm_addJ, mm_mulJ, mm_lt, mm_le, mm_eq, mm_z, mm_cl, mm_w, mm_wl, mm_ite, mm_i2l, mm_l2i, mm_ltJ, mm_leJ, mm_eqJ, mm_clt, mm_cle, mm_cgt, mm_cge, mm_ceq, mm_b, mm_nb, mm_nb0, mm_nb1, mm_vb0, mm_vb1, mm_vbc, mm_vy0, mm_vy1, mm_at, mm_ne, mm_nj, mm_Lw, mm_Nw, mm_atJ, mm_neJ, mm_njJ, zbI_s, zbV_s, zbJ_s, cond_t, Bool.true_and, Bool.and_true, if_true, if_false, not_true, not_false_iff, Classical.not_not, zel_r, zel_42, zel_12, zel_71, zel_80, zel_89, zel_110, zel_188, zel_103, zel_195, zr_o, zr_1, zr_2, zr_3, zr_4, zr_5, zr_6, zr_7, zr_8, zr_9, zq_o, zq_v, zt_o, zt_1, zt_2, zt_3, zt_4, zt_5, zf_o, zf_1, za_w1, za_w2, za_w3, za_cm, za_sl, Int.toNat_natCast, Int.toNat_natCast_add_one, mm_t0, mm_t1, mm_t2, mm_t3, mm_t4, mm_t5, mm_t6, mm_t7, mm_t8, mm_t9, mm_t10, mm_t11, mm_t12, mm_t13, za_1, za_64, za_65, za_66, za_67, za_68, za_71, za_80, za_89, za_98, za_103, za_110, za_121, za_122, za_123, za_124, za_125, za_126, za_188, za_193, za_194, za_195, za_286, za_288, za_289, za_290, za_291, za_292, za_293, za_294, za_295, za_296, za_297, za_298, za_299, za_300, za_301, za_302, za_303, za_304, za_305, za_306, za_307, za_308, za_309, za_310, za_311, za_312]; first | done | omega) ?_
        exact zwp_ret this
theorem lp_242_63 {σ0 : zM} {W : Int → Int} {t g says h what : Int} (hW : WOK W) (hs0 : -1 ≤ says) (hs1 : says < 10) (w0 : 0 ≤ what) (w1 : what ≤ 1) (ht0 : -2147483648 ≤ t) (ht1 : t < 2147483648) (hg0 : -2147483648 ≤ g) (hg1 : g < 2147483648) (hh0 : -2147483648 ≤ h) (hh1 : h < 2147483648) : ∀ (k l : Nat) (σ : zM), (l : Int) + k = W 1 + 1 → gone σ W noD → zN σ 287 24 = 0 → thK σ0 σ → 0 < l → zwp (zev 242 63 [some (.ref 287), some (.int (Int32.ofInt t)), some (.int (Int32.ofInt g)), some (.int (Int32.ofInt says)), some (.int (Int32.ofInt h)), some (.int (Int32.ofInt what)), some (.int (Int32.ofInt l)), none] [] σ) (fun v τ => v = some (.int (Int32.ofInt (dlA (fT W t g says h) what k l))) ∧ wv τ 288 = W ∧ thK σ0 τ)
  | 0, l, σ, e, hg, h24, hk, l0 => by
    have h9 := hW.1.2.2.1
    have h1 := hW.1.2.1
    have e1 : zN σ 288 1 = W 1 := wv_k hg.1.1 1
    rw [dlA_0]
    refine zwp_of (fun r h => ze_242_63 _ _ _ _ _ _ _ r h) ?_
    refine zwp_cd (by simp (disch := first | assumption | exact isR33 | exact isT104 | exact isF99 | exact isF101 | exact isR3 | omega | (refine isTk ?_; omega) | (refine isOk isR33 ?_; omega) | (refine isOk ?_ ?_; assumption; omega)) only [mm_r, mm_rl, mm_add, mm_sub, mm_mul, mm_addJ, mm_mulJ, mm_lt, mm_le, mm_eq, mm_z, mm_cl, mm_w, mm_wl, mm_ite, mm_i2l, mm_l2i, mm_ltJ, mm_leJ, mm_eqJ, mm_clt, mm_cle, mm_cgt, mm_cge, mm_ceq, mm_b, mm_nb, mm_nb0, mm_nb1, mm_vb0, mm_vb1, mm_vbc, mm_vy0, mm_vy1, mm_at, mm_ne, mm_nj, mm_Lw, mm_Nw, mm_atJ, mm_neJ, mm_njJ, zbI_s, zbV_s, zbJ_s, cond_t, Bool.true_and, Bool.and_true, if_true, if_false, not_true, not_false_iff, Classical.not_not, zel_r, zel_42, zel_12, zel_71, zel_80, zel_89, zel_110, zel_188, zel_103, zel_195, zr_o, zr_1, zr_2, zr_3, zr_4, zr_5, zr_6, zr_7, zr_8, zr_9, zq_o, zq_v, zt_o, zt_1, zt_2, zt_3, zt_4, zt_5, zf_o, zf_1, za_w1, za_w2, za_w3, za_cm, za_sl, Int.toNat_natCast, Int.toNat_natCast_add_one, mm_t0, mm_t1, mm_t2, mm_t3, mm_t4, mm_t5, mm_t6, mm_t7, mm_t8, mm_t9, mm_t10, mm_t11, mm_t12, mm_t13, za_1, za_64, za_65, za_66, za_67, za_68, za_71, za_80, za_89, za_98, za_103, za_110, za_121, za_122, za_123, za_124, za_125, za_126, za_188, za_193, za_194, za_195, za_286, za_288, za_289, za_290, za_291, za_292, za_293, za_294, za_295, za_296, za_297, za_298, za_299, za_300, za_301, za_302, za_303, za_304, za_305, za_306, za_307, za_308, za_309, za_310, za_311, za_312]) ?_
    refine zwp_t (by try simp (disch := first | assumption | exact isR33 | exact isT104 | exact isF99 | exact isF101 | exact isR3 | omega | (refine isTk ?_; omega) | (refine isOk isR33 ?_; omega) | (refine isOk ?_ ?_; assumption; omega)) only [mm_r, mm_rl, mm_add, mm_sub, mm_mul, mm_addJ, mm_mulJ, mm_lt, mm_le, mm_eq, mm_z, mm_cl, mm_w, mm_wl, mm_ite, mm_i2l, mm_l2i, mm_ltJ, mm_leJ, mm_eqJ, mm_clt, mm_cle, mm_cgt, mm_cge, mm_ceq, mm_b, mm_nb, mm_nb0, mm_nb1, mm_vb0, mm_vb1, mm_vbc, mm_vy0, mm_vy1, mm_at, mm_ne, mm_nj, mm_Lw, mm_Nw, mm_atJ, mm_neJ, mm_njJ, zbI_s, zbV_s, zbJ_s, cond_t, Bool.true_and, Bool.and_true, if_true, if_false, not_true, not_false_iff, Classical.not_not, zel_r, zel_42, zel_12, zel_71, zel_80, zel_89, zel_110, zel_188, zel_103, zel_195, zr_o, zr_1, zr_2, zr_3, zr_4, zr_5, zr_6, zr_7, zr_8, zr_9, zq_o, zq_v, zt_o, zt_1, zt_2, zt_3, zt_4, zt_5, zf_o, zf_1, za_w1, za_w2, za_w3, za_cm, za_sl, Int.toNat_natCast, Int.toNat_natCast_add_one, mm_t0, mm_t1, mm_t2, mm_t3, mm_t4, mm_t5, mm_t6, mm_t7, mm_t8, mm_t9, mm_t10, mm_t11, mm_t12, mm_t13, za_1, za_64, za_65, za_66, za_67, za_68, za_71, za_80, za_89, za_98, za_103, za_110, za_121, za_122, za_123, za_124, za_125, za_126, za_188, za_193, za_194, za_195, za_286, za_288, za_289, za_290, za_291, za_292, za_293, za_294, za_295, za_296, za_297, za_298, za_299, za_300, za_301, za_302, za_303, za_304, za_305, za_306, za_307, za_308, za_309, za_310, za_311, za_312, e1]
                     first | done | omega) ?_
    exact zwp_ret ⟨rfl, hg.1.1, hk⟩
  | k + 1, l, σ, e, hg, h24, hk, l0 => by
    have h9 := hW.1.2.2.1
    have h1 := hW.1.2.1
    have e1 : zN σ 288 1 = W 1 := wv_k hg.1.1 1
    have h5 := hW.2.2.1
    refine zwp_of (fun r h => ze_242_63 _ _ _ _ _ _ _ r h) ?_
    refine zwp_cd (by simp (disch := first | assumption | exact isR33 | exact isT104 | exact isF99 | exact isF101 | exact isR3 | omega | (refine isTk ?_; omega) | (refine isOk isR33 ?_; omega) | (refine isOk ?_ ?_; assumption; omega)) only [mm_r, mm_rl, mm_add, mm_sub, mm_mul, mm_addJ, mm_mulJ, mm_lt, mm_le, mm_eq, mm_z, mm_cl, mm_w, mm_wl, mm_ite, mm_i2l, mm_l2i, mm_ltJ, mm_leJ, mm_eqJ, mm_clt, mm_cle, mm_cgt, mm_cge, mm_ceq, mm_b, mm_nb, mm_nb0, mm_nb1, mm_vb0, mm_vb1, mm_vbc, mm_vy0, mm_vy1, mm_at, mm_ne, mm_nj, mm_Lw, mm_Nw, mm_atJ, mm_neJ, mm_njJ, zbI_s, zbV_s, zbJ_s, cond_t, Bool.true_and, Bool.and_true, if_true, if_false, not_true, not_false_iff, Classical.not_not, zel_r, zel_42, zel_12, zel_71, zel_80, zel_89, zel_110, zel_188, zel_103, zel_195, zr_o, zr_1, zr_2, zr_3, zr_4, zr_5, zr_6, zr_7, zr_8, zr_9, zq_o, zq_v, zt_o, zt_1, zt_2, zt_3, zt_4, zt_5, zf_o, zf_1, za_w1, za_w2, za_w3, za_cm, za_sl, Int.toNat_natCast, Int.toNat_natCast_add_one, mm_t0, mm_t1, mm_t2, mm_t3, mm_t4, mm_t5, mm_t6, mm_t7, mm_t8, mm_t9, mm_t10, mm_t11, mm_t12, mm_t13, za_1, za_64, za_65, za_66, za_67, za_68, za_71, za_80, za_89, za_98, za_103, za_110, za_121, za_122, za_123, za_124, za_125, za_126, za_188, za_193, za_194, za_195, za_286, za_288, za_289, za_290, za_291, za_292, za_293, za_294, za_295, za_296, za_297, za_298, za_299, za_300, za_301, za_302, za_303, za_304, za_305, za_306, za_307, za_308, za_309, za_310, za_311, za_312]) ?_
    refine zwp_f (by try simp (disch := first | assumption | exact isR33 | exact isT104 | exact isF99 | exact isF101 | exact isR3 | omega | (refine isTk ?_; omega) | (refine isOk isR33 ?_; omega) | (refine isOk ?_ ?_; assumption; omega)) only [mm_r, mm_rl, mm_add, mm_sub, mm_mul, mm_addJ, mm_mulJ, mm_lt, mm_le, mm_eq, mm_z, mm_cl, mm_w, mm_wl, mm_ite, mm_i2l, mm_l2i, mm_ltJ, mm_leJ, mm_eqJ, mm_clt, mm_cle, mm_cgt, mm_cge, mm_ceq, mm_b, mm_nb, mm_nb0, mm_nb1, mm_vb0, mm_vb1, mm_vbc, mm_vy0, mm_vy1, mm_at, mm_ne, mm_nj, mm_Lw, mm_Nw, mm_atJ, mm_neJ, mm_njJ, zbI_s, zbV_s, zbJ_s, cond_t, Bool.true_and, Bool.and_true, if_true, if_false, not_true, not_false_iff, Classical.not_not, zel_r, zel_42, zel_12, zel_71, zel_80, zel_89, zel_110, zel_188, zel_103, zel_195, zr_o, zr_1, zr_2, zr_3, zr_4, zr_5, zr_6, zr_7, zr_8, zr_9, zq_o, zq_v, zt_o, zt_1, zt_2, zt_3, zt_4, zt_5, zf_o, zf_1, za_w1, za_w2, za_w3, za_cm, za_sl, Int.toNat_natCast, Int.toNat_natCast_add_one, mm_t0, mm_t1, mm_t2, mm_t3, mm_t4, mm_t5, mm_t6, mm_t7, mm_t8, mm_t9, mm_t10, mm_t11, mm_t12, mm_t13, za_1, za_64, za_65, za_66, za_67, za_68, za_71, za_80, za_89, za_98, za_103, za_110, za_121, za_122, za_123, za_124, za_125, za_126, za_188, za_193, za_194, za_195, za_286, za_288, za_289, za_290, za_291, za_292, za_293, za_294, za_295, za_296, za_297, za_298, za_299, za_300, za_301, za_302, za_303, za_304, za_305, za_306, za_307, za_308, za_309, za_310, za_311, za_312, e1]
                     first | done | omega) ?_
    refine lp_242_77 (σ0 := σ0) (l := l) hW hs0 hs1 w0 w1 (by omega) (by omega) ht0 ht1 hg0 hg1 hh0 hh1 (fun τ g1 g2 g3 hz => ?_) (fun τ g1 g3 hz => ?_) (W 5).toNat 0 σ (by omega) hg h24 hk rfl
    · rw [dlA_no hz]
      exact lp_242_63 hW hs0 hs1 w0 w1 ht0 ht1 hg0 hg1 hh0 hh1 k (l + 1) τ (by omega) g1 g2 g3 (by omega)
    · rw [dlA_yes hz (by omega)]
      exact ⟨rfl, g1.1.1, g3⟩
theorem rq_delay {σ : zM} {W : Int → Int} {t g says h what : Int} (hB : rB0 σ W) (ht0 : -2147483648 ≤ t) (ht1 : t < 2147483648) (hg0 : -2147483648 ≤ g) (hg1 : g < 2147483648) (hs0 : -2147483648 ≤ says) (hs1 : says < 2147483648) (hh0 : -2147483648 ≤ h) (hh1 : h < 2147483648) (hw0 : -2147483648 ≤ what) (hw1 : what < 2147483648) : zwp (zcall 242 [.ref 287, .int (Int32.ofInt t), .int (Int32.ofInt g), .int (Int32.ofInt says), .int (Int32.ofInt h), .int (Int32.ofInt what)] σ) (fun v τ => v = some (.int (Int32.ofInt (Edel W t g says h what))) ∧ rK σ τ) := by
  have hW := hB.2.1
  have h9 := hW.1.2.2.1
  have h1 := hW.1.2.1
  have r := HH_rng hW.un (CM W noD) (W 7) t g h
  unfold Edel
  refine zwp_of (fun r h => zcc_242 (ze_242_0 _ _ _ _ _ _ r h)) ?_
  rw [sp_221w hW hB.1 ht0 ht1 hg0 hg1 hh0 hh1]
  simp (disch := first | assumption | exact isR33 | exact isT104 | exact isF99 | exact isF101 | exact isR3 | omega | (refine isTk ?_; omega) | (refine isOk isR33 ?_; omega) | (refine isOk ?_ ?_; assumption; omega)) only [mm_r, mm_rl, mm_add, mm_sub, mm_mul, mm_addJ, mm_mulJ, mm_lt, mm_le, mm_eq, mm_z, mm_cl, mm_w, mm_wl, mm_ite, mm_i2l, mm_l2i, mm_ltJ, mm_leJ, mm_eqJ, mm_clt, mm_cle, mm_cgt, mm_cge, mm_ceq, mm_b, mm_nb, mm_nb0, mm_nb1, mm_vb0, mm_vb1, mm_vbc, mm_vy0, mm_vy1, mm_at, mm_ne, mm_nj, mm_Lw, mm_Nw, mm_atJ, mm_neJ, mm_njJ, zbI_s, zbV_s, zbJ_s, cond_t, Bool.true_and, Bool.and_true, if_true, if_false, not_true, not_false_iff, Classical.not_not, zel_r, zel_42, zel_12, zel_71, zel_80, zel_89, zel_110, zel_188, zel_103, zel_195, zr_o, zr_1, zr_2, zr_3, zr_4, zr_5, zr_6, zr_7, zr_8, zr_9, zq_o, zq_v, zt_o, zt_1, zt_2, zt_3, zt_4, zt_5, zf_o, zf_1, za_w1, za_w2, za_w3, za_cm, za_sl, Int.toNat_natCast, Int.toNat_natCast_add_one, mm_t0, mm_t1, mm_t2, mm_t3, mm_t4, mm_t5, mm_t6, mm_t7, mm_t8, mm_t9, mm_t10, mm_t11, mm_t12, mm_t13, za_1, za_64, za_65, za_66, za_67, za_68, za_71, za_80, za_89, za_98, za_103, za_110, za_121, za_122, za_123, za_124, za_125, za_126, za_188, za_193, za_194, za_195, za_286, za_288, za_289, za_290, za_291, za_292, za_293, za_294, za_295, za_296, za_297, za_298, za_299, za_300, za_301, za_302, za_303, za_304, za_305, za_306, za_307, za_308, za_309, za_310, za_311, za_312, sp_172, sp_163]
  refine zwp_ite (fun q => ?_) (fun q => ?_)
  · rw [if_neg (fun p => q p.1)]
    exact zwp_ret ⟨rfl, rK.rf⟩
  · have q := Classical.not_not.mp q
    refine zwp_ite (fun q2 => ?_) (fun q2 => ?_)
    · rw [if_neg (fun p => q2 p.2.1)]
      exact zwp_ret ⟨rfl, rK.rf⟩
    · have q2 := Classical.not_not.mp q2
      refine zwp_ite (fun q3 => ?_) (fun q3 => ?_)
      · rw [if_pos (⟨q, q2, q3⟩ : asked W t g h ∧ (-1 ≤ says ∧ says < 10) ∧ 0 ≤ what ∧ what ≤ 1)]
        refine zwp_V _ (sp_210c hB) ?_
        rintro τ ⟨hk, hg⟩
        have h24 : zN τ 287 24 = 0 := (hk.2.1 24 (by omega)).trans hB.2.2.1
        rw [sp_220c hW.un hg.rc ht0 ht1 hg0 hg1 hh0 hh1, zbI_s]
        simp (disch := first | assumption | exact isR33 | exact isT104 | exact isF99 | exact isF101 | exact isR3 | omega | (refine isTk ?_; omega) | (refine isOk isR33 ?_; omega) | (refine isOk ?_ ?_; assumption; omega)) only [mm_r, mm_rl, mm_add, mm_sub, mm_mul, mm_addJ, mm_mulJ, mm_lt, mm_le, mm_eq, mm_z, mm_cl, mm_w, mm_wl, mm_ite, mm_i2l, mm_l2i, mm_ltJ, mm_leJ, mm_eqJ, mm_clt, mm_cle, mm_cgt, mm_cge, mm_ceq, mm_b, mm_nb, mm_nb0, mm_nb1, mm_vb0, mm_vb1, mm_vbc, mm_vy0, mm_vy1, mm_at, mm_ne, mm_nj, mm_Lw, mm_Nw, mm_atJ, mm_neJ, mm_njJ, zbI_s, zbV_s, zbJ_s, cond_t, Bool.true_and, Bool.and_true, if_true, if_false, not_true, not_false_iff, Classical.not_not, zel_r, zel_42, zel_12, zel_71, zel_80, zel_89, zel_110, zel_188, zel_103, zel_195, zr_o, zr_1, zr_2, zr_3, zr_4, zr_5, zr_6, zr_7, zr_8, zr_9, zq_o, zq_v, zt_o, zt_1, zt_2, zt_3, zt_4, zt_5, zf_o, zf_1, za_w1, za_w2, za_w3, za_cm, za_sl, Int.toNat_natCast, Int.toNat_natCast_add_one, mm_t0, mm_t1, mm_t2, mm_t3, mm_t4, mm_t5, mm_t6, mm_t7, mm_t8, mm_t9, mm_t10, mm_t11, mm_t12, mm_t13, za_1, za_64, za_65, za_66, za_67, za_68, za_71, za_80, za_89, za_98, za_103, za_110, za_121, za_122, za_123, za_124, za_125, za_126, za_188, za_193, za_194, za_195, za_286, za_288, za_289, za_290, za_291, za_292, za_293, za_294, za_295, za_296, za_297, za_298, za_299, za_300, za_301, za_302, za_303, za_304, za_305, za_306, za_307, za_308, za_309, za_310, za_311, za_312]
        refine zwp_ite (fun q5 => ?_) (fun q5 => ?_)
        · rw [if_neg q5]
          refine zwp_mono (lp_242_63 (σ0 := τ) hW q2.1 q2.2 q3.1 q3.2 ht0 ht1 hg0 hg1 hh0 hh1 (W 1).toNat 1 τ (by omega) hg h24 mf.rf (by omega)) ?_
          rintro v υ ⟨g1, g2, g3⟩
          exact ⟨g1, hk.tr (g3.rK (g2.trans hg.1.1.symm))⟩
        · rw [if_pos (Classical.not_not.mp q5)]
          refine zwp_ite (fun q6 => ?_) (fun q6 => ?_)
          · rw [if_neg q6]
            exact zwp_ret ⟨rfl, hk⟩
          · rw [if_pos (Classical.not_not.mp q6)]
            exact zwp_ret ⟨rfl, hk⟩
      · rw [if_neg (fun p => q3 p.2.2)]
        exact zwp_ret ⟨rfl, rK.rf⟩
