/-! CALLS: sure: the reference -/
theorem sur_all {P : Int → Bool} {A : Int → Int} {H : Nat} (hf : zfst P H 0 ≠ -1) (h : ∀ x : Nat, x < H → P x = true → A x = A (zfst P H 0)) : sur P A H = A (zfst P H 0) := by
  unfold sur
  rw [if_neg hf, if_neg]
  intro z
  obtain ⟨x, x1, x2⟩ := zany_ex z
  rw [Bool.and_eq_true] at x2
  exact of_decide_eq_true x2.2 (h x x1 x2.1)
theorem sur_one {P : Int → Bool} {A : Int → Int} {H x : Nat} (hx : x < H) (hpx : P x = true) (h : A x ≠ A (zfst P H 0)) : sur P A H = -5 := by
  have l := zfst_le (P := P) H 0 x (by omega) (by omega) hpx
  unfold sur
  rw [if_neg (by omega), if_pos]
  refine zany_of hx ?_
  rw [hpx, Bool.true_and]
  exact decide_eq_true h
theorem zcnt_fst {P : Int → Bool} {H : Nat} (h : zfst P H 0 = -1) : zcnt P H = 0 := zcnt_0 H (fun j j0 j1 => zfst_none (P := P) H 0 (by omega) h j j0 (by omega))
theorem fst_zcnt {P : Int → Bool} {H : Nat} (h : zfst P H 0 ≠ -1) : 0 ≤ zfst P H 0 ∧ zfst P H 0 < H ∧ zcnt P H ≠ 0 := by
  rcases zfst_rng P H 0 (by omega) with e | ⟨r0, r1, r2⟩
  · exact absurd e h
  · have p : P ((zfst P H 0).toNat : Int) = true := by
      rw [Int.toNat_of_nonneg r0]
      exact r2
    have a := zcnt_st p H (by omega)
    have b := zcnt_rng P (zfst P H 0).toNat
    exact ⟨r0, by omega, by omega⟩
theorem lp_265_67 {σ : zM} {W : Int → Int} {P : Int → Bool} {A : Int → Int} {c : Int} {Q : Option Value → zM → Prop} (hW : WOK W) (hr : fsR σ P A (W 1).toNat)
    (K : zwp (zev 265 100 [some (.ref 287), none, none, none, none, none, none, some (.int (Int32.ofInt c)), some (.int (Int32.ofInt (zfst P (W 1).toNat 0))), some (.int (Int32.ofInt 0))] [] σ) Q) : ∀ (n k : Nat), (n : Int) + k = W 1 → zwp (zev 265 67 [some (.ref 287), none, none, none, none, none, none, some (.int (Int32.ofInt c)), some (.int (Int32.ofInt (zfst P k n))), some (.int (Int32.ofInt ((n : Int) - 1)))] [] σ) Q
  | 0, k, e => by
    have h9 := hW.1.2.2.1
    obtain rfl : k = (W 1).toNat := by omega
    refine zwp_of (fun r h => ze_265_67 _ _ _ _ r h) ?_
    refine zwp_t (by decide) ?_
    exact K
  | n + 1, k, e => by
    have h9 := hW.1.2.2.1
    obtain ⟨f1, f2⟩ := hr n (by omega)
    have l := lp_265_67 (c := c) hW hr K n (k + 1) (by omega)
    have ef : zfst P (k + 1) n = if P n = true then (n : Int) else zfst P k ((n : Int) + 1) := rfl
    rw [ef] at l
    rw [show (((n + 1 : Nat) : Int) - 1) = (n : Int) by omega]
    refine zwp_of (fun r h => ze_265_67 _ _ _ _ r h) ?_
    refine zwp_f (by try simp (disch := first | assumption | exact isR33 | exact isT104 | exact isF99 | exact isF101 | exact isR3 | omega | (refine isTk ?_; omega) | (refine isOk isR33 ?_; omega) | (refine isOk ?_ ?_; assumption; omega)) only [mm_r, mm_rl, mm_add, mm_sub, mm_mul, mm_addJ, mm_mulJ, mm_lt, mm_le, mm_eq, mm_z, mm_cl, mm_w, mm_wl, mm_ite, mm_i2l, mm_l2i, mm_ltJ, mm_leJ, mm_eqJ, mm_clt, mm_cle, mm_cgt, mm_cge, mm_ceq, mm_b, mm_nb, mm_nb0, mm_nb1, mm_vb0, mm_vb1, mm_vbc, mm_vy0, mm_vy1, mm_at, mm_ne, mm_nj, mm_Lw, mm_Nw, mm_atJ, mm_neJ, mm_njJ, zbI_s, zbV_s, zbJ_s, cond_t, Bool.true_and, Bool.and_true, if_true, if_false, not_true, not_false_iff, Classical.not_not, zel_r, zel_42, zel_12, zel_71, zel_80, zel_89, zel_110, zel_188, zel_103, zel_195, zr_o, zr_1, zr_2, zr_3, zr_4, zr_5, zr_6, zr_7, zr_8, zr_9, zq_o, zq_v, zt_o, zt_1, zt_2, zt_3, zt_4, zt_5, zf_o, zf_1, za_w1, za_w2, za_w3, za_cm, za_sl, Int.toNat_natCast, Int.toNat_natCast_add_one, mm_t0, mm_t1, mm_t2, mm_t3, mm_t4, mm_t5, mm_t6, mm_t7, mm_t8, mm_t9, mm_t10, mm_t11, mm_t12, mm_t13, za_1, za_64, za_65, za_66, za_67, za_68, za_71, za_80, za_89, za_98, za_103, za_110, za_121, za_122, za_123, za_124, za_125, za_126, za_188, za_193, za_194, za_195, za_286, za_288, za_289, za_290, za_291, za_292, za_293, za_294, za_295, za_296, za_297, za_298, za_299, za_300, za_301, za_302, za_303, za_304, za_305, za_306, za_307, za_308, za_309, za_310, za_311, za_312]; first | done | omega) ?_
    refine zwp_cd (za_306 (by omega) (by omega)) ?_
    rw [mm_cl (by omega) (by omega), Int.toNat_natCast, mm_r, f1]
    by_cases q : P n = true
    · rw [if_pos q] at l
      refine zwp_f (by rw [if_pos q]; decide) ?_
      rw [mm_add]
      exact l
    · rw [if_neg q] at l
      refine zwp_t (by rw [if_neg q]; decide) ?_
      rw [mm_add]
      exact l
theorem lp_265_100 {σ : zM} {W : Int → Int} {P : Int → Bool} {A : Int → Int} (hW : WOK W) (hv : zN σ 288 1 = W 1) (hr : fsR σ P A (W 1).toNat) : ∀ (k x : Nat), (x : Int) + k = W 1 → (∀ y : Nat, y < x → P y = true → A y = A (zfst P (W 1).toNat 0)) → zwp (zev 265 100 [some (.ref 287), none, none, none, none, none, none, some (.int (Int32.ofInt (zcnt P (W 1).toNat))), some (.int (Int32.ofInt (zfst P (W 1).toNat 0))), some (.int (Int32.ofInt x))] [] σ) (fun v τ => v = some (.int (Int32.ofInt (sur P A (W 1).toNat))) ∧ τ = σ)
  | 0, x, e, hn => by
    have h9 := hW.1.2.2.1
    have h1 := hW.1.2.1
    have rz := zcnt_rng P (W 1).toNat
    refine zwp_of (fun r h => ze_265_100 _ _ _ _ r h) ?_
    refine zwp_cd (by simp (disch := first | assumption | exact isR33 | exact isT104 | exact isF99 | exact isF101 | exact isR3 | omega | (refine isTk ?_; omega) | (refine isOk isR33 ?_; omega) | (refine isOk ?_ ?_; assumption; omega)) only [mm_r, mm_rl, mm_add, mm_sub, mm_mul, mm_addJ, mm_mulJ, mm_lt, mm_le, mm_eq, mm_z, mm_cl, mm_w, mm_wl, mm_ite, mm_i2l, mm_l2i, mm_ltJ, mm_leJ, mm_eqJ, mm_clt, mm_cle, mm_cgt, mm_cge, mm_ceq, mm_b, mm_nb, mm_nb0, mm_nb1, mm_vb0, mm_vb1, mm_vbc, mm_vy0, mm_vy1, mm_at, mm_ne, mm_nj, mm_Lw, mm_Nw, mm_atJ, mm_neJ, mm_njJ, zbI_s, zbV_s, zbJ_s, cond_t, Bool.true_and, Bool.and_true, if_true, if_false, not_true, not_false_iff, Classical.not_not, zel_r, zel_42, zel_12, zel_71, zel_80, zel_89, zel_110, zel_188, zel_103, zel_195, zr_o, zr_1, zr_2, zr_3, zr_4, zr_5, zr_6, zr_7, zr_8, zr_9, zq_o, zq_v, zt_o, zt_1, zt_2, zt_3, zt_4, zt_5, zf_o, zf_1, za_w1, za_w2, za_w3, za_cm, za_sl, Int.toNat_natCast, Int.toNat_natCast_add_one, mm_t0, mm_t1, mm_t2, mm_t3, mm_t4, mm_t5, mm_t6, mm_t7, mm_t8, mm_t9, mm_t10, mm_t11, mm_t12, mm_t13, za_1, za_64, za_65, za_66, za_67, za_68, za_71, za_80, za_89, za_98, za_103, za_110, za_121, za_122, za_123, za_124, za_125, za_126, za_188, za_193, za_194, za_195, za_286, za_288, za_289, za_290, za_291, za_292, za_293, za_294, za_295, za_296, za_297, za_298, za_299, za_300, za_301, za_302, za_303, za_304, za_305, za_306, za_307, za_308, za_309, za_310, za_311, za_312]) ?_
    refine zwp_t (by try simp (disch := first | assumption | exact isR33 | exact isT104 | exact isF99 | exact isF101 | exact isR3 | omega | (refine isTk ?_; omega) | (refine isOk isR33 ?_; omega) | (refine isOk ?_ ?_; assumption; omega)) only [mm_r, mm_rl, mm_add, mm_sub, mm_mul, mm_addJ, mm_mulJ, mm_lt, mm_le, mm_eq, mm_z, mm_cl, mm_w, mm_wl, mm_ite, mm_i2l, mm_l2i, mm_ltJ, mm_leJ, mm_eqJ, mm_clt, mm_cle, mm_cgt, mm_cge, mm_ceq, mm_b, mm_nb, mm_nb0, mm_nb1, mm_vb0, mm_vb1, mm_vbc, mm_vy0, mm_vy1, mm_at, mm_ne, mm_nj, mm_Lw, mm_Nw, mm_atJ, mm_neJ, mm_njJ, zbI_s, zbV_s, zbJ_s, cond_t, Bool.true_and, Bool.and_true, if_true, if_false, not_true, not_false_iff, Classical.not_not, zel_r, zel_42, zel_12, zel_71, zel_80, zel_89, zel_110, zel_188, zel_103, zel_195, zr_o, zr_1, zr_2, zr_3, zr_4, zr_5, zr_6, zr_7, zr_8, zr_9, zq_o, zq_v, zt_o, zt_1, zt_2, zt_3, zt_4, zt_5, zf_o, zf_1, za_w1, za_w2, za_w3, za_cm, za_sl, Int.toNat_natCast, Int.toNat_natCast_add_one, mm_t0, mm_t1, mm_t2, mm_t3, mm_t4, mm_t5, mm_t6, mm_t7, mm_t8, mm_t9, mm_t10, mm_t11, mm_t12, mm_t13, za_1, za_64, za_65, za_66, za_67, za_68, za_71, za_80, za_89, za_98, za_103, za_110, za_121, za_122, za_123, za_124, za_125, za_126, za_188, za_193, za_194, za_195, za_286, za_288, za_289, za_290, za_291, za_292, za_293, za_294, za_295, za_296, za_297, za_298, za_299, za_300, za_301, za_302, za_303, za_304, za_305, za_306, za_307, za_308, za_309, za_310, za_311, za_312, hv]
                     first | done | omega) ?_
    by_cases q : zfst P (W 1).toNat 0 = -1
    · rw [show sur P A (W 1).toNat = -5 from if_pos q, zcnt_fst q]
      refine zwp_f (by decide) ?_
      exact zwp_ret ⟨rfl, rfl⟩
    · obtain ⟨r0, r1, r2⟩ := fst_zcnt q
      rw [sur_all q (fun y hy => hn y (by omega))]
      refine zwp_t (by try simp (disch := first | assumption | exact isR33 | exact isT104 | exact isF99 | exact isF101 | exact isR3 | omega | (refine isTk ?_; omega) | (refine isOk isR33 ?_; omega) | (refine isOk ?_ ?_; assumption; omega)) only [mm_r, mm_rl, mm_add, mm_sub, mm_mul, mm_addJ, mm_mulJ, mm_lt, mm_le, mm_eq, mm_z, mm_cl, mm_w, mm_wl, mm_ite, mm_i2l, mm_l2i, mm_ltJ, mm_leJ, mm_eqJ, mm_clt, mm_cle, mm_cgt, mm_cge, mm_ceq, mm_b, mm_nb, mm_nb0, mm_nb1, mm_vb0, mm_vb1, mm_vbc, mm_vy0, mm_vy1, mm_at, mm_ne, mm_nj, mm_Lw, mm_Nw, mm_atJ, mm_neJ, mm_njJ, zbI_s, zbV_s, zbJ_s, cond_t, Bool.true_and, Bool.and_true, if_true, if_false, not_true, not_false_iff, Classical.not_not, zel_r, zel_42, zel_12, zel_71, zel_80, zel_89, zel_110, zel_188, zel_103, zel_195, zr_o, zr_1, zr_2, zr_3, zr_4, zr_5, zr_6, zr_7, zr_8, zr_9, zq_o, zq_v, zt_o, zt_1, zt_2, zt_3, zt_4, zt_5, zf_o, zf_1, za_w1, za_w2, za_w3, za_cm, za_sl, Int.toNat_natCast, Int.toNat_natCast_add_one, mm_t0, mm_t1, mm_t2, mm_t3, mm_t4, mm_t5, mm_t6, mm_t7, mm_t8, mm_t9, mm_t10, mm_t11, mm_t12, mm_t13, za_1, za_64, za_65, za_66, za_67, za_68, za_71, za_80, za_89, za_98, za_103, za_110, za_121, za_122, za_123, za_124, za_125, za_126, za_188, za_193, za_194, za_195, za_286, za_288, za_289, za_290, za_291, za_292, za_293, za_294, za_295, za_296, za_297, za_298, za_299, za_300, za_301, za_302, za_303, za_304, za_305, za_306, za_307, za_308, za_309, za_310, za_311, za_312]; first | done | omega) ?_
      refine zwp_cd (za_307 (by omega) (by omega)) ?_
      have f2 := (hr (zfst P (W 1).toNat 0).toNat (by omega)).2
      rw [Int.toNat_of_nonneg r0] at f2
      rw [mm_cl (by omega) (by omega), mm_r, f2]
      exact zwp_ret ⟨rfl, rfl⟩
  | k + 1, x, e, hn => by
    have h9 := hW.1.2.2.1
    obtain ⟨f1, f2⟩ := hr x (by omega)
    have m1 := mm_lo σ 307 x
    have m2 := mm_hi σ 307 x
    refine zwp_of (fun r h => ze_265_100 _ _ _ _ r h) ?_
    refine zwp_cd (by simp (disch := first | assumption | exact isR33 | exact isT104 | exact isF99 | exact isF101 | exact isR3 | omega | (refine isTk ?_; omega) | (refine isOk isR33 ?_; omega) | (refine isOk ?_ ?_; assumption; omega)) only [mm_r, mm_rl, mm_add, mm_sub, mm_mul, mm_addJ, mm_mulJ, mm_lt, mm_le, mm_eq, mm_z, mm_cl, mm_w, mm_wl, mm_ite, mm_i2l, mm_l2i, mm_ltJ, mm_leJ, mm_eqJ, mm_clt, mm_cle, mm_cgt, mm_cge, mm_ceq, mm_b, mm_nb, mm_nb0, mm_nb1, mm_vb0, mm_vb1, mm_vbc, mm_vy0, mm_vy1, mm_at, mm_ne, mm_nj, mm_Lw, mm_Nw, mm_atJ, mm_neJ, mm_njJ, zbI_s, zbV_s, zbJ_s, cond_t, Bool.true_and, Bool.and_true, if_true, if_false, not_true, not_false_iff, Classical.not_not, zel_r, zel_42, zel_12, zel_71, zel_80, zel_89, zel_110, zel_188, zel_103, zel_195, zr_o, zr_1, zr_2, zr_3, zr_4, zr_5, zr_6, zr_7, zr_8, zr_9, zq_o, zq_v, zt_o, zt_1, zt_2, zt_3, zt_4, zt_5, zf_o, zf_1, za_w1, za_w2, za_w3, za_cm, za_sl, Int.toNat_natCast, Int.toNat_natCast_add_one, mm_t0, mm_t1, mm_t2, mm_t3, mm_t4, mm_t5, mm_t6, mm_t7, mm_t8, mm_t9, mm_t10, mm_t11, mm_t12, mm_t13, za_1, za_64, za_65, za_66, za_67, za_68, za_71, za_80, za_89, za_98, za_103, za_110, za_121, za_122, za_123, za_124, za_125, za_126, za_188, za_193, za_194, za_195, za_286, za_288, za_289, za_290, za_291, za_292, za_293, za_294, za_295, za_296, za_297, za_298, za_299, za_300, za_301, za_302, za_303, za_304, za_305, za_306, za_307, za_308, za_309, za_310, za_311, za_312]) ?_
    refine zwp_f (by try simp (disch := first | assumption | exact isR33 | exact isT104 | exact isF99 | exact isF101 | exact isR3 | omega | (refine isTk ?_; omega) | (refine isOk isR33 ?_; omega) | (refine isOk ?_ ?_; assumption; omega)) only [mm_r, mm_rl, mm_add, mm_sub, mm_mul, mm_addJ, mm_mulJ, mm_lt, mm_le, mm_eq, mm_z, mm_cl, mm_w, mm_wl, mm_ite, mm_i2l, mm_l2i, mm_ltJ, mm_leJ, mm_eqJ, mm_clt, mm_cle, mm_cgt, mm_cge, mm_ceq, mm_b, mm_nb, mm_nb0, mm_nb1, mm_vb0, mm_vb1, mm_vbc, mm_vy0, mm_vy1, mm_at, mm_ne, mm_nj, mm_Lw, mm_Nw, mm_atJ, mm_neJ, mm_njJ, zbI_s, zbV_s, zbJ_s, cond_t, Bool.true_and, Bool.and_true, if_true, if_false, not_true, not_false_iff, Classical.not_not, zel_r, zel_42, zel_12, zel_71, zel_80, zel_89, zel_110, zel_188, zel_103, zel_195, zr_o, zr_1, zr_2, zr_3, zr_4, zr_5, zr_6, zr_7, zr_8, zr_9, zq_o, zq_v, zt_o, zt_1, zt_2, zt_3, zt_4, zt_5, zf_o, zf_1, za_w1, za_w2, za_w3, za_cm, za_sl, Int.toNat_natCast, Int.toNat_natCast_add_one, mm_t0, mm_t1, mm_t2, mm_t3, mm_t4, mm_t5, mm_t6, mm_t7, mm_t8, mm_t9, mm_t10, mm_t11, mm_t12, mm_t13, za_1, za_64, za_65, za_66, za_67, za_68, za_71, za_80, za_89, za_98, za_103, za_110, za_121, za_122, za_123, za_124, za_125, za_126, za_188, za_193, za_194, za_195, za_286, za_288, za_289, za_290, za_291, za_292, za_293, za_294, za_295, za_296, za_297, za_298, za_299, za_300, za_301, za_302, za_303, za_304, za_305, za_306, za_307, za_308, za_309, za_310, za_311, za_312, hv]
                     first | done | omega) ?_
    refine zwp_cd (za_306 (by omega) (by omega)) ?_
    rw [mm_cl (n := (x : Int)) (by omega) (by omega), Int.toNat_natCast, mm_r, f1]
    by_cases q : P x = true
    · have l := zfst_le (P := P) (W 1).toNat 0 x (by omega) (by omega) q
      have g2 := (hr (zfst P (W 1).toNat 0).toNat (by omega)).2
      rw [Int.toNat_of_nonneg l.1] at g2
      have m3 := mm_lo σ 307 (zfst P (W 1).toNat 0).toNat
      have m4 := mm_hi σ 307 (zfst P (W 1).toNat 0).toNat
      refine zwp_f (by rw [if_pos q]; decide) ?_
      refine zwp_cd (za_307 (by omega) (by omega)) (zwp_cd (za_307 (by omega) (by omega)) ?_)
      rw [mm_cl (n := zfst P (W 1).toNat 0) (by omega) (by omega), mm_r, mm_r, f2, g2]
      by_cases z : A x = A (zfst P (W 1).toNat 0)
      · refine zwp_t (congrArg Int32.ofInt z) ?_
        rw [mm_add]
        refine lp_265_100 hW hv hr k (x + 1) (by omega) (fun y hy hp => ?_)
        by_cases w : y = x
        · rw [w]
          exact z
        · exact hn y (by omega) hp
      · rw [sur_one (x := x) (by omega) q z]
        refine zwp_f (fun p => z ?_) ?_
        · rwa [mm_eq (by omega) (by omega) (by omega) (by omega)] at p
        · exact zwp_ret ⟨rfl, rfl⟩
    · refine zwp_t (by rw [if_neg q]; decide) ?_
      rw [mm_add]
      refine lp_265_100 hW hv hr k (x + 1) (by omega) (fun y hy hp => ?_)
      by_cases w : y = x
      · subst w
        exact absurd hp q
      · exact hn y (by omega) hp
theorem rq_sure {σ : zM} {W : Int → Int} {S : sls} {s o t g h : Int} (hB : rB0 σ W) (hS : slM σ S) (hw : slW S) (s0 : -2147483648 ≤ s) (s1 : s < 2147483648) (o0 : -2147483648 ≤ o) (o1 : o < 2147483648) (ht0 : -2147483648 ≤ t) (ht1 : t < 2147483648) (hg0 : -2147483648 ≤ g) (hg1 : g < 2147483648) (hh0 : -2147483648 ≤ h) (hh1 : h < 2147483648) : zwp (zcall 265 [.ref 287, .int (Int32.ofInt s), .int (Int32.ofInt o), .int (Int32.ofInt t), .int (Int32.ofInt g), .int (Int32.ofInt h)] σ) (fun v τ => v = some (.int (Int32.ofInt (Esu W S s o t g h))) ∧ rK σ τ) := by
  have e5 : zN σ 288 5 = W 5 := wv_k hB.1 5
  have h5 := hB.2.1.2.2.1
  have h1 := hB.2.1.1.2.1
  have h9 := hB.2.1.1.2.2.1
  have r := Eq0_rng W S s o
  have so := sp_170 (n := o) (σ := σ) (by omega) (by omega) (by omega)
  rw [e5] at so
  refine zwp_of (fun r h => zcc_265 (ze_265_0 _ _ _ _ _ _ r h)) ?_
  rw [mm_i2l o0 o1, so, zbI_s]
  by_cases qo : inO W o
  · rw [if_pos qo]
    refine zwp_f (by decide) ?_
    rw [sp_221w hB.2.1 hB.1 ht0 ht1 hg0 hg1 hh0 hh1, zbI_s]
    by_cases a : asked W t g h
    · rw [if_pos a]
      refine zwp_f (by decide) ?_
      have s26 := sp_260 (o := o) hB.2.1 hB.1 hS hw s0 s1
      rw [if_pos qo] at s26
      refine zwp_IE s26 ?_
      rintro τ rfl
      by_cases q : Eq0 W S s o = 0
      · rw [show Esu W S s o t g h = sur (agB W S s o) (fun x => HH W (cS W o x) (W 7) t g h) (W 1).toNat from (if_pos a).trans (if_pos q)]
        refine zwp_t (by rw [q]; decide) ?_
        refine zwp_IE (sp_262 hB hS hw q ht0 ht1 hg0 hg1 hh0 hh1) ?_
        rintro υ ⟨hk, hr⟩
        have e1 : zN υ 288 1 = W 1 := wv_k (hk.2.2.trans hB.1) 1
        refine zwp_cd (by simp (disch := first | assumption | exact isR33 | exact isT104 | exact isF99 | exact isF101 | exact isR3 | omega | (refine isTk ?_; omega) | (refine isOk isR33 ?_; omega) | (refine isOk ?_ ?_; assumption; omega)) only [mm_r, mm_rl, mm_add, mm_sub, mm_mul, mm_addJ, mm_mulJ, mm_lt, mm_le, mm_eq, mm_z, mm_cl, mm_w, mm_wl, mm_ite, mm_i2l, mm_l2i, mm_ltJ, mm_leJ, mm_eqJ, mm_clt, mm_cle, mm_cgt, mm_cge, mm_ceq, mm_b, mm_nb, mm_nb0, mm_nb1, mm_vb0, mm_vb1, mm_vbc, mm_vy0, mm_vy1, mm_at, mm_ne, mm_nj, mm_Lw, mm_Nw, mm_atJ, mm_neJ, mm_njJ, zbI_s, zbV_s, zbJ_s, cond_t, Bool.true_and, Bool.and_true, if_true, if_false, not_true, not_false_iff, Classical.not_not, zel_r, zel_42, zel_12, zel_71, zel_80, zel_89, zel_110, zel_188, zel_103, zel_195, zr_o, zr_1, zr_2, zr_3, zr_4, zr_5, zr_6, zr_7, zr_8, zr_9, zq_o, zq_v, zt_o, zt_1, zt_2, zt_3, zt_4, zt_5, zf_o, zf_1, za_w1, za_w2, za_w3, za_cm, za_sl, Int.toNat_natCast, Int.toNat_natCast_add_one, mm_t0, mm_t1, mm_t2, mm_t3, mm_t4, mm_t5, mm_t6, mm_t7, mm_t8, mm_t9, mm_t10, mm_t11, mm_t12, mm_t13, za_1, za_64, za_65, za_66, za_67, za_68, za_71, za_80, za_89, za_98, za_103, za_110, za_121, za_122, za_123, za_124, za_125, za_126, za_188, za_193, za_194, za_195, za_286, za_288, za_289, za_290, za_291, za_292, za_293, za_294, za_295, za_296, za_297, za_298, za_299, za_300, za_301, za_302, za_303, za_304, za_305, za_306, za_307, za_308, za_309, za_310, za_311, za_312]) ?_
        rw [mm_cl (by decide) (by decide), mm_r, show zN υ 288 ((1 : Int).toNat) = W 1 from e1, mm_sub]
        have l := lp_265_67 (c := zcnt (agB W S s o) (W 1).toNat) (Q := fun v τ' => v = some (.int (Int32.ofInt (sur (agB W S s o) (fun x => HH W (cS W o x) (W 7) t g h) (W 1).toNat))) ∧ rK τ τ') hB.2.1 hr (zwp_mono (lp_265_100 hB.2.1 e1 hr (W 1).toNat 0 (by omega) (fun y hy => absurd hy (by omega))) (fun v τ' hh => ⟨hh.1, by rw [hh.2]; exact hk⟩)) (W 1).toNat 0 (by omega)
        rw [Int.toNat_of_nonneg h1] at l
        exact l
      · rw [show Esu W S s o t g h = Eq0 W S s o from (if_pos a).trans (if_neg q)]
        refine zwp_f (by try simp (disch := first | assumption | exact isR33 | exact isT104 | exact isF99 | exact isF101 | exact isR3 | omega | (refine isTk ?_; omega) | (refine isOk isR33 ?_; omega) | (refine isOk ?_ ?_; assumption; omega)) only [mm_r, mm_rl, mm_add, mm_sub, mm_mul, mm_addJ, mm_mulJ, mm_lt, mm_le, mm_eq, mm_z, mm_cl, mm_w, mm_wl, mm_ite, mm_i2l, mm_l2i, mm_ltJ, mm_leJ, mm_eqJ, mm_clt, mm_cle, mm_cgt, mm_cge, mm_ceq, mm_b, mm_nb, mm_nb0, mm_nb1, mm_vb0, mm_vb1, mm_vbc, mm_vy0, mm_vy1, mm_at, mm_ne, mm_nj, mm_Lw, mm_Nw, mm_atJ, mm_neJ, mm_njJ, zbI_s, zbV_s, zbJ_s, cond_t, Bool.true_and, Bool.and_true, if_true, if_false, not_true, not_false_iff, Classical.not_not, zel_r, zel_42, zel_12, zel_71, zel_80, zel_89, zel_110, zel_188, zel_103, zel_195, zr_o, zr_1, zr_2, zr_3, zr_4, zr_5, zr_6, zr_7, zr_8, zr_9, zq_o, zq_v, zt_o, zt_1, zt_2, zt_3, zt_4, zt_5, zf_o, zf_1, za_w1, za_w2, za_w3, za_cm, za_sl, Int.toNat_natCast, Int.toNat_natCast_add_one, mm_t0, mm_t1, mm_t2, mm_t3, mm_t4, mm_t5, mm_t6, mm_t7, mm_t8, mm_t9, mm_t10, mm_t11, mm_t12, mm_t13, za_1, za_64, za_65, za_66, za_67, za_68, za_71, za_80, za_89, za_98, za_103, za_110, za_121, za_122, za_123, za_124, za_125, za_126, za_188, za_193, za_194, za_195, za_286, za_288, za_289, za_290, za_291, za_292, za_293, za_294, za_295, za_296, za_297, za_298, za_299, za_300, za_301, za_302, za_303, za_304, za_305, za_306, za_307, za_308, za_309, za_310, za_311, za_312]; first | done | omega) ?_
        exact zwp_ret ⟨rfl, rK.rf⟩
    · rw [if_neg a, show Esu W S s o t g h = -2 from if_neg a]
      refine zwp_t (by decide) ?_
      rw [sp_260z s0 s1, zbI_s]
      refine zwp_f (by decide) ?_
      exact zwp_ret ⟨rfl, rK.rf⟩
  · have E : Esu W S s o t g h = -2 := by
      unfold Esu
      rw [Eq0_a (fun p => qo p.2)]
      split
      · rfl
      · rfl
    rw [E, if_neg qo]
    refine zwp_t (by decide) ?_
    rw [sp_260z s0 s1, zbI_s]
    refine zwp_f (by decide) ?_
    exact zwp_ret ⟨rfl, rK.rf⟩
