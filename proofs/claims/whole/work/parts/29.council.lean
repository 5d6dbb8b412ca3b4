/-! WHAT HOLDS: the class's council and the reference's -/
/-- is there, by the class's rows -/
def kT (σ : zM) (t h : Int) (o : Int) : Bool := decide (zN σ 64 o.toNat = t ∧ zN σ 68 o.toNat ≠ -1 ∧ zN σ 68 o.toNat ≤ h ∧ zN σ 68 o.toNat ≤ zN σ 63 1)
theorem lp_2 {t h : Int} {σ : zM} {n : Nat} (ht0 : -2147483648 ≤ t) (ht1 : t < 2147483648) (hh0 : -2147483648 ≤ h) (hh1 : h < 2147483648) (hn : zN σ 63 0 = n) (h11 : n ≤ 11) : ∀ k i : Nat, i + k = n → zev 2 5 [some (.ref 63), some (.int (Int32.ofInt t)), some (.int (Int32.ofInt h)), some (.int (msk (kT σ t h) i)), some (.int (Int32.ofInt i)), none] [] σ = some (some (.int (msk (kT σ t h) n)), σ)
  | 0, i, e => by
    refine ze_2_5 _ _ _ _ _ _ ?_
    simp (disch := first | assumption | exact isR33 | exact isT104 | exact isF99 | exact isF101 | exact isR3 | omega | (refine isTk ?_; omega) | (refine isOk isR33 ?_; omega) | (refine isOk ?_ ?_; assumption; omega)) only [mm_r, mm_rl, mm_add, mm_sub, mm_mul, mm_addJ, mm_mulJ, mm_lt, mm_le, mm_eq, mm_z, mm_cl, mm_w, mm_wl, mm_ite, mm_i2l, mm_l2i, mm_ltJ, mm_leJ, mm_eqJ, mm_clt, mm_cle, mm_cgt, mm_cge, mm_ceq, mm_b, mm_nb, mm_nb0, mm_nb1, mm_vb0, mm_vb1, mm_vbc, mm_vy0, mm_vy1, mm_at, mm_ne, mm_nj, mm_Lw, mm_Nw, mm_atJ, mm_neJ, mm_njJ, zbI_s, zbV_s, zbJ_s, cond_t, Bool.true_and, Bool.and_true, if_true, if_false, not_true, not_false_iff, zel_r, zel_42, zel_12, zel_71, zel_80, zel_89, zel_110, zel_188, zel_103, zel_195, zr_o, zr_1, zr_2, zr_3, zr_4, zr_5, zr_6, zr_7, zr_8, zr_9, zq_o, zq_v, zt_o, zt_1, zt_2, zt_3, zt_4, zt_5, zf_o, zf_1, za_w1, za_w2, za_w3, za_cm, za_sl, Int.toNat_natCast, mm_t0, mm_t1, mm_t2, mm_t3, mm_t4, mm_t5, mm_t6, mm_t7, mm_t8, mm_t9, mm_t10, mm_t11, mm_t12, mm_t13, za_1, za_64, za_65, za_66, za_67, za_68, za_71, za_80, za_89, za_98, za_103, za_110, za_121, za_122, za_123, za_124, za_125, za_126, za_188, za_193, za_194, za_195, za_286, za_288, za_289, za_290, za_291, za_292, za_293, za_294, za_295, za_296, za_297, za_298, za_299, za_300, za_301, za_302, za_303, za_304, za_305, za_306, za_307, za_308, za_309, za_310, za_311, za_312]
    rw [if_pos (by omega), show i = n by omega]
  | k + 1, i, e => by
    have ih := lp_2 ht0 ht1 hh0 hh1 hn h11 k (i + 1) (by omega)
    have b1 := mm_lo σ 64 i
    have b2 := mm_hi σ 64 i
    have b3 := mm_lo σ 68 i
    have b4 := mm_hi σ 68 i
    have b5 := mm_lo σ 63 1
    have b6 := mm_hi σ 63 1
    rw [msk] at ih
    refine ze_2_5 _ _ _ _ _ _ ?_
    simp (disch := first | assumption | exact isR33 | exact isT104 | exact isF99 | exact isF101 | exact isR3 | omega | (refine isTk ?_; omega) | (refine isOk isR33 ?_; omega) | (refine isOk ?_ ?_; assumption; omega)) only [mm_r, mm_rl, mm_add, mm_sub, mm_mul, mm_addJ, mm_mulJ, mm_lt, mm_le, mm_eq, mm_z, mm_cl, mm_w, mm_wl, mm_ite, mm_i2l, mm_l2i, mm_ltJ, mm_leJ, mm_eqJ, mm_clt, mm_cle, mm_cgt, mm_cge, mm_ceq, mm_b, mm_nb, mm_nb0, mm_nb1, mm_vb0, mm_vb1, mm_vbc, mm_vy0, mm_vy1, mm_at, mm_ne, mm_nj, mm_Lw, mm_Nw, mm_atJ, mm_neJ, mm_njJ, zbI_s, zbV_s, zbJ_s, cond_t, Bool.true_and, Bool.and_true, if_true, if_false, not_true, not_false_iff, zel_r, zel_42, zel_12, zel_71, zel_80, zel_89, zel_110, zel_188, zel_103, zel_195, zr_o, zr_1, zr_2, zr_3, zr_4, zr_5, zr_6, zr_7, zr_8, zr_9, zq_o, zq_v, zt_o, zt_1, zt_2, zt_3, zt_4, zt_5, zf_o, zf_1, za_w1, za_w2, za_w3, za_cm, za_sl, Int.toNat_natCast, mm_t0, mm_t1, mm_t2, mm_t3, mm_t4, mm_t5, mm_t6, mm_t7, mm_t8, mm_t9, mm_t10, mm_t11, mm_t12, mm_t13, za_1, za_64, za_65, za_66, za_67, za_68, za_71, za_80, za_89, za_98, za_103, za_110, za_121, za_122, za_123, za_124, za_125, za_126, za_188, za_193, za_194, za_195, za_286, za_288, za_289, za_290, za_291, za_292, za_293, za_294, za_295, za_296, za_297, za_298, za_299, za_300, za_301, za_302, za_303, za_304, za_305, za_306, za_307, za_308, za_309, za_310, za_311, za_312, bt_def]
    rw [if_neg (by omega)]
    split at ih
    · next q =>
      have q := of_decide_eq_true q
      rw [Int.toNat_natCast] at q
      rw [if_neg (by omega), if_neg (by omega), if_neg (by omega), if_neg (by omega)]
      exact ih
    · next q =>
      have q := of_decide_eq_false (Bool.not_eq_true _ |>.mp q)
      rw [Int.toNat_natCast] at q
      repeat' split
      all_goals first | exact ih | (exfalso; omega)
theorem sp_2 {t h : Int} {σ : zM} {n : Nat} (ht0 : -2147483648 ≤ t) (ht1 : t < 2147483648) (hh0 : -2147483648 ≤ h) (hh1 : h < 2147483648) (hn : zN σ 63 0 = n) (h11 : n ≤ 11) : zcall 2 [.ref 63, .int (Int32.ofInt t), .int (Int32.ofInt h)] σ = some (some (.int (msk (kT σ t h) n)), σ) := by
  refine zcc_2 (ze_2_0 _ _ _ _ ?_)
  exact lp_2 ht0 ht1 hh0 hh1 hn h11 n 0 (by omega)
theorem lp_3 {m : Int32} {σ : zM} {n : Nat} (hn : zN σ 63 0 = n) (h11 : n ≤ 11) (hU : ∀ o : Nat, o < n → -1 ≤ zN σ 67 o ∧ zN σ 67 o < 11) : ∀ j k : Nat, j + k = n → zev 3 9 [some (.ref 63), some (.int m), some (.int (udn (fun o => xb m o.toNat) (fun o => zN σ 67 o.toNat) n k)), some (.int (Int32.ofInt (n - 1 - k)))] [] σ = some (some (.int (udn (fun o => xb m o.toNat) (fun o => zN σ 67 o.toNat) n n)), σ)
  | 0, k, e => by
    refine ze_3_9 _ _ _ _ _ ?_
    simp (disch := first | assumption | exact isR33 | exact isT104 | exact isF99 | exact isF101 | exact isR3 | omega | (refine isTk ?_; omega) | (refine isOk isR33 ?_; omega) | (refine isOk ?_ ?_; assumption; omega)) only [mm_r, mm_rl, mm_add, mm_sub, mm_mul, mm_addJ, mm_mulJ, mm_lt, mm_le, mm_eq, mm_z, mm_cl, mm_w, mm_wl, mm_ite, mm_i2l, mm_l2i, mm_ltJ, mm_leJ, mm_eqJ, mm_clt, mm_cle, mm_cgt, mm_cge, mm_ceq, mm_b, mm_nb, mm_nb0, mm_nb1, mm_vb0, mm_vb1, mm_vbc, mm_vy0, mm_vy1, mm_at, mm_ne, mm_nj, mm_Lw, mm_Nw, mm_atJ, mm_neJ, mm_njJ, zbI_s, zbV_s, zbJ_s, cond_t, Bool.true_and, Bool.and_true, if_true, if_false, not_true, not_false_iff, zel_r, zel_42, zel_12, zel_71, zel_80, zel_89, zel_110, zel_188, zel_103, zel_195, zr_o, zr_1, zr_2, zr_3, zr_4, zr_5, zr_6, zr_7, zr_8, zr_9, zq_o, zq_v, zt_o, zt_1, zt_2, zt_3, zt_4, zt_5, zf_o, zf_1, za_w1, za_w2, za_w3, za_cm, za_sl, Int.toNat_natCast, mm_t0, mm_t1, mm_t2, mm_t3, mm_t4, mm_t5, mm_t6, mm_t7, mm_t8, mm_t9, mm_t10, mm_t11, mm_t12, mm_t13, za_1, za_64, za_65, za_66, za_67, za_68, za_71, za_80, za_89, za_98, za_103, za_110, za_121, za_122, za_123, za_124, za_125, za_126, za_188, za_193, za_194, za_195, za_286, za_288, za_289, za_290, za_291, za_292, za_293, za_294, za_295, za_296, za_297, za_298, za_299, za_300, za_301, za_302, za_303, za_304, za_305, za_306, za_307, za_308, za_309, za_310, za_311, za_312]
    rw [if_pos (by omega), show k = n by omega]
  | j + 1, k, e => by
    have ih := lp_3 (m := m) hn h11 hU j (k + 1) (by omega)
    have hu := hU (n - 1 - k) (by omega)
    have e1 : ((n : Int) - 1 - k).toNat = n - 1 - k := by omega
    have e2 : (n : Int) - 1 - k + -1 = n - 1 - (k + 1 : Nat) := by omega
    rw [udn] at ih
    simp only [e1] at ih
    refine ze_3_9 _ _ _ _ _ ?_
    simp (disch := first | assumption | exact isR33 | exact isT104 | exact isF99 | exact isF101 | exact isR3 | omega | (refine isTk ?_; omega) | (refine isOk isR33 ?_; omega) | (refine isOk ?_ ?_; assumption; omega)) only [mm_r, mm_rl, mm_add, mm_sub, mm_mul, mm_addJ, mm_mulJ, mm_lt, mm_le, mm_eq, mm_z, mm_cl, mm_w, mm_wl, mm_ite, mm_i2l, mm_l2i, mm_ltJ, mm_leJ, mm_eqJ, mm_clt, mm_cle, mm_cgt, mm_cge, mm_ceq, mm_b, mm_nb, mm_nb0, mm_nb1, mm_vb0, mm_vb1, mm_vbc, mm_vy0, mm_vy1, mm_at, mm_ne, mm_nj, mm_Lw, mm_Nw, mm_atJ, mm_neJ, mm_njJ, zbI_s, zbV_s, zbJ_s, cond_t, Bool.true_and, Bool.and_true, if_true, if_false, not_true, not_false_iff, zel_r, zel_42, zel_12, zel_71, zel_80, zel_89, zel_110, zel_188, zel_103, zel_195, zr_o, zr_1, zr_2, zr_3, zr_4, zr_5, zr_6, zr_7, zr_8, zr_9, zq_o, zq_v, zt_o, zt_1, zt_2, zt_3, zt_4, zt_5, zf_o, zf_1, za_w1, za_w2, za_w3, za_cm, za_sl, Int.toNat_natCast, mm_t0, mm_t1, mm_t2, mm_t3, mm_t4, mm_t5, mm_t6, mm_t7, mm_t8, mm_t9, mm_t10, mm_t11, mm_t12, mm_t13, za_1, za_64, za_65, za_66, za_67, za_68, za_71, za_80, za_89, za_98, za_103, za_110, za_121, za_122, za_123, za_124, za_125, za_126, za_188, za_193, za_194, za_195, za_286, za_288, za_289, za_290, za_291, za_292, za_293, za_294, za_295, za_296, za_297, za_298, za_299, za_300, za_301, za_302, za_303, za_304, za_305, za_306, za_307, za_308, za_309, za_310, za_311, za_312, bt_def, e1, e2, and_bt0]
    generalize udn (fun o => xb m o.toNat) (fun o => zN σ 67 o.toNat) n k = u at ih ⊢
    rw [if_neg (by omega), xb_nm m u (by omega)]
    split at ih
    · next q =>
      obtain ⟨q1, q2, q3, q4⟩ := q
      rw [if_neg q1, q2, q3, if_neg (by decide), and_btI (by omega) (by omega), if_pos q4]
      exact ih
    · next q =>
      split
      · exact ih
      · next q1 =>
        split
        · exact ih
        · next q2 =>
          cases r1 : xb m (n - 1 - k) with
          | false => rw [r1] at q2; exact absurd rfl q2
          | true =>
            cases r2 : xb u (n - 1 - k) with
            | true => rw [r1, r2] at q2; exact absurd rfl q2
            | false =>
              rw [and_btI (by omega) (by omega), if_neg (fun q4 => q ⟨q1, r1, r2, q4⟩), or_0]
              exact ih
theorem sp_3 {m : Int32} {σ : zM} {n : Nat} (hn : zN σ 63 0 = n) (h11 : n ≤ 11) (hU : ∀ o : Nat, o < n → -1 ≤ zN σ 67 o ∧ zN σ 67 o < 11) : zcall 3 [.ref 63, .int m] σ = some (some (.int (udn (fun o => xb m o.toNat) (fun o => zN σ 67 o.toNat) n n)), σ) := by
  have h := lp_3 (m := m) hn h11 hU n 0 (by omega)
  refine zcc_3 (ze_3_0 _ _ _ ?_)
  simp (disch := first | assumption | exact isR33 | exact isT104 | exact isF99 | exact isF101 | exact isR3 | omega | (refine isTk ?_; omega) | (refine isOk isR33 ?_; omega) | (refine isOk ?_ ?_; assumption; omega)) only [mm_r, mm_rl, mm_add, mm_sub, mm_mul, mm_addJ, mm_mulJ, mm_lt, mm_le, mm_eq, mm_z, mm_cl, mm_w, mm_wl, mm_ite, mm_i2l, mm_l2i, mm_ltJ, mm_leJ, mm_eqJ, mm_clt, mm_cle, mm_cgt, mm_cge, mm_ceq, mm_b, mm_nb, mm_nb0, mm_nb1, mm_vb0, mm_vb1, mm_vbc, mm_vy0, mm_vy1, mm_at, mm_ne, mm_nj, mm_Lw, mm_Nw, mm_atJ, mm_neJ, mm_njJ, zbI_s, zbV_s, zbJ_s, cond_t, Bool.true_and, Bool.and_true, if_true, if_false, not_true, not_false_iff, zel_r, zel_42, zel_12, zel_71, zel_80, zel_89, zel_110, zel_188, zel_103, zel_195, zr_o, zr_1, zr_2, zr_3, zr_4, zr_5, zr_6, zr_7, zr_8, zr_9, zq_o, zq_v, zt_o, zt_1, zt_2, zt_3, zt_4, zt_5, zf_o, zf_1, za_w1, za_w2, za_w3, za_cm, za_sl, Int.toNat_natCast, mm_t0, mm_t1, mm_t2, mm_t3, mm_t4, mm_t5, mm_t6, mm_t7, mm_t8, mm_t9, mm_t10, mm_t11, mm_t12, mm_t13, za_1, za_64, za_65, za_66, za_67, za_68, za_71, za_80, za_89, za_98, za_103, za_110, za_121, za_122, za_123, za_124, za_125, za_126, za_188, za_193, za_194, za_195, za_286, za_288, za_289, za_290, za_291, za_292, za_293, za_294, za_295, za_296, za_297, za_298, za_299, za_300, za_301, za_302, za_303, za_304, za_305, za_306, za_307, za_308, za_309, za_310, za_311, za_312, hn]
  rw [show (n : Int) - 1 = n - 1 - (0 : Nat) by omega]
  exact h
/-- the class's council, told in functions: n seats of which each undoes one told ahead, or none -/
def kC (σ : zM) (n : Nat) : Prop := zN σ 63 0 = n ∧ n ≤ 11 ∧ ∀ o : Nat, o < n → zN σ 67 o = -1 ∨ 0 ≤ zN σ 67 o ∧ zN σ 67 o < n
def kr (σ : zM) (a : Nat) (o : Int) : Int := zN σ a o.toNat
def kU (σ : zM) (n : Nat) (t h : Int) : Int32 := udn (kT σ t h) (kr σ 67) n n
def kB (σ : zM) (n : Nat) (t g h : Int) : Int := hB (kT σ t h) (kr σ 67) (kr σ 65) (kr σ 66) (kr σ 68) n g
def kH (σ : zM) (n : Nat) (t g h : Int) : Int := hH (kT σ t h) (kr σ 67) (kr σ 65) (kr σ 66) (kr σ 68) n g
theorem kU_eq {σ : zM} {n : Nat} (hC : kC σ n) (t h : Int) : udn (fun o => xb (msk (kT σ t h) n) o.toNat) (fun o => zN σ 67 o.toNat) n n = kU σ n t h := by
  refine udn_congr (fun o h0 h1 => ?_) (fun o h0 h1 => rfl) (fun o h0 h1 => ?_) n (Nat.le_refl _)
  · have := hC.2.1
    show xb _ _ = _
    rw [xb_msk _ n hC.2.1 _ (by omega), decide_eq_true (by omega), Bool.true_and, show ((o.toNat : Nat) : Int) = o by omega]
  · have := hC.2.2 o.toNat (by omega)
    exact this
theorem sp_4 {t h : Int} {σ : zM} {n : Nat} (ht0 : -2147483648 ≤ t) (ht1 : t < 2147483648) (hh0 : -2147483648 ≤ h) (hh1 : h < 2147483648) (hC : kC σ n) : zcall 4 [.ref 63, .int (Int32.ofInt t), .int (Int32.ofInt h)] σ = some (some (.int (kU σ n t h)), σ) := by
  have hU : ∀ o : Nat, o < n → -1 ≤ zN σ 67 o ∧ zN σ 67 o < 11 := fun o ho => by
    have a := hC.2.2 o ho
    have b := hC.2.1
    omega
  refine zcc_4 (ze_4_0 _ _ _ _ ?_)
  rw [sp_2 ht0 ht1 hh0 hh1 hC.1 hC.2.1, zbI_s, sp_3 hC.1 hC.2.1 hU, zbI_s, kU_eq hC]
theorem lp_5 {g : Int} {q : Int32} {σ : zM} {n : Nat} (hg0 : -2147483648 ≤ g) (hg1 : g < 2147483648) (hn : zN σ 63 0 = n) (h11 : n ≤ 11) : ∀ k i : Nat, i + k = n → zev 5 27 [some (.ref 63), none, some (.int (Int32.ofInt g)), none, none, some (.int q), some (.int (Int32.ofInt (br (fun o => xb q o.toNat && decide (kr σ 65 o = g) && decide (kr σ 66 o ≠ -1)) (kr σ 68) i))), some (.int (Int32.ofInt i))] [] σ = some (some (.int (Int32.ofInt (br (fun o => xb q o.toNat && decide (kr σ 65 o = g) && decide (kr σ 66 o ≠ -1)) (kr σ 68) n))), σ)
  | 0, i, e => by
    refine ze_5_27 _ _ _ _ _ _ ?_
    simp (disch := first | assumption | exact isR33 | exact isT104 | exact isF99 | exact isF101 | exact isR3 | omega | (refine isTk ?_; omega) | (refine isOk isR33 ?_; omega) | (refine isOk ?_ ?_; assumption; omega)) only [mm_r, mm_rl, mm_add, mm_sub, mm_mul, mm_addJ, mm_mulJ, mm_lt, mm_le, mm_eq, mm_z, mm_cl, mm_w, mm_wl, mm_ite, mm_i2l, mm_l2i, mm_ltJ, mm_leJ, mm_eqJ, mm_clt, mm_cle, mm_cgt, mm_cge, mm_ceq, mm_b, mm_nb, mm_nb0, mm_nb1, mm_vb0, mm_vb1, mm_vbc, mm_vy0, mm_vy1, mm_at, mm_ne, mm_nj, mm_Lw, mm_Nw, mm_atJ, mm_neJ, mm_njJ, zbI_s, zbV_s, zbJ_s, cond_t, Bool.true_and, Bool.and_true, if_true, if_false, not_true, not_false_iff, zel_r, zel_42, zel_12, zel_71, zel_80, zel_89, zel_110, zel_188, zel_103, zel_195, zr_o, zr_1, zr_2, zr_3, zr_4, zr_5, zr_6, zr_7, zr_8, zr_9, zq_o, zq_v, zt_o, zt_1, zt_2, zt_3, zt_4, zt_5, zf_o, zf_1, za_w1, za_w2, za_w3, za_cm, za_sl, Int.toNat_natCast, mm_t0, mm_t1, mm_t2, mm_t3, mm_t4, mm_t5, mm_t6, mm_t7, mm_t8, mm_t9, mm_t10, mm_t11, mm_t12, mm_t13, za_1, za_64, za_65, za_66, za_67, za_68, za_71, za_80, za_89, za_98, za_103, za_110, za_121, za_122, za_123, za_124, za_125, za_126, za_188, za_193, za_194, za_195, za_286, za_288, za_289, za_290, za_291, za_292, za_293, za_294, za_295, za_296, za_297, za_298, za_299, za_300, za_301, za_302, za_303, za_304, za_305, za_306, za_307, za_308, za_309, za_310, za_311, za_312]
    rw [if_pos (by omega), show i = n by omega]
  | k + 1, i, e => by
    have ih := lp_5 (q := q) hg0 hg1 hn h11 k (i + 1) (by omega)
    have b1 := mm_lo σ 65 i
    have b2 := mm_hi σ 65 i
    have b3 := mm_lo σ 66 i
    have b4 := mm_hi σ 66 i
    have b5 := mm_lo σ 68 i
    have b6 := mm_hi σ 68 i
    have r := br_rng (fun o => xb q o.toNat && decide (kr σ 65 o = g) && decide (kr σ 66 o ≠ -1)) (kr σ 68) i
    have hP : (xb q (i : Int).toNat && decide (kr σ 65 i = g) && decide (kr σ 66 i ≠ -1)) = true ↔ (xb q i = true ∧ zN σ 65 i = g ∧ zN σ 66 i ≠ -1) := by
      simp only [Bool.and_eq_true, decide_eq_true_eq, and_assoc]
      exact Iff.rfl
    have hc : ∀ l, kr σ 68 l = zN σ 68 l.toNat := fun _ => rfl
    rw [br] at ih
    generalize br (fun o => xb q o.toNat && decide (kr σ 65 o = g) && decide (kr σ 66 o ≠ -1)) (kr σ 68) i = l at ih r ⊢
    simp only [hP] at ih
    simp only [hc, Int.toNat_natCast] at ih
    have b7 := mm_lo σ 68 l.toNat
    have b8 := mm_hi σ 68 l.toNat
    refine ze_5_27 _ _ _ _ _ _ ?_
    simp (disch := first | assumption | exact isR33 | exact isT104 | exact isF99 | exact isF101 | exact isR3 | omega | (refine isTk ?_; omega) | (refine isOk isR33 ?_; omega) | (refine isOk ?_ ?_; assumption; omega)) only [mm_r, mm_rl, mm_add, mm_sub, mm_mul, mm_addJ, mm_mulJ, mm_lt, mm_le, mm_eq, mm_z, mm_cl, mm_w, mm_wl, mm_ite, mm_i2l, mm_l2i, mm_ltJ, mm_leJ, mm_eqJ, mm_clt, mm_cle, mm_cgt, mm_cge, mm_ceq, mm_b, mm_nb, mm_nb0, mm_nb1, mm_vb0, mm_vb1, mm_vbc, mm_vy0, mm_vy1, mm_at, mm_ne, mm_nj, mm_Lw, mm_Nw, mm_atJ, mm_neJ, mm_njJ, zbI_s, zbV_s, zbJ_s, cond_t, Bool.true_and, Bool.and_true, if_true, if_false, not_true, not_false_iff, zel_r, zel_42, zel_12, zel_71, zel_80, zel_89, zel_110, zel_188, zel_103, zel_195, zr_o, zr_1, zr_2, zr_3, zr_4, zr_5, zr_6, zr_7, zr_8, zr_9, zq_o, zq_v, zt_o, zt_1, zt_2, zt_3, zt_4, zt_5, zf_o, zf_1, za_w1, za_w2, za_w3, za_cm, za_sl, Int.toNat_natCast, mm_t0, mm_t1, mm_t2, mm_t3, mm_t4, mm_t5, mm_t6, mm_t7, mm_t8, mm_t9, mm_t10, mm_t11, mm_t12, mm_t13, za_1, za_64, za_65, za_66, za_67, za_68, za_71, za_80, za_89, za_98, za_103, za_110, za_121, za_122, za_123, za_124, za_125, za_126, za_188, za_193, za_194, za_195, za_286, za_288, za_289, za_290, za_291, za_292, za_293, za_294, za_295, za_296, za_297, za_298, za_299, za_300, za_301, za_302, za_303, za_304, za_305, za_306, za_307, za_308, za_309, za_310, za_311, za_312, bt_def, and_bt0]
    rw [if_neg (by omega)]
    split at ih
    · next p =>
      obtain ⟨⟨p1, p2, p3⟩, p4⟩ := p
      rw [p1, if_neg (by decide), if_neg (by omega), if_neg (by omega)]
      split
      · exact ih
      · rw [if_neg (by omega)]
        exact ih
    · next p =>
      split
      · exact ih
      · next p1 =>
        split
        · exact ih
        · next p2 =>
          split
          · exact ih
          · next p3 =>
            have p1 : xb q i = true := by
              cases r1 : xb q i with
              | true => rfl
              | false => exact absurd r1 p1
            split
            · next p4 => exact absurd ⟨⟨p1, by omega, p3⟩, .inl p4⟩ p
            · next p4 =>
              split
              · exact ih
              · next p5 => exact absurd ⟨⟨p1, by omega, p3⟩, .inr (by omega)⟩ p
theorem sp_5 {t g h : Int} {σ : zM} {n : Nat} (ht0 : -2147483648 ≤ t) (ht1 : t < 2147483648) (hg0 : -2147483648 ≤ g) (hg1 : g < 2147483648) (hh0 : -2147483648 ≤ h) (hh1 : h < 2147483648) (hC : kC σ n) : zcall 5 [.ref 63, .int (Int32.ofInt t), .int (Int32.ofInt g), .int (Int32.ofInt h)] σ = some (some (.int (Int32.ofInt (kB σ n t g h))), σ) := by
  have hU : ∀ o : Nat, o < n → -1 ≤ zN σ 67 o ∧ zN σ 67 o < 11 := fun o ho => by
    have a := hC.2.2 o ho
    have b := hC.2.1
    omega
  refine zcc_5 (ze_5_0 _ _ _ _ _ ?_)
  rw [sp_2 ht0 ht1 hh0 hh1 hC.1 hC.2.1, zbI_s, sp_3 hC.1 hC.2.1 hU, zbI_s, kU_eq hC]
  have h9 := lp_5 (q := msk (kT σ t h) n &&& (kU σ n t h ^^^ Int32.ofInt (-1))) hg0 hg1 hC.1 hC.2.1 n 0 (by omega)
  refine h9.trans ?_
  have e : br (fun o => xb (msk (kT σ t h) n &&& (kU σ n t h ^^^ Int32.ofInt (-1))) o.toNat && decide (kr σ 65 o = g) && decide (kr σ 66 o ≠ -1)) (kr σ 68) n = kB σ n t g h := by
    refine br_congr n (fun o h0 h1 => ?_) (fun o h0 h1 => rfl)
    have := hC.2.1
    rw [xb_nm _ _ (by omega), xb_msk _ n hC.2.1 _ (by omega), decide_eq_true (by omega), Bool.true_and, show ((o.toNat : Nat) : Int) = o by omega]
    rfl
  rw [e]
theorem sp_6 {t g h : Int} {σ : zM} {n : Nat} (ht0 : -2147483648 ≤ t) (ht1 : t < 2147483648) (hg0 : -2147483648 ≤ g) (hg1 : g < 2147483648) (hh0 : -2147483648 ≤ h) (hh1 : h < 2147483648) (hC : kC σ n) : zcall 6 [.ref 63, .int (Int32.ofInt t), .int (Int32.ofInt g), .int (Int32.ofInt h)] σ = some (some (.int (Int32.ofInt (kH σ n t g h))), σ) := by
  have r : -1 ≤ kB σ n t g h ∧ kB σ n t g h < n := br_rng _ _ n
  have := hC.2.1
  refine zcc_6 (ze_6_0 _ _ _ _ _ ?_)
  rw [sp_5 ht0 ht1 hg0 hg1 hh0 hh1 hC]
  simp (disch := first | assumption | exact isR33 | exact isT104 | exact isF99 | exact isF101 | exact isR3 | omega | (refine isTk ?_; omega) | (refine isOk isR33 ?_; omega) | (refine isOk ?_ ?_; assumption; omega)) only [mm_r, mm_rl, mm_add, mm_sub, mm_mul, mm_addJ, mm_mulJ, mm_lt, mm_le, mm_eq, mm_z, mm_cl, mm_w, mm_wl, mm_ite, mm_i2l, mm_l2i, mm_ltJ, mm_leJ, mm_eqJ, mm_clt, mm_cle, mm_cgt, mm_cge, mm_ceq, mm_b, mm_nb, mm_nb0, mm_nb1, mm_vb0, mm_vb1, mm_vbc, mm_vy0, mm_vy1, mm_at, mm_ne, mm_nj, mm_Lw, mm_Nw, mm_atJ, mm_neJ, mm_njJ, zbI_s, zbV_s, zbJ_s, cond_t, Bool.true_and, Bool.and_true, if_true, if_false, not_true, not_false_iff, zel_r, zel_42, zel_12, zel_71, zel_80, zel_89, zel_110, zel_188, zel_103, zel_195, zr_o, zr_1, zr_2, zr_3, zr_4, zr_5, zr_6, zr_7, zr_8, zr_9, zq_o, zq_v, zt_o, zt_1, zt_2, zt_3, zt_4, zt_5, zf_o, zf_1, za_w1, za_w2, za_w3, za_cm, za_sl, Int.toNat_natCast, mm_t0, mm_t1, mm_t2, mm_t3, mm_t4, mm_t5, mm_t6, mm_t7, mm_t8, mm_t9, mm_t10, mm_t11, mm_t12, mm_t13, za_1, za_64, za_65, za_66, za_67, za_68, za_71, za_80, za_89, za_98, za_103, za_110, za_121, za_122, za_123, za_124, za_125, za_126, za_188, za_193, za_194, za_195, za_286, za_288, za_289, za_290, za_291, za_292, za_293, za_294, za_295, za_296, za_297, za_298, za_299, za_300, za_301, za_302, za_303, za_304, za_305, za_306, za_307, za_308, za_309, za_310, za_311, za_312]
  unfold kH hH
  show _ = some (some (Value.int (Int32.ofInt (if kB σ n t g h = -1 then -1 else kr σ 66 (kB σ n t g h)))), σ)
  split
  · rfl
  · next q => rw [if_pos (Decidable.not_not.mp q)]
theorem lp_7 {h : Int} {σ : zM} {n : Nat} (hh0 : -2147483648 ≤ h) (hh1 : h < 2147483648) (hn : zN σ 63 0 = n) (h11 : n ≤ 11) : ∀ k i : Nat, i + k = n → zany (fun o => decide (zN σ 68 o.toNat = h)) i = false → zev 7 2 [some (.ref 63), some (.int (Int32.ofInt h)), some (.int (Int32.ofInt i))] [] σ = some (some (.int (Int32.ofInt (if zany (fun o => decide (zN σ 68 o.toNat = h)) n = true then 1 else 0))), σ)
  | 0, i, e, hi => by
    refine ze_7_2 _ _ _ _ ?_
    simp (disch := first | assumption | exact isR33 | exact isT104 | exact isF99 | exact isF101 | exact isR3 | omega | (refine isTk ?_; omega) | (refine isOk isR33 ?_; omega) | (refine isOk ?_ ?_; assumption; omega)) only [mm_r, mm_rl, mm_add, mm_sub, mm_mul, mm_addJ, mm_mulJ, mm_lt, mm_le, mm_eq, mm_z, mm_cl, mm_w, mm_wl, mm_ite, mm_i2l, mm_l2i, mm_ltJ, mm_leJ, mm_eqJ, mm_clt, mm_cle, mm_cgt, mm_cge, mm_ceq, mm_b, mm_nb, mm_nb0, mm_nb1, mm_vb0, mm_vb1, mm_vbc, mm_vy0, mm_vy1, mm_at, mm_ne, mm_nj, mm_Lw, mm_Nw, mm_atJ, mm_neJ, mm_njJ, zbI_s, zbV_s, zbJ_s, cond_t, Bool.true_and, Bool.and_true, if_true, if_false, not_true, not_false_iff, zel_r, zel_42, zel_12, zel_71, zel_80, zel_89, zel_110, zel_188, zel_103, zel_195, zr_o, zr_1, zr_2, zr_3, zr_4, zr_5, zr_6, zr_7, zr_8, zr_9, zq_o, zq_v, zt_o, zt_1, zt_2, zt_3, zt_4, zt_5, zf_o, zf_1, za_w1, za_w2, za_w3, za_cm, za_sl, Int.toNat_natCast, mm_t0, mm_t1, mm_t2, mm_t3, mm_t4, mm_t5, mm_t6, mm_t7, mm_t8, mm_t9, mm_t10, mm_t11, mm_t12, mm_t13, za_1, za_64, za_65, za_66, za_67, za_68, za_71, za_80, za_89, za_98, za_103, za_110, za_121, za_122, za_123, za_124, za_125, za_126, za_188, za_193, za_194, za_195, za_286, za_288, za_289, za_290, za_291, za_292, za_293, za_294, za_295, za_296, za_297, za_298, za_299, za_300, za_301, za_302, za_303, za_304, za_305, za_306, za_307, za_308, za_309, za_310, za_311, za_312]
    rw [if_pos (by omega), if_neg]
    rw [show n = i by omega, hi]
    decide
  | k + 1, i, e, hi => by
    have b5 := mm_lo σ 68 i
    have b6 := mm_hi σ 68 i
    refine ze_7_2 _ _ _ _ ?_
    simp (disch := first | assumption | exact isR33 | exact isT104 | exact isF99 | exact isF101 | exact isR3 | omega | (refine isTk ?_; omega) | (refine isOk isR33 ?_; omega) | (refine isOk ?_ ?_; assumption; omega)) only [mm_r, mm_rl, mm_add, mm_sub, mm_mul, mm_addJ, mm_mulJ, mm_lt, mm_le, mm_eq, mm_z, mm_cl, mm_w, mm_wl, mm_ite, mm_i2l, mm_l2i, mm_ltJ, mm_leJ, mm_eqJ, mm_clt, mm_cle, mm_cgt, mm_cge, mm_ceq, mm_b, mm_nb, mm_nb0, mm_nb1, mm_vb0, mm_vb1, mm_vbc, mm_vy0, mm_vy1, mm_at, mm_ne, mm_nj, mm_Lw, mm_Nw, mm_atJ, mm_neJ, mm_njJ, zbI_s, zbV_s, zbJ_s, cond_t, Bool.true_and, Bool.and_true, if_true, if_false, not_true, not_false_iff, zel_r, zel_42, zel_12, zel_71, zel_80, zel_89, zel_110, zel_188, zel_103, zel_195, zr_o, zr_1, zr_2, zr_3, zr_4, zr_5, zr_6, zr_7, zr_8, zr_9, zq_o, zq_v, zt_o, zt_1, zt_2, zt_3, zt_4, zt_5, zf_o, zf_1, za_w1, za_w2, za_w3, za_cm, za_sl, Int.toNat_natCast, mm_t0, mm_t1, mm_t2, mm_t3, mm_t4, mm_t5, mm_t6, mm_t7, mm_t8, mm_t9, mm_t10, mm_t11, mm_t12, mm_t13, za_1, za_64, za_65, za_66, za_67, za_68, za_71, za_80, za_89, za_98, za_103, za_110, za_121, za_122, za_123, za_124, za_125, za_126, za_188, za_193, za_194, za_195, za_286, za_288, za_289, za_290, za_291, za_292, za_293, za_294, za_295, za_296, za_297, za_298, za_299, za_300, za_301, za_302, za_303, za_304, za_305, za_306, za_307, za_308, za_309, za_310, za_311, za_312]
    rw [if_neg (by omega)]
    split
    · next q =>
      refine lp_7 hh0 hh1 hn h11 k (i + 1) (by omega) ?_
      rw [zany, hi, Bool.false_or]
      exact decide_eq_false q
    · next q =>
      rw [if_pos (zany_of (i := i) (by omega) (decide_eq_true (by rw [Int.toNat_natCast]; omega)))]
theorem sp_7 {h : Int} {σ : zM} {n : Nat} (hh0 : -2147483648 ≤ h) (hh1 : h < 2147483648) (hn : zN σ 63 0 = n) (h11 : n ≤ 11) : zcall 7 [.ref 63, .int (Int32.ofInt h)] σ = some (some (.int (Int32.ofInt (if zany (fun o => decide (zN σ 68 o.toNat = h)) n = true then 1 else 0))), σ) := by
  refine zcc_7 (ze_7_0 _ _ _ ?_)
  exact lp_7 hh0 hh1 hn h11 n 0 (by omega) rfl
