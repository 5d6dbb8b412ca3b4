/-! CALLS: agree, when, sure: the class's calls -/
theorem zcnt_st {P : Int → Bool} {y : Nat} (hp : P y = true) : ∀ n : Nat, y < n → zcnt P y < zcnt P n
  | 0, q => by omega
  | n + 1, q => by
    have en : zcnt P (n + 1) = zcnt P n + (if P n = true then 1 else 0) := rfl
    by_cases yn : y = n
    · subst yn
      rw [en, if_pos hp]
      omega
    · have := zcnt_st hp n (by omega)
      rw [en]
      split <;> omega
theorem zcnt_nth {P : Int → Bool} {m : Int} : ∀ n : Nat, 0 ≤ m → m < zcnt P n → ∃ y : Nat, y < n ∧ P y = true ∧ zcnt P y = m
  | 0, m0, m1 => by
    have : zcnt P 0 = 0 := rfl
    omega
  | n + 1, m0, m1 => by
    have en : zcnt P (n + 1) = zcnt P n + (if P n = true then 1 else 0) := rfl
    rw [en] at m1
    by_cases q : P n = true
    · rw [if_pos q] at m1
      by_cases z : m = zcnt P n
      · exact ⟨n, by omega, q, z.symm⟩
      · obtain ⟨y, y1, y2, y3⟩ := zcnt_nth (P := P) (m := m) n m0 (by omega)
        exact ⟨y, by omega, y2, y3⟩
    · rw [if_neg q, Int.add_zero] at m1
      obtain ⟨y, y1, y2, y3⟩ := zcnt_nth (P := P) (m := m) n m0 m1
      exact ⟨y, by omega, y2, y3⟩
/-- the n-th of them, from 0 -/
def nth (P : Int → Bool) (H : Nat) (n : Int) : Int := zfst (fun x => P x && decide (zcnt P x.toNat = n)) H 0
theorem nth_is {P : Int → Bool} {H y : Nat} {n : Int} (hy : y < H) (hp : P y = true) (hc : zcnt P y = n) : nth P H n = y := by
  have r := zfst_rng (fun x => P x && decide (zcnt P x.toNat = n)) H 0 (by omega)
  have l := zfst_le (P := fun x => P x && decide (zcnt P x.toNat = n)) H 0 y (by omega) (by omega) (by
    show (P y && decide (zcnt P (y : Int).toNat = n)) = true
    rw [hp, Int.toNat_natCast, decide_eq_true hc]
    rfl)
  change 0 ≤ nth P H n ∧ nth P H n ≤ y at l
  change nth P H n = -1 ∨ 0 ≤ nth P H n ∧ nth P H n < 0 + (H : Int) ∧ (P (nth P H n) && decide (zcnt P (nth P H n).toNat = n)) = true at r
  rcases r with e | ⟨r0, r1, r2⟩
  · omega
  · rw [Bool.and_eq_true] at r2
    have r3 := of_decide_eq_true r2.2
    by_cases z : nth P H n = y
    · exact z
    · have p : P ((nth P H n).toNat : Int) = true := by
        rw [Int.toNat_of_nonneg r0]
        exact r2.1
      have := zcnt_st p y (by omega)
      omega
theorem nth_no {P : Int → Bool} {H : Nat} {n : Int} (h : ¬ (0 ≤ n ∧ n < zcnt P H)) : nth P H n = -1 := by
  have r := zfst_rng (fun x => P x && decide (zcnt P x.toNat = n)) H 0 (by omega)
  change nth P H n = -1 ∨ 0 ≤ nth P H n ∧ nth P H n < 0 + (H : Int) ∧ (P (nth P H n) && decide (zcnt P (nth P H n).toNat = n)) = true at r
  rcases r with e | ⟨r0, r1, r2⟩
  · exact e
  · rw [Bool.and_eq_true] at r2
    have r3 := of_decide_eq_true r2.2
    have p : P ((nth P H n).toNat : Int) = true := by
      rw [Int.toNat_of_nonneg r0]
      exact r2.1
    have a := zcnt_st p H (by omega)
    have b := zcnt_rng P (nth P H n).toNat
    exact absurd ⟨by omega, by omega⟩ h
theorem sp_35 {σ : zM} {W : Int → Int} {S : sls} {s o : Int} (hW : WOK W) (hC : ctC σ W) (hS : slC σ S) (hw : slW S) (hE : Eq0 W S s o = 0) : zwp (zcall 35 [.ref 69, .int (Int32.ofInt o), .ref 187, .int (Int32.ofInt s)] σ) (fun v τ => v = some (.int (Int32.ofInt (zcnt (agB W S s o) (W 1).toNat))) ∧ cK σ τ W ∧ slC τ S ∧ zN τ 121 o.toNat ≠ 0 ∧ agR τ (agB W S s o) (W 1).toNat) := by
  obtain ⟨⟨q, q2⟩, q3, q4, q5⟩ := Eq0_z hE
  have h1 := hW.1.2.1
  refine zwp_of (fun r h => zcc_35 (ze_35_0 _ _ _ r h)) ?_
  refine zwp_V _ (sp_15 hW hC q2.1 q2.2) ?_
  rintro τ ⟨hk, hl, hf, -⟩
  have hS2 : slC τ S := hS.fr (fun b hb => ⟨fun k => hf.1 b (by unfold slcS at hb; omega) k, fun k => hf.2.1 b (by unfold slcS at hb; omega) k⟩)
  exact lp_35 (σ0 := σ) hW hw q q2.1 q2.2 q4 q3 q5 (W 1).toNat 0 τ (by omega) hk hS2 hl (fun y hy => absurd hy (by omega))
def Eag (W : Int → Int) (S : sls) (s o : Int) : Int := if Eq0 W S s o = 0 then zcnt (agB W S s o) (W 1).toNat else Eq0 W S s o
theorem Eq0_rng (W : Int → Int) (S : sls) (s o : Int) : Eq0 W S s o = 0 ∨ Eq0 W S s o = -2 ∨ Eq0 W S s o = -6 := by
  unfold Eq0
  split
  · split
    · exact .inr (.inr rfl)
    · split
      · exact .inl rfl
      · exact .inr (.inl rfl)
  · exact .inr (.inl rfl)
theorem cq_agree {σ : zM} {W : Int → Int} {S : sls} {s o : Int} (hW : WOK W) (hC : ctC σ W) (hS : slC σ S) (hw : slW S) (s0 : -2147483648 ≤ s) (s1 : s < 2147483648) (o0 : -2147483648 ≤ o) (o1 : o < 2147483648) : zwp (zcall 138 [.ref 0, .int (Int32.ofInt s), .int (Int32.ofInt o)] σ) (fun v τ => v = some (.int (Int32.ofInt (Eag W S s o))) ∧ cK σ τ W) := by
  have r := Eq0_rng W S s o
  refine zwp_of (fun r h => zcc_138 (ze_138_0 _ _ _ r h)) ?_
  refine zwp_IE (sp_154 hW hC hS hw s0 s1 o0 o1) ?_
  rintro τ rfl
  by_cases q : Eq0 W S s o = 0
  · rw [show Eag W S s o = zcnt (agB W S s o) (W 1).toNat from if_pos q]
    refine zwp_t (by rw [q]; rfl) ?_
    refine zwp_IE (sp_35 hW hC hS hw q) ?_
    rintro τ ⟨hk, -⟩
    exact zwp_ret ⟨rfl, hk⟩
  · rw [show Eag W S s o = Eq0 W S s o from if_neg q]
    refine zwp_f (by try simp (disch := first | assumption | exact isR33 | exact isT104 | exact isF99 | exact isF101 | exact isR3 | omega | (refine isTk ?_; omega) | (refine isOk isR33 ?_; omega) | (refine isOk ?_ ?_; assumption; omega)) only [mm_r, mm_rl, mm_add, mm_sub, mm_mul, mm_addJ, mm_mulJ, mm_lt, mm_le, mm_eq, mm_z, mm_cl, mm_w, mm_wl, mm_ite, mm_i2l, mm_l2i, mm_ltJ, mm_leJ, mm_eqJ, mm_clt, mm_cle, mm_cgt, mm_cge, mm_ceq, mm_b, mm_nb, mm_nb0, mm_nb1, mm_vb0, mm_vb1, mm_vbc, mm_vy0, mm_vy1, mm_at, mm_ne, mm_nj, mm_Lw, mm_Nw, mm_atJ, mm_neJ, mm_njJ, zbI_s, zbV_s, zbJ_s, cond_t, Bool.true_and, Bool.and_true, if_true, if_false, not_true, not_false_iff, Classical.not_not, zel_r, zel_42, zel_12, zel_71, zel_80, zel_89, zel_110, zel_188, zel_103, zel_195, zr_o, zr_1, zr_2, zr_3, zr_4, zr_5, zr_6, zr_7, zr_8, zr_9, zq_o, zq_v, zt_o, zt_1, zt_2, zt_3, zt_4, zt_5, zf_o, zf_1, za_w1, za_w2, za_w3, za_cm, za_sl, Int.toNat_natCast, Int.toNat_natCast_add_one, mm_t0, mm_t1, mm_t2, mm_t3, mm_t4, mm_t5, mm_t6, mm_t7, mm_t8, mm_t9, mm_t10, mm_t11, mm_t12, mm_t13, za_1, za_64, za_65, za_66, za_67, za_68, za_71, za_80, za_89, za_98, za_103, za_110, za_121, za_122, za_123, za_124, za_125, za_126, za_188, za_193, za_194, za_195, za_286, za_288, za_289, za_290, za_291, za_292, za_293, za_294, za_295, za_296, za_297, za_298, za_299, za_300, za_301, za_302, za_303, za_304, za_305, za_306, za_307, za_308, za_309, za_310, za_311, za_312]; first | done | omega) ?_
    exact zwp_ret ⟨rfl, cK.rf hC⟩
def Ewh (W : Int → Int) (S : sls) (s o n : Int) : Int := if Eq0 W S s o = 0 then nth (agB W S s o) (W 1).toNat n else Eq0 W S s o
theorem cq_when {σ : zM} {W : Int → Int} {S : sls} {s o n : Int} (hW : WOK W) (hC : ctC σ W) (hS : slC σ S) (hw : slW S) (s0 : -2147483648 ≤ s) (s1 : s < 2147483648) (o0 : -2147483648 ≤ o) (o1 : o < 2147483648) (n0 : -2147483648 ≤ n) (n1 : n < 2147483648) : zwp (zcall 139 [.ref 0, .int (Int32.ofInt s), .int (Int32.ofInt o), .int (Int32.ofInt n)] σ) (fun v τ => v = some (.int (Int32.ofInt (Ewh W S s o n))) ∧ cK σ τ W) := by
  have r := Eq0_rng W S s o
  have h9 := hW.1.2.2.1
  have h1 := hW.1.2.1
  have rz := zcnt_rng (agB W S s o) (W 1).toNat
  refine zwp_of (fun r h => zcc_139 (ze_139_0 _ _ _ _ r h)) ?_
  refine zwp_IE (sp_154 hW hC hS hw s0 s1 o0 o1) ?_
  rintro τ rfl
  by_cases q : Eq0 W S s o = 0
  · rw [show Ewh W S s o n = nth (agB W S s o) (W 1).toNat n from if_pos q]
    refine zwp_t (by rw [q]; rfl) ?_
    refine zwp_IE (sp_35 hW hC hS hw q) ?_
    rintro τ ⟨hk, -, -, hr⟩
    by_cases q2 : n < 0
    · rw [nth_no (by omega)]
      refine zwp_t (by try simp (disch := first | assumption | exact isR33 | exact isT104 | exact isF99 | exact isF101 | exact isR3 | omega | (refine isTk ?_; omega) | (refine isOk isR33 ?_; omega) | (refine isOk ?_ ?_; assumption; omega)) only [mm_r, mm_rl, mm_add, mm_sub, mm_mul, mm_addJ, mm_mulJ, mm_lt, mm_le, mm_eq, mm_z, mm_cl, mm_w, mm_wl, mm_ite, mm_i2l, mm_l2i, mm_ltJ, mm_leJ, mm_eqJ, mm_clt, mm_cle, mm_cgt, mm_cge, mm_ceq, mm_b, mm_nb, mm_nb0, mm_nb1, mm_vb0, mm_vb1, mm_vbc, mm_vy0, mm_vy1, mm_at, mm_ne, mm_nj, mm_Lw, mm_Nw, mm_atJ, mm_neJ, mm_njJ, zbI_s, zbV_s, zbJ_s, cond_t, Bool.true_and, Bool.and_true, if_true, if_false, not_true, not_false_iff, Classical.not_not, zel_r, zel_42, zel_12, zel_71, zel_80, zel_89, zel_110, zel_188, zel_103, zel_195, zr_o, zr_1, zr_2, zr_3, zr_4, zr_5, zr_6, zr_7, zr_8, zr_9, zq_o, zq_v, zt_o, zt_1, zt_2, zt_3, zt_4, zt_5, zf_o, zf_1, za_w1, za_w2, za_w3, za_cm, za_sl, Int.toNat_natCast, Int.toNat_natCast_add_one, mm_t0, mm_t1, mm_t2, mm_t3, mm_t4, mm_t5, mm_t6, mm_t7, mm_t8, mm_t9, mm_t10, mm_t11, mm_t12, mm_t13, za_1, za_64, za_65, za_66, za_67, za_68, za_71, za_80, za_89, za_98, za_103, za_110, za_121, za_122, za_123, za_124, za_125, za_126, za_188, za_193, za_194, za_195, za_286, za_288, za_289, za_290, za_291, za_292, za_293, za_294, za_295, za_296, za_297, za_298, za_299, za_300, za_301, za_302, za_303, za_304, za_305, za_306, za_307, za_308, za_309, za_310, za_311, za_312]; first | done | omega) ?_
      exact zwp_ret ⟨rfl, hk⟩
    · refine zwp_f (by try simp (disch := first | assumption | exact isR33 | exact isT104 | exact isF99 | exact isF101 | exact isR3 | omega | (refine isTk ?_; omega) | (refine isOk isR33 ?_; omega) | (refine isOk ?_ ?_; assumption; omega)) only [mm_r, mm_rl, mm_add, mm_sub, mm_mul, mm_addJ, mm_mulJ, mm_lt, mm_le, mm_eq, mm_z, mm_cl, mm_w, mm_wl, mm_ite, mm_i2l, mm_l2i, mm_ltJ, mm_leJ, mm_eqJ, mm_clt, mm_cle, mm_cgt, mm_cge, mm_ceq, mm_b, mm_nb, mm_nb0, mm_nb1, mm_vb0, mm_vb1, mm_vbc, mm_vy0, mm_vy1, mm_at, mm_ne, mm_nj, mm_Lw, mm_Nw, mm_atJ, mm_neJ, mm_njJ, zbI_s, zbV_s, zbJ_s, cond_t, Bool.true_and, Bool.and_true, if_true, if_false, not_true, not_false_iff, Classical.not_not, zel_r, zel_42, zel_12, zel_71, zel_80, zel_89, zel_110, zel_188, zel_103, zel_195, zr_o, zr_1, zr_2, zr_3, zr_4, zr_5, zr_6, zr_7, zr_8, zr_9, zq_o, zq_v, zt_o, zt_1, zt_2, zt_3, zt_4, zt_5, zf_o, zf_1, za_w1, za_w2, za_w3, za_cm, za_sl, Int.toNat_natCast, Int.toNat_natCast_add_one, mm_t0, mm_t1, mm_t2, mm_t3, mm_t4, mm_t5, mm_t6, mm_t7, mm_t8, mm_t9, mm_t10, mm_t11, mm_t12, mm_t13, za_1, za_64, za_65, za_66, za_67, za_68, za_71, za_80, za_89, za_98, za_103, za_110, za_121, za_122, za_123, za_124, za_125, za_126, za_188, za_193, za_194, za_195, za_286, za_288, za_289, za_290, za_291, za_292, za_293, za_294, za_295, za_296, za_297, za_298, za_299, za_300, za_301, za_302, za_303, za_304, za_305, za_306, za_307, za_308, za_309, za_310, za_311, za_312]; first | done | omega) ?_
      by_cases q3 : zcnt (agB W S s o) (W 1).toNat ≤ n
      · rw [nth_no (by omega)]
        refine zwp_t (by try simp (disch := first | assumption | exact isR33 | exact isT104 | exact isF99 | exact isF101 | exact isR3 | omega | (refine isTk ?_; omega) | (refine isOk isR33 ?_; omega) | (refine isOk ?_ ?_; assumption; omega)) only [mm_r, mm_rl, mm_add, mm_sub, mm_mul, mm_addJ, mm_mulJ, mm_lt, mm_le, mm_eq, mm_z, mm_cl, mm_w, mm_wl, mm_ite, mm_i2l, mm_l2i, mm_ltJ, mm_leJ, mm_eqJ, mm_clt, mm_cle, mm_cgt, mm_cge, mm_ceq, mm_b, mm_nb, mm_nb0, mm_nb1, mm_vb0, mm_vb1, mm_vbc, mm_vy0, mm_vy1, mm_at, mm_ne, mm_nj, mm_Lw, mm_Nw, mm_atJ, mm_neJ, mm_njJ, zbI_s, zbV_s, zbJ_s, cond_t, Bool.true_and, Bool.and_true, if_true, if_false, not_true, not_false_iff, Classical.not_not, zel_r, zel_42, zel_12, zel_71, zel_80, zel_89, zel_110, zel_188, zel_103, zel_195, zr_o, zr_1, zr_2, zr_3, zr_4, zr_5, zr_6, zr_7, zr_8, zr_9, zq_o, zq_v, zt_o, zt_1, zt_2, zt_3, zt_4, zt_5, zf_o, zf_1, za_w1, za_w2, za_w3, za_cm, za_sl, Int.toNat_natCast, Int.toNat_natCast_add_one, mm_t0, mm_t1, mm_t2, mm_t3, mm_t4, mm_t5, mm_t6, mm_t7, mm_t8, mm_t9, mm_t10, mm_t11, mm_t12, mm_t13, za_1, za_64, za_65, za_66, za_67, za_68, za_71, za_80, za_89, za_98, za_103, za_110, za_121, za_122, za_123, za_124, za_125, za_126, za_188, za_193, za_194, za_195, za_286, za_288, za_289, za_290, za_291, za_292, za_293, za_294, za_295, za_296, za_297, za_298, za_299, za_300, za_301, za_302, za_303, za_304, za_305, za_306, za_307, za_308, za_309, za_310, za_311, za_312]; first | done | omega) ?_
        exact zwp_ret ⟨rfl, hk⟩
      · refine zwp_f (by try simp (disch := first | assumption | exact isR33 | exact isT104 | exact isF99 | exact isF101 | exact isR3 | omega | (refine isTk ?_; omega) | (refine isOk isR33 ?_; omega) | (refine isOk ?_ ?_; assumption; omega)) only [mm_r, mm_rl, mm_add, mm_sub, mm_mul, mm_addJ, mm_mulJ, mm_lt, mm_le, mm_eq, mm_z, mm_cl, mm_w, mm_wl, mm_ite, mm_i2l, mm_l2i, mm_ltJ, mm_leJ, mm_eqJ, mm_clt, mm_cle, mm_cgt, mm_cge, mm_ceq, mm_b, mm_nb, mm_nb0, mm_nb1, mm_vb0, mm_vb1, mm_vbc, mm_vy0, mm_vy1, mm_at, mm_ne, mm_nj, mm_Lw, mm_Nw, mm_atJ, mm_neJ, mm_njJ, zbI_s, zbV_s, zbJ_s, cond_t, Bool.true_and, Bool.and_true, if_true, if_false, not_true, not_false_iff, Classical.not_not, zel_r, zel_42, zel_12, zel_71, zel_80, zel_89, zel_110, zel_188, zel_103, zel_195, zr_o, zr_1, zr_2, zr_3, zr_4, zr_5, zr_6, zr_7, zr_8, zr_9, zq_o, zq_v, zt_o, zt_1, zt_2, zt_3, zt_4, zt_5, zf_o, zf_1, za_w1, za_w2, za_w3, za_cm, za_sl, Int.toNat_natCast, Int.toNat_natCast_add_one, mm_t0, mm_t1, mm_t2, mm_t3, mm_t4, mm_t5, mm_t6, mm_t7, mm_t8, mm_t9, mm_t10, mm_t11, mm_t12, mm_t13, za_1, za_64, za_65, za_66, za_67, za_68, za_71, za_80, za_89, za_98, za_103, za_110, za_121, za_122, za_123, za_124, za_125, za_126, za_188, za_193, za_194, za_195, za_286, za_288, za_289, za_290, za_291, za_292, za_293, za_294, za_295, za_296, za_297, za_298, za_299, za_300, za_301, za_302, za_303, za_304, za_305, za_306, za_307, za_308, za_309, za_310, za_311, za_312]; first | done | omega) ?_
        refine zwp_cd (za_126 (by omega) (by omega)) ?_
        obtain ⟨y, y1, y2, y3⟩ := zcnt_nth (P := agB W S s o) (m := n) (W 1).toNat (by omega) (by omega)
        have e := hr y y1 y2
        rw [y3] at e
        rw [nth_is y1 y2 y3, mm_cl n0 n1, mm_r, e]
        exact zwp_ret ⟨rfl, hk⟩
  · rw [show Ewh W S s o n = Eq0 W S s o from if_neg q]
    refine zwp_f (by try simp (disch := first | assumption | exact isR33 | exact isT104 | exact isF99 | exact isF101 | exact isR3 | omega | (refine isTk ?_; omega) | (refine isOk isR33 ?_; omega) | (refine isOk ?_ ?_; assumption; omega)) only [mm_r, mm_rl, mm_add, mm_sub, mm_mul, mm_addJ, mm_mulJ, mm_lt, mm_le, mm_eq, mm_z, mm_cl, mm_w, mm_wl, mm_ite, mm_i2l, mm_l2i, mm_ltJ, mm_leJ, mm_eqJ, mm_clt, mm_cle, mm_cgt, mm_cge, mm_ceq, mm_b, mm_nb, mm_nb0, mm_nb1, mm_vb0, mm_vb1, mm_vbc, mm_vy0, mm_vy1, mm_at, mm_ne, mm_nj, mm_Lw, mm_Nw, mm_atJ, mm_neJ, mm_njJ, zbI_s, zbV_s, zbJ_s, cond_t, Bool.true_and, Bool.and_true, if_true, if_false, not_true, not_false_iff, Classical.not_not, zel_r, zel_42, zel_12, zel_71, zel_80, zel_89, zel_110, zel_188, zel_103, zel_195, zr_o, zr_1, zr_2, zr_3, zr_4, zr_5, zr_6, zr_7, zr_8, zr_9, zq_o, zq_v, zt_o, zt_1, zt_2, zt_3, zt_4, zt_5, zf_o, zf_1, za_w1, za_w2, za_w3, za_cm, za_sl, Int.toNat_natCast, Int.toNat_natCast_add_one, mm_t0, mm_t1, mm_t2, mm_t3, mm_t4, mm_t5, mm_t6, mm_t7, mm_t8, mm_t9, mm_t10, mm_t11, mm_t12, mm_t13, za_1, za_64, za_65, za_66, za_67, za_68, za_71, za_80, za_89, za_98, za_103, za_110, za_121, za_122, za_123, za_124, za_125, za_126, za_188, za_193, za_194, za_195, za_286, za_288, za_289, za_290, za_291, za_292, za_293, za_294, za_295, za_296, za_297, za_298, za_299, za_300, za_301, za_302, za_303, za_304, za_305, za_306, za_307, za_308, za_309, za_310, za_311, za_312]; first | done | omega) ?_
    exact zwp_ret ⟨rfl, cK.rf hC⟩
/-- what is sure -/
def sur (P : Int → Bool) (A : Int → Int) (H : Nat) : Int := if zfst P H 0 = -1 then -5 else if zany (fun x => P x && decide (A x ≠ A (zfst P H 0))) H = true then -5 else A (zfst P H 0)
theorem sur_no {P : Int → Bool} {A : Int → Int} {H : Nat} (h : zcnt P H = 0) : sur P A H = -5 := by
  refine if_pos ?_
  rcases zfst_rng P H 0 (by omega) with e | ⟨r0, r1, r2⟩
  · exact e
  · have p : P ((zfst P H 0).toNat : Int) = true := by
      rw [Int.toNat_of_nonneg r0]
      exact r2
    have a := zcnt_st p H (by omega)
    have b := zcnt_rng P (zfst P H 0).toNat
    omega
theorem fst_0 {P : Int → Bool} {H y : Nat} (hy : y < H) (hp : P y = true) (h0 : zcnt P y = 0) : zfst P H 0 = y := by
  have l := zfst_le (P := P) H 0 y (by omega) (by omega) hp
  rcases zfst_rng P H 0 (by omega) with e | ⟨r0, r1, r2⟩
  · omega
  · by_cases z : zfst P H 0 = y
    · exact z
    · have p : P ((zfst P H 0).toNat : Int) = true := by
        rw [Int.toNat_of_nonneg r0]
        exact r2
      have a := zcnt_st p y (by omega)
      have b := zcnt_rng P (zfst P H 0).toNat
      omega
theorem sur_yes {P : Int → Bool} {A : Int → Int} {H y : Nat} (hy : y < H) (hp : P y = true) (h0 : zcnt P y = 0) (h : ∀ x : Nat, x < H → P x = true → A x = A y) : sur P A H = A y := by
  have e := fst_0 hy hp h0
  unfold sur
  rw [e, if_neg (by omega), if_neg]
  intro z
  obtain ⟨x, x1, x2⟩ := zany_ex z
  rw [Bool.and_eq_true] at x2
  exact of_decide_eq_true x2.2 (h x x1 x2.1)
theorem sur_ne {P : Int → Bool} {A : Int → Int} {H y x : Nat} (hy : y < H) (hp : P y = true) (h0 : zcnt P y = 0) (hx : x < H) (hpx : P x = true) (h : A x ≠ A y) : sur P A H = -5 := by
  have e := fst_0 hy hp h0
  unfold sur
  rw [e, if_neg (by omega), if_pos]
  refine zany_of hx ?_
  rw [hpx, Bool.true_and]
  exact decide_eq_true h
def Esu (W : Int → Int) (S : sls) (s o t g h : Int) : Int := if asked W t g h then (if Eq0 W S s o = 0 then sur (agB W S s o) (fun x => HH W (cS W o x) (W 7) t g h) (W 1).toNat else Eq0 W S s o) else -2
theorem lp_140 {σ0 : zM} {W : Int → Int} {S : sls} {s o t g h : Int} (hW : WOK W) (o0 : 0 ≤ o) (o1 : o < W 5) (hq : asked W t g h) {y : Nat} (hy : y < (W 1).toNat) (hp : agB W S s o y = true) (h0 : zcnt (agB W S s o) y = 0) : ∀ (k j : Nat) (σ : zM), (j : Int) + k = zcnt (agB W S s o) (W 1).toNat → cK σ0 σ W → zN σ 121 o.toNat ≠ 0 → agR σ (agB W S s o) (W 1).toNat → (∀ x : Nat, x < (W 1).toNat → agB W S s o x = true → zcnt (agB W S s o) x < j → HH W (cS W o x) (W 7) t g h = HH W (cS W o y) (W 7) t g h) → zwp (zev 140 81 [some (.ref 0), none, some (.int (Int32.ofInt o)), some (.int (Int32.ofInt t)), some (.int (Int32.ofInt g)), some (.int (Int32.ofInt h)), none, some (.int (Int32.ofInt (zcnt (agB W S s o) (W 1).toNat))), some (.int (Int32.ofInt (HH W (cS W o y) (W 7) t g h))), some (.int (Int32.ofInt j))] [] σ) (fun v τ => v = some (.int (Int32.ofInt (sur (agB W S s o) (fun x => HH W (cS W o x) (W 7) t g h) (W 1).toNat))) ∧ cK σ0 τ W)
  | 0, j, σ, e, hk, hl, hr, hn => by
    have h9 := hW.1.2.2.1
    have h1 := hW.1.2.1
    have rz := zcnt_rng (agB W S s o) (W 1).toNat
    rw [sur_yes hy hp h0 (fun x x1 x2 => hn x x1 x2 (by have := zcnt_st x2 (W 1).toNat x1; omega))]
    refine zwp_of (fun r h => ze_140_81 _ _ _ _ _ _ _ _ r h) ?_
    refine zwp_t (by try simp (disch := first | assumption | exact isR33 | exact isT104 | exact isF99 | exact isF101 | exact isR3 | omega | (refine isTk ?_; omega) | (refine isOk isR33 ?_; omega) | (refine isOk ?_ ?_; assumption; omega)) only [mm_r, mm_rl, mm_add, mm_sub, mm_mul, mm_addJ, mm_mulJ, mm_lt, mm_le, mm_eq, mm_z, mm_cl, mm_w, mm_wl, mm_ite, mm_i2l, mm_l2i, mm_ltJ, mm_leJ, mm_eqJ, mm_clt, mm_cle, mm_cgt, mm_cge, mm_ceq, mm_b, mm_nb, mm_nb0, mm_nb1, mm_vb0, mm_vb1, mm_vbc, mm_vy0, mm_vy1, mm_at, mm_ne, mm_nj, mm_Lw, mm_Nw, mm_atJ, mm_neJ, mm_njJ, zbI_s, zbV_s, zbJ_s, cond_t, Bool.true_and, Bool.and_true, if_true, if_false, not_true, not_false_iff, Classical.not_not, zel_r, zel_42, zel_12, zel_71, zel_80, zel_89, zel_110, zel_188, zel_103, zel_195, zr_o, zr_1, zr_2, zr_3, zr_4, zr_5, zr_6, zr_7, zr_8, zr_9, zq_o, zq_v, zt_o, zt_1, zt_2, zt_3, zt_4, zt_5, zf_o, zf_1, za_w1, za_w2, za_w3, za_cm, za_sl, Int.toNat_natCast, Int.toNat_natCast_add_one, mm_t0, mm_t1, mm_t2, mm_t3, mm_t4, mm_t5, mm_t6, mm_t7, mm_t8, mm_t9, mm_t10, mm_t11, mm_t12, mm_t13, za_1, za_64, za_65, za_66, za_67, za_68, za_71, za_80, za_89, za_98, za_103, za_110, za_121, za_122, za_123, za_124, za_125, za_126, za_188, za_193, za_194, za_195, za_286, za_288, za_289, za_290, za_291, za_292, za_293, za_294, za_295, za_296, za_297, za_298, za_299, za_300, za_301, za_302, za_303, za_304, za_305, za_306, za_307, za_308, za_309, za_310, za_311, za_312]
                     first | done | omega) ?_
    exact zwp_ret ⟨rfl, hk⟩
  | k + 1, j, σ, e, hk, hl, hr, hn => by
    have h9 := hW.1.2.2.1
    have h1 := hW.1.2.1
    have h8 := hW.1.1.2.1
    have rz := zcnt_rng (agB W S s o) (W 1).toNat
    obtain ⟨x, x1, x2, x3⟩ := zcnt_nth (P := agB W S s o) (m := j) (W 1).toNat (by omega) (by omega)
    have ex := hr x x1 x2
    rw [x3, Int.toNat_natCast] at ex
    have ra := HH_rng hW.un (cS W o x) (W 7) t g h
    have rb := HH_rng hW.un (cS W o y) (W 7) t g h
    refine zwp_of (fun r h => ze_140_81 _ _ _ _ _ _ _ _ r h) ?_
    refine zwp_f (by try simp (disch := first | assumption | exact isR33 | exact isT104 | exact isF99 | exact isF101 | exact isR3 | omega | (refine isTk ?_; omega) | (refine isOk isR33 ?_; omega) | (refine isOk ?_ ?_; assumption; omega)) only [mm_r, mm_rl, mm_add, mm_sub, mm_mul, mm_addJ, mm_mulJ, mm_lt, mm_le, mm_eq, mm_z, mm_cl, mm_w, mm_wl, mm_ite, mm_i2l, mm_l2i, mm_ltJ, mm_leJ, mm_eqJ, mm_clt, mm_cle, mm_cgt, mm_cge, mm_ceq, mm_b, mm_nb, mm_nb0, mm_nb1, mm_vb0, mm_vb1, mm_vbc, mm_vy0, mm_vy1, mm_at, mm_ne, mm_nj, mm_Lw, mm_Nw, mm_atJ, mm_neJ, mm_njJ, zbI_s, zbV_s, zbJ_s, cond_t, Bool.true_and, Bool.and_true, if_true, if_false, not_true, not_false_iff, Classical.not_not, zel_r, zel_42, zel_12, zel_71, zel_80, zel_89, zel_110, zel_188, zel_103, zel_195, zr_o, zr_1, zr_2, zr_3, zr_4, zr_5, zr_6, zr_7, zr_8, zr_9, zq_o, zq_v, zt_o, zt_1, zt_2, zt_3, zt_4, zt_5, zf_o, zf_1, za_w1, za_w2, za_w3, za_cm, za_sl, Int.toNat_natCast, Int.toNat_natCast_add_one, mm_t0, mm_t1, mm_t2, mm_t3, mm_t4, mm_t5, mm_t6, mm_t7, mm_t8, mm_t9, mm_t10, mm_t11, mm_t12, mm_t13, za_1, za_64, za_65, za_66, za_67, za_68, za_71, za_80, za_89, za_98, za_103, za_110, za_121, za_122, za_123, za_124, za_125, za_126, za_188, za_193, za_194, za_195, za_286, za_288, za_289, za_290, za_291, za_292, za_293, za_294, za_295, za_296, za_297, za_298, za_299, za_300, za_301, za_302, za_303, za_304, za_305, za_306, za_307, za_308, za_309, za_310, za_311, za_312]
                     first | done | omega) ?_
    refine zwp_cd (za_126 (by omega) (by omega)) ?_
    rw [mm_cl (n := (j : Int)) (by omega) (by omega), Int.toNat_natCast, mm_r, ex]
    refine zwp_IE (sp_23 (o := o) (s := x) hW hk.2 o0 o1 hl (by omega) (by omega) (by omega) (by omega) (by omega) (by omega) (by omega) (by omega)) ?_
    intro τ hs
    by_cases q : HH W (cS W o x) (W 7) t g h = HH W (cS W o y) (W 7) t g h
    · refine zwp_t (congrArg Int32.ofInt q) ?_
      rw [mm_add]
      refine lp_140 hW o0 o1 hq hy hp h0 k (j + 1) τ (by omega) (hk.same hW hs) (by rw [hs.k]; exact hl) (fun z z1 z2 => by rw [hs.k]; exact hr z z1 z2) (fun z z1 z2 z3 => ?_)
      by_cases w : z = x
      · rw [w]
        exact q
      · refine hn z z1 z2 ?_
        by_cases v : z < x
        · have := zcnt_st z2 x v
          omega
        · have := zcnt_st x2 z (by omega)
          omega
    · rw [sur_ne hy hp h0 x1 x2 q]
      refine zwp_f (fun p => q ?_) ?_
      · rwa [show Int32.ofInt (HH W (cup (CM W noD) o (CMs W o x)) (W 7) t g h) = Int32.ofInt (HH W (cS W o x) (W 7) t g h) from rfl, mm_eq (by omega) (by omega) (by omega) (by omega)] at p
      · exact zwp_ret ⟨rfl, hk.same hW hs⟩
theorem cq_sure {σ : zM} {W : Int → Int} {S : sls} {s o t g h : Int} (hW : WOK W) (hC : ctC σ W) (hS : slC σ S) (hw : slW S) (s0 : -2147483648 ≤ s) (s1 : s < 2147483648) (o0 : -2147483648 ≤ o) (o1 : o < 2147483648) (ht0 : -2147483648 ≤ t) (ht1 : t < 2147483648) (hg0 : -2147483648 ≤ g) (hg1 : g < 2147483648) (hh0 : -2147483648 ≤ h) (hh1 : h < 2147483648) : zwp (zcall 140 [.ref 0, .int (Int32.ofInt s), .int (Int32.ofInt o), .int (Int32.ofInt t), .int (Int32.ofInt g), .int (Int32.ofInt h)] σ) (fun v τ => v = some (.int (Int32.ofInt (Esu W S s o t g h))) ∧ cK σ τ W) := by
  have r := Eq0_rng W S s o
  have h9 := hW.1.2.2.1
  have h1 := hW.1.2.1
  have rz := zcnt_rng (agB W S s o) (W 1).toNat
  refine zwp_of (fun r h => zcc_140 (ze_140_0 _ _ _ _ _ _ r h)) ?_
  rw [sp_150w hC.1 ht0 ht1 hg0 hg1 hh0 hh1, zbI_s]
  by_cases a : asked W t g h
  · rw [if_pos a]
    refine zwp_t (by decide) ?_
    refine zwp_IE (sp_154 hW hC hS hw s0 s1 o0 o1) ?_
    rintro τ rfl
    by_cases q : Eq0 W S s o = 0
    · rw [show Esu W S s o t g h = sur (agB W S s o) (fun x => HH W (cS W o x) (W 7) t g h) (W 1).toNat from (if_pos a).trans (if_pos q)]
      obtain ⟨⟨-, p2⟩, -⟩ := Eq0_z q
      refine zwp_t (by rw [q]; rfl) ?_
      refine zwp_IE (sp_35 hW hC hS hw q) ?_
      rintro τ ⟨hk, -, hl, hr⟩
      by_cases z : zcnt (agB W S s o) (W 1).toNat = 0
      · rw [sur_no z]
        refine zwp_f (by rw [z]; exact fun p => p rfl) ?_
        exact zwp_ret ⟨rfl, hk⟩
      · refine zwp_t (by try simp (disch := first | assumption | exact isR33 | exact isT104 | exact isF99 | exact isF101 | exact isR3 | omega | (refine isTk ?_; omega) | (refine isOk isR33 ?_; omega) | (refine isOk ?_ ?_; assumption; omega)) only [mm_r, mm_rl, mm_add, mm_sub, mm_mul, mm_addJ, mm_mulJ, mm_lt, mm_le, mm_eq, mm_z, mm_cl, mm_w, mm_wl, mm_ite, mm_i2l, mm_l2i, mm_ltJ, mm_leJ, mm_eqJ, mm_clt, mm_cle, mm_cgt, mm_cge, mm_ceq, mm_b, mm_nb, mm_nb0, mm_nb1, mm_vb0, mm_vb1, mm_vbc, mm_vy0, mm_vy1, mm_at, mm_ne, mm_nj, mm_Lw, mm_Nw, mm_atJ, mm_neJ, mm_njJ, zbI_s, zbV_s, zbJ_s, cond_t, Bool.true_and, Bool.and_true, if_true, if_false, not_true, not_false_iff, Classical.not_not, zel_r, zel_42, zel_12, zel_71, zel_80, zel_89, zel_110, zel_188, zel_103, zel_195, zr_o, zr_1, zr_2, zr_3, zr_4, zr_5, zr_6, zr_7, zr_8, zr_9, zq_o, zq_v, zt_o, zt_1, zt_2, zt_3, zt_4, zt_5, zf_o, zf_1, za_w1, za_w2, za_w3, za_cm, za_sl, Int.toNat_natCast, Int.toNat_natCast_add_one, mm_t0, mm_t1, mm_t2, mm_t3, mm_t4, mm_t5, mm_t6, mm_t7, mm_t8, mm_t9, mm_t10, mm_t11, mm_t12, mm_t13, za_1, za_64, za_65, za_66, za_67, za_68, za_71, za_80, za_89, za_98, za_103, za_110, za_121, za_122, za_123, za_124, za_125, za_126, za_188, za_193, za_194, za_195, za_286, za_288, za_289, za_290, za_291, za_292, za_293, za_294, za_295, za_296, za_297, za_298, za_299, za_300, za_301, za_302, za_303, za_304, za_305, za_306, za_307, za_308, za_309, za_310, za_311, za_312]; first | done | omega) ?_
        obtain ⟨y, y1, y2, y3⟩ := zcnt_nth (P := agB W S s o) (m := 0) (W 1).toNat (by omega) (by omega)
        have ey := hr y y1 y2
        rw [y3] at ey
        refine zwp_cd (za_126 (by omega) (by omega)) ?_
        rw [mm_cl (n := (0 : Int)) (by omega) (by omega), mm_r, ey]
        refine zwp_IE (sp_23 (o := o) (s := y) hW hk.2 p2.1 p2.2 hl (by omega) (by omega) ht0 ht1 hg0 hg1 hh0 hh1) ?_
        intro υ hs
        refine lp_140 hW p2.1 p2.2 a y1 y2 y3 (zcnt (agB W S s o) (W 1).toNat - 1).toNat 1 υ (by omega) (hk.same hW hs) (by rw [hs.k]; exact hl) (fun z z1 z2 => by rw [hs.k]; exact hr z z1 z2) (fun x x1 x2 x3 => ?_)
        have e1 := fst_0 y1 y2 y3
        have r0 := zcnt_rng (agB W S s o) x
        have e2 := fst_0 x1 x2 (by omega)
        rw [show x = y by omega]
    · rw [show Esu W S s o t g h = Eq0 W S s o from (if_pos a).trans (if_neg q)]
      refine zwp_f (by try simp (disch := first | assumption | exact isR33 | exact isT104 | exact isF99 | exact isF101 | exact isR3 | omega | (refine isTk ?_; omega) | (refine isOk isR33 ?_; omega) | (refine isOk ?_ ?_; assumption; omega)) only [mm_r, mm_rl, mm_add, mm_sub, mm_mul, mm_addJ, mm_mulJ, mm_lt, mm_le, mm_eq, mm_z, mm_cl, mm_w, mm_wl, mm_ite, mm_i2l, mm_l2i, mm_ltJ, mm_leJ, mm_eqJ, mm_clt, mm_cle, mm_cgt, mm_cge, mm_ceq, mm_b, mm_nb, mm_nb0, mm_nb1, mm_vb0, mm_vb1, mm_vbc, mm_vy0, mm_vy1, mm_at, mm_ne, mm_nj, mm_Lw, mm_Nw, mm_atJ, mm_neJ, mm_njJ, zbI_s, zbV_s, zbJ_s, cond_t, Bool.true_and, Bool.and_true, if_true, if_false, not_true, not_false_iff, Classical.not_not, zel_r, zel_42, zel_12, zel_71, zel_80, zel_89, zel_110, zel_188, zel_103, zel_195, zr_o, zr_1, zr_2, zr_3, zr_4, zr_5, zr_6, zr_7, zr_8, zr_9, zq_o, zq_v, zt_o, zt_1, zt_2, zt_3, zt_4, zt_5, zf_o, zf_1, za_w1, za_w2, za_w3, za_cm, za_sl, Int.toNat_natCast, Int.toNat_natCast_add_one, mm_t0, mm_t1, mm_t2, mm_t3, mm_t4, mm_t5, mm_t6, mm_t7, mm_t8, mm_t9, mm_t10, mm_t11, mm_t12, mm_t13, za_1, za_64, za_65, za_66, za_67, za_68, za_71, za_80, za_89, za_98, za_103, za_110, za_121, za_122, za_123, za_124, za_125, za_126, za_188, za_193, za_194, za_195, za_286, za_288, za_289, za_290, za_291, za_292, za_293, za_294, za_295, za_296, za_297, za_298, za_299, za_300, za_301, za_302, za_303, za_304, za_305, za_306, za_307, za_308, za_309, za_310, za_311, za_312]; first | done | omega) ?_
      exact zwp_ret ⟨rfl, cK.rf hC⟩
  · rw [if_neg a, show Esu W S s o t g h = -2 from if_neg a]
    refine zwp_f (by decide) ?_
    exact zwp_ret ⟨rfl, cK.rf hC⟩
