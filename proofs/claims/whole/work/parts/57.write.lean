/-! SLOTS: write, paste -/
def cutv (d : Int) (y : Int64) : Int64 := if d = 0 then y.toInt32.toInt8.toInt32.toInt64 else if d = 1 then y.toInt32.toInt16.toInt32.toInt64 else if d = 2 then y.toInt32.toInt64 else y
theorem bmd (x : Int) (m : Nat) : x.bmod m = if x % m < (m + 1) / 2 then x % m else x % m - m := rfl
theorem sh_eq (y k : Int64) (n : Nat) (hk : k.toBitVec.smod 64 = BitVec.ofNat 64 n) (hn : n < 64) : ((y <<< k) >>> k).toInt = (y.toInt * 2 ^ n).bmod (2 ^ 64) / 2 ^ n := by
  rw [← Int64.toInt_toBitVec, Int64.toBitVec_shiftRight, Int64.toBitVec_shiftLeft, hk]
  rw [BitVec.sshiftRight_eq', BitVec.toInt_sshiftRight, BitVec.shiftLeft_eq', BitVec.toInt_shiftLeft]
  have e : (BitVec.ofNat 64 n).toNat = n := by
    rw [BitVec.toNat_ofNat]
    omega
  have h2 : (((y.toBitVec.toNat * 2 ^ n : Nat) : Int)).bmod (2 ^ 64) = (y.toInt * 2 ^ n).bmod (2 ^ 64) := by
    rw [← Int64.toInt_toBitVec, BitVec.toInt_eq_toNat_bmod, Int.bmod_mul_bmod, Int.natCast_mul, Int.natCast_pow]
    rfl
  rw [e, Int.shiftRight_eq_div_pow, Nat.shiftLeft_eq, h2, Int.natCast_pow]
  rfl
theorem cut0 (y : Int64) : (y <<< (56 : Int64)) >>> (56 : Int64) = y.toInt32.toInt8.toInt32.toInt64 := by
  apply Int64.toInt_inj.mp
  rw [sh_eq y 56 56 (by decide) (by decide), Int32.toInt_toInt64, Int8.toInt_toInt32, Int32.toInt_toInt8, Int64.toInt_toInt32]
  simp only [bmd]
  omega
theorem cut1 (y : Int64) : (y <<< (48 : Int64)) >>> (48 : Int64) = y.toInt32.toInt16.toInt32.toInt64 := by
  apply Int64.toInt_inj.mp
  rw [sh_eq y 48 48 (by decide) (by decide), Int32.toInt_toInt64, Int16.toInt_toInt32, Int32.toInt_toInt16, Int64.toInt_toInt32]
  simp only [bmd]
  omega
theorem cut2 (y : Int64) : (y <<< (32 : Int64)) >>> (32 : Int64) = y.toInt32.toInt64 := by
  apply Int64.toInt_inj.mp
  rw [sh_eq y 32 32 (by decide) (by decide), Int32.toInt_toInt64, Int64.toInt_toInt32]
  simp only [bmd]
  omega
theorem cut3 (y : Int64) : (y <<< (0 : Int64)) >>> (0 : Int64) = y := by
  apply Int64.toInt_inj.mp
  rw [sh_eq y 0 0 (by decide) (by decide)]
  have := Int64.le_toInt y
  have := Int64.toInt_lt y
  simp only [bmd]
  omega
theorem sp_275 {d : Int} {y : Int64} {σ : zM} (d0 : 0 ≤ d) (d1 : d ≤ 3) : zcall 275 [.long y, .int (Int32.ofInt d)] σ = some (some (.long (cutv d y)), σ) := by
  refine zcc_275 (ze_275_0 _ _ _ _ ?_)
  have : d = 0 ∨ d = 1 ∨ d = 2 ∨ d = 3 := by omega
  rcases this with rfl | rfl | rfl | rfl
  · rw [show (((Int32.ofInt 64) - ((Int32.ofInt 8) <<< (Int32.ofInt 0 &&& 31))).toInt64 &&& 63) = (56 : Int64) by decide, cut0]
    rfl
  · rw [show (((Int32.ofInt 64) - ((Int32.ofInt 8) <<< (Int32.ofInt 1 &&& 31))).toInt64 &&& 63) = (48 : Int64) by decide, cut1]
    rfl
  · rw [show (((Int32.ofInt 64) - ((Int32.ofInt 8) <<< (Int32.ofInt 2 &&& 31))).toInt64 &&& 63) = (32 : Int64) by decide, cut2]
    rfl
  · rw [show (((Int32.ofInt 64) - ((Int32.ofInt 8) <<< (Int32.ofInt 3 &&& 31))).toInt64 &&& 63) = (0 : Int64) by decide, cut3]
    rfl
theorem zs_l (σ : zM) (a k : Nat) (v : Int64) : zsJ σ a k v = zwl σ a k v.toInt := by
  unfold zwl
  rw [Int64.ofInt_toInt]
theorem zlet_e {τ : zM} {f : zM → Option zR} {r : Option zR} (h : f τ = r) : zlet τ f = r := h
def sPut (S : sls) (s i v : Int) : sls := (S.1, S.2.1, fun k j => if k = s ∧ j = i then v else S.2.2 k j)
theorem sp_87 {s i : Int} {y : Int64} {σ : zM} {S : sls} (hW : slW S) (hS : slC σ S) (h : isSl s) (i0 : 0 ≤ i) (i1 : i < 60) : zwp (zcall 87 [.ref 187, .int (Int32.ofInt s), .int (Int32.ofInt i), .long y] σ) (fun v τ => v = none ∧ mf slcS σ τ ∧ slC τ (sPut S s i (cutv (S.2.1 s) y).toInt)) := by
  have r := hW s h.1 h.2
  have e3 := (hS s h.1 h.2).2.1
  have hz : zarr (189 + s.toNat) 103 (Int32.ofInt i) = true := za_sl (by omega) i0 i1
  have hg : ∀ v : Int64, mf slcS σ (zwl σ (189 + s.toNat) i.toNat v.toInt) ∧ slC (zwl σ (189 + s.toNat) i.toNat v.toInt) (sPut S s i v.toInt) := fun v => by
    refine ⟨(mf.rf (S := slcS)).zwl _ _ _ (by unfold slcS; omega), fun k k0 k1 => ?_⟩
    obtain ⟨f1, f2, f3⟩ := hS k k0 k1
    refine ⟨f1, f2, fun j j0 j1 => ?_⟩
    show _ = if k = s ∧ j = i then v.toInt else S.2.2 k j
    have b0 := Int64.le_toInt v
    have b1 := Int64.toInt_lt v
    by_cases q : k = s ∧ j = i
    · rw [if_pos q, q.1, q.2]
      exact mm_atJ rfl rfl (by omega) (by omega)
    · rw [if_neg q]
      by_cases q2 : k = s
      · subst q2
        rw [mm_njJ (by omega)]
        exact f3 j j0 j1
      · rw [mm_neJ (by omega)]
        exact f3 j j0 j1
  refine zwp_of (fun r h => zcc_87 (ze_87_0 _ _ _ _ r h)) ?_
  refine zwp_cd (by simp (disch := first | assumption | exact isR33 | exact isT104 | exact isF99 | exact isF101 | exact isR3 | omega | (refine isTk ?_; omega) | (refine isOk isR33 ?_; omega) | (refine isOk ?_ ?_; assumption; omega)) only [mm_r, mm_rl, mm_add, mm_sub, mm_mul, mm_addJ, mm_mulJ, mm_lt, mm_le, mm_eq, mm_z, mm_cl, mm_w, mm_wl, mm_ite, mm_i2l, mm_l2i, mm_ltJ, mm_leJ, mm_eqJ, mm_clt, mm_cle, mm_cgt, mm_cge, mm_ceq, mm_b, mm_nb, mm_nb0, mm_nb1, mm_vb0, mm_vb1, mm_vbc, mm_vy0, mm_vy1, mm_at, mm_ne, mm_nj, mm_Lw, mm_Nw, mm_atJ, mm_neJ, mm_njJ, zbI_s, zbV_s, zbJ_s, cond_t, Bool.true_and, Bool.and_true, if_true, if_false, not_true, not_false_iff, Classical.not_not, zel_r, zel_42, zel_12, zel_71, zel_80, zel_89, zel_110, zel_188, zel_103, zel_195, zr_o, zr_1, zr_2, zr_3, zr_4, zr_5, zr_6, zr_7, zr_8, zr_9, zq_o, zq_v, zt_o, zt_1, zt_2, zt_3, zt_4, zt_5, zf_o, zf_1, za_w1, za_w2, za_w3, za_cm, za_sl, Int.toNat_natCast, Int.toNat_natCast_add_one, mm_t0, mm_t1, mm_t2, mm_t3, mm_t4, mm_t5, mm_t6, mm_t7, mm_t8, mm_t9, mm_t10, mm_t11, mm_t12, mm_t13, za_1, za_64, za_65, za_66, za_67, za_68, za_71, za_80, za_89, za_98, za_103, za_110, za_121, za_122, za_123, za_124, za_125, za_126, za_188, za_193, za_194, za_195, za_286, za_288, za_289, za_290, za_291, za_292, za_293, za_294, za_295, za_296, za_297, za_298, za_299, za_300, za_301, za_302, za_303, za_304, za_305, za_306, za_307, za_308, za_309, za_310, za_311, za_312]) ?_
  rw [mm_cl (n := s) (by omega) (by omega), mm_cl (n := i) (by omega) (by omega), mm_r, e3, zel_188, hz]
  simp only [cond_t]
  rw [show zarr 188 108 (Int32.ofInt s) = true from za_188 h.1 h.2]
  simp only [cond_t, zs_l]
  have : S.2.1 s = 0 ∨ S.2.1 s = 1 ∨ S.2.1 s = 2 ∨ S.2.1 s = 3 := by omega
  rcases this with e | e | e | e
  · rw [e]
    refine zwp_t rfl (zwp_let (zwp_ret ⟨rfl, hg _⟩))
  · rw [e]
    refine zwp_f (by decide) (zwp_t rfl (zwp_let (zwp_ret ⟨rfl, hg _⟩)))
  · rw [e]
    refine zwp_f (by decide) (zwp_f (by decide) (zwp_t rfl (zwp_let (zwp_ret ⟨rfl, hg _⟩))))
  · rw [e]
    refine zwp_f (by decide) (zwp_f (by decide) (zwp_f (by decide) (zwp_let (zwp_ret ⟨rfl, hg _⟩))))
abbrev inSl (S : sls) (s i : Int) : Prop := isSl s ∧ S.1 s ≠ -1 ∧ 0 ≤ i ∧ i < S.1 s
def Ewr (S : sls) (s i : Int) : Int := if isSl s then (if S.1 s = -1 then -6 else if 0 ≤ i ∧ i < S.1 s then 0 else -7) else -2
def Swr (S : sls) (s i : Int) (y : Int64) : sls := if isSl s ∧ 0 ≤ i ∧ i < S.1 s then sPut S s i (cutv (S.2.1 s) y).toInt else S
theorem Swr_W {S : sls} (hW : slW S) {s i : Int} {y : Int64} : slW (Swr S s i y) := by
  unfold Swr
  by_cases q : isSl s ∧ 0 ≤ i ∧ i < S.1 s
  · rw [if_pos q]
    exact hW
  · rw [if_neg q]
    exact hW
theorem Ewr_a {S : sls} {s i : Int} {y : Int64} (q : ¬ isSl s) : Ewr S s i = -2 ∧ Swr S s i y = S := ⟨if_neg q, if_neg (fun p => q p.1)⟩
theorem Ewr_b {S : sls} {s i : Int} {y : Int64} (q : isSl s) (h : S.1 s = -1) : Ewr S s i = -6 ∧ Swr S s i y = S := ⟨(if_pos q).trans (if_pos h), if_neg (fun p => by have := p.2; omega)⟩
theorem Ewr_c {S : sls} {s i : Int} {y : Int64} (q : isSl s) (h : S.1 s ≠ -1) (h2 : ¬ (0 ≤ i ∧ i < S.1 s)) : Ewr S s i = -7 ∧ Swr S s i y = S := ⟨(if_pos q).trans ((if_neg h).trans (if_neg h2)), if_neg (fun p => h2 p.2)⟩
theorem Ewr_d {S : sls} {s i : Int} {y : Int64} (q : isSl s) (h2 : 0 ≤ i ∧ i < S.1 s) : Ewr S s i = 0 ∧ Swr S s i y = sPut S s i (cutv (S.2.1 s) y).toInt := ⟨(if_pos q).trans ((if_neg (by omega)).trans (if_pos h2)), if_pos ⟨q, h2⟩⟩
theorem cq_write {s i : Int} {y : Int64} {σ : zM} {S : sls} (hW : slW S) (hS : slC σ S) (s0 : -2147483648 ≤ s) (s1 : s < 2147483648) (i0 : -2147483648 ≤ i) (i1 : i < 2147483648) : zwp (zcall 148 [.ref 0, .int (Int32.ofInt s), .int (Int32.ofInt i), .long y] σ) (fun v τ => v = some (.int (Int32.ofInt (Ewr S s i))) ∧ mf slcS σ τ ∧ slC τ (Swr S s i y)) := by
  refine zwp_of (fun r h => zcc_148 (ze_148_0 _ _ _ _ r h)) ?_
  rw [sp_82 s0 s1, zbI_s]
  by_cases q : isSl s
  · have e := (hS s q.1 q.2).1
    have r := hW s q.1 q.2
    rw [if_pos q]
    refine zwp_t (by decide) ?_
    rw [sp_83 q.1 q.2, zbI_s, e]
    by_cases q2 : S.1 s = -1
    · rw [(Ewr_b (i := i) (y := y) q q2).1, (Ewr_b (i := i) (y := y) q q2).2, if_neg (show ¬ (S.1 s ≠ -1) from fun p => p q2)]
      refine zwp_f (by decide) ?_
      exact zwp_ret ⟨rfl, mf.rf, hS⟩
    · rw [if_pos q2]
      refine zwp_t (by decide) ?_
      by_cases q3 : 0 ≤ i ∧ i < S.1 s
      · rw [(Ewr_d (y := y) q q3).1, (Ewr_d (y := y) q q3).2]
        refine zwp_f (by try simp (disch := first | assumption | exact isR33 | exact isT104 | exact isF99 | exact isF101 | exact isR3 | omega | (refine isTk ?_; omega) | (refine isOk isR33 ?_; omega) | (refine isOk ?_ ?_; assumption; omega)) only [mm_r, mm_rl, mm_add, mm_sub, mm_mul, mm_addJ, mm_mulJ, mm_lt, mm_le, mm_eq, mm_z, mm_cl, mm_w, mm_wl, mm_ite, mm_i2l, mm_l2i, mm_ltJ, mm_leJ, mm_eqJ, mm_clt, mm_cle, mm_cgt, mm_cge, mm_ceq, mm_b, mm_nb, mm_nb0, mm_nb1, mm_vb0, mm_vb1, mm_vbc, mm_vy0, mm_vy1, mm_at, mm_ne, mm_nj, mm_Lw, mm_Nw, mm_atJ, mm_neJ, mm_njJ, zbI_s, zbV_s, zbJ_s, cond_t, Bool.true_and, Bool.and_true, if_true, if_false, not_true, not_false_iff, Classical.not_not, zel_r, zel_42, zel_12, zel_71, zel_80, zel_89, zel_110, zel_188, zel_103, zel_195, zr_o, zr_1, zr_2, zr_3, zr_4, zr_5, zr_6, zr_7, zr_8, zr_9, zq_o, zq_v, zt_o, zt_1, zt_2, zt_3, zt_4, zt_5, zf_o, zf_1, za_w1, za_w2, za_w3, za_cm, za_sl, Int.toNat_natCast, Int.toNat_natCast_add_one, mm_t0, mm_t1, mm_t2, mm_t3, mm_t4, mm_t5, mm_t6, mm_t7, mm_t8, mm_t9, mm_t10, mm_t11, mm_t12, mm_t13, za_1, za_64, za_65, za_66, za_67, za_68, za_71, za_80, za_89, za_98, za_103, za_110, za_121, za_122, za_123, za_124, za_125, za_126, za_188, za_193, za_194, za_195, za_286, za_288, za_289, za_290, za_291, za_292, za_293, za_294, za_295, za_296, za_297, za_298, za_299, za_300, za_301, za_302, za_303, za_304, za_305, za_306, za_307, za_308, za_309, za_310, za_311, za_312]; first | done | omega) ?_
        refine zwp_cd (by simp (disch := first | assumption | exact isR33 | exact isT104 | exact isF99 | exact isF101 | exact isR3 | omega | (refine isTk ?_; omega) | (refine isOk isR33 ?_; omega) | (refine isOk ?_ ?_; assumption; omega)) only [mm_r, mm_rl, mm_add, mm_sub, mm_mul, mm_addJ, mm_mulJ, mm_lt, mm_le, mm_eq, mm_z, mm_cl, mm_w, mm_wl, mm_ite, mm_i2l, mm_l2i, mm_ltJ, mm_leJ, mm_eqJ, mm_clt, mm_cle, mm_cgt, mm_cge, mm_ceq, mm_b, mm_nb, mm_nb0, mm_nb1, mm_vb0, mm_vb1, mm_vbc, mm_vy0, mm_vy1, mm_at, mm_ne, mm_nj, mm_Lw, mm_Nw, mm_atJ, mm_neJ, mm_njJ, zbI_s, zbV_s, zbJ_s, cond_t, Bool.true_and, Bool.and_true, if_true, if_false, not_true, not_false_iff, Classical.not_not, zel_r, zel_42, zel_12, zel_71, zel_80, zel_89, zel_110, zel_188, zel_103, zel_195, zr_o, zr_1, zr_2, zr_3, zr_4, zr_5, zr_6, zr_7, zr_8, zr_9, zq_o, zq_v, zt_o, zt_1, zt_2, zt_3, zt_4, zt_5, zf_o, zf_1, za_w1, za_w2, za_w3, za_cm, za_sl, Int.toNat_natCast, Int.toNat_natCast_add_one, mm_t0, mm_t1, mm_t2, mm_t3, mm_t4, mm_t5, mm_t6, mm_t7, mm_t8, mm_t9, mm_t10, mm_t11, mm_t12, mm_t13, za_1, za_64, za_65, za_66, za_67, za_68, za_71, za_80, za_89, za_98, za_103, za_110, za_121, za_122, za_123, za_124, za_125, za_126, za_188, za_193, za_194, za_195, za_286, za_288, za_289, za_290, za_291, za_292, za_293, za_294, za_295, za_296, za_297, za_298, za_299, za_300, za_301, za_302, za_303, za_304, za_305, za_306, za_307, za_308, za_309, za_310, za_311, za_312]) ?_
        refine zwp_t (by try simp (disch := first | assumption | exact isR33 | exact isT104 | exact isF99 | exact isF101 | exact isR3 | omega | (refine isTk ?_; omega) | (refine isOk isR33 ?_; omega) | (refine isOk ?_ ?_; assumption; omega)) only [mm_r, mm_rl, mm_add, mm_sub, mm_mul, mm_addJ, mm_mulJ, mm_lt, mm_le, mm_eq, mm_z, mm_cl, mm_w, mm_wl, mm_ite, mm_i2l, mm_l2i, mm_ltJ, mm_leJ, mm_eqJ, mm_clt, mm_cle, mm_cgt, mm_cge, mm_ceq, mm_b, mm_nb, mm_nb0, mm_nb1, mm_vb0, mm_vb1, mm_vbc, mm_vy0, mm_vy1, mm_at, mm_ne, mm_nj, mm_Lw, mm_Nw, mm_atJ, mm_neJ, mm_njJ, zbI_s, zbV_s, zbJ_s, cond_t, Bool.true_and, Bool.and_true, if_true, if_false, not_true, not_false_iff, Classical.not_not, zel_r, zel_42, zel_12, zel_71, zel_80, zel_89, zel_110, zel_188, zel_103, zel_195, zr_o, zr_1, zr_2, zr_3, zr_4, zr_5, zr_6, zr_7, zr_8, zr_9, zq_o, zq_v, zt_o, zt_1, zt_2, zt_3, zt_4, zt_5, zf_o, zf_1, za_w1, za_w2, za_w3, za_cm, za_sl, Int.toNat_natCast, Int.toNat_natCast_add_one, mm_t0, mm_t1, mm_t2, mm_t3, mm_t4, mm_t5, mm_t6, mm_t7, mm_t8, mm_t9, mm_t10, mm_t11, mm_t12, mm_t13, za_1, za_64, za_65, za_66, za_67, za_68, za_71, za_80, za_89, za_98, za_103, za_110, za_121, za_122, za_123, za_124, za_125, za_126, za_188, za_193, za_194, za_195, za_286, za_288, za_289, za_290, za_291, za_292, za_293, za_294, za_295, za_296, za_297, za_298, za_299, za_300, za_301, za_302, za_303, za_304, za_305, za_306, za_307, za_308, za_309, za_310, za_311, za_312, e]; first | done | omega) ?_
        refine zwp_V _ (sp_87 hW hS q q3.1 (by omega)) ?_
        rintro τ ⟨h1, h2⟩
        exact zwp_ret ⟨rfl, h1, h2⟩
      · rw [(Ewr_c (y := y) q q2 q3).1, (Ewr_c (y := y) q q2 q3).2]
        by_cases q4 : i < 0
        · refine zwp_t (by try simp (disch := first | assumption | exact isR33 | exact isT104 | exact isF99 | exact isF101 | exact isR3 | omega | (refine isTk ?_; omega) | (refine isOk isR33 ?_; omega) | (refine isOk ?_ ?_; assumption; omega)) only [mm_r, mm_rl, mm_add, mm_sub, mm_mul, mm_addJ, mm_mulJ, mm_lt, mm_le, mm_eq, mm_z, mm_cl, mm_w, mm_wl, mm_ite, mm_i2l, mm_l2i, mm_ltJ, mm_leJ, mm_eqJ, mm_clt, mm_cle, mm_cgt, mm_cge, mm_ceq, mm_b, mm_nb, mm_nb0, mm_nb1, mm_vb0, mm_vb1, mm_vbc, mm_vy0, mm_vy1, mm_at, mm_ne, mm_nj, mm_Lw, mm_Nw, mm_atJ, mm_neJ, mm_njJ, zbI_s, zbV_s, zbJ_s, cond_t, Bool.true_and, Bool.and_true, if_true, if_false, not_true, not_false_iff, Classical.not_not, zel_r, zel_42, zel_12, zel_71, zel_80, zel_89, zel_110, zel_188, zel_103, zel_195, zr_o, zr_1, zr_2, zr_3, zr_4, zr_5, zr_6, zr_7, zr_8, zr_9, zq_o, zq_v, zt_o, zt_1, zt_2, zt_3, zt_4, zt_5, zf_o, zf_1, za_w1, za_w2, za_w3, za_cm, za_sl, Int.toNat_natCast, Int.toNat_natCast_add_one, mm_t0, mm_t1, mm_t2, mm_t3, mm_t4, mm_t5, mm_t6, mm_t7, mm_t8, mm_t9, mm_t10, mm_t11, mm_t12, mm_t13, za_1, za_64, za_65, za_66, za_67, za_68, za_71, za_80, za_89, za_98, za_103, za_110, za_121, za_122, za_123, za_124, za_125, za_126, za_188, za_193, za_194, za_195, za_286, za_288, za_289, za_290, za_291, za_292, za_293, za_294, za_295, za_296, za_297, za_298, za_299, za_300, za_301, za_302, za_303, za_304, za_305, za_306, za_307, za_308, za_309, za_310, za_311, za_312]; first | done | omega) ?_
          exact zwp_ret ⟨rfl, mf.rf, hS⟩
        · refine zwp_f (by try simp (disch := first | assumption | exact isR33 | exact isT104 | exact isF99 | exact isF101 | exact isR3 | omega | (refine isTk ?_; omega) | (refine isOk isR33 ?_; omega) | (refine isOk ?_ ?_; assumption; omega)) only [mm_r, mm_rl, mm_add, mm_sub, mm_mul, mm_addJ, mm_mulJ, mm_lt, mm_le, mm_eq, mm_z, mm_cl, mm_w, mm_wl, mm_ite, mm_i2l, mm_l2i, mm_ltJ, mm_leJ, mm_eqJ, mm_clt, mm_cle, mm_cgt, mm_cge, mm_ceq, mm_b, mm_nb, mm_nb0, mm_nb1, mm_vb0, mm_vb1, mm_vbc, mm_vy0, mm_vy1, mm_at, mm_ne, mm_nj, mm_Lw, mm_Nw, mm_atJ, mm_neJ, mm_njJ, zbI_s, zbV_s, zbJ_s, cond_t, Bool.true_and, Bool.and_true, if_true, if_false, not_true, not_false_iff, Classical.not_not, zel_r, zel_42, zel_12, zel_71, zel_80, zel_89, zel_110, zel_188, zel_103, zel_195, zr_o, zr_1, zr_2, zr_3, zr_4, zr_5, zr_6, zr_7, zr_8, zr_9, zq_o, zq_v, zt_o, zt_1, zt_2, zt_3, zt_4, zt_5, zf_o, zf_1, za_w1, za_w2, za_w3, za_cm, za_sl, Int.toNat_natCast, Int.toNat_natCast_add_one, mm_t0, mm_t1, mm_t2, mm_t3, mm_t4, mm_t5, mm_t6, mm_t7, mm_t8, mm_t9, mm_t10, mm_t11, mm_t12, mm_t13, za_1, za_64, za_65, za_66, za_67, za_68, za_71, za_80, za_89, za_98, za_103, za_110, za_121, za_122, za_123, za_124, za_125, za_126, za_188, za_193, za_194, za_195, za_286, za_288, za_289, za_290, za_291, za_292, za_293, za_294, za_295, za_296, za_297, za_298, za_299, za_300, za_301, za_302, za_303, za_304, za_305, za_306, za_307, za_308, za_309, za_310, za_311, za_312]; first | done | omega) ?_
          refine zwp_cd (by simp (disch := first | assumption | exact isR33 | exact isT104 | exact isF99 | exact isF101 | exact isR3 | omega | (refine isTk ?_; omega) | (refine isOk isR33 ?_; omega) | (refine isOk ?_ ?_; assumption; omega)) only [mm_r, mm_rl, mm_add, mm_sub, mm_mul, mm_addJ, mm_mulJ, mm_lt, mm_le, mm_eq, mm_z, mm_cl, mm_w, mm_wl, mm_ite, mm_i2l, mm_l2i, mm_ltJ, mm_leJ, mm_eqJ, mm_clt, mm_cle, mm_cgt, mm_cge, mm_ceq, mm_b, mm_nb, mm_nb0, mm_nb1, mm_vb0, mm_vb1, mm_vbc, mm_vy0, mm_vy1, mm_at, mm_ne, mm_nj, mm_Lw, mm_Nw, mm_atJ, mm_neJ, mm_njJ, zbI_s, zbV_s, zbJ_s, cond_t, Bool.true_and, Bool.and_true, if_true, if_false, not_true, not_false_iff, Classical.not_not, zel_r, zel_42, zel_12, zel_71, zel_80, zel_89, zel_110, zel_188, zel_103, zel_195, zr_o, zr_1, zr_2, zr_3, zr_4, zr_5, zr_6, zr_7, zr_8, zr_9, zq_o, zq_v, zt_o, zt_1, zt_2, zt_3, zt_4, zt_5, zf_o, zf_1, za_w1, za_w2, za_w3, za_cm, za_sl, Int.toNat_natCast, Int.toNat_natCast_add_one, mm_t0, mm_t1, mm_t2, mm_t3, mm_t4, mm_t5, mm_t6, mm_t7, mm_t8, mm_t9, mm_t10, mm_t11, mm_t12, mm_t13, za_1, za_64, za_65, za_66, za_67, za_68, za_71, za_80, za_89, za_98, za_103, za_110, za_121, za_122, za_123, za_124, za_125, za_126, za_188, za_193, za_194, za_195, za_286, za_288, za_289, za_290, za_291, za_292, za_293, za_294, za_295, za_296, za_297, za_298, za_299, za_300, za_301, za_302, za_303, za_304, za_305, za_306, za_307, za_308, za_309, za_310, za_311, za_312]) ?_
          refine zwp_f (by try simp (disch := first | assumption | exact isR33 | exact isT104 | exact isF99 | exact isF101 | exact isR3 | omega | (refine isTk ?_; omega) | (refine isOk isR33 ?_; omega) | (refine isOk ?_ ?_; assumption; omega)) only [mm_r, mm_rl, mm_add, mm_sub, mm_mul, mm_addJ, mm_mulJ, mm_lt, mm_le, mm_eq, mm_z, mm_cl, mm_w, mm_wl, mm_ite, mm_i2l, mm_l2i, mm_ltJ, mm_leJ, mm_eqJ, mm_clt, mm_cle, mm_cgt, mm_cge, mm_ceq, mm_b, mm_nb, mm_nb0, mm_nb1, mm_vb0, mm_vb1, mm_vbc, mm_vy0, mm_vy1, mm_at, mm_ne, mm_nj, mm_Lw, mm_Nw, mm_atJ, mm_neJ, mm_njJ, zbI_s, zbV_s, zbJ_s, cond_t, Bool.true_and, Bool.and_true, if_true, if_false, not_true, not_false_iff, Classical.not_not, zel_r, zel_42, zel_12, zel_71, zel_80, zel_89, zel_110, zel_188, zel_103, zel_195, zr_o, zr_1, zr_2, zr_3, zr_4, zr_5, zr_6, zr_7, zr_8, zr_9, zq_o, zq_v, zt_o, zt_1, zt_2, zt_3, zt_4, zt_5, zf_o, zf_1, za_w1, za_w2, za_w3, za_cm, za_sl, Int.toNat_natCast, Int.toNat_natCast_add_one, mm_t0, mm_t1, mm_t2, mm_t3, mm_t4, mm_t5, mm_t6, mm_t7, mm_t8, mm_t9, mm_t10, mm_t11, mm_t12, mm_t13, za_1, za_64, za_65, za_66, za_67, za_68, za_71, za_80, za_89, za_98, za_103, za_110, za_121, za_122, za_123, za_124, za_125, za_126, za_188, za_193, za_194, za_195, za_286, za_288, za_289, za_290, za_291, za_292, za_293, za_294, za_295, za_296, za_297, za_298, za_299, za_300, za_301, za_302, za_303, za_304, za_305, za_306, za_307, za_308, za_309, za_310, za_311, za_312, e]; first | done | omega) ?_
          exact zwp_ret ⟨rfl, mf.rf, hS⟩
  · rw [(Ewr_a (i := i) (y := y) q).1, (Ewr_a (i := i) (y := y) q).2, if_neg q]
    refine zwp_f (by decide) ?_
    exact zwp_ret ⟨rfl, mf.rf, hS⟩
theorem rq_write {s i : Int} {y : Int64} {σ : zM} {S : sls} (hW : slW S) (hS : slM σ S) (s0 : -2147483648 ≤ s) (s1 : s < 2147483648) (i0 : -2147483648 ≤ i) (i1 : i < 2147483648) : zwp (zcall 277 [.ref 287, .int (Int32.ofInt s), .int (Int32.ofInt i), .long y] σ) (fun v τ => v = some (.int (Int32.ofInt (Ewr S s i))) ∧ mf slmS σ τ ∧ slM τ (Swr S s i y)) := by
  refine zwp_of (fun r h => zcc_277 (ze_277_0 _ _ _ _ r h)) ?_
  rw [sp_274s s0 s1, zbI_s]
  by_cases q : isSl s
  · have e := (hS s q.1 q.2).1
    have e2 := (hS s q.1 q.2).2.1
    have r := hW s q.1 q.2
    rw [if_pos q]
    refine zwp_t (by decide) ?_
    refine zwp_cd (by simp (disch := first | assumption | exact isR33 | exact isT104 | exact isF99 | exact isF101 | exact isR3 | omega | (refine isTk ?_; omega) | (refine isOk isR33 ?_; omega) | (refine isOk ?_ ?_; assumption; omega)) only [mm_r, mm_rl, mm_add, mm_sub, mm_mul, mm_addJ, mm_mulJ, mm_lt, mm_le, mm_eq, mm_z, mm_cl, mm_w, mm_wl, mm_ite, mm_i2l, mm_l2i, mm_ltJ, mm_leJ, mm_eqJ, mm_clt, mm_cle, mm_cgt, mm_cge, mm_ceq, mm_b, mm_nb, mm_nb0, mm_nb1, mm_vb0, mm_vb1, mm_vbc, mm_vy0, mm_vy1, mm_at, mm_ne, mm_nj, mm_Lw, mm_Nw, mm_atJ, mm_neJ, mm_njJ, zbI_s, zbV_s, zbJ_s, cond_t, Bool.true_and, Bool.and_true, if_true, if_false, not_true, not_false_iff, Classical.not_not, zel_r, zel_42, zel_12, zel_71, zel_80, zel_89, zel_110, zel_188, zel_103, zel_195, zr_o, zr_1, zr_2, zr_3, zr_4, zr_5, zr_6, zr_7, zr_8, zr_9, zq_o, zq_v, zt_o, zt_1, zt_2, zt_3, zt_4, zt_5, zf_o, zf_1, za_w1, za_w2, za_w3, za_cm, za_sl, Int.toNat_natCast, Int.toNat_natCast_add_one, mm_t0, mm_t1, mm_t2, mm_t3, mm_t4, mm_t5, mm_t6, mm_t7, mm_t8, mm_t9, mm_t10, mm_t11, mm_t12, mm_t13, za_1, za_64, za_65, za_66, za_67, za_68, za_71, za_80, za_89, za_98, za_103, za_110, za_121, za_122, za_123, za_124, za_125, za_126, za_188, za_193, za_194, za_195, za_286, za_288, za_289, za_290, za_291, za_292, za_293, za_294, za_295, za_296, za_297, za_298, za_299, za_300, za_301, za_302, za_303, za_304, za_305, za_306, za_307, za_308, za_309, za_310, za_311, za_312]) ?_
    by_cases q2 : S.1 s = -1
    · rw [(Ewr_b (i := i) (y := y) q q2).1, (Ewr_b (i := i) (y := y) q q2).2]
      refine zwp_f (by try simp (disch := first | assumption | exact isR33 | exact isT104 | exact isF99 | exact isF101 | exact isR3 | omega | (refine isTk ?_; omega) | (refine isOk isR33 ?_; omega) | (refine isOk ?_ ?_; assumption; omega)) only [mm_r, mm_rl, mm_add, mm_sub, mm_mul, mm_addJ, mm_mulJ, mm_lt, mm_le, mm_eq, mm_z, mm_cl, mm_w, mm_wl, mm_ite, mm_i2l, mm_l2i, mm_ltJ, mm_leJ, mm_eqJ, mm_clt, mm_cle, mm_cgt, mm_cge, mm_ceq, mm_b, mm_nb, mm_nb0, mm_nb1, mm_vb0, mm_vb1, mm_vbc, mm_vy0, mm_vy1, mm_at, mm_ne, mm_nj, mm_Lw, mm_Nw, mm_atJ, mm_neJ, mm_njJ, zbI_s, zbV_s, zbJ_s, cond_t, Bool.true_and, Bool.and_true, if_true, if_false, not_true, not_false_iff, Classical.not_not, zel_r, zel_42, zel_12, zel_71, zel_80, zel_89, zel_110, zel_188, zel_103, zel_195, zr_o, zr_1, zr_2, zr_3, zr_4, zr_5, zr_6, zr_7, zr_8, zr_9, zq_o, zq_v, zt_o, zt_1, zt_2, zt_3, zt_4, zt_5, zf_o, zf_1, za_w1, za_w2, za_w3, za_cm, za_sl, Int.toNat_natCast, Int.toNat_natCast_add_one, mm_t0, mm_t1, mm_t2, mm_t3, mm_t4, mm_t5, mm_t6, mm_t7, mm_t8, mm_t9, mm_t10, mm_t11, mm_t12, mm_t13, za_1, za_64, za_65, za_66, za_67, za_68, za_71, za_80, za_89, za_98, za_103, za_110, za_121, za_122, za_123, za_124, za_125, za_126, za_188, za_193, za_194, za_195, za_286, za_288, za_289, za_290, za_291, za_292, za_293, za_294, za_295, za_296, za_297, za_298, za_299, za_300, za_301, za_302, za_303, za_304, za_305, za_306, za_307, za_308, za_309, za_310, za_311, za_312, e, q2]; first | done | omega) ?_
      exact zwp_ret ⟨rfl, mf.rf, hS⟩
    · refine zwp_t (by try simp (disch := first | assumption | exact isR33 | exact isT104 | exact isF99 | exact isF101 | exact isR3 | omega | (refine isTk ?_; omega) | (refine isOk isR33 ?_; omega) | (refine isOk ?_ ?_; assumption; omega)) only [mm_r, mm_rl, mm_add, mm_sub, mm_mul, mm_addJ, mm_mulJ, mm_lt, mm_le, mm_eq, mm_z, mm_cl, mm_w, mm_wl, mm_ite, mm_i2l, mm_l2i, mm_ltJ, mm_leJ, mm_eqJ, mm_clt, mm_cle, mm_cgt, mm_cge, mm_ceq, mm_b, mm_nb, mm_nb0, mm_nb1, mm_vb0, mm_vb1, mm_vbc, mm_vy0, mm_vy1, mm_at, mm_ne, mm_nj, mm_Lw, mm_Nw, mm_atJ, mm_neJ, mm_njJ, zbI_s, zbV_s, zbJ_s, cond_t, Bool.true_and, Bool.and_true, if_true, if_false, not_true, not_false_iff, Classical.not_not, zel_r, zel_42, zel_12, zel_71, zel_80, zel_89, zel_110, zel_188, zel_103, zel_195, zr_o, zr_1, zr_2, zr_3, zr_4, zr_5, zr_6, zr_7, zr_8, zr_9, zq_o, zq_v, zt_o, zt_1, zt_2, zt_3, zt_4, zt_5, zf_o, zf_1, za_w1, za_w2, za_w3, za_cm, za_sl, Int.toNat_natCast, Int.toNat_natCast_add_one, mm_t0, mm_t1, mm_t2, mm_t3, mm_t4, mm_t5, mm_t6, mm_t7, mm_t8, mm_t9, mm_t10, mm_t11, mm_t12, mm_t13, za_1, za_64, za_65, za_66, za_67, za_68, za_71, za_80, za_89, za_98, za_103, za_110, za_121, za_122, za_123, za_124, za_125, za_126, za_188, za_193, za_194, za_195, za_286, za_288, za_289, za_290, za_291, za_292, za_293, za_294, za_295, za_296, za_297, za_298, za_299, za_300, za_301, za_302, za_303, za_304, za_305, za_306, za_307, za_308, za_309, za_310, za_311, za_312, e]; first | done | omega) ?_
      refine zwp_cd (by simp (disch := first | assumption | exact isR33 | exact isT104 | exact isF99 | exact isF101 | exact isR3 | omega | (refine isTk ?_; omega) | (refine isOk isR33 ?_; omega) | (refine isOk ?_ ?_; assumption; omega)) only [mm_r, mm_rl, mm_add, mm_sub, mm_mul, mm_addJ, mm_mulJ, mm_lt, mm_le, mm_eq, mm_z, mm_cl, mm_w, mm_wl, mm_ite, mm_i2l, mm_l2i, mm_ltJ, mm_leJ, mm_eqJ, mm_clt, mm_cle, mm_cgt, mm_cge, mm_ceq, mm_b, mm_nb, mm_nb0, mm_nb1, mm_vb0, mm_vb1, mm_vbc, mm_vy0, mm_vy1, mm_at, mm_ne, mm_nj, mm_Lw, mm_Nw, mm_atJ, mm_neJ, mm_njJ, zbI_s, zbV_s, zbJ_s, cond_t, Bool.true_and, Bool.and_true, if_true, if_false, not_true, not_false_iff, Classical.not_not, zel_r, zel_42, zel_12, zel_71, zel_80, zel_89, zel_110, zel_188, zel_103, zel_195, zr_o, zr_1, zr_2, zr_3, zr_4, zr_5, zr_6, zr_7, zr_8, zr_9, zq_o, zq_v, zt_o, zt_1, zt_2, zt_3, zt_4, zt_5, zf_o, zf_1, za_w1, za_w2, za_w3, za_cm, za_sl, Int.toNat_natCast, Int.toNat_natCast_add_one, mm_t0, mm_t1, mm_t2, mm_t3, mm_t4, mm_t5, mm_t6, mm_t7, mm_t8, mm_t9, mm_t10, mm_t11, mm_t12, mm_t13, za_1, za_64, za_65, za_66, za_67, za_68, za_71, za_80, za_89, za_98, za_103, za_110, za_121, za_122, za_123, za_124, za_125, za_126, za_188, za_193, za_194, za_195, za_286, za_288, za_289, za_290, za_291, za_292, za_293, za_294, za_295, za_296, za_297, za_298, za_299, za_300, za_301, za_302, za_303, za_304, za_305, za_306, za_307, za_308, za_309, za_310, za_311, za_312]) ?_
      have s3 := sp_163 (v := i) (a := 0) (b := S.1 s - 1) (σ := σ) (by omega) (by omega) (by omega) (by omega) (by omega) (by omega)
      rw [mm_i2l i0 i1, mm_cl (n := s) (by omega) (by omega), mm_r, e, mm_sub, mm_i2l (by omega) (by omega), s3, zbI_s]
      by_cases q3 : 0 ≤ i ∧ i < S.1 s
      · rw [(Ewr_d (y := y) q q3).1, (Ewr_d (y := y) q q3).2, if_pos (show 0 ≤ i ∧ i ≤ S.1 s - 1 by omega)]
        refine zwp_t (by decide) ?_
        refine zwp_cd (by simp (disch := first | assumption | exact isR33 | exact isT104 | exact isF99 | exact isF101 | exact isR3 | omega | (refine isTk ?_; omega) | (refine isOk isR33 ?_; omega) | (refine isOk ?_ ?_; assumption; omega)) only [mm_r, mm_rl, mm_add, mm_sub, mm_mul, mm_addJ, mm_mulJ, mm_lt, mm_le, mm_eq, mm_z, mm_cl, mm_w, mm_wl, mm_ite, mm_i2l, mm_l2i, mm_ltJ, mm_leJ, mm_eqJ, mm_clt, mm_cle, mm_cgt, mm_cge, mm_ceq, mm_b, mm_nb, mm_nb0, mm_nb1, mm_vb0, mm_vb1, mm_vbc, mm_vy0, mm_vy1, mm_at, mm_ne, mm_nj, mm_Lw, mm_Nw, mm_atJ, mm_neJ, mm_njJ, zbI_s, zbV_s, zbJ_s, cond_t, Bool.true_and, Bool.and_true, if_true, if_false, not_true, not_false_iff, Classical.not_not, zel_r, zel_42, zel_12, zel_71, zel_80, zel_89, zel_110, zel_188, zel_103, zel_195, zr_o, zr_1, zr_2, zr_3, zr_4, zr_5, zr_6, zr_7, zr_8, zr_9, zq_o, zq_v, zt_o, zt_1, zt_2, zt_3, zt_4, zt_5, zf_o, zf_1, za_w1, za_w2, za_w3, za_cm, za_sl, Int.toNat_natCast, Int.toNat_natCast_add_one, mm_t0, mm_t1, mm_t2, mm_t3, mm_t4, mm_t5, mm_t6, mm_t7, mm_t8, mm_t9, mm_t10, mm_t11, mm_t12, mm_t13, za_1, za_64, za_65, za_66, za_67, za_68, za_71, za_80, za_89, za_98, za_103, za_110, za_121, za_122, za_123, za_124, za_125, za_126, za_188, za_193, za_194, za_195, za_286, za_288, za_289, za_290, za_291, za_292, za_293, za_294, za_295, za_296, za_297, za_298, za_299, za_300, za_301, za_302, za_303, za_304, za_305, za_306, za_307, za_308, za_309, za_310, za_311, za_312]) ?_
        rw [mm_r, e2, sp_275 (by omega) (by omega)]
        show zwp (cond _ (zlet (zsJ σ _ _ _) _) _) _
        rw [zs_l, mm_mul, mm_add]
        refine zwp_cd (za_311 (by omega) (by omega)) ?_
        rw [mm_cl (n := 60 * s + i) (by omega) (by omega)]
        refine zwp_let (zwp_ret ⟨rfl, (mf.rf (S := slmS)).zwl _ _ _ (by unfold slmS; omega), fun k k0 k1 => ?_⟩)
        obtain ⟨f1, f2, f3⟩ := hS k k0 k1
        refine ⟨f1, f2, fun j j0 j1 => ?_⟩
        show _ = if k = s ∧ j = i then (cutv (S.2.1 s) y).toInt else S.2.2 k j
        have b0 := Int64.le_toInt (cutv (S.2.1 s) y)
        have b1 := Int64.toInt_lt (cutv (S.2.1 s) y)
        by_cases z : k = s ∧ j = i
        · rw [if_pos z, z.1, z.2]
          exact mm_atJ rfl rfl (by omega) (by omega)
        · rw [if_neg z, mm_njJ (by omega)]
          exact f3 j j0 j1
      · rw [(Ewr_c (y := y) q q2 q3).1, (Ewr_c (y := y) q q2 q3).2, if_neg (show ¬ (0 ≤ i ∧ i ≤ S.1 s - 1) by omega)]
        refine zwp_f (by decide) ?_
        exact zwp_ret ⟨rfl, mf.rf, hS⟩
  · rw [(Ewr_a (i := i) (y := y) q).1, (Ewr_a (i := i) (y := y) q).2, if_neg q]
    refine zwp_f (by decide) ?_
    exact zwp_ret ⟨rfl, mf.rf, hS⟩
