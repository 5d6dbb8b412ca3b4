/-! CALLS: forged -/
theorem rem3 : ∀ n : Nat, n < 61 → ((Int32.ofInt n - Int32.ofInt n / Int32.ofInt 3 * Int32.ofInt 3 = 0) ↔ n % 3 = 0) := by decide +kernel
theorem rem4 : ∀ n : Nat, n < 61 → ((Int32.ofInt n - Int32.ofInt n / Int32.ofInt 4 * Int32.ofInt 4 = 0) ↔ n % 4 = 0) := by decide +kernel
theorem rem3i {n : Int} (h0 : 0 ≤ n) (h1 : n ≤ 60) : (Int32.ofInt n - Int32.ofInt n / Int32.ofInt 3 * Int32.ofInt 3 = 0) ↔ n % 3 = 0 := by
  have := rem3 n.toNat (by omega)
  rw [Int.toNat_of_nonneg h0] at this
  rw [this]
  omega
theorem rem4i {n : Int} (h0 : 0 ≤ n) (h1 : n ≤ 60) : (Int32.ofInt n - Int32.ofInt n / Int32.ofInt 4 * Int32.ofInt 4 = 0) ↔ n % 4 = 0 := by
  have := rem4 n.toNat (by omega)
  rw [Int.toNat_of_nonneg h0] at this
  rw [this]
  omega
theorem slC.at {σ : zM} {S : sls} (hS : slC σ S) (hW : slW S) {s i : Int} (h : isSl s) (i0 : 0 ≤ i) (i1 : i < S.1 s) : zcall 86 [.ref 187, .int (Int32.ofInt s), .int (Int32.ofInt i)] σ = some (some (.long (Int64.ofInt (S.2.2 s i))), σ) ∧ -9223372036854775808 ≤ S.2.2 s i ∧ S.2.2 s i < 9223372036854775808 := by
  obtain ⟨e1, -, e3⟩ := hS s h.1 h.2
  have r := hW s h.1 h.2
  have e := e3 i i0 (by omega)
  have m1 := mm_loJ σ (189 + s.toNat) i.toNat
  have m2 := mm_hiJ σ (189 + s.toNat) i.toNat
  refine ⟨?_, by omega, by omega⟩
  rw [sp_86 h.1 h.2 i0 (by omega) (by omega), e]
theorem slM.at {σ : zM} {S : sls} (hS : slM σ S) (hW : slW S) {s i : Int} (h : isSl s) (i0 : 0 ≤ i) (i1 : i < S.1 s) : zcall 257 [.ref 287, .int (Int32.ofInt s), .int (Int32.ofInt i)] σ = some (some (.long (Int64.ofInt (S.2.2 s i))), σ) ∧ -9223372036854775808 ≤ S.2.2 s i ∧ S.2.2 s i < 9223372036854775808 := by
  obtain ⟨e1, -, e3⟩ := hS s h.1 h.2
  have r := hW s h.1 h.2
  have e := e3 i i0 (by omega)
  have m1 := mm_loJ σ 311 (60 * s + i).toNat
  have m2 := mm_hiJ σ 311 (60 * s + i).toNat
  refine ⟨?_, by omega, by omega⟩
  refine zcc_257 (ze_257_0 _ _ _ _ ?_)
  rw [mm_mul, mm_add, za_311 (by omega) (by omega), cond_t, mm_cl (by omega) (by omega), mm_rl, e]
theorem slC.fr {σ τ : zM} {S : sls} (h : slC σ S) (hf : ∀ b, slcS b → (∀ k, zN τ b k = zN σ b k) ∧ ∀ k, zL τ b k = zL σ b k) : slC τ S := fun s s0 s1 => by
  obtain ⟨e1, e2, e3⟩ := h s s0 s1
  exact ⟨((hf 194 (by unfold slcS; omega)).1 _).trans e1, ((hf 193 (by unfold slcS; omega)).1 _).trans e2, fun i i0 i1 => ((hf _ (by unfold slcS; omega)).2 _).trans (e3 i i0 i1)⟩
theorem slM.fr {σ τ : zM} {S : sls} (h : slM σ S) (hf : ∀ b, slmS b → (∀ k, zN τ b k = zN σ b k) ∧ ∀ k, zL τ b k = zL σ b k) : slM τ S := fun s s0 s1 => by
  obtain ⟨e1, e2, e3⟩ := h s s0 s1
  exact ⟨((hf 309 (by unfold slmS; omega)).1 _).trans e1, ((hf 310 (by unfold slmS; omega)).1 _).trans e2, fun i i0 i1 => ((hf 311 (by unfold slmS; omega)).2 _).trans (e3 i i0 i1)⟩
/-- a book: orders and towns -/
def bkB (W : Int → Int) (V : Int → Int) : Nat → Int → Bool
  | 0, _ => true
  | k + 1, i => decide (inO W (V i)) && decide (inT W (V (i + 1))) && bkB W V k (i + 3)
/-- when he first comes there, or none -/
def fcT (W : Int → Int) (o t : Int) : Int := if zfst (fun i => decide ((WAY W o).2 i = t)) (WAY W o).1.toNat 0 = -1 then -1 else TIo W noD o (zfst (fun i => decide ((WAY W o).2 i = t)) (WAY W o).1.toNat 0).toNat
def fgB (W : Int → Int) (o t h : Int) : Bool := !decide (inH W (fcT W o t) ∧ h = fcT W o t)
def fgC (W : Int → Int) (V : Int → Int) : Nat → Int → Int → Int
  | 0, _, c => c
  | k + 1, i, c => fgC W V k (i + 3) (if fgB W (V i) (V (i + 1)) (V (i + 2)) = true then c + 1 else c)
def Efg (W : Int → Int) (S : sls) (s : Int) : Int := if isSl s ∧ 0 < W 0 then (if S.1 s = -1 then -6 else if S.1 s % 3 = 0 ∧ bkB W (S.2.2 s) (S.1 s / 3).toNat 0 = true then fgC W (S.2.2 s) (S.1 s / 3).toNat 0 0 else -2) else -2
theorem Efg_a {W : Int → Int} {S : sls} {s : Int} (q : ¬ (isSl s ∧ 0 < W 0)) : Efg W S s = -2 := if_neg q
theorem Efg_b {W : Int → Int} {S : sls} {s : Int} (q : isSl s ∧ 0 < W 0) (h : S.1 s = -1) : Efg W S s = -6 := (if_pos q).trans (if_pos h)
theorem Efg_c {W : Int → Int} {S : sls} {s : Int} (q : isSl s ∧ 0 < W 0) (h : S.1 s ≠ -1) (h2 : ¬ (S.1 s % 3 = 0 ∧ bkB W (S.2.2 s) (S.1 s / 3).toNat 0 = true)) : Efg W S s = -2 := (if_pos q).trans ((if_neg h).trans (if_neg h2))
theorem Efg_d {W : Int → Int} {S : sls} {s : Int} (q : isSl s ∧ 0 < W 0) (h : S.1 s ≠ -1) (h2 : S.1 s % 3 = 0 ∧ bkB W (S.2.2 s) (S.1 s / 3).toNat 0 = true) : Efg W S s = fgC W (S.2.2 s) (S.1 s / 3).toNat 0 0 := (if_pos q).trans ((if_neg h).trans (if_pos h2))
theorem lp_97 {σ : zM} {p : Nat} {w : wy} {R I O : Nat → Int} {t : Int} (ha : trD σ p w R I O) (t0 : -2147483648 ≤ t) (t1 : t < 2147483648) : ∀ (k i : Nat), (i : Int) + k = w.1 → zwp (zev 97 2 [some (.ref p), some (.int (Int32.ofInt t)), some (.int (Int32.ofInt i))] [] σ) (fun v τ => v = some (.int (Int32.ofInt (if zfst (fun i => decide (w.2 i = t)) k i = -1 then -1 else I (zfst (fun i => decide (w.2 i = t)) k i).toNat))) ∧ τ = σ)
  | 0, i, e => by
    obtain ⟨ta, a0, a1, a2, a3⟩ := ha
    have e1 : (if zfst (fun i => decide (w.2 i = t)) 0 i = -1 then -1 else I (zfst (fun i => decide (w.2 i = t)) 0 i).toNat) = -1 := if_pos rfl
    rw [e1]
    refine zwp_of (fun r h => ze_97_2 _ _ _ _ r h) ?_
    refine zwp_cd (zt_o ta) ?_
    refine zwp_t (by try simp (disch := first | assumption | exact isR33 | exact isT104 | exact isF99 | exact isF101 | exact isR3 | omega | (refine isTk ?_; omega) | (refine isOk isR33 ?_; omega) | (refine isOk ?_ ?_; assumption; omega)) only [mm_r, mm_rl, mm_add, mm_sub, mm_mul, mm_addJ, mm_mulJ, mm_lt, mm_le, mm_eq, mm_z, mm_cl, mm_w, mm_wl, mm_ite, mm_i2l, mm_l2i, mm_ltJ, mm_leJ, mm_eqJ, mm_clt, mm_cle, mm_cgt, mm_cge, mm_ceq, mm_b, mm_nb, mm_nb0, mm_nb1, mm_vb0, mm_vb1, mm_vbc, mm_vy0, mm_vy1, mm_at, mm_ne, mm_nj, mm_Lw, mm_Nw, mm_atJ, mm_neJ, mm_njJ, zbI_s, zbV_s, zbJ_s, cond_t, Bool.true_and, Bool.and_true, if_true, if_false, not_true, not_false_iff, Classical.not_not, zel_r, zel_42, zel_12, zel_71, zel_80, zel_89, zel_110, zel_188, zel_103, zel_195, zr_o, zr_1, zr_2, zr_3, zr_4, zr_5, zr_6, zr_7, zr_8, zr_9, zq_o, zq_v, zt_o, zt_1, zt_2, zt_3, zt_4, zt_5, zf_o, zf_1, za_w1, za_w2, za_w3, za_cm, za_sl, Int.toNat_natCast, Int.toNat_natCast_add_one, mm_t0, mm_t1, mm_t2, mm_t3, mm_t4, mm_t5, mm_t6, mm_t7, mm_t8, mm_t9, mm_t10, mm_t11, mm_t12, mm_t13, za_1, za_64, za_65, za_66, za_67, za_68, za_71, za_80, za_89, za_98, za_103, za_110, za_121, za_122, za_123, za_124, za_125, za_126, za_188, za_193, za_194, za_195, za_286, za_288, za_289, za_290, za_291, za_292, za_293, za_294, za_295, za_296, za_297, za_298, za_299, za_300, za_301, za_302, za_303, za_304, za_305, za_306, za_307, za_308, za_309, za_310, za_311, za_312, a2]
                     first | done | omega) ?_
    exact zwp_ret ⟨rfl, rfl⟩
  | k + 1, i, e => by
    have ha' := ha
    obtain ⟨ta, a0, a1, a2, a3⟩ := ha
    obtain ⟨c1, c2, -⟩ := a3 i (by omega)
    have m1 := mm_lo σ (p + 1) i
    have m2 := mm_hi σ (p + 1) i
    have ez : zfst (fun i => decide (w.2 i = t)) (k + 1) i = if decide (w.2 i = t) = true then (i : Int) else zfst (fun i => decide (w.2 i = t)) k ((i : Int) + 1) := rfl
    refine zwp_of (fun r h => ze_97_2 _ _ _ _ r h) ?_
    refine zwp_cd (zt_o ta) ?_
    refine zwp_f (by try simp (disch := first | assumption | exact isR33 | exact isT104 | exact isF99 | exact isF101 | exact isR3 | omega | (refine isTk ?_; omega) | (refine isOk isR33 ?_; omega) | (refine isOk ?_ ?_; assumption; omega)) only [mm_r, mm_rl, mm_add, mm_sub, mm_mul, mm_addJ, mm_mulJ, mm_lt, mm_le, mm_eq, mm_z, mm_cl, mm_w, mm_wl, mm_ite, mm_i2l, mm_l2i, mm_ltJ, mm_leJ, mm_eqJ, mm_clt, mm_cle, mm_cgt, mm_cge, mm_ceq, mm_b, mm_nb, mm_nb0, mm_nb1, mm_vb0, mm_vb1, mm_vbc, mm_vy0, mm_vy1, mm_at, mm_ne, mm_nj, mm_Lw, mm_Nw, mm_atJ, mm_neJ, mm_njJ, zbI_s, zbV_s, zbJ_s, cond_t, Bool.true_and, Bool.and_true, if_true, if_false, not_true, not_false_iff, Classical.not_not, zel_r, zel_42, zel_12, zel_71, zel_80, zel_89, zel_110, zel_188, zel_103, zel_195, zr_o, zr_1, zr_2, zr_3, zr_4, zr_5, zr_6, zr_7, zr_8, zr_9, zq_o, zq_v, zt_o, zt_1, zt_2, zt_3, zt_4, zt_5, zf_o, zf_1, za_w1, za_w2, za_w3, za_cm, za_sl, Int.toNat_natCast, Int.toNat_natCast_add_one, mm_t0, mm_t1, mm_t2, mm_t3, mm_t4, mm_t5, mm_t6, mm_t7, mm_t8, mm_t9, mm_t10, mm_t11, mm_t12, mm_t13, za_1, za_64, za_65, za_66, za_67, za_68, za_71, za_80, za_89, za_98, za_103, za_110, za_121, za_122, za_123, za_124, za_125, za_126, za_188, za_193, za_194, za_195, za_286, za_288, za_289, za_290, za_291, za_292, za_293, za_294, za_295, za_296, za_297, za_298, za_299, za_300, za_301, za_302, za_303, za_304, za_305, za_306, za_307, za_308, za_309, za_310, za_311, za_312, a2]
                     first | done | omega) ?_
    refine zwp_cd (zt_o ta) (zwp_cd (zt_1 ta (by omega) (by omega)) ?_)
    by_cases q : w.2 i = t
    · have ez2 : zfst (fun i => decide (w.2 i = t)) (k + 1) i = (i : Int) := ez.trans (if_pos (decide_eq_true q))
      have eI : (if zfst (fun i => decide (w.2 i = t)) (k + 1) i = -1 then -1 else I (zfst (fun i => decide (w.2 i = t)) (k + 1) i).toNat) = I i := by
        rw [ez2, if_neg (by omega), Int.toNat_natCast]
      rw [eI]
      refine zwp_f (by try simp (disch := first | assumption | exact isR33 | exact isT104 | exact isF99 | exact isF101 | exact isR3 | omega | (refine isTk ?_; omega) | (refine isOk isR33 ?_; omega) | (refine isOk ?_ ?_; assumption; omega)) only [mm_r, mm_rl, mm_add, mm_sub, mm_mul, mm_addJ, mm_mulJ, mm_lt, mm_le, mm_eq, mm_z, mm_cl, mm_w, mm_wl, mm_ite, mm_i2l, mm_l2i, mm_ltJ, mm_leJ, mm_eqJ, mm_clt, mm_cle, mm_cgt, mm_cge, mm_ceq, mm_b, mm_nb, mm_nb0, mm_nb1, mm_vb0, mm_vb1, mm_vbc, mm_vy0, mm_vy1, mm_at, mm_ne, mm_nj, mm_Lw, mm_Nw, mm_atJ, mm_neJ, mm_njJ, zbI_s, zbV_s, zbJ_s, cond_t, Bool.true_and, Bool.and_true, if_true, if_false, not_true, not_false_iff, Classical.not_not, zel_r, zel_42, zel_12, zel_71, zel_80, zel_89, zel_110, zel_188, zel_103, zel_195, zr_o, zr_1, zr_2, zr_3, zr_4, zr_5, zr_6, zr_7, zr_8, zr_9, zq_o, zq_v, zt_o, zt_1, zt_2, zt_3, zt_4, zt_5, zf_o, zf_1, za_w1, za_w2, za_w3, za_cm, za_sl, Int.toNat_natCast, Int.toNat_natCast_add_one, mm_t0, mm_t1, mm_t2, mm_t3, mm_t4, mm_t5, mm_t6, mm_t7, mm_t8, mm_t9, mm_t10, mm_t11, mm_t12, mm_t13, za_1, za_64, za_65, za_66, za_67, za_68, za_71, za_80, za_89, za_98, za_103, za_110, za_121, za_122, za_123, za_124, za_125, za_126, za_188, za_193, za_194, za_195, za_286, za_288, za_289, za_290, za_291, za_292, za_293, za_294, za_295, za_296, za_297, za_298, za_299, za_300, za_301, za_302, za_303, za_304, za_305, za_306, za_307, za_308, za_309, za_310, za_311, za_312, c1, q]; first | done | omega) ?_
      refine zwp_cd (zt_o ta) (zwp_cd (zt_4 ta (by omega) (by omega)) ?_)
      rw [mm_cl (by omega) (by omega), mm_r, Int.toNat_natCast, c2]
      exact zwp_ret ⟨rfl, rfl⟩
    · have ez2 : zfst (fun i => decide (w.2 i = t)) (k + 1) i = zfst (fun i => decide (w.2 i = t)) k ((i : Int) + 1) := ez.trans (if_neg (fun h => q (of_decide_eq_true h)))
      rw [ez2]
      refine zwp_t (by try simp (disch := first | assumption | exact isR33 | exact isT104 | exact isF99 | exact isF101 | exact isR3 | omega | (refine isTk ?_; omega) | (refine isOk isR33 ?_; omega) | (refine isOk ?_ ?_; assumption; omega)) only [mm_r, mm_rl, mm_add, mm_sub, mm_mul, mm_addJ, mm_mulJ, mm_lt, mm_le, mm_eq, mm_z, mm_cl, mm_w, mm_wl, mm_ite, mm_i2l, mm_l2i, mm_ltJ, mm_leJ, mm_eqJ, mm_clt, mm_cle, mm_cgt, mm_cge, mm_ceq, mm_b, mm_nb, mm_nb0, mm_nb1, mm_vb0, mm_vb1, mm_vbc, mm_vy0, mm_vy1, mm_at, mm_ne, mm_nj, mm_Lw, mm_Nw, mm_atJ, mm_neJ, mm_njJ, zbI_s, zbV_s, zbJ_s, cond_t, Bool.true_and, Bool.and_true, if_true, if_false, not_true, not_false_iff, Classical.not_not, zel_r, zel_42, zel_12, zel_71, zel_80, zel_89, zel_110, zel_188, zel_103, zel_195, zr_o, zr_1, zr_2, zr_3, zr_4, zr_5, zr_6, zr_7, zr_8, zr_9, zq_o, zq_v, zt_o, zt_1, zt_2, zt_3, zt_4, zt_5, zf_o, zf_1, za_w1, za_w2, za_w3, za_cm, za_sl, Int.toNat_natCast, Int.toNat_natCast_add_one, mm_t0, mm_t1, mm_t2, mm_t3, mm_t4, mm_t5, mm_t6, mm_t7, mm_t8, mm_t9, mm_t10, mm_t11, mm_t12, mm_t13, za_1, za_64, za_65, za_66, za_67, za_68, za_71, za_80, za_89, za_98, za_103, za_110, za_121, za_122, za_123, za_124, za_125, za_126, za_188, za_193, za_194, za_195, za_286, za_288, za_289, za_290, za_291, za_292, za_293, za_294, za_295, za_296, za_297, za_298, za_299, za_300, za_301, za_302, za_303, za_304, za_305, za_306, za_307, za_308, za_309, za_310, za_311, za_312, c1]; first | done | omega) ?_
      rw [mm_add]
      exact lp_97 ha' t0 t1 k (i + 1) (by omega)
theorem sp_97 {σ : zM} {W : Int → Int} (hW : WOK W) (hC : ctC σ W) {o t : Int} (h : inO W o) (t0 : -2147483648 ≤ t) (t1 : t < 2147483648) : zwp (zcall 97 [.ref (127 + 6 * o.toNat), .int (Int32.ofInt t)] σ) (fun v τ => v = some (.int (Int32.ofInt (fcT W o t))) ∧ τ = σ) := by
  obtain ⟨-, w0, w1, -, -⟩ := hW.tr h noD
  refine zwp_of (fun r h => zcc_97 (ze_97_0 _ _ _ r h)) ?_
  exact lp_97 (hC.trD hW h) t0 t1 (WAY W o).1.toNat 0 (by omega)
theorem fcT_rng {W : Int → Int} (hW : WOK W) {o t : Int} (h : inO W o) : -1 ≤ fcT W o t ∧ fcT W o t ≤ 9000 := by
  obtain ⟨-, w0, w1, t1, -⟩ := hW.tr h noD
  have r := zfst_rng (fun i => decide ((WAY W o).2 i = t)) (WAY W o).1.toNat 0 (by omega)
  unfold fcT
  split
  · omega
  · next q =>
    have := t1 (zfst (fun i => decide ((WAY W o).2 i = t)) (WAY W o).1.toNat 0).toNat (by omega)
    omega
/-! the class's -/
theorem lp_152 {σ : zM} {W : Int → Int} {S : sls} {s : Int} (hW : WOK W) (hL : cL σ 33 W) (hS : slC σ S) (hw : slW S) (h : isSl s) : ∀ (k i : Nat), (i : Int) + 3 * k = S.1 s → zwp (zev 152 20 [some (.ref 0), some (.int (Int32.ofInt s)), some (.int (Int32.ofInt (S.1 s))), some (.int (Int32.ofInt i))] [] σ) (fun v τ => v = some (.int (Int32.ofInt (if bkB W (S.2.2 s) k i = true then 1 else 0))) ∧ τ = σ)
  | 0, i, e => by
    have r := hw s h.1 h.2
    refine zwp_of (fun r h => ze_152_20 _ _ _ _ r h) ?_
    refine zwp_t (by try simp (disch := first | assumption | exact isR33 | exact isT104 | exact isF99 | exact isF101 | exact isR3 | omega | (refine isTk ?_; omega) | (refine isOk isR33 ?_; omega) | (refine isOk ?_ ?_; assumption; omega)) only [mm_r, mm_rl, mm_add, mm_sub, mm_mul, mm_addJ, mm_mulJ, mm_lt, mm_le, mm_eq, mm_z, mm_cl, mm_w, mm_wl, mm_ite, mm_i2l, mm_l2i, mm_ltJ, mm_leJ, mm_eqJ, mm_clt, mm_cle, mm_cgt, mm_cge, mm_ceq, mm_b, mm_nb, mm_nb0, mm_nb1, mm_vb0, mm_vb1, mm_vbc, mm_vy0, mm_vy1, mm_at, mm_ne, mm_nj, mm_Lw, mm_Nw, mm_atJ, mm_neJ, mm_njJ, zbI_s, zbV_s, zbJ_s, cond_t, Bool.true_and, Bool.and_true, if_true, if_false, not_true, not_false_iff, Classical.not_not, zel_r, zel_42, zel_12, zel_71, zel_80, zel_89, zel_110, zel_188, zel_103, zel_195, zr_o, zr_1, zr_2, zr_3, zr_4, zr_5, zr_6, zr_7, zr_8, zr_9, zq_o, zq_v, zt_o, zt_1, zt_2, zt_3, zt_4, zt_5, zf_o, zf_1, za_w1, za_w2, za_w3, za_cm, za_sl, Int.toNat_natCast, Int.toNat_natCast_add_one, mm_t0, mm_t1, mm_t2, mm_t3, mm_t4, mm_t5, mm_t6, mm_t7, mm_t8, mm_t9, mm_t10, mm_t11, mm_t12, mm_t13, za_1, za_64, za_65, za_66, za_67, za_68, za_71, za_80, za_89, za_98, za_103, za_110, za_121, za_122, za_123, za_124, za_125, za_126, za_188, za_193, za_194, za_195, za_286, za_288, za_289, za_290, za_291, za_292, za_293, za_294, za_295, za_296, za_297, za_298, za_299, za_300, za_301, za_302, za_303, za_304, za_305, za_306, za_307, za_308, za_309, za_310, za_311, za_312]
                     first | done | omega) ?_
    simp (disch := first | assumption | exact isR33 | exact isT104 | exact isF99 | exact isF101 | exact isR3 | omega | (refine isTk ?_; omega) | (refine isOk isR33 ?_; omega) | (refine isOk ?_ ?_; assumption; omega)) only [mm_r, mm_rl, mm_add, mm_sub, mm_mul, mm_addJ, mm_mulJ, mm_lt, mm_le, mm_eq, mm_z, mm_cl, mm_w, mm_wl, mm_ite, mm_i2l, mm_l2i, mm_ltJ, mm_leJ, mm_eqJ, mm_clt, mm_cle, mm_cgt, mm_cge, mm_ceq, mm_b, mm_nb, mm_nb0, mm_nb1, mm_vb0, mm_vb1, mm_vbc, mm_vy0, mm_vy1, mm_at, mm_ne, mm_nj, mm_Lw, mm_Nw, mm_atJ, mm_neJ, mm_njJ, zbI_s, zbV_s, zbJ_s, cond_t, Bool.true_and, Bool.and_true, if_true, if_false, not_true, not_false_iff, Classical.not_not, zel_r, zel_42, zel_12, zel_71, zel_80, zel_89, zel_110, zel_188, zel_103, zel_195, zr_o, zr_1, zr_2, zr_3, zr_4, zr_5, zr_6, zr_7, zr_8, zr_9, zq_o, zq_v, zt_o, zt_1, zt_2, zt_3, zt_4, zt_5, zf_o, zf_1, za_w1, za_w2, za_w3, za_cm, za_sl, Int.toNat_natCast, Int.toNat_natCast_add_one, mm_t0, mm_t1, mm_t2, mm_t3, mm_t4, mm_t5, mm_t6, mm_t7, mm_t8, mm_t9, mm_t10, mm_t11, mm_t12, mm_t13, za_1, za_64, za_65, za_66, za_67, za_68, za_71, za_80, za_89, za_98, za_103, za_110, za_121, za_122, za_123, za_124, za_125, za_126, za_188, za_193, za_194, za_195, za_286, za_288, za_289, za_290, za_291, za_292, za_293, za_294, za_295, za_296, za_297, za_298, za_299, za_300, za_301, za_302, za_303, za_304, za_305, za_306, za_307, za_308, za_309, za_310, za_311, za_312]
    exact zwp_ret ⟨rfl, rfl⟩
  | k + 1, i, e => by
    have r := hw s h.1 h.2
    have e7 := hL.1.2.2.2.2.2.2.2
    have e1 := hL.1.2.1
    have h5 := hW.2.2.1
    have h8 := hW.1.1.2.1
    have h0 := hW.1.1.1
    obtain ⟨g1, r1, r2⟩ := hS.at hw h (i := i) (by omega) (by omega)
    obtain ⟨g2, r3, r4⟩ := hS.at hw h (i := (i : Int) + 1) (by omega) (by omega)
    have s1 := sp_79 (p := 33) (n := S.2.2 s i) (σ := σ) isR33 r1 r2
    have s2 := sp_77 (p := 33) (n := S.2.2 s ((i : Int) + 1)) (σ := σ) isR33 r3 r4
    rw [e7] at s1
    rw [e1] at s2
    have eb : bkB W (S.2.2 s) (k + 1) i = (decide (inO W (S.2.2 s i)) && decide (inT W (S.2.2 s ((i : Int) + 1))) && bkB W (S.2.2 s) k ((i : Int) + 3)) := rfl
    refine zwp_of (fun r h => ze_152_20 _ _ _ _ r h) ?_
    refine zwp_f (by try simp (disch := first | assumption | exact isR33 | exact isT104 | exact isF99 | exact isF101 | exact isR3 | omega | (refine isTk ?_; omega) | (refine isOk isR33 ?_; omega) | (refine isOk ?_ ?_; assumption; omega)) only [mm_r, mm_rl, mm_add, mm_sub, mm_mul, mm_addJ, mm_mulJ, mm_lt, mm_le, mm_eq, mm_z, mm_cl, mm_w, mm_wl, mm_ite, mm_i2l, mm_l2i, mm_ltJ, mm_leJ, mm_eqJ, mm_clt, mm_cle, mm_cgt, mm_cge, mm_ceq, mm_b, mm_nb, mm_nb0, mm_nb1, mm_vb0, mm_vb1, mm_vbc, mm_vy0, mm_vy1, mm_at, mm_ne, mm_nj, mm_Lw, mm_Nw, mm_atJ, mm_neJ, mm_njJ, zbI_s, zbV_s, zbJ_s, cond_t, Bool.true_and, Bool.and_true, if_true, if_false, not_true, not_false_iff, Classical.not_not, zel_r, zel_42, zel_12, zel_71, zel_80, zel_89, zel_110, zel_188, zel_103, zel_195, zr_o, zr_1, zr_2, zr_3, zr_4, zr_5, zr_6, zr_7, zr_8, zr_9, zq_o, zq_v, zt_o, zt_1, zt_2, zt_3, zt_4, zt_5, zf_o, zf_1, za_w1, za_w2, za_w3, za_cm, za_sl, Int.toNat_natCast, Int.toNat_natCast_add_one, mm_t0, mm_t1, mm_t2, mm_t3, mm_t4, mm_t5, mm_t6, mm_t7, mm_t8, mm_t9, mm_t10, mm_t11, mm_t12, mm_t13, za_1, za_64, za_65, za_66, za_67, za_68, za_71, za_80, za_89, za_98, za_103, za_110, za_121, za_122, za_123, za_124, za_125, za_126, za_188, za_193, za_194, za_195, za_286, za_288, za_289, za_290, za_291, za_292, za_293, za_294, za_295, za_296, za_297, za_298, za_299, za_300, za_301, za_302, za_303, za_304, za_305, za_306, za_307, za_308, za_309, za_310, za_311, za_312]
                     first | done | omega) ?_
    rw [g1, zbJ_s, s1, zbI_s]
    by_cases q : inO W (S.2.2 s i)
    · rw [if_pos q]
      refine zwp_f (by decide) ?_
      rw [mm_add, g2, zbJ_s, s2, zbI_s]
      by_cases q2 : inT W (S.2.2 s ((i : Int) + 1))
      · rw [if_pos q2]
        refine zwp_t (by decide) ?_
        rw [eb, decide_eq_true q, decide_eq_true q2, Bool.true_and, Bool.true_and, mm_add]
        exact lp_152 hW hL hS hw h k (i + 3) (by omega)
      · rw [if_neg q2, eb, decide_eq_false q2, Bool.and_false, Bool.false_and]
        refine zwp_f (by decide) ?_
        simp (disch := first | assumption | exact isR33 | exact isT104 | exact isF99 | exact isF101 | exact isR3 | omega | (refine isTk ?_; omega) | (refine isOk isR33 ?_; omega) | (refine isOk ?_ ?_; assumption; omega)) only [mm_r, mm_rl, mm_add, mm_sub, mm_mul, mm_addJ, mm_mulJ, mm_lt, mm_le, mm_eq, mm_z, mm_cl, mm_w, mm_wl, mm_ite, mm_i2l, mm_l2i, mm_ltJ, mm_leJ, mm_eqJ, mm_clt, mm_cle, mm_cgt, mm_cge, mm_ceq, mm_b, mm_nb, mm_nb0, mm_nb1, mm_vb0, mm_vb1, mm_vbc, mm_vy0, mm_vy1, mm_at, mm_ne, mm_nj, mm_Lw, mm_Nw, mm_atJ, mm_neJ, mm_njJ, zbI_s, zbV_s, zbJ_s, cond_t, Bool.true_and, Bool.and_true, if_true, if_false, not_true, not_false_iff, Classical.not_not, zel_r, zel_42, zel_12, zel_71, zel_80, zel_89, zel_110, zel_188, zel_103, zel_195, zr_o, zr_1, zr_2, zr_3, zr_4, zr_5, zr_6, zr_7, zr_8, zr_9, zq_o, zq_v, zt_o, zt_1, zt_2, zt_3, zt_4, zt_5, zf_o, zf_1, za_w1, za_w2, za_w3, za_cm, za_sl, Int.toNat_natCast, Int.toNat_natCast_add_one, mm_t0, mm_t1, mm_t2, mm_t3, mm_t4, mm_t5, mm_t6, mm_t7, mm_t8, mm_t9, mm_t10, mm_t11, mm_t12, mm_t13, za_1, za_64, za_65, za_66, za_67, za_68, za_71, za_80, za_89, za_98, za_103, za_110, za_121, za_122, za_123, za_124, za_125, za_126, za_188, za_193, za_194, za_195, za_286, za_288, za_289, za_290, za_291, za_292, za_293, za_294, za_295, za_296, za_297, za_298, za_299, za_300, za_301, za_302, za_303, za_304, za_305, za_306, za_307, za_308, za_309, za_310, za_311, za_312]
        exact zwp_ret ⟨rfl, rfl⟩
    · rw [if_neg q, eb, decide_eq_false q, Bool.false_and, Bool.false_and]
      refine zwp_t (by decide) ?_
      simp (disch := first | assumption | exact isR33 | exact isT104 | exact isF99 | exact isF101 | exact isR3 | omega | (refine isTk ?_; omega) | (refine isOk isR33 ?_; omega) | (refine isOk ?_ ?_; assumption; omega)) only [mm_r, mm_rl, mm_add, mm_sub, mm_mul, mm_addJ, mm_mulJ, mm_lt, mm_le, mm_eq, mm_z, mm_cl, mm_w, mm_wl, mm_ite, mm_i2l, mm_l2i, mm_ltJ, mm_leJ, mm_eqJ, mm_clt, mm_cle, mm_cgt, mm_cge, mm_ceq, mm_b, mm_nb, mm_nb0, mm_nb1, mm_vb0, mm_vb1, mm_vbc, mm_vy0, mm_vy1, mm_at, mm_ne, mm_nj, mm_Lw, mm_Nw, mm_atJ, mm_neJ, mm_njJ, zbI_s, zbV_s, zbJ_s, cond_t, Bool.true_and, Bool.and_true, if_true, if_false, not_true, not_false_iff, Classical.not_not, zel_r, zel_42, zel_12, zel_71, zel_80, zel_89, zel_110, zel_188, zel_103, zel_195, zr_o, zr_1, zr_2, zr_3, zr_4, zr_5, zr_6, zr_7, zr_8, zr_9, zq_o, zq_v, zt_o, zt_1, zt_2, zt_3, zt_4, zt_5, zf_o, zf_1, za_w1, za_w2, za_w3, za_cm, za_sl, Int.toNat_natCast, Int.toNat_natCast_add_one, mm_t0, mm_t1, mm_t2, mm_t3, mm_t4, mm_t5, mm_t6, mm_t7, mm_t8, mm_t9, mm_t10, mm_t11, mm_t12, mm_t13, za_1, za_64, za_65, za_66, za_67, za_68, za_71, za_80, za_89, za_98, za_103, za_110, za_121, za_122, za_123, za_124, za_125, za_126, za_188, za_193, za_194, za_195, za_286, za_288, za_289, za_290, za_291, za_292, za_293, za_294, za_295, za_296, za_297, za_298, za_299, za_300, za_301, za_302, za_303, za_304, za_305, za_306, za_307, za_308, za_309, za_310, za_311, za_312]
      exact zwp_ret ⟨rfl, rfl⟩
theorem sp_152 {σ : zM} {W : Int → Int} {S : sls} {s : Int} (hW : WOK W) (hL : cL σ 33 W) (hS : slC σ S) (hw : slW S) (h : isSl s) (hn : S.1 s ≠ -1) : zwp (zcall 152 [.ref 0, .int (Int32.ofInt s)] σ) (fun v τ => v = some (.int (Int32.ofInt (if S.1 s % 3 = 0 ∧ bkB W (S.2.2 s) (S.1 s / 3).toNat 0 = true then 1 else 0))) ∧ τ = σ) := by
  have r := hw s h.1 h.2
  have e := (hS s h.1 h.2).1
  refine zwp_of (fun r h => zcc_152 (ze_152_0 _ _ r h)) ?_
  refine zwp_cd (za_194 h.1 h.2) ?_
  refine zwp_f (by decide) ?_
  rw [mm_cl (by omega) (by omega), mm_r, e]
  by_cases q : S.1 s % 3 = 0
  · refine zwp_t ((rem3i (by omega) (by omega)).mpr q) ?_
    refine zwp_mono (lp_152 hW hL hS hw h (S.1 s / 3).toNat 0 (by omega)) ?_
    rintro v τ ⟨rfl, rfl⟩
    refine ⟨?_, rfl⟩
    by_cases z : bkB W (S.2.2 s) (S.1 s / 3).toNat 0 = true
    · have A : (if S.1 s % 3 = 0 ∧ bkB W (S.2.2 s) (S.1 s / 3).toNat 0 = true then (1 : Int) else 0) = 1 := if_pos ⟨q, z⟩
      have B : (if bkB W (S.2.2 s) (S.1 s / 3).toNat ((0 : Nat) : Int) = true then (1 : Int) else 0) = 1 := if_pos z
      rw [A, B]
    · have A : (if S.1 s % 3 = 0 ∧ bkB W (S.2.2 s) (S.1 s / 3).toNat 0 = true then (1 : Int) else 0) = 0 := if_neg (fun p => z p.2)
      have B : (if bkB W (S.2.2 s) (S.1 s / 3).toNat ((0 : Nat) : Int) = true then (1 : Int) else 0) = 0 := if_neg z
      rw [A, B]
  · rw [if_neg (fun p => q p.1 : ¬ (S.1 s % 3 = 0 ∧ bkB W (S.2.2 s) (S.1 s / 3).toNat 0 = true))]
    refine zwp_f (fun p => q ((rem3i (by omega) (by omega)).mp p)) ?_
    simp (disch := first | assumption | exact isR33 | exact isT104 | exact isF99 | exact isF101 | exact isR3 | omega | (refine isTk ?_; omega) | (refine isOk isR33 ?_; omega) | (refine isOk ?_ ?_; assumption; omega)) only [mm_r, mm_rl, mm_add, mm_sub, mm_mul, mm_addJ, mm_mulJ, mm_lt, mm_le, mm_eq, mm_z, mm_cl, mm_w, mm_wl, mm_ite, mm_i2l, mm_l2i, mm_ltJ, mm_leJ, mm_eqJ, mm_clt, mm_cle, mm_cgt, mm_cge, mm_ceq, mm_b, mm_nb, mm_nb0, mm_nb1, mm_vb0, mm_vb1, mm_vbc, mm_vy0, mm_vy1, mm_at, mm_ne, mm_nj, mm_Lw, mm_Nw, mm_atJ, mm_neJ, mm_njJ, zbI_s, zbV_s, zbJ_s, cond_t, Bool.true_and, Bool.and_true, if_true, if_false, not_true, not_false_iff, Classical.not_not, zel_r, zel_42, zel_12, zel_71, zel_80, zel_89, zel_110, zel_188, zel_103, zel_195, zr_o, zr_1, zr_2, zr_3, zr_4, zr_5, zr_6, zr_7, zr_8, zr_9, zq_o, zq_v, zt_o, zt_1, zt_2, zt_3, zt_4, zt_5, zf_o, zf_1, za_w1, za_w2, za_w3, za_cm, za_sl, Int.toNat_natCast, Int.toNat_natCast_add_one, mm_t0, mm_t1, mm_t2, mm_t3, mm_t4, mm_t5, mm_t6, mm_t7, mm_t8, mm_t9, mm_t10, mm_t11, mm_t12, mm_t13, za_1, za_64, za_65, za_66, za_67, za_68, za_71, za_80, za_89, za_98, za_103, za_110, za_121, za_122, za_123, za_124, za_125, za_126, za_188, za_193, za_194, za_195, za_286, za_288, za_289, za_290, za_291, za_292, za_293, za_294, za_295, za_296, za_297, za_298, za_299, za_300, za_301, za_302, za_303, za_304, za_305, za_306, za_307, za_308, za_309, za_310, za_311, za_312]
    exact zwp_ret ⟨rfl, rfl⟩
theorem bkB_s {W : Int → Int} {V : Int → Int} {k : Nat} {i : Int} (h : bkB W V (k + 1) i = true) : inO W (V i) ∧ inT W (V (i + 1)) ∧ bkB W V k (i + 3) = true := by
  have h' : (decide (inO W (V i)) && decide (inT W (V (i + 1))) && bkB W V k (i + 3)) = true := h
  rw [Bool.and_eq_true, Bool.and_eq_true] at h'
  exact ⟨of_decide_eq_true h'.1.1, of_decide_eq_true h'.1.2, h'.2⟩
theorem fgB_no {W : Int → Int} {o t h : Int} (q : ¬ inH W (fcT W o t)) : fgB W o t h = true := by
  unfold fgB
  rw [decide_eq_false (fun p => q p.1)]
  rfl
theorem fgB_eq {W : Int → Int} {o t h : Int} (q : inH W (fcT W o t)) (z : h = fcT W o t) : ¬ fgB W o t h = true := by
  unfold fgB
  rw [decide_eq_true ⟨q, z⟩]
  decide
theorem fgB_ne {W : Int → Int} {o t h : Int} (z : h ≠ fcT W o t) : fgB W o t h = true := by
  unfold fgB
  rw [decide_eq_false (fun p => z p.2)]
  rfl
theorem lp_137 {σ : zM} {W : Int → Int} {S : sls} {s : Int} (hW : WOK W) (hC : ctC σ W) (hS : slC σ S) (hw : slW S) (h : isSl s) : ∀ (k i : Nat) (c : Int), (i : Int) + 3 * k = S.1 s → bkB W (S.2.2 s) k i = true → zwp (zev 137 53 [some (.ref 0), some (.int (Int32.ofInt s)), some (.int (Int32.ofInt c)), some (.int (Int32.ofInt i)), none, none, none] [] σ) (fun v τ => v = some (.int (Int32.ofInt (fgC W (S.2.2 s) k i c))) ∧ τ = σ)
  | 0, i, c, e, hb => by
    have r := hw s h.1 h.2
    have e9 := (hS s h.1 h.2).1
    refine zwp_of (fun r h => ze_137_53 _ _ _ _ r h) ?_
    refine zwp_cd (za_194 h.1 h.2) ?_
    refine zwp_t (by try simp (disch := first | assumption | exact isR33 | exact isT104 | exact isF99 | exact isF101 | exact isR3 | omega | (refine isTk ?_; omega) | (refine isOk isR33 ?_; omega) | (refine isOk ?_ ?_; assumption; omega)) only [mm_r, mm_rl, mm_add, mm_sub, mm_mul, mm_addJ, mm_mulJ, mm_lt, mm_le, mm_eq, mm_z, mm_cl, mm_w, mm_wl, mm_ite, mm_i2l, mm_l2i, mm_ltJ, mm_leJ, mm_eqJ, mm_clt, mm_cle, mm_cgt, mm_cge, mm_ceq, mm_b, mm_nb, mm_nb0, mm_nb1, mm_vb0, mm_vb1, mm_vbc, mm_vy0, mm_vy1, mm_at, mm_ne, mm_nj, mm_Lw, mm_Nw, mm_atJ, mm_neJ, mm_njJ, zbI_s, zbV_s, zbJ_s, cond_t, Bool.true_and, Bool.and_true, if_true, if_false, not_true, not_false_iff, Classical.not_not, zel_r, zel_42, zel_12, zel_71, zel_80, zel_89, zel_110, zel_188, zel_103, zel_195, zr_o, zr_1, zr_2, zr_3, zr_4, zr_5, zr_6, zr_7, zr_8, zr_9, zq_o, zq_v, zt_o, zt_1, zt_2, zt_3, zt_4, zt_5, zf_o, zf_1, za_w1, za_w2, za_w3, za_cm, za_sl, Int.toNat_natCast, Int.toNat_natCast_add_one, mm_t0, mm_t1, mm_t2, mm_t3, mm_t4, mm_t5, mm_t6, mm_t7, mm_t8, mm_t9, mm_t10, mm_t11, mm_t12, mm_t13, za_1, za_64, za_65, za_66, za_67, za_68, za_71, za_80, za_89, za_98, za_103, za_110, za_121, za_122, za_123, za_124, za_125, za_126, za_188, za_193, za_194, za_195, za_286, za_288, za_289, za_290, za_291, za_292, za_293, za_294, za_295, za_296, za_297, za_298, za_299, za_300, za_301, za_302, za_303, za_304, za_305, za_306, za_307, za_308, za_309, za_310, za_311, za_312, e9]
                     first | done | omega) ?_
    exact zwp_ret ⟨rfl, rfl⟩
  | k + 1, i, c, e, hb => by
    have r := hw s h.1 h.2
    have e9 := (hS s h.1 h.2).1
    have e2 := hC.1.1.2.2.1
    have h5 := hW.2.2.1
    have h8 := hW.1.1.2.1
    have h9 := hW.1.2.2.1
    obtain ⟨g1, r1, r2⟩ := hS.at hw h (i := i) (by omega) (by omega)
    obtain ⟨g2, r3, r4⟩ := hS.at hw h (i := (i : Int) + 1) (by omega) (by omega)
    obtain ⟨g3, r5, r6⟩ := hS.at hw h (i := (i : Int) + 2) (by omega) (by omega)
    obtain ⟨b1, b2, b3⟩ := bkB_s hb
    have fr := fcT_rng (t := S.2.2 s ((i : Int) + 1)) hW b1
    have s3 := sp_78 (p := 33) (n := fcT W (S.2.2 s i) (S.2.2 s ((i : Int) + 1))) (σ := σ) isR33 (by omega) (by omega)
    rw [e2] at s3
    have ih := lp_137 hW hC hS hw h k (i + 3) (if fgB W (S.2.2 s i) (S.2.2 s ((i : Int) + 1)) (S.2.2 s ((i : Int) + 2)) = true then c + 1 else c) (by omega) b3
    have ef : fgC W (S.2.2 s) (k + 1) i c = fgC W (S.2.2 s) k ((i : Int) + 3) (if fgB W (S.2.2 s i) (S.2.2 s ((i : Int) + 1)) (S.2.2 s ((i : Int) + 2)) = true then c + 1 else c) := rfl
    rw [ef]
    refine zwp_of (fun r h => ze_137_53 _ _ _ _ r h) ?_
    refine zwp_cd (za_194 h.1 h.2) ?_
    refine zwp_f (by try simp (disch := first | assumption | exact isR33 | exact isT104 | exact isF99 | exact isF101 | exact isR3 | omega | (refine isTk ?_; omega) | (refine isOk isR33 ?_; omega) | (refine isOk ?_ ?_; assumption; omega)) only [mm_r, mm_rl, mm_add, mm_sub, mm_mul, mm_addJ, mm_mulJ, mm_lt, mm_le, mm_eq, mm_z, mm_cl, mm_w, mm_wl, mm_ite, mm_i2l, mm_l2i, mm_ltJ, mm_leJ, mm_eqJ, mm_clt, mm_cle, mm_cgt, mm_cge, mm_ceq, mm_b, mm_nb, mm_nb0, mm_nb1, mm_vb0, mm_vb1, mm_vbc, mm_vy0, mm_vy1, mm_at, mm_ne, mm_nj, mm_Lw, mm_Nw, mm_atJ, mm_neJ, mm_njJ, zbI_s, zbV_s, zbJ_s, cond_t, Bool.true_and, Bool.and_true, if_true, if_false, not_true, not_false_iff, Classical.not_not, zel_r, zel_42, zel_12, zel_71, zel_80, zel_89, zel_110, zel_188, zel_103, zel_195, zr_o, zr_1, zr_2, zr_3, zr_4, zr_5, zr_6, zr_7, zr_8, zr_9, zq_o, zq_v, zt_o, zt_1, zt_2, zt_3, zt_4, zt_5, zf_o, zf_1, za_w1, za_w2, za_w3, za_cm, za_sl, Int.toNat_natCast, Int.toNat_natCast_add_one, mm_t0, mm_t1, mm_t2, mm_t3, mm_t4, mm_t5, mm_t6, mm_t7, mm_t8, mm_t9, mm_t10, mm_t11, mm_t12, mm_t13, za_1, za_64, za_65, za_66, za_67, za_68, za_71, za_80, za_89, za_98, za_103, za_110, za_121, za_122, za_123, za_124, za_125, za_126, za_188, za_193, za_194, za_195, za_286, za_288, za_289, za_290, za_291, za_292, za_293, za_294, za_295, za_296, za_297, za_298, za_299, za_300, za_301, za_302, za_303, za_304, za_305, za_306, za_307, za_308, za_309, za_310, za_311, za_312, e9]
                     first | done | omega) ?_
    rw [g1, zbJ_s, mm_add, g2, zbJ_s, mm_l2i (by omega) (by omega), mm_l2i (by omega) (by omega)]
    refine zwp_cd (za_103 b1.1 (by omega)) ?_
    rw [mm_cl (by omega) (by omega), zel_103]
    refine zwp_cd (zt_o (isTk (by omega))) ?_
    refine zwp_IE (sp_97 hW hC b1 (by omega) (by omega)) ?_
    rintro τ rfl
    rw [mm_i2l (by omega) (by omega), s3, zbI_s]
    by_cases q : inH W (fcT W (S.2.2 s i) (S.2.2 s ((i : Int) + 1)))
    · rw [if_pos q]
      refine zwp_f (by decide) ?_
      rw [mm_add, g3, zbJ_s]
      by_cases z : S.2.2 s ((i : Int) + 2) = fcT W (S.2.2 s i) (S.2.2 s ((i : Int) + 1))
      · refine zwp_t (by rw [z]; exact (mm_ceq _ _).mpr rfl) ?_
        rw [if_neg (fgB_eq q z)] at ih ⊢
        rw [mm_add]
        exact ih
      · refine zwp_f (fun p => z ?_) ?_
        · have p := (mm_ceq _ _).mp p
          rwa [mm_eqJ (by omega) (by omega) (by omega) (by omega)] at p
        · rw [if_pos (fgB_ne z)] at ih ⊢
          rw [mm_add, mm_add]
          exact ih
    · rw [if_neg q]
      refine zwp_t (by decide) ?_
      rw [if_pos (fgB_no q)] at ih ⊢
      rw [mm_add, mm_add]
      exact ih
theorem cq_forged {σ : zM} {W : Int → Int} {S : sls} {s : Int} (hW : WOK W) (hC : ctC σ W) (hS : slC σ S) (hw : slW S) (s0 : -2147483648 ≤ s) (s1 : s < 2147483648) : zwp (zcall 137 [.ref 0, .int (Int32.ofInt s)] σ) (fun v τ => v = some (.int (Int32.ofInt (Efg W S s))) ∧ cK σ τ W) := by
  have e1 := hC.1.1.2.1
  refine zwp_of (fun r h => zcc_137 (ze_137_0 _ _ r h)) ?_
  rw [sp_82 s0 s1, zbI_s]
  by_cases q : isSl s
  · have r := hw s q.1 q.2
    have e := (hS s q.1 q.2).1
    rw [if_pos q]
    refine zwp_f (by decide) ?_
    rw [sp_76 isR33, zbI_s, e1]
    by_cases q2 : 0 < W 0
    · rw [if_pos q2]
      refine zwp_t (by decide) ?_
      rw [sp_83 q.1 q.2, zbI_s, e]
      by_cases q3 : S.1 s = -1
      · rw [Efg_b ⟨q, q2⟩ q3, if_neg (show ¬ (S.1 s ≠ -1) from fun p => p q3)]
        refine zwp_f (by decide) ?_
        exact zwp_ret ⟨rfl, cK.rf hC⟩
      · rw [if_pos q3]
        refine zwp_t (by decide) ?_
        refine zwp_IE (sp_152 hW hC.1 hS hw q q3) ?_
        rintro τ rfl
        by_cases q4 : S.1 s % 3 = 0 ∧ bkB W (S.2.2 s) (S.1 s / 3).toNat 0 = true
        · rw [Efg_d ⟨q, q2⟩ q3 q4, if_pos q4]
          refine zwp_t (by decide) ?_
          refine zwp_mono (lp_137 hW hC hS hw q (S.1 s / 3).toNat 0 0 (by omega) q4.2) ?_
          rintro v τ ⟨rfl, rfl⟩
          exact ⟨rfl, cK.rf hC⟩
        · rw [Efg_c ⟨q, q2⟩ q3 q4, if_neg q4]
          refine zwp_f (by decide) ?_
          exact zwp_ret ⟨rfl, cK.rf hC⟩
    · rw [Efg_a (S := S) (fun p => q2 p.2), if_neg q2]
      refine zwp_f (by decide) ?_
      exact zwp_ret ⟨rfl, cK.rf hC⟩
  · rw [Efg_a (W := W) (S := S) (fun p => q p.1), if_neg q]
    refine zwp_t (by decide) ?_
    exact zwp_ret ⟨rfl, cK.rf hC⟩
/-! the reference's -/
theorem fst_sk {P : Int → Bool} {n i : Nat} (h : ∀ j : Int, 0 ≤ j → j < i → P j = false) (hn : i ≤ n) : ∀ m : Nat, m + i = n → zfst P n 0 = zfst P m i := fun m e => by
  have g : ∀ (k x : Nat), x + k = i → ∀ m', m' + k = n - x + 0 → zfst P (m' + k) x = zfst P m' i := fun k => by
    induction k with
    | zero =>
      intro x hx m' _
      rw [show x = i by omega]
      rfl
    | succ k ih =>
      intro x hx m' hm
      have := ih (x + 1) (by omega) m' (by omega)
      show (if P x = true then (x : Int) else zfst P (m' + k) ((x : Int) + 1)) = _
      rw [if_neg (by rw [h x (by omega) (by omega)]; decide)]
      exact this
  have := g i 0 (by omega) m (by omega)
  rw [e] at this
  exact this
theorem lp_258 {σ : zM} {W : Int → Int} {S : sls} {s : Int} {o t : Int} (hW : WOK W) (hg : gone σ W noD) (hS : slM σ S) (hw : slW S) (h : isSl s) {x : Nat} (hx : (x : Int) + 2 < S.1 s) (ho : inO W o) (ht : S.2.2 s ((x : Int) + 1) = t) (htr : inT W t) : ∀ (k i : Nat), (i : Int) + k = (WAY W o).1 → zfst (fun i => decide ((WAY W o).2 i = t)) (WAY W o).1.toNat 0 = zfst (fun i => decide ((WAY W o).2 i = t)) k i → zwp (zev 258 11 [some (.ref 287), some (.int (Int32.ofInt s)), some (.int (Int32.ofInt x)), some (.int (Int32.ofInt o)), some (.int (Int32.ofInt i)), none] [] σ) (fun v τ => v = some (.int (Int32.ofInt (if fgB W o t (S.2.2 s ((x : Int) + 2)) = true then 1 else 0))) ∧ τ = σ)
  | 0, i, e, hz => by
    obtain ⟨oa0, oa1, a0, a1, a2, a3⟩ := hg.reD hW ho
    have ef : fcT W o t = -1 := if_pos hz
    have fb : fgB W o t (S.2.2 s ((x : Int) + 2)) = true := fgB_no (by rw [ef]; exact fun p => by have := p.1; omega)
    rw [if_pos fb]
    refine zwp_of (fun r h => ze_258_11 _ _ _ _ _ r h) ?_
    refine zwp_cd (by simp (disch := first | assumption | exact isR33 | exact isT104 | exact isF99 | exact isF101 | exact isR3 | omega | (refine isTk ?_; omega) | (refine isOk isR33 ?_; omega) | (refine isOk ?_ ?_; assumption; omega)) only [mm_r, mm_rl, mm_add, mm_sub, mm_mul, mm_addJ, mm_mulJ, mm_lt, mm_le, mm_eq, mm_z, mm_cl, mm_w, mm_wl, mm_ite, mm_i2l, mm_l2i, mm_ltJ, mm_leJ, mm_eqJ, mm_clt, mm_cle, mm_cgt, mm_cge, mm_ceq, mm_b, mm_nb, mm_nb0, mm_nb1, mm_vb0, mm_vb1, mm_vbc, mm_vy0, mm_vy1, mm_at, mm_ne, mm_nj, mm_Lw, mm_Nw, mm_atJ, mm_neJ, mm_njJ, zbI_s, zbV_s, zbJ_s, cond_t, Bool.true_and, Bool.and_true, if_true, if_false, not_true, not_false_iff, Classical.not_not, zel_r, zel_42, zel_12, zel_71, zel_80, zel_89, zel_110, zel_188, zel_103, zel_195, zr_o, zr_1, zr_2, zr_3, zr_4, zr_5, zr_6, zr_7, zr_8, zr_9, zq_o, zq_v, zt_o, zt_1, zt_2, zt_3, zt_4, zt_5, zf_o, zf_1, za_w1, za_w2, za_w3, za_cm, za_sl, Int.toNat_natCast, Int.toNat_natCast_add_one, mm_t0, mm_t1, mm_t2, mm_t3, mm_t4, mm_t5, mm_t6, mm_t7, mm_t8, mm_t9, mm_t10, mm_t11, mm_t12, mm_t13, za_1, za_64, za_65, za_66, za_67, za_68, za_71, za_80, za_89, za_98, za_103, za_110, za_121, za_122, za_123, za_124, za_125, za_126, za_188, za_193, za_194, za_195, za_286, za_288, za_289, za_290, za_291, za_292, za_293, za_294, za_295, za_296, za_297, za_298, za_299, za_300, za_301, za_302, za_303, za_304, za_305, za_306, za_307, za_308, za_309, za_310, za_311, za_312]) ?_
    refine zwp_t (by try simp (disch := first | assumption | exact isR33 | exact isT104 | exact isF99 | exact isF101 | exact isR3 | omega | (refine isTk ?_; omega) | (refine isOk isR33 ?_; omega) | (refine isOk ?_ ?_; assumption; omega)) only [mm_r, mm_rl, mm_add, mm_sub, mm_mul, mm_addJ, mm_mulJ, mm_lt, mm_le, mm_eq, mm_z, mm_cl, mm_w, mm_wl, mm_ite, mm_i2l, mm_l2i, mm_ltJ, mm_leJ, mm_eqJ, mm_clt, mm_cle, mm_cgt, mm_cge, mm_ceq, mm_b, mm_nb, mm_nb0, mm_nb1, mm_vb0, mm_vb1, mm_vbc, mm_vy0, mm_vy1, mm_at, mm_ne, mm_nj, mm_Lw, mm_Nw, mm_atJ, mm_neJ, mm_njJ, zbI_s, zbV_s, zbJ_s, cond_t, Bool.true_and, Bool.and_true, if_true, if_false, not_true, not_false_iff, Classical.not_not, zel_r, zel_42, zel_12, zel_71, zel_80, zel_89, zel_110, zel_188, zel_103, zel_195, zr_o, zr_1, zr_2, zr_3, zr_4, zr_5, zr_6, zr_7, zr_8, zr_9, zq_o, zq_v, zt_o, zt_1, zt_2, zt_3, zt_4, zt_5, zf_o, zf_1, za_w1, za_w2, za_w3, za_cm, za_sl, Int.toNat_natCast, Int.toNat_natCast_add_one, mm_t0, mm_t1, mm_t2, mm_t3, mm_t4, mm_t5, mm_t6, mm_t7, mm_t8, mm_t9, mm_t10, mm_t11, mm_t12, mm_t13, za_1, za_64, za_65, za_66, za_67, za_68, za_71, za_80, za_89, za_98, za_103, za_110, za_121, za_122, za_123, za_124, za_125, za_126, za_188, za_193, za_194, za_195, za_286, za_288, za_289, za_290, za_291, za_292, za_293, za_294, za_295, za_296, za_297, za_298, za_299, za_300, za_301, za_302, za_303, za_304, za_305, za_306, za_307, za_308, za_309, za_310, za_311, za_312, a2]
                     first | done | omega) ?_
    simp (disch := first | assumption | exact isR33 | exact isT104 | exact isF99 | exact isF101 | exact isR3 | omega | (refine isTk ?_; omega) | (refine isOk isR33 ?_; omega) | (refine isOk ?_ ?_; assumption; omega)) only [mm_r, mm_rl, mm_add, mm_sub, mm_mul, mm_addJ, mm_mulJ, mm_lt, mm_le, mm_eq, mm_z, mm_cl, mm_w, mm_wl, mm_ite, mm_i2l, mm_l2i, mm_ltJ, mm_leJ, mm_eqJ, mm_clt, mm_cle, mm_cgt, mm_cge, mm_ceq, mm_b, mm_nb, mm_nb0, mm_nb1, mm_vb0, mm_vb1, mm_vbc, mm_vy0, mm_vy1, mm_at, mm_ne, mm_nj, mm_Lw, mm_Nw, mm_atJ, mm_neJ, mm_njJ, zbI_s, zbV_s, zbJ_s, cond_t, Bool.true_and, Bool.and_true, if_true, if_false, not_true, not_false_iff, Classical.not_not, zel_r, zel_42, zel_12, zel_71, zel_80, zel_89, zel_110, zel_188, zel_103, zel_195, zr_o, zr_1, zr_2, zr_3, zr_4, zr_5, zr_6, zr_7, zr_8, zr_9, zq_o, zq_v, zt_o, zt_1, zt_2, zt_3, zt_4, zt_5, zf_o, zf_1, za_w1, za_w2, za_w3, za_cm, za_sl, Int.toNat_natCast, Int.toNat_natCast_add_one, mm_t0, mm_t1, mm_t2, mm_t3, mm_t4, mm_t5, mm_t6, mm_t7, mm_t8, mm_t9, mm_t10, mm_t11, mm_t12, mm_t13, za_1, za_64, za_65, za_66, za_67, za_68, za_71, za_80, za_89, za_98, za_103, za_110, za_121, za_122, za_123, za_124, za_125, za_126, za_188, za_193, za_194, za_195, za_286, za_288, za_289, za_290, za_291, za_292, za_293, za_294, za_295, za_296, za_297, za_298, za_299, za_300, za_301, za_302, za_303, za_304, za_305, za_306, za_307, za_308, za_309, za_310, za_311, za_312]
    exact zwp_ret ⟨rfl, rfl⟩
  | k + 1, i, e, hz => by
    obtain ⟨oa0, oa1, a0, a1, a2, a3⟩ := hg.reD hW ho
    have r := hw s h.1 h.2
    have h8 := hW.1.1.2.1
    have h9 := hW.1.2.2.1
    have h1 := hW.1.2.1
    have e1 : zN σ 288 1 = W 1 := wv_k hg.1.1 1
    obtain ⟨c1, c2, -⟩ := a3 i (by omega)
    have m1 := mm_lo σ 295 (32 * o + i).toNat
    have m2 := mm_hi σ 295 (32 * o + i).toNat
    have m3 := mm_lo σ 296 (32 * o + i).toNat
    have m4 := mm_hi σ 296 (32 * o + i).toNat
    obtain ⟨-, -, -, t1, -⟩ := hW.tr ho noD
    have t1 := t1 i (by omega)
    obtain ⟨g2, r3, r4⟩ := hS.at hw h (i := (x : Int) + 1) (by omega) (by omega)
    obtain ⟨g3, r5, r6⟩ := hS.at hw h (i := (x : Int) + 2) (by omega) (by omega)
    have ez : zfst (fun i => decide ((WAY W o).2 i = t)) (k + 1) i = if decide ((WAY W o).2 i = t) = true then (i : Int) else zfst (fun i => decide ((WAY W o).2 i = t)) k ((i : Int) + 1) := rfl
    rw [ez] at hz
    refine zwp_of (fun r h => ze_258_11 _ _ _ _ _ r h) ?_
    refine zwp_cd (by simp (disch := first | assumption | exact isR33 | exact isT104 | exact isF99 | exact isF101 | exact isR3 | omega | (refine isTk ?_; omega) | (refine isOk isR33 ?_; omega) | (refine isOk ?_ ?_; assumption; omega)) only [mm_r, mm_rl, mm_add, mm_sub, mm_mul, mm_addJ, mm_mulJ, mm_lt, mm_le, mm_eq, mm_z, mm_cl, mm_w, mm_wl, mm_ite, mm_i2l, mm_l2i, mm_ltJ, mm_leJ, mm_eqJ, mm_clt, mm_cle, mm_cgt, mm_cge, mm_ceq, mm_b, mm_nb, mm_nb0, mm_nb1, mm_vb0, mm_vb1, mm_vbc, mm_vy0, mm_vy1, mm_at, mm_ne, mm_nj, mm_Lw, mm_Nw, mm_atJ, mm_neJ, mm_njJ, zbI_s, zbV_s, zbJ_s, cond_t, Bool.true_and, Bool.and_true, if_true, if_false, not_true, not_false_iff, Classical.not_not, zel_r, zel_42, zel_12, zel_71, zel_80, zel_89, zel_110, zel_188, zel_103, zel_195, zr_o, zr_1, zr_2, zr_3, zr_4, zr_5, zr_6, zr_7, zr_8, zr_9, zq_o, zq_v, zt_o, zt_1, zt_2, zt_3, zt_4, zt_5, zf_o, zf_1, za_w1, za_w2, za_w3, za_cm, za_sl, Int.toNat_natCast, Int.toNat_natCast_add_one, mm_t0, mm_t1, mm_t2, mm_t3, mm_t4, mm_t5, mm_t6, mm_t7, mm_t8, mm_t9, mm_t10, mm_t11, mm_t12, mm_t13, za_1, za_64, za_65, za_66, za_67, za_68, za_71, za_80, za_89, za_98, za_103, za_110, za_121, za_122, za_123, za_124, za_125, za_126, za_188, za_193, za_194, za_195, za_286, za_288, za_289, za_290, za_291, za_292, za_293, za_294, za_295, za_296, za_297, za_298, za_299, za_300, za_301, za_302, za_303, za_304, za_305, za_306, za_307, za_308, za_309, za_310, za_311, za_312]) ?_
    refine zwp_f (by try simp (disch := first | assumption | exact isR33 | exact isT104 | exact isF99 | exact isF101 | exact isR3 | omega | (refine isTk ?_; omega) | (refine isOk isR33 ?_; omega) | (refine isOk ?_ ?_; assumption; omega)) only [mm_r, mm_rl, mm_add, mm_sub, mm_mul, mm_addJ, mm_mulJ, mm_lt, mm_le, mm_eq, mm_z, mm_cl, mm_w, mm_wl, mm_ite, mm_i2l, mm_l2i, mm_ltJ, mm_leJ, mm_eqJ, mm_clt, mm_cle, mm_cgt, mm_cge, mm_ceq, mm_b, mm_nb, mm_nb0, mm_nb1, mm_vb0, mm_vb1, mm_vbc, mm_vy0, mm_vy1, mm_at, mm_ne, mm_nj, mm_Lw, mm_Nw, mm_atJ, mm_neJ, mm_njJ, zbI_s, zbV_s, zbJ_s, cond_t, Bool.true_and, Bool.and_true, if_true, if_false, not_true, not_false_iff, Classical.not_not, zel_r, zel_42, zel_12, zel_71, zel_80, zel_89, zel_110, zel_188, zel_103, zel_195, zr_o, zr_1, zr_2, zr_3, zr_4, zr_5, zr_6, zr_7, zr_8, zr_9, zq_o, zq_v, zt_o, zt_1, zt_2, zt_3, zt_4, zt_5, zf_o, zf_1, za_w1, za_w2, za_w3, za_cm, za_sl, Int.toNat_natCast, Int.toNat_natCast_add_one, mm_t0, mm_t1, mm_t2, mm_t3, mm_t4, mm_t5, mm_t6, mm_t7, mm_t8, mm_t9, mm_t10, mm_t11, mm_t12, mm_t13, za_1, za_64, za_65, za_66, za_67, za_68, za_71, za_80, za_89, za_98, za_103, za_110, za_121, za_122, za_123, za_124, za_125, za_126, za_188, za_193, za_194, za_195, za_286, za_288, za_289, za_290, za_291, za_292, za_293, za_294, za_295, za_296, za_297, za_298, za_299, za_300, za_301, za_302, za_303, za_304, za_305, za_306, za_307, za_308, za_309, za_310, za_311, za_312, a2]
                     first | done | omega) ?_
    refine zwp_cd (by simp (disch := first | assumption | exact isR33 | exact isT104 | exact isF99 | exact isF101 | exact isR3 | omega | (refine isTk ?_; omega) | (refine isOk isR33 ?_; omega) | (refine isOk ?_ ?_; assumption; omega)) only [mm_r, mm_rl, mm_add, mm_sub, mm_mul, mm_addJ, mm_mulJ, mm_lt, mm_le, mm_eq, mm_z, mm_cl, mm_w, mm_wl, mm_ite, mm_i2l, mm_l2i, mm_ltJ, mm_leJ, mm_eqJ, mm_clt, mm_cle, mm_cgt, mm_cge, mm_ceq, mm_b, mm_nb, mm_nb0, mm_nb1, mm_vb0, mm_vb1, mm_vbc, mm_vy0, mm_vy1, mm_at, mm_ne, mm_nj, mm_Lw, mm_Nw, mm_atJ, mm_neJ, mm_njJ, zbI_s, zbV_s, zbJ_s, cond_t, Bool.true_and, Bool.and_true, if_true, if_false, not_true, not_false_iff, Classical.not_not, zel_r, zel_42, zel_12, zel_71, zel_80, zel_89, zel_110, zel_188, zel_103, zel_195, zr_o, zr_1, zr_2, zr_3, zr_4, zr_5, zr_6, zr_7, zr_8, zr_9, zq_o, zq_v, zt_o, zt_1, zt_2, zt_3, zt_4, zt_5, zf_o, zf_1, za_w1, za_w2, za_w3, za_cm, za_sl, Int.toNat_natCast, Int.toNat_natCast_add_one, mm_t0, mm_t1, mm_t2, mm_t3, mm_t4, mm_t5, mm_t6, mm_t7, mm_t8, mm_t9, mm_t10, mm_t11, mm_t12, mm_t13, za_1, za_64, za_65, za_66, za_67, za_68, za_71, za_80, za_89, za_98, za_103, za_110, za_121, za_122, za_123, za_124, za_125, za_126, za_188, za_193, za_194, za_195, za_286, za_288, za_289, za_290, za_291, za_292, za_293, za_294, za_295, za_296, za_297, za_298, za_299, za_300, za_301, za_302, za_303, za_304, za_305, za_306, za_307, za_308, za_309, za_310, za_311, za_312]) ?_
    rw [mm_add, g2, zbJ_s, mm_mul, mm_add, mm_cl (by omega) (by omega), mm_r, c1, ht]
    by_cases q : (WAY W o).2 i = t
    · rw [if_pos (decide_eq_true q)] at hz
      have ef : fcT W o t = TIo W noD o i := by
        unfold fcT
        rw [hz, if_neg (by omega), Int.toNat_natCast]
      refine zwp_t (by rw [q, mm_i2l (by omega) (by omega)]; exact (mm_ceq _ _).mpr rfl) ?_
      refine zwp_cd (za_296 (by omega) (by omega)) ?_
      refine zwp_cd (by simp (disch := first | assumption | exact isR33 | exact isT104 | exact isF99 | exact isF101 | exact isR3 | omega | (refine isTk ?_; omega) | (refine isOk isR33 ?_; omega) | (refine isOk ?_ ?_; assumption; omega)) only [mm_r, mm_rl, mm_add, mm_sub, mm_mul, mm_addJ, mm_mulJ, mm_lt, mm_le, mm_eq, mm_z, mm_cl, mm_w, mm_wl, mm_ite, mm_i2l, mm_l2i, mm_ltJ, mm_leJ, mm_eqJ, mm_clt, mm_cle, mm_cgt, mm_cge, mm_ceq, mm_b, mm_nb, mm_nb0, mm_nb1, mm_vb0, mm_vb1, mm_vbc, mm_vy0, mm_vy1, mm_at, mm_ne, mm_nj, mm_Lw, mm_Nw, mm_atJ, mm_neJ, mm_njJ, zbI_s, zbV_s, zbJ_s, cond_t, Bool.true_and, Bool.and_true, if_true, if_false, not_true, not_false_iff, Classical.not_not, zel_r, zel_42, zel_12, zel_71, zel_80, zel_89, zel_110, zel_188, zel_103, zel_195, zr_o, zr_1, zr_2, zr_3, zr_4, zr_5, zr_6, zr_7, zr_8, zr_9, zq_o, zq_v, zt_o, zt_1, zt_2, zt_3, zt_4, zt_5, zf_o, zf_1, za_w1, za_w2, za_w3, za_cm, za_sl, Int.toNat_natCast, Int.toNat_natCast_add_one, mm_t0, mm_t1, mm_t2, mm_t3, mm_t4, mm_t5, mm_t6, mm_t7, mm_t8, mm_t9, mm_t10, mm_t11, mm_t12, mm_t13, za_1, za_64, za_65, za_66, za_67, za_68, za_71, za_80, za_89, za_98, za_103, za_110, za_121, za_122, za_123, za_124, za_125, za_126, za_188, za_193, za_194, za_195, za_286, za_288, za_289, za_290, za_291, za_292, za_293, za_294, za_295, za_296, za_297, za_298, za_299, za_300, za_301, za_302, za_303, za_304, za_305, za_306, za_307, za_308, za_309, za_310, za_311, za_312]) ?_
      rw [mm_r, mm_r, c2, mm_cl (by decide) (by decide), show zN σ 288 ((1 : Int).toNat) = W 1 from e1]
      by_cases q2 : TIo W noD o i < W 1
      · refine zwp_f (by try simp (disch := first | assumption | exact isR33 | exact isT104 | exact isF99 | exact isF101 | exact isR3 | omega | (refine isTk ?_; omega) | (refine isOk isR33 ?_; omega) | (refine isOk ?_ ?_; assumption; omega)) only [mm_r, mm_rl, mm_add, mm_sub, mm_mul, mm_addJ, mm_mulJ, mm_lt, mm_le, mm_eq, mm_z, mm_cl, mm_w, mm_wl, mm_ite, mm_i2l, mm_l2i, mm_ltJ, mm_leJ, mm_eqJ, mm_clt, mm_cle, mm_cgt, mm_cge, mm_ceq, mm_b, mm_nb, mm_nb0, mm_nb1, mm_vb0, mm_vb1, mm_vbc, mm_vy0, mm_vy1, mm_at, mm_ne, mm_nj, mm_Lw, mm_Nw, mm_atJ, mm_neJ, mm_njJ, zbI_s, zbV_s, zbJ_s, cond_t, Bool.true_and, Bool.and_true, if_true, if_false, not_true, not_false_iff, Classical.not_not, zel_r, zel_42, zel_12, zel_71, zel_80, zel_89, zel_110, zel_188, zel_103, zel_195, zr_o, zr_1, zr_2, zr_3, zr_4, zr_5, zr_6, zr_7, zr_8, zr_9, zq_o, zq_v, zt_o, zt_1, zt_2, zt_3, zt_4, zt_5, zf_o, zf_1, za_w1, za_w2, za_w3, za_cm, za_sl, Int.toNat_natCast, Int.toNat_natCast_add_one, mm_t0, mm_t1, mm_t2, mm_t3, mm_t4, mm_t5, mm_t6, mm_t7, mm_t8, mm_t9, mm_t10, mm_t11, mm_t12, mm_t13, za_1, za_64, za_65, za_66, za_67, za_68, za_71, za_80, za_89, za_98, za_103, za_110, za_121, za_122, za_123, za_124, za_125, za_126, za_188, za_193, za_194, za_195, za_286, za_288, za_289, za_290, za_291, za_292, za_293, za_294, za_295, za_296, za_297, za_298, za_299, za_300, za_301, za_302, za_303, za_304, za_305, za_306, za_307, za_308, za_309, za_310, za_311, za_312]; first | done | omega) ?_
        rw [mm_add, g3, zbJ_s, mm_i2l (by omega) (by omega)]
        by_cases z : S.2.2 s ((x : Int) + 2) = TIo W noD o i
        · refine zwp_t (by rw [z]; exact (mm_ceq _ _).mpr rfl) ?_
          rw [if_neg (fgB_eq (by rw [ef]; exact ⟨t1.1, q2⟩) (by rw [ef]; exact z))]
          simp (disch := first | assumption | exact isR33 | exact isT104 | exact isF99 | exact isF101 | exact isR3 | omega | (refine isTk ?_; omega) | (refine isOk isR33 ?_; omega) | (refine isOk ?_ ?_; assumption; omega)) only [mm_r, mm_rl, mm_add, mm_sub, mm_mul, mm_addJ, mm_mulJ, mm_lt, mm_le, mm_eq, mm_z, mm_cl, mm_w, mm_wl, mm_ite, mm_i2l, mm_l2i, mm_ltJ, mm_leJ, mm_eqJ, mm_clt, mm_cle, mm_cgt, mm_cge, mm_ceq, mm_b, mm_nb, mm_nb0, mm_nb1, mm_vb0, mm_vb1, mm_vbc, mm_vy0, mm_vy1, mm_at, mm_ne, mm_nj, mm_Lw, mm_Nw, mm_atJ, mm_neJ, mm_njJ, zbI_s, zbV_s, zbJ_s, cond_t, Bool.true_and, Bool.and_true, if_true, if_false, not_true, not_false_iff, Classical.not_not, zel_r, zel_42, zel_12, zel_71, zel_80, zel_89, zel_110, zel_188, zel_103, zel_195, zr_o, zr_1, zr_2, zr_3, zr_4, zr_5, zr_6, zr_7, zr_8, zr_9, zq_o, zq_v, zt_o, zt_1, zt_2, zt_3, zt_4, zt_5, zf_o, zf_1, za_w1, za_w2, za_w3, za_cm, za_sl, Int.toNat_natCast, Int.toNat_natCast_add_one, mm_t0, mm_t1, mm_t2, mm_t3, mm_t4, mm_t5, mm_t6, mm_t7, mm_t8, mm_t9, mm_t10, mm_t11, mm_t12, mm_t13, za_1, za_64, za_65, za_66, za_67, za_68, za_71, za_80, za_89, za_98, za_103, za_110, za_121, za_122, za_123, za_124, za_125, za_126, za_188, za_193, za_194, za_195, za_286, za_288, za_289, za_290, za_291, za_292, za_293, za_294, za_295, za_296, za_297, za_298, za_299, za_300, za_301, za_302, za_303, za_304, za_305, za_306, za_307, za_308, za_309, za_310, za_311, za_312]
          exact zwp_ret ⟨rfl, rfl⟩
        · refine zwp_f (fun p => z ?_) ?_
          · have p := (mm_ceq _ _).mp p
            rw [mm_eqJ (by omega) (by omega) (by omega) (by omega)] at p
            exact p.symm
          · rw [if_pos (fgB_ne (by rw [ef]; exact z))]
            simp (disch := first | assumption | exact isR33 | exact isT104 | exact isF99 | exact isF101 | exact isR3 | omega | (refine isTk ?_; omega) | (refine isOk isR33 ?_; omega) | (refine isOk ?_ ?_; assumption; omega)) only [mm_r, mm_rl, mm_add, mm_sub, mm_mul, mm_addJ, mm_mulJ, mm_lt, mm_le, mm_eq, mm_z, mm_cl, mm_w, mm_wl, mm_ite, mm_i2l, mm_l2i, mm_ltJ, mm_leJ, mm_eqJ, mm_clt, mm_cle, mm_cgt, mm_cge, mm_ceq, mm_b, mm_nb, mm_nb0, mm_nb1, mm_vb0, mm_vb1, mm_vbc, mm_vy0, mm_vy1, mm_at, mm_ne, mm_nj, mm_Lw, mm_Nw, mm_atJ, mm_neJ, mm_njJ, zbI_s, zbV_s, zbJ_s, cond_t, Bool.true_and, Bool.and_true, if_true, if_false, not_true, not_false_iff, Classical.not_not, zel_r, zel_42, zel_12, zel_71, zel_80, zel_89, zel_110, zel_188, zel_103, zel_195, zr_o, zr_1, zr_2, zr_3, zr_4, zr_5, zr_6, zr_7, zr_8, zr_9, zq_o, zq_v, zt_o, zt_1, zt_2, zt_3, zt_4, zt_5, zf_o, zf_1, za_w1, za_w2, za_w3, za_cm, za_sl, Int.toNat_natCast, Int.toNat_natCast_add_one, mm_t0, mm_t1, mm_t2, mm_t3, mm_t4, mm_t5, mm_t6, mm_t7, mm_t8, mm_t9, mm_t10, mm_t11, mm_t12, mm_t13, za_1, za_64, za_65, za_66, za_67, za_68, za_71, za_80, za_89, za_98, za_103, za_110, za_121, za_122, za_123, za_124, za_125, za_126, za_188, za_193, za_194, za_195, za_286, za_288, za_289, za_290, za_291, za_292, za_293, za_294, za_295, za_296, za_297, za_298, za_299, za_300, za_301, za_302, za_303, za_304, za_305, za_306, za_307, za_308, za_309, za_310, za_311, za_312]
            exact zwp_ret ⟨rfl, rfl⟩
      · refine zwp_t (by try simp (disch := first | assumption | exact isR33 | exact isT104 | exact isF99 | exact isF101 | exact isR3 | omega | (refine isTk ?_; omega) | (refine isOk isR33 ?_; omega) | (refine isOk ?_ ?_; assumption; omega)) only [mm_r, mm_rl, mm_add, mm_sub, mm_mul, mm_addJ, mm_mulJ, mm_lt, mm_le, mm_eq, mm_z, mm_cl, mm_w, mm_wl, mm_ite, mm_i2l, mm_l2i, mm_ltJ, mm_leJ, mm_eqJ, mm_clt, mm_cle, mm_cgt, mm_cge, mm_ceq, mm_b, mm_nb, mm_nb0, mm_nb1, mm_vb0, mm_vb1, mm_vbc, mm_vy0, mm_vy1, mm_at, mm_ne, mm_nj, mm_Lw, mm_Nw, mm_atJ, mm_neJ, mm_njJ, zbI_s, zbV_s, zbJ_s, cond_t, Bool.true_and, Bool.and_true, if_true, if_false, not_true, not_false_iff, Classical.not_not, zel_r, zel_42, zel_12, zel_71, zel_80, zel_89, zel_110, zel_188, zel_103, zel_195, zr_o, zr_1, zr_2, zr_3, zr_4, zr_5, zr_6, zr_7, zr_8, zr_9, zq_o, zq_v, zt_o, zt_1, zt_2, zt_3, zt_4, zt_5, zf_o, zf_1, za_w1, za_w2, za_w3, za_cm, za_sl, Int.toNat_natCast, Int.toNat_natCast_add_one, mm_t0, mm_t1, mm_t2, mm_t3, mm_t4, mm_t5, mm_t6, mm_t7, mm_t8, mm_t9, mm_t10, mm_t11, mm_t12, mm_t13, za_1, za_64, za_65, za_66, za_67, za_68, za_71, za_80, za_89, za_98, za_103, za_110, za_121, za_122, za_123, za_124, za_125, za_126, za_188, za_193, za_194, za_195, za_286, za_288, za_289, za_290, za_291, za_292, za_293, za_294, za_295, za_296, za_297, za_298, za_299, za_300, za_301, za_302, za_303, za_304, za_305, za_306, za_307, za_308, za_309, za_310, za_311, za_312]; first | done | omega) ?_
        rw [if_pos (fgB_no (by rw [ef]; exact fun p => q2 p.2))]
        simp (disch := first | assumption | exact isR33 | exact isT104 | exact isF99 | exact isF101 | exact isR3 | omega | (refine isTk ?_; omega) | (refine isOk isR33 ?_; omega) | (refine isOk ?_ ?_; assumption; omega)) only [mm_r, mm_rl, mm_add, mm_sub, mm_mul, mm_addJ, mm_mulJ, mm_lt, mm_le, mm_eq, mm_z, mm_cl, mm_w, mm_wl, mm_ite, mm_i2l, mm_l2i, mm_ltJ, mm_leJ, mm_eqJ, mm_clt, mm_cle, mm_cgt, mm_cge, mm_ceq, mm_b, mm_nb, mm_nb0, mm_nb1, mm_vb0, mm_vb1, mm_vbc, mm_vy0, mm_vy1, mm_at, mm_ne, mm_nj, mm_Lw, mm_Nw, mm_atJ, mm_neJ, mm_njJ, zbI_s, zbV_s, zbJ_s, cond_t, Bool.true_and, Bool.and_true, if_true, if_false, not_true, not_false_iff, Classical.not_not, zel_r, zel_42, zel_12, zel_71, zel_80, zel_89, zel_110, zel_188, zel_103, zel_195, zr_o, zr_1, zr_2, zr_3, zr_4, zr_5, zr_6, zr_7, zr_8, zr_9, zq_o, zq_v, zt_o, zt_1, zt_2, zt_3, zt_4, zt_5, zf_o, zf_1, za_w1, za_w2, za_w3, za_cm, za_sl, Int.toNat_natCast, Int.toNat_natCast_add_one, mm_t0, mm_t1, mm_t2, mm_t3, mm_t4, mm_t5, mm_t6, mm_t7, mm_t8, mm_t9, mm_t10, mm_t11, mm_t12, mm_t13, za_1, za_64, za_65, za_66, za_67, za_68, za_71, za_80, za_89, za_98, za_103, za_110, za_121, za_122, za_123, za_124, za_125, za_126, za_188, za_193, za_194, za_195, za_286, za_288, za_289, za_290, za_291, za_292, za_293, za_294, za_295, za_296, za_297, za_298, za_299, za_300, za_301, za_302, za_303, za_304, za_305, za_306, za_307, za_308, za_309, za_310, za_311, za_312]
        exact zwp_ret ⟨rfl, rfl⟩
    · rw [if_neg (fun p => q (of_decide_eq_true p))] at hz
      refine zwp_f (fun p => q ?_) ?_
      · have p := (mm_ceq _ _).mp p
        rw [mm_i2l (by omega) (by omega), mm_eqJ (by omega) (by omega) (by omega) (by omega)] at p
        exact p
      · rw [mm_add]
        exact lp_258 hW hg hS hw h hx ho ht htr k (i + 1) (by omega) hz
theorem lp_259_46 {σ : zM} {W : Int → Int} {S : sls} {s : Int} {Q : Option Value → zM → Prop} (hW : WOK W) (hv : wv σ 288 = W) (hS : slM σ S) (hw : slW S) (h : isSl s)
    (K : bkB W (S.2.2 s) (S.1 s / 3).toNat 0 = true → zwp (zbV (zcall 210 [.ref 287] σ) (fun τ5 => zev 259 101 [some (.ref 287), some (.int (Int32.ofInt s)), some (.int (Int32.ofInt 0)), some (.int (Int32.ofInt 0))] [] τ5)) Q)
    (K2 : (¬ bkB W (S.2.2 s) (S.1 s / 3).toNat 0 = true) → Q (some (.int (Int32.ofInt (-2)))) σ) : ∀ (k i : Nat), (i : Int) + 3 * k = S.1 s → bkB W (S.2.2 s) (S.1 s / 3).toNat 0 = bkB W (S.2.2 s) k i → zwp (zev 259 46 [some (.ref 287), some (.int (Int32.ofInt s)), some (.int (Int32.ofInt i)), none] [] σ) Q
  | 0, i, e, hb => by
    have r := hw s h.1 h.2
    have e9 := (hS s h.1 h.2).1
    refine zwp_of (fun r h => ze_259_46 _ _ _ r h) ?_
    refine zwp_cd (za_309 h.1 h.2) ?_
    refine zwp_t (by try simp (disch := first | assumption | exact isR33 | exact isT104 | exact isF99 | exact isF101 | exact isR3 | omega | (refine isTk ?_; omega) | (refine isOk isR33 ?_; omega) | (refine isOk ?_ ?_; assumption; omega)) only [mm_r, mm_rl, mm_add, mm_sub, mm_mul, mm_addJ, mm_mulJ, mm_lt, mm_le, mm_eq, mm_z, mm_cl, mm_w, mm_wl, mm_ite, mm_i2l, mm_l2i, mm_ltJ, mm_leJ, mm_eqJ, mm_clt, mm_cle, mm_cgt, mm_cge, mm_ceq, mm_b, mm_nb, mm_nb0, mm_nb1, mm_vb0, mm_vb1, mm_vbc, mm_vy0, mm_vy1, mm_at, mm_ne, mm_nj, mm_Lw, mm_Nw, mm_atJ, mm_neJ, mm_njJ, zbI_s, zbV_s, zbJ_s, cond_t, Bool.true_and, Bool.and_true, if_true, if_false, not_true, not_false_iff, Classical.not_not, zel_r, zel_42, zel_12, zel_71, zel_80, zel_89, zel_110, zel_188, zel_103, zel_195, zr_o, zr_1, zr_2, zr_3, zr_4, zr_5, zr_6, zr_7, zr_8, zr_9, zq_o, zq_v, zt_o, zt_1, zt_2, zt_3, zt_4, zt_5, zf_o, zf_1, za_w1, za_w2, za_w3, za_cm, za_sl, Int.toNat_natCast, Int.toNat_natCast_add_one, mm_t0, mm_t1, mm_t2, mm_t3, mm_t4, mm_t5, mm_t6, mm_t7, mm_t8, mm_t9, mm_t10, mm_t11, mm_t12, mm_t13, za_1, za_64, za_65, za_66, za_67, za_68, za_71, za_80, za_89, za_98, za_103, za_110, za_121, za_122, za_123, za_124, za_125, za_126, za_188, za_193, za_194, za_195, za_286, za_288, za_289, za_290, za_291, za_292, za_293, za_294, za_295, za_296, za_297, za_298, za_299, za_300, za_301, za_302, za_303, za_304, za_305, za_306, za_307, za_308, za_309, za_310, za_311, za_312, e9]
                     first | done | omega) ?_
    exact K hb
  | k + 1, i, e, hb => by
    have r := hw s h.1 h.2
    have e9 := (hS s h.1 h.2).1
    have e5 : zN σ 288 5 = W 5 := wv_k hv 5
    have e0 : zN σ 288 0 = W 0 := wv_k hv 0
    have h5 := hW.2.2.1
    have h0 := hW.1.1.1
    obtain ⟨g1, r1, r2⟩ := hS.at hw h (i := i) (by omega) (by omega)
    obtain ⟨g2, r3, r4⟩ := hS.at hw h (i := (i : Int) + 1) (by omega) (by omega)
    have s1 := sp_170 (n := S.2.2 s i) (σ := σ) r1 r2 (by omega)
    have s2 := sp_168 (n := S.2.2 s ((i : Int) + 1)) (σ := σ) r3 r4 (by omega)
    rw [e5] at s1
    rw [e0] at s2
    have eb : bkB W (S.2.2 s) (k + 1) i = (decide (inO W (S.2.2 s i)) && decide (inT W (S.2.2 s ((i : Int) + 1))) && bkB W (S.2.2 s) k ((i : Int) + 3)) := rfl
    rw [eb] at hb
    refine zwp_of (fun r h => ze_259_46 _ _ _ r h) ?_
    refine zwp_cd (za_309 h.1 h.2) ?_
    refine zwp_f (by try simp (disch := first | assumption | exact isR33 | exact isT104 | exact isF99 | exact isF101 | exact isR3 | omega | (refine isTk ?_; omega) | (refine isOk isR33 ?_; omega) | (refine isOk ?_ ?_; assumption; omega)) only [mm_r, mm_rl, mm_add, mm_sub, mm_mul, mm_addJ, mm_mulJ, mm_lt, mm_le, mm_eq, mm_z, mm_cl, mm_w, mm_wl, mm_ite, mm_i2l, mm_l2i, mm_ltJ, mm_leJ, mm_eqJ, mm_clt, mm_cle, mm_cgt, mm_cge, mm_ceq, mm_b, mm_nb, mm_nb0, mm_nb1, mm_vb0, mm_vb1, mm_vbc, mm_vy0, mm_vy1, mm_at, mm_ne, mm_nj, mm_Lw, mm_Nw, mm_atJ, mm_neJ, mm_njJ, zbI_s, zbV_s, zbJ_s, cond_t, Bool.true_and, Bool.and_true, if_true, if_false, not_true, not_false_iff, Classical.not_not, zel_r, zel_42, zel_12, zel_71, zel_80, zel_89, zel_110, zel_188, zel_103, zel_195, zr_o, zr_1, zr_2, zr_3, zr_4, zr_5, zr_6, zr_7, zr_8, zr_9, zq_o, zq_v, zt_o, zt_1, zt_2, zt_3, zt_4, zt_5, zf_o, zf_1, za_w1, za_w2, za_w3, za_cm, za_sl, Int.toNat_natCast, Int.toNat_natCast_add_one, mm_t0, mm_t1, mm_t2, mm_t3, mm_t4, mm_t5, mm_t6, mm_t7, mm_t8, mm_t9, mm_t10, mm_t11, mm_t12, mm_t13, za_1, za_64, za_65, za_66, za_67, za_68, za_71, za_80, za_89, za_98, za_103, za_110, za_121, za_122, za_123, za_124, za_125, za_126, za_188, za_193, za_194, za_195, za_286, za_288, za_289, za_290, za_291, za_292, za_293, za_294, za_295, za_296, za_297, za_298, za_299, za_300, za_301, za_302, za_303, za_304, za_305, za_306, za_307, za_308, za_309, za_310, za_311, za_312, e9]
                     first | done | omega) ?_
    rw [g1, zbJ_s, s1, zbI_s]
    by_cases q : inO W (S.2.2 s i)
    · rw [if_pos q]
      refine zwp_f (by decide) ?_
      rw [mm_add, g2, zbJ_s, s2, zbI_s]
      by_cases q2 : inT W (S.2.2 s ((i : Int) + 1))
      · rw [if_pos q2]
        refine zwp_t (by decide) ?_
        rw [decide_eq_true q, decide_eq_true q2, Bool.true_and, Bool.true_and] at hb
        rw [mm_add]
        exact lp_259_46 hW hv hS hw h K K2 k (i + 3) (by omega) hb
      · rw [decide_eq_false q2, Bool.and_false, Bool.false_and] at hb
        rw [if_neg q2]
        refine zwp_f (by decide) ?_
        exact zwp_ret (K2 (by rw [hb]; decide))
    · rw [decide_eq_false q, Bool.false_and, Bool.false_and] at hb
      rw [if_neg q]
      refine zwp_t (by decide) ?_
      exact zwp_ret (K2 (by rw [hb]; decide))
theorem lp_259_101 {σ : zM} {W : Int → Int} {S : sls} {s : Int} (hW : WOK W) (hg : gone σ W noD) (hS : slM σ S) (hw : slW S) (h : isSl s) : ∀ (k i : Nat) (c : Int), (i : Int) + 3 * k = S.1 s → bkB W (S.2.2 s) k i = true → zwp (zev 259 101 [some (.ref 287), some (.int (Int32.ofInt s)), some (.int (Int32.ofInt c)), some (.int (Int32.ofInt i))] [] σ) (fun v τ => v = some (.int (Int32.ofInt (fgC W (S.2.2 s) k i c))) ∧ τ = σ)
  | 0, i, c, e, hb => by
    have r := hw s h.1 h.2
    have e9 := (hS s h.1 h.2).1
    refine zwp_of (fun r h => ze_259_101 _ _ _ _ r h) ?_
    refine zwp_cd (za_309 h.1 h.2) ?_
    refine zwp_t (by try simp (disch := first | assumption | exact isR33 | exact isT104 | exact isF99 | exact isF101 | exact isR3 | omega | (refine isTk ?_; omega) | (refine isOk isR33 ?_; omega) | (refine isOk ?_ ?_; assumption; omega)) only [mm_r, mm_rl, mm_add, mm_sub, mm_mul, mm_addJ, mm_mulJ, mm_lt, mm_le, mm_eq, mm_z, mm_cl, mm_w, mm_wl, mm_ite, mm_i2l, mm_l2i, mm_ltJ, mm_leJ, mm_eqJ, mm_clt, mm_cle, mm_cgt, mm_cge, mm_ceq, mm_b, mm_nb, mm_nb0, mm_nb1, mm_vb0, mm_vb1, mm_vbc, mm_vy0, mm_vy1, mm_at, mm_ne, mm_nj, mm_Lw, mm_Nw, mm_atJ, mm_neJ, mm_njJ, zbI_s, zbV_s, zbJ_s, cond_t, Bool.true_and, Bool.and_true, if_true, if_false, not_true, not_false_iff, Classical.not_not, zel_r, zel_42, zel_12, zel_71, zel_80, zel_89, zel_110, zel_188, zel_103, zel_195, zr_o, zr_1, zr_2, zr_3, zr_4, zr_5, zr_6, zr_7, zr_8, zr_9, zq_o, zq_v, zt_o, zt_1, zt_2, zt_3, zt_4, zt_5, zf_o, zf_1, za_w1, za_w2, za_w3, za_cm, za_sl, Int.toNat_natCast, Int.toNat_natCast_add_one, mm_t0, mm_t1, mm_t2, mm_t3, mm_t4, mm_t5, mm_t6, mm_t7, mm_t8, mm_t9, mm_t10, mm_t11, mm_t12, mm_t13, za_1, za_64, za_65, za_66, za_67, za_68, za_71, za_80, za_89, za_98, za_103, za_110, za_121, za_122, za_123, za_124, za_125, za_126, za_188, za_193, za_194, za_195, za_286, za_288, za_289, za_290, za_291, za_292, za_293, za_294, za_295, za_296, za_297, za_298, za_299, za_300, za_301, za_302, za_303, za_304, za_305, za_306, za_307, za_308, za_309, za_310, za_311, za_312, e9]
                     first | done | omega) ?_
    exact zwp_ret ⟨rfl, rfl⟩
  | k + 1, i, c, e, hb => by
    have r := hw s h.1 h.2
    have e9 := (hS s h.1 h.2).1
    have h5 := hW.2.2.1
    have h8 := hW.1.1.2.1
    obtain ⟨g1, r1, r2⟩ := hS.at hw h (i := i) (by omega) (by omega)
    obtain ⟨b1, b2, b3⟩ := bkB_s hb
    obtain ⟨-, w0, -, -, -⟩ := hW.tr b1 noD
    have ih := lp_259_101 hW hg hS hw h k (i + 3) (if fgB W (S.2.2 s i) (S.2.2 s ((i : Int) + 1)) (S.2.2 s ((i : Int) + 2)) = true then c + 1 else c) (by omega) b3
    have ef : fgC W (S.2.2 s) (k + 1) i c = fgC W (S.2.2 s) k ((i : Int) + 3) (if fgB W (S.2.2 s i) (S.2.2 s ((i : Int) + 1)) (S.2.2 s ((i : Int) + 2)) = true then c + 1 else c) := rfl
    rw [ef]
    refine zwp_of (fun r h => ze_259_101 _ _ _ _ r h) ?_
    refine zwp_cd (za_309 h.1 h.2) ?_
    refine zwp_f (by try simp (disch := first | assumption | exact isR33 | exact isT104 | exact isF99 | exact isF101 | exact isR3 | omega | (refine isTk ?_; omega) | (refine isOk isR33 ?_; omega) | (refine isOk ?_ ?_; assumption; omega)) only [mm_r, mm_rl, mm_add, mm_sub, mm_mul, mm_addJ, mm_mulJ, mm_lt, mm_le, mm_eq, mm_z, mm_cl, mm_w, mm_wl, mm_ite, mm_i2l, mm_l2i, mm_ltJ, mm_leJ, mm_eqJ, mm_clt, mm_cle, mm_cgt, mm_cge, mm_ceq, mm_b, mm_nb, mm_nb0, mm_nb1, mm_vb0, mm_vb1, mm_vbc, mm_vy0, mm_vy1, mm_at, mm_ne, mm_nj, mm_Lw, mm_Nw, mm_atJ, mm_neJ, mm_njJ, zbI_s, zbV_s, zbJ_s, cond_t, Bool.true_and, Bool.and_true, if_true, if_false, not_true, not_false_iff, Classical.not_not, zel_r, zel_42, zel_12, zel_71, zel_80, zel_89, zel_110, zel_188, zel_103, zel_195, zr_o, zr_1, zr_2, zr_3, zr_4, zr_5, zr_6, zr_7, zr_8, zr_9, zq_o, zq_v, zt_o, zt_1, zt_2, zt_3, zt_4, zt_5, zf_o, zf_1, za_w1, za_w2, za_w3, za_cm, za_sl, Int.toNat_natCast, Int.toNat_natCast_add_one, mm_t0, mm_t1, mm_t2, mm_t3, mm_t4, mm_t5, mm_t6, mm_t7, mm_t8, mm_t9, mm_t10, mm_t11, mm_t12, mm_t13, za_1, za_64, za_65, za_66, za_67, za_68, za_71, za_80, za_89, za_98, za_103, za_110, za_121, za_122, za_123, za_124, za_125, za_126, za_188, za_193, za_194, za_195, za_286, za_288, za_289, za_290, za_291, za_292, za_293, za_294, za_295, za_296, za_297, za_298, za_299, za_300, za_301, za_302, za_303, za_304, za_305, za_306, za_307, za_308, za_309, za_310, za_311, za_312, e9]
                     first | done | omega) ?_
    refine zwp_IE (P := fun τ => τ = σ) (E := if fgB W (S.2.2 s i) (S.2.2 s ((i : Int) + 1)) (S.2.2 s ((i : Int) + 2)) = true then 1 else 0) ?_ ?_
    · refine zwp_of (fun r h => zcc_258 (ze_258_0 _ _ _ r h)) ?_
      rw [g1, zbJ_s, mm_l2i (by omega) (by omega)]
      exact lp_258 hW hg hS hw h (x := i) (by omega) b1 rfl b2 (WAY W (S.2.2 s i)).1.toNat 0 (by omega) rfl
    · rintro τ rfl
      by_cases z : fgB W (S.2.2 s i) (S.2.2 s ((i : Int) + 1)) (S.2.2 s ((i : Int) + 2)) = true
      · rw [if_pos z] at ih
        rw [if_pos z, if_pos z]
        refine zwp_f (by decide) ?_
        rw [mm_add, mm_add]
        exact ih
      · rw [if_neg z] at ih
        rw [if_neg z, if_neg z]
        refine zwp_t (by decide) ?_
        rw [mm_add, mm_add, Int.add_zero]
        exact ih
theorem rq_forged {σ : zM} {W : Int → Int} {S : sls} {s : Int} (hB : rB0 σ W) (hS : slM σ S) (hw : slW S) (s0 : -2147483648 ≤ s) (s1 : s < 2147483648) : zwp (zcall 259 [.ref 287, .int (Int32.ofInt s)] σ) (fun v τ => v = some (.int (Int32.ofInt (Efg W S s))) ∧ rK σ τ) := by
  have e0 : zN σ 288 0 = W 0 := wv_k hB.1 0
  refine zwp_of (fun r h => zcc_259 (ze_259_0 _ _ r h)) ?_
  rw [sp_274s s0 s1, zbI_s]
  by_cases q : isSl s
  · have r := hw s q.1 q.2
    have e := (hS s q.1 q.2).1
    rw [if_pos q]
    refine zwp_f (by decide) ?_
    rw [sp_166, zbI_s, e0]
    by_cases q2 : 0 < W 0
    · rw [if_pos q2]
      refine zwp_t (by decide) ?_
      refine zwp_cd (za_309 q.1 q.2) ?_
      by_cases q3 : S.1 s = -1
      · rw [Efg_b ⟨q, q2⟩ q3]
        refine zwp_f (by try simp (disch := first | assumption | exact isR33 | exact isT104 | exact isF99 | exact isF101 | exact isR3 | omega | (refine isTk ?_; omega) | (refine isOk isR33 ?_; omega) | (refine isOk ?_ ?_; assumption; omega)) only [mm_r, mm_rl, mm_add, mm_sub, mm_mul, mm_addJ, mm_mulJ, mm_lt, mm_le, mm_eq, mm_z, mm_cl, mm_w, mm_wl, mm_ite, mm_i2l, mm_l2i, mm_ltJ, mm_leJ, mm_eqJ, mm_clt, mm_cle, mm_cgt, mm_cge, mm_ceq, mm_b, mm_nb, mm_nb0, mm_nb1, mm_vb0, mm_vb1, mm_vbc, mm_vy0, mm_vy1, mm_at, mm_ne, mm_nj, mm_Lw, mm_Nw, mm_atJ, mm_neJ, mm_njJ, zbI_s, zbV_s, zbJ_s, cond_t, Bool.true_and, Bool.and_true, if_true, if_false, not_true, not_false_iff, Classical.not_not, zel_r, zel_42, zel_12, zel_71, zel_80, zel_89, zel_110, zel_188, zel_103, zel_195, zr_o, zr_1, zr_2, zr_3, zr_4, zr_5, zr_6, zr_7, zr_8, zr_9, zq_o, zq_v, zt_o, zt_1, zt_2, zt_3, zt_4, zt_5, zf_o, zf_1, za_w1, za_w2, za_w3, za_cm, za_sl, Int.toNat_natCast, Int.toNat_natCast_add_one, mm_t0, mm_t1, mm_t2, mm_t3, mm_t4, mm_t5, mm_t6, mm_t7, mm_t8, mm_t9, mm_t10, mm_t11, mm_t12, mm_t13, za_1, za_64, za_65, za_66, za_67, za_68, za_71, za_80, za_89, za_98, za_103, za_110, za_121, za_122, za_123, za_124, za_125, za_126, za_188, za_193, za_194, za_195, za_286, za_288, za_289, za_290, za_291, za_292, za_293, za_294, za_295, za_296, za_297, za_298, za_299, za_300, za_301, za_302, za_303, za_304, za_305, za_306, za_307, za_308, za_309, za_310, za_311, za_312, e, q3]; first | done | omega) ?_
        exact zwp_ret ⟨rfl, rK.rf⟩
      · refine zwp_t (by try simp (disch := first | assumption | exact isR33 | exact isT104 | exact isF99 | exact isF101 | exact isR3 | omega | (refine isTk ?_; omega) | (refine isOk isR33 ?_; omega) | (refine isOk ?_ ?_; assumption; omega)) only [mm_r, mm_rl, mm_add, mm_sub, mm_mul, mm_addJ, mm_mulJ, mm_lt, mm_le, mm_eq, mm_z, mm_cl, mm_w, mm_wl, mm_ite, mm_i2l, mm_l2i, mm_ltJ, mm_leJ, mm_eqJ, mm_clt, mm_cle, mm_cgt, mm_cge, mm_ceq, mm_b, mm_nb, mm_nb0, mm_nb1, mm_vb0, mm_vb1, mm_vbc, mm_vy0, mm_vy1, mm_at, mm_ne, mm_nj, mm_Lw, mm_Nw, mm_atJ, mm_neJ, mm_njJ, zbI_s, zbV_s, zbJ_s, cond_t, Bool.true_and, Bool.and_true, if_true, if_false, not_true, not_false_iff, Classical.not_not, zel_r, zel_42, zel_12, zel_71, zel_80, zel_89, zel_110, zel_188, zel_103, zel_195, zr_o, zr_1, zr_2, zr_3, zr_4, zr_5, zr_6, zr_7, zr_8, zr_9, zq_o, zq_v, zt_o, zt_1, zt_2, zt_3, zt_4, zt_5, zf_o, zf_1, za_w1, za_w2, za_w3, za_cm, za_sl, Int.toNat_natCast, Int.toNat_natCast_add_one, mm_t0, mm_t1, mm_t2, mm_t3, mm_t4, mm_t5, mm_t6, mm_t7, mm_t8, mm_t9, mm_t10, mm_t11, mm_t12, mm_t13, za_1, za_64, za_65, za_66, za_67, za_68, za_71, za_80, za_89, za_98, za_103, za_110, za_121, za_122, za_123, za_124, za_125, za_126, za_188, za_193, za_194, za_195, za_286, za_288, za_289, za_290, za_291, za_292, za_293, za_294, za_295, za_296, za_297, za_298, za_299, za_300, za_301, za_302, za_303, za_304, za_305, za_306, za_307, za_308, za_309, za_310, za_311, za_312, e]; first | done | omega) ?_
        refine zwp_cd (za_309 q.1 q.2) ?_
        refine zwp_f (by decide) ?_
        rw [mm_cl (by omega) (by omega), mm_r, e]
        by_cases q4 : S.1 s % 3 = 0
        · refine zwp_t ((rem3i (by omega) (by omega)).mpr q4) ?_
          refine lp_259_46 hB.2.1 hB.1 hS hw q (fun hb => ?_) (fun hb => ?_) (S.1 s / 3).toNat 0 (by omega) rfl
          · rw [Efg_d ⟨q, q2⟩ q3 ⟨q4, hb⟩]
            refine zwp_V _ (sp_210c hB) ?_
            rintro τ ⟨hk, hg⟩
            have hS2 : slM τ S := hS.fr (fun b hb => ⟨fun k => hk.1.1 b (by unfold slmS at hb; unfold refS; omega) k, fun k => hk.1.2.1 b (by unfold slmS at hb; unfold refS; omega) k⟩)
            refine zwp_mono (lp_259_101 hB.2.1 hg hS2 hw q (S.1 s / 3).toNat 0 0 (by omega) hb) ?_
            rintro v υ ⟨rfl, rfl⟩
            exact ⟨rfl, hk⟩
          · rw [Efg_c ⟨q, q2⟩ q3 (fun p => hb p.2)]
            exact ⟨rfl, rK.rf⟩
        · rw [Efg_c ⟨q, q2⟩ q3 (fun p => q4 p.1)]
          refine zwp_f (fun p => q4 ((rem3i (by omega) (by omega)).mp p)) ?_
          exact zwp_ret ⟨rfl, rK.rf⟩
    · rw [Efg_a (S := S) (fun p => q2 p.2), if_neg q2]
      refine zwp_f (by decide) ?_
      exact zwp_ret ⟨rfl, rK.rf⟩
  · rw [Efg_a (W := W) (S := S) (fun p => q p.1), if_neg q]
    refine zwp_t (by decide) ?_
    exact zwp_ret ⟨rfl, rK.rf⟩
