/-! WHAT HOLDS: the reference's -/
def rT (σ : zM) (t h : Int) (o : Int) : Bool := decide (zN σ 299 o.toNat ≠ -1 ∧ zN σ 300 o.toNat = t ∧ zN σ 299 o.toNat ≤ h ∧ zN σ 299 o.toNat ≤ zN σ 288 7)
def rO (σ : zM) (w o : Int) : Int := zN σ 288 (80 + 14 * o + w).toNat
theorem sp_215r {o t h : Int} (h0 : 0 ≤ o) (h1 : o < 11) (ht0 : -2147483648 ≤ t) (ht1 : t < 2147483648) (hh0 : -2147483648 ≤ h) (hh1 : h < 2147483648) {σ : zM} : zcall 215 [.ref 287, .int (Int32.ofInt o), .int (Int32.ofInt t), .int (Int32.ofInt h)] σ = some (some (.int (Int32.ofInt (if rT σ t h o = true then 1 else 0))), σ) := by
  rw [sp_215 h0 h1 ht0 ht1 hh0 hh1]
  unfold rT
  simp only [decide_eq_true_eq]
theorem sp_173r {o w : Int} (h0 : 0 ≤ o) (h1 : o < 10) (h2 : 0 ≤ w) (h3 : w < 14) {σ : zM} : zcall 173 [.ref 287, .int (Int32.ofInt o), .int (Int32.ofInt w)] σ = some (some (.int (Int32.ofInt (rO σ w o))), σ) := sp_173 h0 h1 h2 h3
theorem rO_lo (σ : zM) (w o : Int) : -2147483648 ≤ rO σ w o := mm_lo _ _ _
theorem rO_hi (σ : zM) (w o : Int) : rO σ w o < 2147483648 := mm_hi _ _ _
/-- n orders, of which each undoes one told ahead, or none -/
def rC (σ : zM) (n : Nat) : Prop := zN σ 288 5 = n ∧ n ≤ 10 ∧ ∀ o : Int, 0 ≤ o → o < n → rO σ 3 o = -1 ∨ 0 ≤ rO σ 3 o ∧ rO σ 3 o < n
def rU (σ : zM) (n : Nat) (t h : Int) : Int32 := udn (rT σ t h) (rO σ 3) n n
theorem lp_216 {t h : Int} {σ : zM} {n : Nat} (ht0 : -2147483648 ≤ t) (ht1 : t < 2147483648) (hh0 : -2147483648 ≤ h) (hh1 : h < 2147483648) (hC : rC σ n) : ∀ j k : Nat, j + k = n → zev 216 12 [some (.ref 287), some (.int (Int32.ofInt t)), some (.int (Int32.ofInt h)), some (.int (udn (rT σ t h) (rO σ 3) n k)), some (.int (Int32.ofInt (n - 1 - k))), none] [] σ = some (some (.int (rU σ n t h)), σ)
  | 0, k, e => by
    have h10 := hC.2.1
    refine ze_216_12 _ _ _ _ _ _ ?_
    simp (disch := first | assumption | exact isR33 | exact isT104 | exact isF99 | exact isF101 | exact isR3 | omega | (refine isTk ?_; omega) | (refine isOk isR33 ?_; omega) | (refine isOk ?_ ?_; assumption; omega)) only [mm_r, mm_rl, mm_add, mm_sub, mm_mul, mm_addJ, mm_mulJ, mm_lt, mm_le, mm_eq, mm_z, mm_cl, mm_w, mm_wl, mm_ite, mm_i2l, mm_l2i, mm_ltJ, mm_leJ, mm_eqJ, mm_clt, mm_cle, mm_cgt, mm_cge, mm_ceq, mm_b, mm_nb, mm_nb0, mm_nb1, mm_vb0, mm_vb1, mm_vbc, mm_vy0, mm_vy1, mm_at, mm_ne, mm_nj, mm_Lw, mm_Nw, mm_atJ, mm_neJ, mm_njJ, zbI_s, zbV_s, zbJ_s, cond_t, Bool.true_and, Bool.and_true, if_true, if_false, not_true, not_false_iff, zel_r, zel_42, zel_12, zel_71, zel_80, zel_89, zel_110, zel_188, zel_103, zel_195, zr_o, zr_1, zr_2, zr_3, zr_4, zr_5, zr_6, zr_7, zr_8, zr_9, zq_o, zq_v, zt_o, zt_1, zt_2, zt_3, zt_4, zt_5, zf_o, zf_1, za_w1, za_w2, za_w3, za_cm, za_sl, Int.toNat_natCast, mm_t0, mm_t1, mm_t2, mm_t3, mm_t4, mm_t5, mm_t6, mm_t7, mm_t8, mm_t9, mm_t10, mm_t11, mm_t12, mm_t13, za_1, za_64, za_65, za_66, za_67, za_68, za_71, za_80, za_89, za_98, za_103, za_110, za_121, za_122, za_123, za_124, za_125, za_126, za_188, za_193, za_194, za_195, za_286, za_288, za_289, za_290, za_291, za_292, za_293, za_294, za_295, za_296, za_297, za_298, za_299, za_300, za_301, za_302, za_303, za_304, za_305, za_306, za_307, za_308, za_309, za_310, za_311, za_312]
    rw [if_pos (by omega), show k = n by omega]
    rfl
  | j + 1, k, e => by
    have h10 := hC.2.1
    have ih := lp_216 ht0 ht1 hh0 hh1 hC j (k + 1) (by omega)
    have hu := hC.2.2 ((n : Int) - 1 - k) (by omega) (by omega)
    have e2 : (n : Int) - 1 - (k + 1 : Nat) = (n : Int) - 1 - k + -1 := by omega
    rw [udn, e2] at ih
    refine ze_216_12 _ _ _ _ _ _ ?_
    generalize udn (rT σ t h) (rO σ 3) n k = u at ih ⊢
    have ho0 : 0 ≤ (n : Int) - 1 - k := by omega
    have ho1 : (n : Int) - 1 - k < 10 := by omega
    generalize (n : Int) - 1 - k = o at ih hu ho0 ho1 ⊢
    have a1 := rO_lo σ 3 o
    have a2 := rO_hi σ 3 o
    rw [sp_173r (by omega) (by omega) (by omega) (by omega), zbI_s, sp_215r (by omega) (by omega) ht0 ht1 hh0 hh1, zbI_s]
    simp (disch := first | assumption | exact isR33 | exact isT104 | exact isF99 | exact isF101 | exact isR3 | omega | (refine isTk ?_; omega) | (refine isOk isR33 ?_; omega) | (refine isOk ?_ ?_; assumption; omega)) only [mm_r, mm_rl, mm_add, mm_sub, mm_mul, mm_addJ, mm_mulJ, mm_lt, mm_le, mm_eq, mm_z, mm_cl, mm_w, mm_wl, mm_ite, mm_i2l, mm_l2i, mm_ltJ, mm_leJ, mm_eqJ, mm_clt, mm_cle, mm_cgt, mm_cge, mm_ceq, mm_b, mm_nb, mm_nb0, mm_nb1, mm_vb0, mm_vb1, mm_vbc, mm_vy0, mm_vy1, mm_at, mm_ne, mm_nj, mm_Lw, mm_Nw, mm_atJ, mm_neJ, mm_njJ, zbI_s, zbV_s, zbJ_s, cond_t, Bool.true_and, Bool.and_true, if_true, if_false, not_true, not_false_iff, zel_r, zel_42, zel_12, zel_71, zel_80, zel_89, zel_110, zel_188, zel_103, zel_195, zr_o, zr_1, zr_2, zr_3, zr_4, zr_5, zr_6, zr_7, zr_8, zr_9, zq_o, zq_v, zt_o, zt_1, zt_2, zt_3, zt_4, zt_5, zf_o, zf_1, za_w1, za_w2, za_w3, za_cm, za_sl, Int.toNat_natCast, mm_t0, mm_t1, mm_t2, mm_t3, mm_t4, mm_t5, mm_t6, mm_t7, mm_t8, mm_t9, mm_t10, mm_t11, mm_t12, mm_t13, za_1, za_64, za_65, za_66, za_67, za_68, za_71, za_80, za_89, za_98, za_103, za_110, za_121, za_122, za_123, za_124, za_125, za_126, za_188, za_193, za_194, za_195, za_286, za_288, za_289, za_290, za_291, za_292, za_293, za_294, za_295, za_296, za_297, za_298, za_299, za_300, za_301, za_302, za_303, za_304, za_305, za_306, za_307, za_308, za_309, za_310, za_311, za_312, bt_def, shr0]
    rw [if_neg (by omega)]
    split
    · next q =>
      rw [if_neg (fun p => p.1 q)] at ih
      exact ih
    · next q =>
      cases r1 : xb u o.toNat with
      | true =>
        rw [if_pos (by decide)]
        rw [if_neg (fun p => by rw [r1] at p; exact absurd p.2.2.1 (by decide))] at ih
        exact ih
      | false =>
        rw [if_neg (by decide)]
        split
        · next r2 =>
          rw [if_neg (fun p => r2 p.2.1)] at ih
          exact ih
        · next r2 =>
          have r2 := Decidable.not_not.mp r2
          rw [sp_215r (by omega) (by omega) ht0 ht1 hh0 hh1, zbI_s]
          simp (disch := first | assumption | exact isR33 | exact isT104 | exact isF99 | exact isF101 | exact isR3 | omega | (refine isTk ?_; omega) | (refine isOk isR33 ?_; omega) | (refine isOk ?_ ?_; assumption; omega)) only [mm_r, mm_rl, mm_add, mm_sub, mm_mul, mm_addJ, mm_mulJ, mm_lt, mm_le, mm_eq, mm_z, mm_cl, mm_w, mm_wl, mm_ite, mm_i2l, mm_l2i, mm_ltJ, mm_leJ, mm_eqJ, mm_clt, mm_cle, mm_cgt, mm_cge, mm_ceq, mm_b, mm_nb, mm_nb0, mm_nb1, mm_vb0, mm_vb1, mm_vbc, mm_vy0, mm_vy1, mm_at, mm_ne, mm_nj, mm_Lw, mm_Nw, mm_atJ, mm_neJ, mm_njJ, zbI_s, zbV_s, zbJ_s, cond_t, Bool.true_and, Bool.and_true, if_true, if_false, not_true, not_false_iff, zel_r, zel_42, zel_12, zel_71, zel_80, zel_89, zel_110, zel_188, zel_103, zel_195, zr_o, zr_1, zr_2, zr_3, zr_4, zr_5, zr_6, zr_7, zr_8, zr_9, zq_o, zq_v, zt_o, zt_1, zt_2, zt_3, zt_4, zt_5, zf_o, zf_1, za_w1, za_w2, za_w3, za_cm, za_sl, Int.toNat_natCast, mm_t0, mm_t1, mm_t2, mm_t3, mm_t4, mm_t5, mm_t6, mm_t7, mm_t8, mm_t9, mm_t10, mm_t11, mm_t12, mm_t13, za_1, za_64, za_65, za_66, za_67, za_68, za_71, za_80, za_89, za_98, za_103, za_110, za_121, za_122, za_123, za_124, za_125, za_126, za_188, za_193, za_194, za_195, za_286, za_288, za_289, za_290, za_291, za_292, za_293, za_294, za_295, za_296, za_297, za_298, za_299, za_300, za_301, za_302, za_303, za_304, za_305, za_306, za_307, za_308, za_309, za_310, za_311, za_312]
          split
          · next r3 =>
            rw [if_neg (fun p => r3 p.2.2.2)] at ih
            exact ih
          · next r3 =>
            rw [if_pos ⟨q, r2, r1, Decidable.not_not.mp r3⟩] at ih
            exact ih
theorem sp_216 {t h : Int} {σ : zM} {n : Nat} (ht0 : -2147483648 ≤ t) (ht1 : t < 2147483648) (hh0 : -2147483648 ≤ h) (hh1 : h < 2147483648) (hC : rC σ n) : zcall 216 [.ref 287, .int (Int32.ofInt t), .int (Int32.ofInt h)] σ = some (some (.int (rU σ n t h)), σ) := by
  have h := lp_216 ht0 ht1 hh0 hh1 hC n 0 (by omega)
  refine zcc_216 (ze_216_0 _ _ _ _ ?_)
  simp (disch := first | assumption | exact isR33 | exact isT104 | exact isF99 | exact isF101 | exact isR3 | omega | (refine isTk ?_; omega) | (refine isOk isR33 ?_; omega) | (refine isOk ?_ ?_; assumption; omega)) only [mm_r, mm_rl, mm_add, mm_sub, mm_mul, mm_addJ, mm_mulJ, mm_lt, mm_le, mm_eq, mm_z, mm_cl, mm_w, mm_wl, mm_ite, mm_i2l, mm_l2i, mm_ltJ, mm_leJ, mm_eqJ, mm_clt, mm_cle, mm_cgt, mm_cge, mm_ceq, mm_b, mm_nb, mm_nb0, mm_nb1, mm_vb0, mm_vb1, mm_vbc, mm_vy0, mm_vy1, mm_at, mm_ne, mm_nj, mm_Lw, mm_Nw, mm_atJ, mm_neJ, mm_njJ, zbI_s, zbV_s, zbJ_s, cond_t, Bool.true_and, Bool.and_true, if_true, if_false, not_true, not_false_iff, zel_r, zel_42, zel_12, zel_71, zel_80, zel_89, zel_110, zel_188, zel_103, zel_195, zr_o, zr_1, zr_2, zr_3, zr_4, zr_5, zr_6, zr_7, zr_8, zr_9, zq_o, zq_v, zt_o, zt_1, zt_2, zt_3, zt_4, zt_5, zf_o, zf_1, za_w1, za_w2, za_w3, za_cm, za_sl, Int.toNat_natCast, mm_t0, mm_t1, mm_t2, mm_t3, mm_t4, mm_t5, mm_t6, mm_t7, mm_t8, mm_t9, mm_t10, mm_t11, mm_t12, mm_t13, za_1, za_64, za_65, za_66, za_67, za_68, za_71, za_80, za_89, za_98, za_103, za_110, za_121, za_122, za_123, za_124, za_125, za_126, za_188, za_193, za_194, za_195, za_286, za_288, za_289, za_290, za_291, za_292, za_293, za_294, za_295, za_296, za_297, za_298, za_299, za_300, za_301, za_302, za_303, za_304, za_305, za_306, za_307, za_308, za_309, za_310, za_311, za_312, hC.1]
  rw [show (n : Int) - 1 = n - 1 - (0 : Nat) by omega]
  exact h
/-- what an order is about, what it says; the queen's is the eleventh -/
def rA (σ : zM) (o : Int) : Int := if o = 10 then zN σ 287 26 else rO σ 1 o
def rS (σ : zM) (o : Int) : Int := if o = 10 then zN σ 287 25 else rO σ 2 o
theorem sp_217r {o : Int} (h0 : 0 ≤ o) (h1 : o < 11) {σ : zM} : zcall 217 [.ref 287, .int (Int32.ofInt o)] σ = some (some (.int (Int32.ofInt (rA σ o))), σ) := sp_217 h0 h1
theorem sp_218r {o : Int} (h0 : 0 ≤ o) (h1 : o < 11) {σ : zM} : zcall 218 [.ref 287, .int (Int32.ofInt o)] σ = some (some (.int (Int32.ofInt (rS σ o))), σ) := sp_218 h0 h1
theorem rA_rng (σ : zM) (o : Int) : -2147483648 ≤ rA σ o ∧ rA σ o < 2147483648 := by
  unfold rA
  split
  · exact ⟨mm_lo _ _ _, mm_hi _ _ _⟩
  · exact ⟨mm_lo _ _ _, mm_hi _ _ _⟩
theorem rS_rng (σ : zM) (o : Int) : -2147483648 ≤ rS σ o ∧ rS σ o < 2147483648 := by
  unfold rS
  split
  · exact ⟨mm_lo _ _ _, mm_hi _ _ _⟩
  · exact ⟨mm_lo _ _ _, mm_hi _ _ _⟩
def rP (σ : zM) (n : Nat) (t g h : Int) (o : Int) : Bool := decide (o < n ∨ o = 10) && rT σ t h o && decide (rA σ o = g) && decide (rS σ o ≠ -1) && !(xb (rU σ n t h) o.toNat)
def rB (σ : zM) (n : Nat) (t g h : Int) : Int := br (rP σ n t g h) (kr σ 299) 11
theorem lp_219 {t g h : Int} {σ : zM} {n : Nat} (ht0 : -2147483648 ≤ t) (ht1 : t < 2147483648) (hg0 : -2147483648 ≤ g) (hg1 : g < 2147483648) (hh0 : -2147483648 ≤ h) (hh1 : h < 2147483648) (hC : rC σ n) : ∀ k i : Nat, i + k = 11 → zev 219 14 [some (.ref 287), some (.int (Int32.ofInt t)), some (.int (Int32.ofInt g)), some (.int (Int32.ofInt h)), some (.int (rU σ n t h)), some (.int (Int32.ofInt (br (rP σ n t g h) (kr σ 299) i))), some (.int (Int32.ofInt i))] [] σ = some (some (.int (Int32.ofInt (rB σ n t g h))), σ)
  | 0, i, e => by
    refine ze_219_14 _ _ _ _ _ _ _ _ ?_
    simp (disch := first | assumption | exact isR33 | exact isT104 | exact isF99 | exact isF101 | exact isR3 | omega | (refine isTk ?_; omega) | (refine isOk isR33 ?_; omega) | (refine isOk ?_ ?_; assumption; omega)) only [mm_r, mm_rl, mm_add, mm_sub, mm_mul, mm_addJ, mm_mulJ, mm_lt, mm_le, mm_eq, mm_z, mm_cl, mm_w, mm_wl, mm_ite, mm_i2l, mm_l2i, mm_ltJ, mm_leJ, mm_eqJ, mm_clt, mm_cle, mm_cgt, mm_cge, mm_ceq, mm_b, mm_nb, mm_nb0, mm_nb1, mm_vb0, mm_vb1, mm_vbc, mm_vy0, mm_vy1, mm_at, mm_ne, mm_nj, mm_Lw, mm_Nw, mm_atJ, mm_neJ, mm_njJ, zbI_s, zbV_s, zbJ_s, cond_t, Bool.true_and, Bool.and_true, if_true, if_false, not_true, not_false_iff, zel_r, zel_42, zel_12, zel_71, zel_80, zel_89, zel_110, zel_188, zel_103, zel_195, zr_o, zr_1, zr_2, zr_3, zr_4, zr_5, zr_6, zr_7, zr_8, zr_9, zq_o, zq_v, zt_o, zt_1, zt_2, zt_3, zt_4, zt_5, zf_o, zf_1, za_w1, za_w2, za_w3, za_cm, za_sl, Int.toNat_natCast, mm_t0, mm_t1, mm_t2, mm_t3, mm_t4, mm_t5, mm_t6, mm_t7, mm_t8, mm_t9, mm_t10, mm_t11, mm_t12, mm_t13, za_1, za_64, za_65, za_66, za_67, za_68, za_71, za_80, za_89, za_98, za_103, za_110, za_121, za_122, za_123, za_124, za_125, za_126, za_188, za_193, za_194, za_195, za_286, za_288, za_289, za_290, za_291, za_292, za_293, za_294, za_295, za_296, za_297, za_298, za_299, za_300, za_301, za_302, za_303, za_304, za_305, za_306, za_307, za_308, za_309, za_310, za_311, za_312]
    rw [if_pos (by omega), show i = 11 by omega]
    rfl
  | k + 1, i, e => by
    have h10 := hC.2.1
    have ih := lp_219 ht0 ht1 hg0 hg1 hh0 hh1 hC k (i + 1) (by omega)
    have r := br_rng (rP σ n t g h) (kr σ 299) i
    have b1 := rA_rng σ i
    have b2 := rS_rng σ i
    have b5 := mm_lo σ 299 i
    have b6 := mm_hi σ 299 i
    rw [br] at ih
    have hP : rP σ n t g h i = true ↔ (((((i : Int) < n ∨ (i : Int) = 10) ∧ rT σ t h i = true) ∧ rA σ i = g) ∧ rS σ i ≠ -1) ∧ xb (rU σ n t h) i = false := by
      unfold rP
      simp only [Bool.and_eq_true, decide_eq_true_eq, Bool.not_eq_true']
      exact Iff.rfl
    have hc : ∀ l, kr σ 299 l = zN σ 299 l.toNat := fun _ => rfl
    generalize br (rP σ n t g h) (kr σ 299) i = l at ih r ⊢
    have b7 := mm_lo σ 299 l.toNat
    have b8 := mm_hi σ 299 l.toNat
    simp only [hP] at ih
    simp only [hc, Int.toNat_natCast] at ih
    have hbody : ((i : Int) < n ∨ (i : Int) = 10) → zev 219 39 [some (.ref 287), some (.int (Int32.ofInt t)), some (.int (Int32.ofInt g)), some (.int (Int32.ofInt h)), some (.int (rU σ n t h)), some (.int (Int32.ofInt l)), some (.int (Int32.ofInt i))] [] σ = some (some (.int (Int32.ofInt (rB σ n t g h))), σ) := by
      intro hi
      refine ze_219_39 _ _ _ _ _ _ _ _ ?_
      rw [sp_215r (by omega) (by omega) ht0 ht1 hh0 hh1, zbI_s, sp_217r (by omega) (by omega), zbI_s, sp_218r (by omega) (by omega), zbI_s]
      simp (disch := first | assumption | exact isR33 | exact isT104 | exact isF99 | exact isF101 | exact isR3 | omega | (refine isTk ?_; omega) | (refine isOk isR33 ?_; omega) | (refine isOk ?_ ?_; assumption; omega)) only [mm_r, mm_rl, mm_add, mm_sub, mm_mul, mm_addJ, mm_mulJ, mm_lt, mm_le, mm_eq, mm_z, mm_cl, mm_w, mm_wl, mm_ite, mm_i2l, mm_l2i, mm_ltJ, mm_leJ, mm_eqJ, mm_clt, mm_cle, mm_cgt, mm_cge, mm_ceq, mm_b, mm_nb, mm_nb0, mm_nb1, mm_vb0, mm_vb1, mm_vbc, mm_vy0, mm_vy1, mm_at, mm_ne, mm_nj, mm_Lw, mm_Nw, mm_atJ, mm_neJ, mm_njJ, zbI_s, zbV_s, zbJ_s, cond_t, Bool.true_and, Bool.and_true, if_true, if_false, not_true, not_false_iff, zel_r, zel_42, zel_12, zel_71, zel_80, zel_89, zel_110, zel_188, zel_103, zel_195, zr_o, zr_1, zr_2, zr_3, zr_4, zr_5, zr_6, zr_7, zr_8, zr_9, zq_o, zq_v, zt_o, zt_1, zt_2, zt_3, zt_4, zt_5, zf_o, zf_1, za_w1, za_w2, za_w3, za_cm, za_sl, Int.toNat_natCast, mm_t0, mm_t1, mm_t2, mm_t3, mm_t4, mm_t5, mm_t6, mm_t7, mm_t8, mm_t9, mm_t10, mm_t11, mm_t12, mm_t13, za_1, za_64, za_65, za_66, za_67, za_68, za_71, za_80, za_89, za_98, za_103, za_110, za_121, za_122, za_123, za_124, za_125, za_126, za_188, za_193, za_194, za_195, za_286, za_288, za_289, za_290, za_291, za_292, za_293, za_294, za_295, za_296, za_297, za_298, za_299, za_300, za_301, za_302, za_303, za_304, za_305, za_306, za_307, za_308, za_309, za_310, za_311, za_312, shr1]
      split
      · next q =>
        rw [if_neg (fun p => q p.1.1.1.1.2)] at ih
        exact ih
      · next q =>
        split
        · next q2 =>
          rw [if_neg (fun p => q2 p.1.1.1.2)] at ih
          exact ih
        · next q2 =>
          split
          · next q3 =>
            rw [if_neg (fun p => p.1.1.2 q3)] at ih
            exact ih
          · next q3 =>
            split
            · next q4 =>
              have q4 := Bool.not_eq_true _ |>.mp q4
              have pp : (((((i : Int) < n ∨ (i : Int) = 10) ∧ rT σ t h i = true) ∧ rA σ i = g) ∧ rS σ i ≠ -1) ∧ xb (rU σ n t h) i = false := ⟨⟨⟨⟨hi, Decidable.not_not.mp q⟩, Decidable.not_not.mp q2⟩, q3⟩, q4⟩
              split
              · next q5 =>
                rw [if_pos ⟨pp, .inl q5⟩] at ih
                exact ih
              · next q5 =>
                split
                · next q6 =>
                  rw [if_neg (fun p => by have := p.2; omega)] at ih
                  exact ih
                · next q6 =>
                  rw [if_pos ⟨pp, .inr (by omega)⟩] at ih
                  exact ih
            · next q4 =>
              rw [if_neg (fun p => by rw [p.1.2] at q4; exact q4 (by decide))] at ih
              exact ih
    have b9 := hC.1
    refine ze_219_14 _ _ _ _ _ _ _ _ ?_
    simp (disch := first | assumption | exact isR33 | exact isT104 | exact isF99 | exact isF101 | exact isR3 | omega | (refine isTk ?_; omega) | (refine isOk isR33 ?_; omega) | (refine isOk ?_ ?_; assumption; omega)) only [mm_r, mm_rl, mm_add, mm_sub, mm_mul, mm_addJ, mm_mulJ, mm_lt, mm_le, mm_eq, mm_z, mm_cl, mm_w, mm_wl, mm_ite, mm_i2l, mm_l2i, mm_ltJ, mm_leJ, mm_eqJ, mm_clt, mm_cle, mm_cgt, mm_cge, mm_ceq, mm_b, mm_nb, mm_nb0, mm_nb1, mm_vb0, mm_vb1, mm_vbc, mm_vy0, mm_vy1, mm_at, mm_ne, mm_nj, mm_Lw, mm_Nw, mm_atJ, mm_neJ, mm_njJ, zbI_s, zbV_s, zbJ_s, cond_t, Bool.true_and, Bool.and_true, if_true, if_false, not_true, not_false_iff, zel_r, zel_42, zel_12, zel_71, zel_80, zel_89, zel_110, zel_188, zel_103, zel_195, zr_o, zr_1, zr_2, zr_3, zr_4, zr_5, zr_6, zr_7, zr_8, zr_9, zq_o, zq_v, zt_o, zt_1, zt_2, zt_3, zt_4, zt_5, zf_o, zf_1, za_w1, za_w2, za_w3, za_cm, za_sl, Int.toNat_natCast, mm_t0, mm_t1, mm_t2, mm_t3, mm_t4, mm_t5, mm_t6, mm_t7, mm_t8, mm_t9, mm_t10, mm_t11, mm_t12, mm_t13, za_1, za_64, za_65, za_66, za_67, za_68, za_71, za_80, za_89, za_98, za_103, za_110, za_121, za_122, za_123, za_124, za_125, za_126, za_188, za_193, za_194, za_195, za_286, za_288, za_289, za_290, za_291, za_292, za_293, za_294, za_295, za_296, za_297, za_298, za_299, za_300, za_301, za_302, za_303, za_304, za_305, za_306, za_307, za_308, za_309, za_310, za_311, za_312]
    rw [if_neg (by omega)]
    split
    · exact hbody (by omega)
    · split
      · rw [if_neg (fun p => by have := p.1.1.1.1.1; omega)] at ih
        exact ih
      · exact hbody (by omega)
theorem sp_219 {t g h : Int} {σ : zM} {n : Nat} (ht0 : -2147483648 ≤ t) (ht1 : t < 2147483648) (hg0 : -2147483648 ≤ g) (hg1 : g < 2147483648) (hh0 : -2147483648 ≤ h) (hh1 : h < 2147483648) (hC : rC σ n) : zcall 219 [.ref 287, .int (Int32.ofInt t), .int (Int32.ofInt g), .int (Int32.ofInt h)] σ = some (some (.int (Int32.ofInt (rB σ n t g h))), σ) := by
  refine zcc_219 (ze_219_0 _ _ _ _ _ ?_)
  rw [sp_216 ht0 ht1 hh0 hh1 hC, zbI_s]
  exact lp_219 ht0 ht1 hg0 hg1 hh0 hh1 hC 11 0 (by omega)
def rH (σ : zM) (n : Nat) (t g h : Int) : Int := if rB σ n t g h = -1 then -1 else rS σ (rB σ n t g h)
theorem rB_rng (σ : zM) (n : Nat) (t g h : Int) : -1 ≤ rB σ n t g h ∧ rB σ n t g h < 11 := br_rng _ _ 11
theorem sp_220 {t g h : Int} {σ : zM} {n : Nat} (ht0 : -2147483648 ≤ t) (ht1 : t < 2147483648) (hg0 : -2147483648 ≤ g) (hg1 : g < 2147483648) (hh0 : -2147483648 ≤ h) (hh1 : h < 2147483648) (hC : rC σ n) : zcall 220 [.ref 287, .int (Int32.ofInt t), .int (Int32.ofInt g), .int (Int32.ofInt h)] σ = some (some (.int (Int32.ofInt (rH σ n t g h))), σ) := by
  have r := rB_rng σ n t g h
  refine zcc_220 (ze_220_0 _ _ _ _ _ ?_)
  rw [sp_219 ht0 ht1 hg0 hg1 hh0 hh1 hC, zbI_s]
  simp (disch := first | assumption | exact isR33 | exact isT104 | exact isF99 | exact isF101 | exact isR3 | omega | (refine isTk ?_; omega) | (refine isOk isR33 ?_; omega) | (refine isOk ?_ ?_; assumption; omega)) only [mm_r, mm_rl, mm_add, mm_sub, mm_mul, mm_addJ, mm_mulJ, mm_lt, mm_le, mm_eq, mm_z, mm_cl, mm_w, mm_wl, mm_ite, mm_i2l, mm_l2i, mm_ltJ, mm_leJ, mm_eqJ, mm_clt, mm_cle, mm_cgt, mm_cge, mm_ceq, mm_b, mm_nb, mm_nb0, mm_nb1, mm_vb0, mm_vb1, mm_vbc, mm_vy0, mm_vy1, mm_at, mm_ne, mm_nj, mm_Lw, mm_Nw, mm_atJ, mm_neJ, mm_njJ, zbI_s, zbV_s, zbJ_s, cond_t, Bool.true_and, Bool.and_true, if_true, if_false, not_true, not_false_iff, zel_r, zel_42, zel_12, zel_71, zel_80, zel_89, zel_110, zel_188, zel_103, zel_195, zr_o, zr_1, zr_2, zr_3, zr_4, zr_5, zr_6, zr_7, zr_8, zr_9, zq_o, zq_v, zt_o, zt_1, zt_2, zt_3, zt_4, zt_5, zf_o, zf_1, za_w1, za_w2, za_w3, za_cm, za_sl, Int.toNat_natCast, mm_t0, mm_t1, mm_t2, mm_t3, mm_t4, mm_t5, mm_t6, mm_t7, mm_t8, mm_t9, mm_t10, mm_t11, mm_t12, mm_t13, za_1, za_64, za_65, za_66, za_67, za_68, za_71, za_80, za_89, za_98, za_103, za_110, za_121, za_122, za_123, za_124, za_125, za_126, za_188, za_193, za_194, za_195, za_286, za_288, za_289, za_290, za_291, za_292, za_293, za_294, za_295, za_296, za_297, za_298, za_299, za_300, za_301, za_302, za_303, za_304, za_305, za_306, za_307, za_308, za_309, za_310, za_311, za_312]
  unfold rH
  split
  · next q =>
    rw [sp_218r (by omega) (by omega), zbI_s]
  · next q =>
    rw [if_pos (Decidable.not_not.mp q)]
/-- without the queen: the bearer among n -/
theorem rB_n {σ : zM} {n : Nat} {t g h : Int} (hC : rC σ n) (hq : zN σ 299 10 = -1) : rB σ n t g h = hB (rT σ t h) (rO σ 3) (rO σ 1) (rO σ 2) (kr σ 299) n g := by
  have h10 := hC.2.1
  unfold rB
  rw [br_ext (n := n) 11 (by omega) (fun o h0 h1 => ?_)]
  · refine br_congr n (fun o h0 h1 => ?_) (fun _ _ _ => rfl)
    unfold rP rA rS
    rw [decide_eq_true (.inl h1), if_neg (by omega), if_neg (by omega), Bool.true_and]
    show _ = (rT σ t h o && !(xb (rU σ n t h) o.toNat) && decide (rO σ 1 o = g) && decide (rO σ 2 o ≠ -1))
    cases rT σ t h o <;> cases xb (rU σ n t h) o.toNat <;> cases decide (rO σ 1 o = g) <;> cases decide (rO σ 2 o ≠ -1) <;> rfl
  · unfold rP
    by_cases e : o = 10
    · subst e
      have : rT σ t h ((10 : Nat) : Int) = false := by
        unfold rT
        exact decide_eq_false (fun p => p.1 hq)
      rw [this]
      simp
    · rw [decide_eq_false (by omega)]
      simp
theorem rH_n {σ : zM} {n : Nat} {t g h : Int} (hC : rC σ n) (hq : zN σ 299 10 = -1) : rH σ n t g h = hH (rT σ t h) (rO σ 3) (rO σ 1) (rO σ 2) (kr σ 299) n g := by
  have h10 := hC.2.1
  unfold rH hH
  rw [rB_n hC hq]
  have r := br_rng (fun o => rT σ t h o && !(xb (udn (rT σ t h) (rO σ 3) n n) o.toNat) && decide (rO σ 1 o = g) && decide (rO σ 2 o ≠ -1)) (kr σ 299) n
  change -1 ≤ hB (rT σ t h) (rO σ 3) (rO σ 1) (rO σ 2) (kr σ 299) n g ∧ hB (rT σ t h) (rO σ 3) (rO σ 1) (rO σ 2) (kr σ 299) n g < n at r
  split
  · rfl
  · unfold rS
    rw [if_neg (by omega)]
