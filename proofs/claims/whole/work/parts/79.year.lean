/-! CALLS: year, years: the class -/
theorem mm_subJ (a b : Int) : Int64.ofInt a - Int64.ofInt b = Int64.ofInt (a - b) := (Int64.ofInt_sub a b).symm
theorem mm_divJ {a b : Int} (a0 : 0 ≤ a) (a1 : a < 9223372036854775808) (b0 : 0 < b) (b1 : b < 9223372036854775808) : Int64.ofInt a / Int64.ofInt b = Int64.ofInt (a / b) := by
  have hb : Int64.ofInt b ≠ -1 := fun e => by
    have e2 := congrArg Int64.toInt e
    rw [mm_toJ (by omega) (by omega), show (-1 : Int64).toInt = -1 by decide] at e2
    omega
  have q0 : 0 ≤ a / b := Int.ediv_nonneg a0 (by omega)
  have q1 : a / b ≤ a := Int.ediv_le_self b a0
  rw [← Int64.toInt_inj, Int64.toInt_div_of_ne_right _ _ hb, mm_toJ (by omega) (by omega), mm_toJ (by omega) (by omega), mm_toJ (by omega) (by omega), Int.tdiv_eq_ediv_of_nonneg a0]
theorem remJ {a b : Int} (a0 : 0 ≤ a) (a1 : a < 9223372036854775808) (b0 : 0 < b) (b1 : b < 9223372036854775808) : Int64.ofInt a - Int64.ofInt a / Int64.ofInt b * Int64.ofInt b = Int64.ofInt (a % b) := by
  rw [mm_divJ a0 a1 b0 b1, mm_mulJ, mm_subJ, Int.emod_def, Int.mul_comm]
/-- the next draw's number -/
def lg (x : Int) : Int := (1103515245 * x + 12345) % 2147483648
theorem lg_rng (x : Int) : 0 ≤ lg x ∧ lg x < 2147483648 := by
  unfold lg
  omega
theorem sp_45 {a : Nat} {n x : Int} {σ : zM} (ha : isFl a) (n0 : 0 < n) (n1 : n ≤ 100) (hx : zL σ a 2 = x) (x0 : 0 ≤ x) (x1 : x < 2147483648) : zwp (zcall 45 [.ref a, .int (Int32.ofInt n)] σ) (fun v τ => v = some (.int (Int32.ofInt (lg x / 65536 % n))) ∧ τ = zwl σ a 2 (lg x)) := by
  have r := lg_rng x
  have zo := zf_o ha
  have e : (Int64.ofInt 1103515245 * zJ σ a 2 + Int64.ofInt 12345) - (Int64.ofInt 1103515245 * zJ σ a 2 + Int64.ofInt 12345) / Int64.ofInt 2147483648 * Int64.ofInt 2147483648 = Int64.ofInt (lg x) := by
    rw [mm_rl, hx, mm_mulJ, mm_addJ, remJ (by omega) (by omega) (by decide) (by decide)]
    rfl
  have e2 : zL (zwl σ a 2 (lg x)) a 2 = lg x := mm_atJ rfl rfl (by omega) (by omega)
  refine zwp_of (fun r h => zcc_45 (ze_45_0 _ _ _ r h)) ?_
  refine zwp_cd zo ?_
  refine zwp_f (by decide +kernel) ?_
  refine zwp_cd zo ?_
  rw [e, mm_wl]
  refine zwp_let ?_
  refine zwp_f (by rw [mm_z, mm_le (by omega) (by omega) (by omega) (by omega)]; omega) ?_
  refine zwp_cd zo ?_
  refine zwp_f (by decide +kernel) ?_
  refine zwp_f (by rw [mm_i2l (by omega) (by omega), show (0 : Int64) = Int64.ofInt 0 from rfl, mm_eqJ (by omega) (by omega) (by omega) (by omega)]; omega) ?_
  have q0 : 0 ≤ lg x / 65536 := by omega
  have m0 := Int.emod_nonneg (lg x / 65536) (show n ≠ 0 by omega)
  have m1 := Int.emod_lt_of_pos (lg x / 65536) n0
  refine zwp_ret ⟨?_, rfl⟩
  rw [mm_rl, e2, mm_divJ (a := lg x) (by omega) (by omega) (by decide) (by decide), mm_i2l (by omega) (by omega), remJ (by omega) (by omega) (by omega) (by omega), mm_l2i (by omega) (by omega)]
/-- a year drawn: the number ahead of the road r's draws; from when and till when it is in flood -/
def yx (odds seed : Int) : Nat → Int
  | 0 => seed
  | r + 1 => if lg (yx odds seed r) / 65536 % 100 < odds then lg (lg (lg (yx odds seed r))) else lg (yx odds seed r)
def yf (W : Int → Int) (odds seed : Int) (r : Nat) : Int := if lg (yx odds seed r) / 65536 % 100 < odds then lg (lg (yx odds seed r)) / 65536 % W 1 else 0
def yt (W : Int → Int) (odds seed : Int) (r : Nat) : Int := if lg (yx odds seed r) / 65536 % 100 < odds then lg (lg (yx odds seed r)) / 65536 % W 1 + lg (lg (lg (yx odds seed r))) / 65536 % 12 else -1
def yDn (W : Int → Int) (odds seed n : Int) (r h : Int) : Bool := decide (0 ≤ r ∧ r < n ∧ yf W odds seed r.toNat ≤ h ∧ h ≤ yt W odds seed r.toNat)
def yrD (W : Int → Int) (odds seed : Int) (r h : Int) : Bool := yDn W odds seed (W 2) r h
theorem yx_rng {odds seed : Int} (s0 : 0 ≤ seed) (s1 : seed < 2147483648) : ∀ r : Nat, 0 ≤ yx odds seed r ∧ yx odds seed r < 2147483648
  | 0 => ⟨s0, s1⟩
  | r + 1 => by
    rw [yx]
    split
    · exact lg_rng _
    · exact lg_rng _
theorem yDn_s {W : Int → Int} {odds seed : Int} {n : Nat} {r h : Int} : yDn W odds seed ((n + 1 : Nat) : Int) r h = (yDn W odds seed n r h || decide (r = n ∧ yf W odds seed n ≤ h ∧ h ≤ yt W odds seed n)) := by
  unfold yDn
  by_cases q : r = n
  · subst q
    rw [Int.toNat_natCast, decide_eq_false (p := 0 ≤ (n : Int) ∧ (n : Int) < (n : Int) ∧ _) (by omega), Bool.false_or]
    exact decide_eq_decide.mpr (by omega)
  · rw [decide_eq_false (p := r = n ∧ _) (by omega), Bool.or_false]
    exact decide_eq_decide.mpr (by omega)
theorem lp_44 {W : Int → Int} {σ0 : zM} {odds seed : Int} (hW : WOK W) (hL0 : cL σ0 33 W) (h1 : 0 < W 1) (o0 : 0 ≤ odds) (o1 : odds ≤ 100) (s0 : 0 ≤ seed) (s1 : seed < 2147483648) : ∀ (k r : Nat) (σ : zM), (r : Int) + k = W 2 → mf (fun b => b = 101 ∨ b = 102) σ0 σ → zL σ 101 2 = yx odds seed r → flC σ 101 (W 1) (FL W (yDn W odds seed r)) → zwp (zev 44 13 [some (.ref 101), some (.ref 33), none, none, some (.int (Int32.ofInt odds)), some (.int (Int32.ofInt r)), none, none] [] σ) (fun v τ => v = none ∧ mf (fun b => b = 101 ∨ b = 102) σ0 τ ∧ flC τ 101 (W 1) (FL W (yrD W odds seed)))
  | 0, r, σ, e, hf, hx, hF => by
    have h2 := hW.1.1.2.2.2.1
    have e4 := (hf.1 33 (by decide) 4).trans hL0.1.2.2.2.2.1
    refine zwp_of (fun r h => ze_44_13 _ _ _ _ _ r h) ?_
    refine zwp_cd (zr_o isR33) ?_
    refine zwp_t (by try simp (disch := first | assumption | exact isR33 | exact isT104 | exact isF99 | exact isF101 | exact isR3 | omega | (refine isTk ?_; omega) | (refine isOk isR33 ?_; omega) | (refine isOk ?_ ?_; assumption; omega)) only [mm_r, mm_rl, mm_add, mm_sub, mm_mul, mm_addJ, mm_mulJ, mm_lt, mm_le, mm_eq, mm_z, mm_cl, mm_w, mm_wl, mm_ite, mm_i2l, mm_l2i, mm_ltJ, mm_leJ, mm_eqJ, mm_clt, mm_cle, mm_cgt, mm_cge, mm_ceq, mm_b, mm_nb, mm_nb0, mm_nb1, mm_vb0, mm_vb1, mm_vbc, mm_vy0, mm_vy1, mm_at, mm_ne, mm_nj, mm_Lw, mm_Nw, mm_atJ, mm_neJ, mm_njJ, zbI_s, zbV_s, zbJ_s, cond_t, Bool.true_and, Bool.and_true, if_true, if_false, not_true, not_false_iff, Classical.not_not, zel_r, zel_42, zel_12, zel_71, zel_80, zel_89, zel_110, zel_188, zel_103, zel_195, zr_o, zr_1, zr_2, zr_3, zr_4, zr_5, zr_6, zr_7, zr_8, zr_9, zq_o, zq_v, zt_o, zt_1, zt_2, zt_3, zt_4, zt_5, zf_o, zf_1, za_w1, za_w2, za_w3, za_cm, za_sl, Int.toNat_natCast, Int.toNat_natCast_add_one, mm_t0, mm_t1, mm_t2, mm_t3, mm_t4, mm_t5, mm_t6, mm_t7, mm_t8, mm_t9, mm_t10, mm_t11, mm_t12, mm_t13, za_1, za_64, za_65, za_66, za_67, za_68, za_71, za_80, za_89, za_98, za_103, za_110, za_121, za_122, za_123, za_124, za_125, za_126, za_188, za_193, za_194, za_195, za_286, za_288, za_289, za_290, za_291, za_292, za_293, za_294, za_295, za_296, za_297, za_298, za_299, za_300, za_301, za_302, za_303, za_304, za_305, za_306, za_307, za_308, za_309, za_310, za_311, za_312, e4]
                     first | done | omega) ?_
    refine zwp_ret ⟨rfl, hf, ?_⟩
    have : yrD W odds seed = yDn W odds seed r := by
      funext a b
      unfold yrD
      rw [← e]
      simp
    rw [this]
    exact hF
  | k + 1, r, σ, e, hf, hx, hF => by
    have h2 := hW.1.1.2.2.2.1
    have h9 := hW.1.2.2.1
    have e4 := (hf.1 33 (by decide) 4).trans hL0.1.2.2.2.2.1
    have xr := yx_rng (odds := odds) s0 s1 r
    have l1 := lg_rng (yx odds seed r)
    have l2 := lg_rng (lg (yx odds seed r))
    have l3 := lg_rng (lg (lg (yx odds seed r)))
    have zo := zf_o isF101
    have hFr : ∀ r' h, FL W (yDn W odds seed ((r + 1 : Nat) : Int)) r' h = (FL W (yDn W odds seed r) r' h || decide (r' = r ∧ yf W odds seed r ≤ h ∧ h ≤ yt W odds seed r)) := by
      intro r' h
      unfold FL
      rw [yDn_s]
      cases yDn W odds seed r r' h <;> cases decide (r' = (r : Int) ∧ yf W odds seed r ≤ h ∧ h ≤ yt W odds seed r) <;> simp
    refine zwp_of (fun r h => ze_44_13 _ _ _ _ _ r h) ?_
    refine zwp_cd (zr_o isR33) ?_
    refine zwp_f (by try simp (disch := first | assumption | exact isR33 | exact isT104 | exact isF99 | exact isF101 | exact isR3 | omega | (refine isTk ?_; omega) | (refine isOk isR33 ?_; omega) | (refine isOk ?_ ?_; assumption; omega)) only [mm_r, mm_rl, mm_add, mm_sub, mm_mul, mm_addJ, mm_mulJ, mm_lt, mm_le, mm_eq, mm_z, mm_cl, mm_w, mm_wl, mm_ite, mm_i2l, mm_l2i, mm_ltJ, mm_leJ, mm_eqJ, mm_clt, mm_cle, mm_cgt, mm_cge, mm_ceq, mm_b, mm_nb, mm_nb0, mm_nb1, mm_vb0, mm_vb1, mm_vbc, mm_vy0, mm_vy1, mm_at, mm_ne, mm_nj, mm_Lw, mm_Nw, mm_atJ, mm_neJ, mm_njJ, zbI_s, zbV_s, zbJ_s, cond_t, Bool.true_and, Bool.and_true, if_true, if_false, not_true, not_false_iff, Classical.not_not, zel_r, zel_42, zel_12, zel_71, zel_80, zel_89, zel_110, zel_188, zel_103, zel_195, zr_o, zr_1, zr_2, zr_3, zr_4, zr_5, zr_6, zr_7, zr_8, zr_9, zq_o, zq_v, zt_o, zt_1, zt_2, zt_3, zt_4, zt_5, zf_o, zf_1, za_w1, za_w2, za_w3, za_cm, za_sl, Int.toNat_natCast, Int.toNat_natCast_add_one, mm_t0, mm_t1, mm_t2, mm_t3, mm_t4, mm_t5, mm_t6, mm_t7, mm_t8, mm_t9, mm_t10, mm_t11, mm_t12, mm_t13, za_1, za_64, za_65, za_66, za_67, za_68, za_71, za_80, za_89, za_98, za_103, za_110, za_121, za_122, za_123, za_124, za_125, za_126, za_188, za_193, za_194, za_195, za_286, za_288, za_289, za_290, za_291, za_292, za_293, za_294, za_295, za_296, za_297, za_298, za_299, za_300, za_301, za_302, za_303, za_304, za_305, za_306, za_307, za_308, za_309, za_310, za_311, za_312, e4]
                     first | done | omega) ?_
    refine zwp_cd zo ?_
    refine zwp_IE (sp_45 isF101 (by decide) (by decide) hx xr.1 xr.2) ?_
    rintro τ rfl
    have hf1 : mf (fun b => b = 101 ∨ b = 102) σ0 (zwl σ 101 2 (lg (yx odds seed r))) := hf.zwl _ _ _ (.inl rfl)
    have hF1 : flC (zwl σ 101 2 (lg (yx odds seed r))) 101 (W 1) (FL W (yDn W odds seed r)) := hF.fr (fun _ => rfl) (fun _ => rfl)
    have e1 : zL (zwl σ 101 2 (lg (yx odds seed r))) 101 2 = lg (yx odds seed r) := mm_atJ rfl rfl (by omega) (by omega)
    by_cases q : lg (yx odds seed r) / 65536 % 100 < odds
    · refine zwp_f (by rw [mm_le (by omega) (by omega) (by omega) (by omega)]; omega) ?_
      refine zwp_cd (zr_o isR33) (zwp_cd zo ?_)
      have e2 : zN (zwl σ 101 2 (lg (yx odds seed r))) 33 2 = W 1 := (hf1.1 33 (by decide) 2).trans hL0.1.2.2.1
      rw [mm_r (zwl σ 101 2 (lg (yx odds seed r))) 33 2, e2]
      refine zwp_IE (sp_45 isF101 h1 (by omega) e1 l1.1 l1.2) ?_
      rintro τ rfl
      have e3 : zL (zwl (zwl σ 101 2 (lg (yx odds seed r))) 101 2 (lg (lg (yx odds seed r)))) 101 2 = lg (lg (yx odds seed r)) := mm_atJ rfl rfl (by omega) (by omega)
      refine zwp_cd zo ?_
      refine zwp_IE (sp_45 isF101 (by decide) (by decide) e3 l2.1 l2.2) ?_
      rintro τ rfl
      have hf3 := (hf1.zwl 101 2 (lg (lg (yx odds seed r))) (.inl rfl)).zwl 101 2 (lg (lg (lg (yx odds seed r)))) (.inl rfl)
      have e5 : zL (zwl (zwl (zwl σ 101 2 (lg (yx odds seed r))) 101 2 (lg (lg (yx odds seed r)))) 101 2 (lg (lg (lg (yx odds seed r))))) 101 2 = lg (lg (lg (yx odds seed r))) := mm_atJ rfl rfl (by omega) (by omega)
      have m0 := Int.emod_nonneg (lg (lg (yx odds seed r)) / 65536) (show W 1 ≠ 0 by omega)
      have m1 := Int.emod_lt_of_pos (lg (lg (yx odds seed r)) / 65536) h1
      refine zwp_cd zo ?_
      rw [mm_add]
      refine zwp_V _ (sp_43 (x := r) isF101 (by omega) h9 (by omega) (by omega) m0 (by omega) (by omega) (by omega) ((hF1.fr (fun _ => rfl) (fun _ => rfl) : flC (zwl (zwl (zwl σ 101 2 (lg (yx odds seed r))) 101 2 (lg (lg (yx odds seed r)))) 101 2 (lg (lg (lg (yx odds seed r))))) 101 (W 1) (FL W (yDn W odds seed r))))) ?_
      rintro τ ⟨hf4, hF4⟩
      rw [mm_add]
      refine lp_44 hW hL0 h1 o0 o1 s0 s1 k (r + 1) τ (by omega) (hf3.tr (hf4.mono (by omega))) ?_ (hF4.eq fun r' h _ _ _ _ => ?_)
      · rw [hf4.2.1 101 (by decide), e5, yx, if_pos q]
      · rw [hFr]
        unfold yf yt
        rw [if_pos q, if_pos q]
    · refine zwp_t (by rw [mm_le (by omega) (by omega) (by omega) (by omega)]; omega) ?_
      rw [mm_add]
      refine lp_44 hW hL0 h1 o0 o1 s0 s1 k (r + 1) _ (by omega) hf1 ?_ (hF1.eq fun r' h _ _ _ _ => ?_)
      · rw [e1, yx, if_neg q]
      · rw [hFr, decide_eq_false, Bool.or_false]
        unfold yf yt
        rw [if_neg q, if_neg q]
        omega
theorem sp_38 {σ : zM} {W : Int → Int} {odds seed : Int} (hW : WOK W) (hL : cL σ 33 W) (h1 : 0 < W 1) (o0 : 0 ≤ odds) (o1 : odds ≤ 100) (s0 : 0 ≤ seed) (s1 : seed < 2147483648) : zwp (zcall 38 [.ref 69, .long (Int64.ofInt seed), .int (Int32.ofInt odds)] σ) (fun v τ => v = none ∧ mf (fun b => b = 101 ∨ b = 102) σ τ ∧ flC τ 101 (W 1) (FL W (yrD W odds seed))) := by
  have h5 := hW.2.2.1
  have zo := zf_o isF101
  refine zwp_of (fun r h => zcc_38 (ze_38_0 _ _ _ r h)) ?_
  refine zwp_V (fun τ => mf (fun b => b = 101 ∨ b = 102) σ τ ∧ flC τ 101 (W 1) (FL W (yrD W odds seed))) ?_ (fun τ h => zwp_ret ⟨rfl, h⟩)
  refine zwp_of (fun r h => zcc_44 (ze_44_0 _ _ _ _ _ r h)) ?_
  refine zwp_cd zo ?_
  refine zwp_V _ (sp_42 isF101 isR33 hW.1 hW.2.1 (by omega) hL) ?_
  rintro τ ⟨hf, hF⟩
  refine zwp_cd zo ?_
  refine zwp_let ?_
  rw [mm_wl]
  refine lp_44 (σ0 := σ) hW hL h1 o0 o1 s0 s1 (W 2).toNat 0 _ (by have := hW.1.1.2.2.1; omega) ((hf.mono (by omega)).zwl _ _ _ (.inl rfl)) (mm_atJ rfl rfl (by omega) (by omega)) ((hF.fr (fun _ => rfl) (fun _ => rfl) : flC (zwl τ 101 2 seed) 101 (W 1) (FL W noD)).eq fun r h _ _ _ _ => ?_)
  unfold FL
  have : yDn W odds seed ((0 : Nat) : Int) r h = false := by
    unfold yDn
    exact decide_eq_false (by omega)
  rw [this]
  rfl
theorem sp_39 {σ : zM} {W : Int → Int} {D : Int → Int → Bool} {o : Int} (hW : WOK W) (hL : cL σ 33 W) (hy : wyC σ W) (hF : flC σ 101 (W 1) (FL W D)) (o0 : 0 ≤ o) (o1 : o < W 5) : zwp (zcall 39 [.ref 69, .int (Int32.ofInt o)] σ) (fun v τ => v = some (.int (Int32.ofInt (CM W D o))) ∧ mf (fun b => 104 ≤ b ∧ b < 110) σ τ) := by
  have h5 := hW.2.2.1
  have ho := (hW.2.2.2.2 o o0 o1).1
  have hN := (WAY_N hW.1.1 ho).1
  have hO := hL.2.2.2.2 o o0 o1
  obtain ⟨-, -, -, -, -, -, -, t0, t1, -, -, p0, p1, s0, s1⟩ := ho
  refine zwp_of (fun r h => zcc_39 (ze_39_0 _ _ r h)) ?_
  repeat (with_reducible refine zwp_cd ?_ ?_; (· simp (disch := first | assumption | exact isR33 | exact isT104 | exact isF99 | exact isF101 | exact isR3 | omega | (refine isTk ?_; omega) | (refine isOk isR33 ?_; omega) | (refine isOk ?_ ?_; assumption; omega)) only [mm_r, mm_rl, mm_add, mm_sub, mm_mul, mm_addJ, mm_mulJ, mm_lt, mm_le, mm_eq, mm_z, mm_cl, mm_w, mm_wl, mm_ite, mm_i2l, mm_l2i, mm_ltJ, mm_leJ, mm_eqJ, mm_clt, mm_cle, mm_cgt, mm_cge, mm_ceq, mm_b, mm_nb, mm_nb0, mm_nb1, mm_vb0, mm_vb1, mm_vbc, mm_vy0, mm_vy1, mm_at, mm_ne, mm_nj, mm_Lw, mm_Nw, mm_atJ, mm_neJ, mm_njJ, zbI_s, zbV_s, zbJ_s, cond_t, Bool.true_and, Bool.and_true, if_true, if_false, not_true, not_false_iff, Classical.not_not, zel_r, zel_42, zel_12, zel_71, zel_80, zel_89, zel_110, zel_188, zel_103, zel_195, zr_o, zr_1, zr_2, zr_3, zr_4, zr_5, zr_6, zr_7, zr_8, zr_9, zq_o, zq_v, zt_o, zt_1, zt_2, zt_3, zt_4, zt_5, zf_o, zf_1, za_w1, za_w2, za_w3, za_cm, za_sl, Int.toNat_natCast, Int.toNat_natCast_add_one, mm_t0, mm_t1, mm_t2, mm_t3, mm_t4, mm_t5, mm_t6, mm_t7, mm_t8, mm_t9, mm_t10, mm_t11, mm_t12, mm_t13, za_1, za_64, za_65, za_66, za_67, za_68, za_71, za_80, za_89, za_98, za_103, za_110, za_121, za_122, za_123, za_124, za_125, za_126, za_188, za_193, za_194, za_195, za_286, za_288, za_289, za_290, za_291, za_292, za_293, za_294, za_295, za_296, za_297, za_298, za_299, za_300, za_301, za_302, za_303, za_304, za_305, za_306, za_307, za_308, za_309, za_310, za_311, za_312]))
  refine zwp_V _ (by rw [mm_cl (by omega) (by omega), show zel 104 (33 + 9) o.toNat = 33 + 10 + 2 * o.toNat from rfl]; exact sp_90 isT104 (isOk isR33 (by omega)) (by omega) hW.1.1 (hW.2.2.2.2 o o0 o1).1 hO hy) ?_
  rintro τ ⟨hf, hT⟩
  have hL1 : cL τ 33 W := hL.fr (by omega) fun a a1 a2 => hf.1 a (by omega)
  have e6 := (hL1.2.2.2.2 o o0 o1).2.2.2.2.2.2.1
  have hF1 := hF.fr (hf.1 101 (by omega)) (hf.1 102 (by omega))
  repeat (with_reducible refine zwp_cd ?_ ?_; (· simp (disch := first | assumption | exact isR33 | exact isT104 | exact isF99 | exact isF101 | exact isR3 | omega | (refine isTk ?_; omega) | (refine isOk isR33 ?_; omega) | (refine isOk ?_ ?_; assumption; omega)) only [mm_r, mm_rl, mm_add, mm_sub, mm_mul, mm_addJ, mm_mulJ, mm_lt, mm_le, mm_eq, mm_z, mm_cl, mm_w, mm_wl, mm_ite, mm_i2l, mm_l2i, mm_ltJ, mm_leJ, mm_eqJ, mm_clt, mm_cle, mm_cgt, mm_cge, mm_ceq, mm_b, mm_nb, mm_nb0, mm_nb1, mm_vb0, mm_vb1, mm_vbc, mm_vy0, mm_vy1, mm_at, mm_ne, mm_nj, mm_Lw, mm_Nw, mm_atJ, mm_neJ, mm_njJ, zbI_s, zbV_s, zbJ_s, cond_t, Bool.true_and, Bool.and_true, if_true, if_false, not_true, not_false_iff, Classical.not_not, zel_r, zel_42, zel_12, zel_71, zel_80, zel_89, zel_110, zel_188, zel_103, zel_195, zr_o, zr_1, zr_2, zr_3, zr_4, zr_5, zr_6, zr_7, zr_8, zr_9, zq_o, zq_v, zt_o, zt_1, zt_2, zt_3, zt_4, zt_5, zf_o, zf_1, za_w1, za_w2, za_w3, za_cm, za_sl, Int.toNat_natCast, Int.toNat_natCast_add_one, mm_t0, mm_t1, mm_t2, mm_t3, mm_t4, mm_t5, mm_t6, mm_t7, mm_t8, mm_t9, mm_t10, mm_t11, mm_t12, mm_t13, za_1, za_64, za_65, za_66, za_67, za_68, za_71, za_80, za_89, za_98, za_103, za_110, za_121, za_122, za_123, za_124, za_125, za_126, za_188, za_193, za_194, za_195, za_286, za_288, za_289, za_290, za_291, za_292, za_293, za_294, za_295, za_296, za_297, za_298, za_299, za_300, za_301, za_302, za_303, za_304, za_305, za_306, za_307, za_308, za_309, za_310, za_311, za_312]))
  refine zwp_IE (by simp (disch := first | assumption | exact isR33 | exact isT104 | exact isF99 | exact isF101 | exact isR3 | omega | (refine isTk ?_; omega) | (refine isOk isR33 ?_; omega) | (refine isOk ?_ ?_; assumption; omega)) only [mm_r, mm_rl, mm_add, mm_sub, mm_mul, mm_addJ, mm_mulJ, mm_lt, mm_le, mm_eq, mm_z, mm_cl, mm_w, mm_wl, mm_ite, mm_i2l, mm_l2i, mm_ltJ, mm_leJ, mm_eqJ, mm_clt, mm_cle, mm_cgt, mm_cge, mm_ceq, mm_b, mm_nb, mm_nb0, mm_nb1, mm_vb0, mm_vb1, mm_vbc, mm_vy0, mm_vy1, mm_at, mm_ne, mm_nj, mm_Lw, mm_Nw, mm_atJ, mm_neJ, mm_njJ, zbI_s, zbV_s, zbJ_s, cond_t, Bool.true_and, Bool.and_true, if_true, if_false, not_true, not_false_iff, Classical.not_not, zel_r, zel_42, zel_12, zel_71, zel_80, zel_89, zel_110, zel_188, zel_103, zel_195, zr_o, zr_1, zr_2, zr_3, zr_4, zr_5, zr_6, zr_7, zr_8, zr_9, zq_o, zq_v, zt_o, zt_1, zt_2, zt_3, zt_4, zt_5, zf_o, zf_1, za_w1, za_w2, za_w3, za_cm, za_sl, Int.toNat_natCast, Int.toNat_natCast_add_one, mm_t0, mm_t1, mm_t2, mm_t3, mm_t4, mm_t5, mm_t6, mm_t7, mm_t8, mm_t9, mm_t10, mm_t11, mm_t12, mm_t13, za_1, za_64, za_65, za_66, za_67, za_68, za_71, za_80, za_89, za_98, za_103, za_110, za_121, za_122, za_123, za_124, za_125, za_126, za_188, za_193, za_194, za_195, za_286, za_288, za_289, za_290, za_291, za_292, za_293, za_294, za_295, za_296, za_297, za_298, za_299, za_300, za_301, za_302, za_303, za_304, za_305, za_306, za_307, za_308, za_309, za_310, za_311, za_312, e6]
                    exact sp_11 isT104 isF101 hW o0 o1 hL1 hN t0 t1 hT hF1) ?_
  rintro υ ⟨hf2, -⟩
  rw [sp_12w hW.1 hN t0 t1 p0 p1 s0 s1 ((hf2.1 33 (by omega) 2).trans hL1.1.2.2.1), zbI_s]
  exact zwp_ret ⟨rfl, (hf.mono (by omega)).tr (hf2.mono (by omega))⟩
theorem CMD_rng {W : Int → Int} (hW : WOK W) {D : Int → Int → Bool} {o : Int} (o0 : 0 ≤ o) (o1 : o < W 5) : -1 ≤ CM W D o ∧ CM W D o < 99 := by
  have ho := (hW.2.2.2.2 o o0 o1).1
  have hN := (WAY_N hW.1.1 ho).1
  obtain ⟨-, -, -, -, -, -, -, t0, t1, -, -, p0, p1, s0, s1⟩ := ho
  have cr := CMw_rng (F := FL W D) hW.1 hN t0 t1 p0 p1 s0 s1
  exact ⟨cr.2.1, cr.2.2.1⟩
theorem lp_40 {σ0 : zM} {W : Int → Int} {D : Int → Int → Bool} (hW : WOK W) (hL0 : cL σ0 33 W) (hy0 : wyC σ0 W) (hF0 : flC σ0 101 (W 1) (FL W D)) : ∀ (k i : Nat) (σ : zM), (i : Int) + k = W 5 → mf (fun b => b = 68 ∨ 104 ≤ b ∧ b < 110) σ0 σ → (∀ o, 0 ≤ o → o < (i : Int) → zN σ 68 o.toNat = CM W D o) → zwp (zev 40 2 [some (.ref 69), some (.int (Int32.ofInt i))] [] σ) (fun v τ => v = none ∧ mf (fun b => b = 68 ∨ 104 ≤ b ∧ b < 110) σ0 τ ∧ ∀ o, 0 ≤ o → o < W 5 → zN τ 68 o.toNat = CM W D o)
  | 0, i, σ, e, hf, hv => by
    have h5 := hW.2.2.1
    have e7 := (hf.1 33 (by omega) 7).trans hL0.1.2.2.2.2.2.2.2
    refine zwp_of (fun r h => ze_40_2 _ _ r h) ?_
    refine zwp_t (by try simp (disch := first | assumption | exact isR33 | exact isT104 | exact isF99 | exact isF101 | exact isR3 | omega | (refine isTk ?_; omega) | (refine isOk isR33 ?_; omega) | (refine isOk ?_ ?_; assumption; omega)) only [mm_r, mm_rl, mm_add, mm_sub, mm_mul, mm_addJ, mm_mulJ, mm_lt, mm_le, mm_eq, mm_z, mm_cl, mm_w, mm_wl, mm_ite, mm_i2l, mm_l2i, mm_ltJ, mm_leJ, mm_eqJ, mm_clt, mm_cle, mm_cgt, mm_cge, mm_ceq, mm_b, mm_nb, mm_nb0, mm_nb1, mm_vb0, mm_vb1, mm_vbc, mm_vy0, mm_vy1, mm_at, mm_ne, mm_nj, mm_Lw, mm_Nw, mm_atJ, mm_neJ, mm_njJ, zbI_s, zbV_s, zbJ_s, cond_t, Bool.true_and, Bool.and_true, if_true, if_false, not_true, not_false_iff, Classical.not_not, zel_r, zel_42, zel_12, zel_71, zel_80, zel_89, zel_110, zel_188, zel_103, zel_195, zr_o, zr_1, zr_2, zr_3, zr_4, zr_5, zr_6, zr_7, zr_8, zr_9, zq_o, zq_v, zt_o, zt_1, zt_2, zt_3, zt_4, zt_5, zf_o, zf_1, za_w1, za_w2, za_w3, za_cm, za_sl, Int.toNat_natCast, Int.toNat_natCast_add_one, mm_t0, mm_t1, mm_t2, mm_t3, mm_t4, mm_t5, mm_t6, mm_t7, mm_t8, mm_t9, mm_t10, mm_t11, mm_t12, mm_t13, za_1, za_64, za_65, za_66, za_67, za_68, za_71, za_80, za_89, za_98, za_103, za_110, za_121, za_122, za_123, za_124, za_125, za_126, za_188, za_193, za_194, za_195, za_286, za_288, za_289, za_290, za_291, za_292, za_293, za_294, za_295, za_296, za_297, za_298, za_299, za_300, za_301, za_302, za_303, za_304, za_305, za_306, za_307, za_308, za_309, za_310, za_311, za_312, e7]
                     first | done | omega) ?_
    exact zwp_ret ⟨rfl, hf, fun o o0 o1 => hv o o0 (by omega)⟩
  | k + 1, i, σ, e, hf, hv => by
    have h5 := hW.2.2.1
    have h8 := hW.1.1.2.1
    have hL1 : cL σ 33 W := hL0.fr (by omega) fun a a1 a2 => hf.1 a (by omega)
    have e7 := hL1.1.2.2.2.2.2.2.2
    have cr := CMD_rng hW (D := D) (o := i) (by omega) (by omega)
    refine zwp_of (fun r h => ze_40_2 _ _ r h) ?_
    refine zwp_f (by try simp (disch := first | assumption | exact isR33 | exact isT104 | exact isF99 | exact isF101 | exact isR3 | omega | (refine isTk ?_; omega) | (refine isOk isR33 ?_; omega) | (refine isOk ?_ ?_; assumption; omega)) only [mm_r, mm_rl, mm_add, mm_sub, mm_mul, mm_addJ, mm_mulJ, mm_lt, mm_le, mm_eq, mm_z, mm_cl, mm_w, mm_wl, mm_ite, mm_i2l, mm_l2i, mm_ltJ, mm_leJ, mm_eqJ, mm_clt, mm_cle, mm_cgt, mm_cge, mm_ceq, mm_b, mm_nb, mm_nb0, mm_nb1, mm_vb0, mm_vb1, mm_vbc, mm_vy0, mm_vy1, mm_at, mm_ne, mm_nj, mm_Lw, mm_Nw, mm_atJ, mm_neJ, mm_njJ, zbI_s, zbV_s, zbJ_s, cond_t, Bool.true_and, Bool.and_true, if_true, if_false, not_true, not_false_iff, Classical.not_not, zel_r, zel_42, zel_12, zel_71, zel_80, zel_89, zel_110, zel_188, zel_103, zel_195, zr_o, zr_1, zr_2, zr_3, zr_4, zr_5, zr_6, zr_7, zr_8, zr_9, zq_o, zq_v, zt_o, zt_1, zt_2, zt_3, zt_4, zt_5, zf_o, zf_1, za_w1, za_w2, za_w3, za_cm, za_sl, Int.toNat_natCast, Int.toNat_natCast_add_one, mm_t0, mm_t1, mm_t2, mm_t3, mm_t4, mm_t5, mm_t6, mm_t7, mm_t8, mm_t9, mm_t10, mm_t11, mm_t12, mm_t13, za_1, za_64, za_65, za_66, za_67, za_68, za_71, za_80, za_89, za_98, za_103, za_110, za_121, za_122, za_123, za_124, za_125, za_126, za_188, za_193, za_194, za_195, za_286, za_288, za_289, za_290, za_291, za_292, za_293, za_294, za_295, za_296, za_297, za_298, za_299, za_300, za_301, za_302, za_303, za_304, za_305, za_306, za_307, za_308, za_309, za_310, za_311, za_312, e7]
                     first | done | omega) ?_
    refine zwp_IE (sp_39 (o := i) hW hL1 (hy0.fr h8 fun b b0 b1 => hf.1 b (by omega)) (hF0.fr (hf.1 101 (by omega)) (hf.1 102 (by omega))) (by omega) (by omega)) ?_
    intro τ hf2
    refine zwp_cd (by simp (disch := first | assumption | exact isR33 | exact isT104 | exact isF99 | exact isF101 | exact isR3 | omega | (refine isTk ?_; omega) | (refine isOk isR33 ?_; omega) | (refine isOk ?_ ?_; assumption; omega)) only [mm_r, mm_rl, mm_add, mm_sub, mm_mul, mm_addJ, mm_mulJ, mm_lt, mm_le, mm_eq, mm_z, mm_cl, mm_w, mm_wl, mm_ite, mm_i2l, mm_l2i, mm_ltJ, mm_leJ, mm_eqJ, mm_clt, mm_cle, mm_cgt, mm_cge, mm_ceq, mm_b, mm_nb, mm_nb0, mm_nb1, mm_vb0, mm_vb1, mm_vbc, mm_vy0, mm_vy1, mm_at, mm_ne, mm_nj, mm_Lw, mm_Nw, mm_atJ, mm_neJ, mm_njJ, zbI_s, zbV_s, zbJ_s, cond_t, Bool.true_and, Bool.and_true, if_true, if_false, not_true, not_false_iff, Classical.not_not, zel_r, zel_42, zel_12, zel_71, zel_80, zel_89, zel_110, zel_188, zel_103, zel_195, zr_o, zr_1, zr_2, zr_3, zr_4, zr_5, zr_6, zr_7, zr_8, zr_9, zq_o, zq_v, zt_o, zt_1, zt_2, zt_3, zt_4, zt_5, zf_o, zf_1, za_w1, za_w2, za_w3, za_cm, za_sl, Int.toNat_natCast, Int.toNat_natCast_add_one, mm_t0, mm_t1, mm_t2, mm_t3, mm_t4, mm_t5, mm_t6, mm_t7, mm_t8, mm_t9, mm_t10, mm_t11, mm_t12, mm_t13, za_1, za_64, za_65, za_66, za_67, za_68, za_71, za_80, za_89, za_98, za_103, za_110, za_121, za_122, za_123, za_124, za_125, za_126, za_188, za_193, za_194, za_195, za_286, za_288, za_289, za_290, za_291, za_292, za_293, za_294, za_295, za_296, za_297, za_298, za_299, za_300, za_301, za_302, za_303, za_304, za_305, za_306, za_307, za_308, za_309, za_310, za_311, za_312]) ?_
    refine zwp_letE (τ' := zw τ 68 i (CM W D i)) (by simp (disch := first | assumption | exact isR33 | exact isT104 | exact isF99 | exact isF101 | exact isR3 | omega | (refine isTk ?_; omega) | (refine isOk isR33 ?_; omega) | (refine isOk ?_ ?_; assumption; omega)) only [mm_r, mm_rl, mm_add, mm_sub, mm_mul, mm_addJ, mm_mulJ, mm_lt, mm_le, mm_eq, mm_z, mm_cl, mm_w, mm_wl, mm_ite, mm_i2l, mm_l2i, mm_ltJ, mm_leJ, mm_eqJ, mm_clt, mm_cle, mm_cgt, mm_cge, mm_ceq, mm_b, mm_nb, mm_nb0, mm_nb1, mm_vb0, mm_vb1, mm_vbc, mm_vy0, mm_vy1, mm_at, mm_ne, mm_nj, mm_Lw, mm_Nw, mm_atJ, mm_neJ, mm_njJ, zbI_s, zbV_s, zbJ_s, cond_t, Bool.true_and, Bool.and_true, if_true, if_false, not_true, not_false_iff, Classical.not_not, zel_r, zel_42, zel_12, zel_71, zel_80, zel_89, zel_110, zel_188, zel_103, zel_195, zr_o, zr_1, zr_2, zr_3, zr_4, zr_5, zr_6, zr_7, zr_8, zr_9, zq_o, zq_v, zt_o, zt_1, zt_2, zt_3, zt_4, zt_5, zf_o, zf_1, za_w1, za_w2, za_w3, za_cm, za_sl, Int.toNat_natCast, Int.toNat_natCast_add_one, mm_t0, mm_t1, mm_t2, mm_t3, mm_t4, mm_t5, mm_t6, mm_t7, mm_t8, mm_t9, mm_t10, mm_t11, mm_t12, mm_t13, za_1, za_64, za_65, za_66, za_67, za_68, za_71, za_80, za_89, za_98, za_103, za_110, za_121, za_122, za_123, za_124, za_125, za_126, za_188, za_193, za_194, za_195, za_286, za_288, za_289, za_290, za_291, za_292, za_293, za_294, za_295, za_296, za_297, za_298, za_299, za_300, za_301, za_302, za_303, za_304, za_305, za_306, za_307, za_308, za_309, za_310, za_311, za_312]) ?_
    rw [mm_add]
    refine lp_40 hW hL0 hy0 hF0 k (i + 1) _ (by omega) ((hf.tr (hf2.mono (by omega))).zw 68 _ _ (.inl rfl)) (fun o o0 o1 => ?_)
    by_cases z : o = i
    · rw [z, Int.toNat_natCast, mm_at rfl rfl (by omega) (by omega)]
    · rw [mm_nj (by omega), hf2.1 68 (by omega)]
      exact hv o o0 (by omega)
abbrev isSd (n : Int) : Prop := 0 ≤ n ∧ n ≤ 2000000000
abbrev isOd (n : Int) : Prop := 0 ≤ n ∧ n ≤ 100
def Eyr (W : Int → Int) (seed odds o : Int) : Int := if isSd seed ∧ isOd odds ∧ inO W o then CM W (yrD W odds seed) o else -2
def yP (W : Int → Int) (seed odds t g says h k : Int) : Bool := decide (HH W (CM W (yrD W odds (seed + k))) (W 7) t g h = says)
def Eys (W : Int → Int) (seed n odds t g says h : Int) : Int := if isSd seed ∧ (1 ≤ n ∧ n ≤ 20) ∧ isOd odds ∧ asked W t g h ∧ -1 ≤ says ∧ says < 10 then zcnt (yP W seed odds t g says h) n.toNat else -2
theorem cq_year {σ : zM} {W : Int → Int} {seed odds o : Int} (hW : WOK W) (hC : ctC σ W) (hs0 : -2147483648 ≤ seed) (hs1 : seed < 2147483648) (hd0 : -2147483648 ≤ odds) (hd1 : odds < 2147483648) (ho0 : -2147483648 ≤ o) (ho1 : o < 2147483648) : zwp (zcall 142 [.ref 0, .int (Int32.ofInt seed), .int (Int32.ofInt odds), .int (Int32.ofInt o)] σ) (fun v τ => v = some (.int (Int32.ofInt (Eyr W seed odds o))) ∧ cK σ τ W) := by
  have h5 := hW.2.2.1
  have e7 := hC.1.1.2.2.2.2.2.2.2
  have s := sp_79 (p := 33) (n := o) (σ := σ) isR33 (by omega) (by omega)
  rw [e7] at s
  unfold Eyr
  refine zwp_of (fun r h => zcc_142 (ze_142_0 _ _ _ _ r h)) ?_
  rw [sp_160 hs0 hs1, zbI_s]
  simp only [mm_z, mm_b]
  refine zwp_ite (fun q => ?_) (fun q => ?_)
  · rw [if_neg (fun p => q p.1)]
    exact zwp_ret ⟨rfl, cK.rf hC⟩
  · have q := Classical.not_not.mp q
    rw [sp_161 hd0 hd1, zbI_s]
    simp only [mm_b]
    refine zwp_ite (fun q2 => ?_) (fun q2 => ?_)
    · rw [if_neg (fun p => q2 p.2.1)]
      exact zwp_ret ⟨rfl, cK.rf hC⟩
    · have q2 := Classical.not_not.mp q2
      rw [show (Int32.ofInt o).toInt64 = Int64.ofInt o from mm_i2l ho0 ho1, s, zbI_s]
      simp only [mm_b, Classical.not_not]
      refine zwp_ite (fun q3 => ?_) (fun q3 => ?_)
      · rw [if_pos (⟨q, q2, q3⟩ : isSd seed ∧ isOd odds ∧ inO W o)]
        have ho := hW.2.2.2.2 o q3.1 q3.2
        have h1 : 0 < W 1 := by have := ho.2.1; have := ho.1.2.2.2.2.2.2.2.1; omega
        rw [mm_i2l hs0 hs1]
        refine zwp_V _ (sp_38 hW hC.1 h1 q2.1 q2.2 q.1 (by omega)) ?_
        rintro τ ⟨hf, hF⟩
        refine zwp_IE (sp_39 hW (hC.1.fr (by omega) fun a a1 a2 => hf.1 a (by omega)) (hC.2.1.fr hW.1.1.2.1 fun b b0 b1 => hf.1 b (by omega)) hF q3.1 q3.2) ?_
        intro υ hf2
        have hm : mf (fun b => b = 101 ∨ b = 102 ∨ 104 ≤ b ∧ b < 110) σ υ := (hf.mono (by omega)).tr (hf2.mono (by omega))
        exact zwp_ret ⟨rfl, hm.mono fun b hb => by unfold clsS; omega, hC.fr hW fun b hb => hm.1 b (by omega)⟩
      · rw [if_neg (fun p => q3 p.2.2)]
        exact zwp_ret ⟨rfl, cK.rf hC⟩
theorem lp_143 {σ0 : zM} {W : Int → Int} {seed n odds t g says h : Int} (hW : WOK W) (hC : ctC σ0 W) (h1 : 0 < W 1) (q : isSd seed) (n0 : 1 ≤ n) (n1 : n ≤ 20) (q2 : isOd odds) (ht0 : -2147483648 ≤ t) (ht1 : t < 2147483648) (hg0 : -2147483648 ≤ g) (hg1 : g < 2147483648) (s0 : -1 ≤ says) (s1 : says < 10) (hh0 : -2147483648 ≤ h) (hh1 : h < 2147483648) : ∀ (k m : Nat) (σ : zM), (m : Int) + k = n → mf (fun b => b = 68 ∨ b = 101 ∨ b = 102 ∨ 104 ≤ b ∧ b < 110) σ0 σ → zwp (zev 143 58 [some (.ref 0), some (.int (Int32.ofInt seed)), some (.int (Int32.ofInt n)), some (.int (Int32.ofInt odds)), some (.int (Int32.ofInt t)), some (.int (Int32.ofInt g)), some (.int (Int32.ofInt says)), some (.int (Int32.ofInt h)), some (.int (Int32.ofInt (zcnt (yP W seed odds t g says h) m))), some (.int (Int32.ofInt m))] [] σ) (fun v τ => v = some (.int (Int32.ofInt (zcnt (yP W seed odds t g says h) n.toNat))) ∧ cK σ0 τ W)
  | 0, m, σ, e, hf => by
    refine zwp_of (fun r h => ze_143_58 _ _ _ _ _ _ _ _ _ _ r h) ?_
    refine zwp_t (by try simp (disch := first | assumption | exact isR33 | exact isT104 | exact isF99 | exact isF101 | exact isR3 | omega | (refine isTk ?_; omega) | (refine isOk isR33 ?_; omega) | (refine isOk ?_ ?_; assumption; omega)) only [mm_r, mm_rl, mm_add, mm_sub, mm_mul, mm_addJ, mm_mulJ, mm_lt, mm_le, mm_eq, mm_z, mm_cl, mm_w, mm_wl, mm_ite, mm_i2l, mm_l2i, mm_ltJ, mm_leJ, mm_eqJ, mm_clt, mm_cle, mm_cgt, mm_cge, mm_ceq, mm_b, mm_nb, mm_nb0, mm_nb1, mm_vb0, mm_vb1, mm_vbc, mm_vy0, mm_vy1, mm_at, mm_ne, mm_nj, mm_Lw, mm_Nw, mm_atJ, mm_neJ, mm_njJ, zbI_s, zbV_s, zbJ_s, cond_t, Bool.true_and, Bool.and_true, if_true, if_false, not_true, not_false_iff, Classical.not_not, zel_r, zel_42, zel_12, zel_71, zel_80, zel_89, zel_110, zel_188, zel_103, zel_195, zr_o, zr_1, zr_2, zr_3, zr_4, zr_5, zr_6, zr_7, zr_8, zr_9, zq_o, zq_v, zt_o, zt_1, zt_2, zt_3, zt_4, zt_5, zf_o, zf_1, za_w1, za_w2, za_w3, za_cm, za_sl, Int.toNat_natCast, Int.toNat_natCast_add_one, mm_t0, mm_t1, mm_t2, mm_t3, mm_t4, mm_t5, mm_t6, mm_t7, mm_t8, mm_t9, mm_t10, mm_t11, mm_t12, mm_t13, za_1, za_64, za_65, za_66, za_67, za_68, za_71, za_80, za_89, za_98, za_103, za_110, za_121, za_122, za_123, za_124, za_125, za_126, za_188, za_193, za_194, za_195, za_286, za_288, za_289, za_290, za_291, za_292, za_293, za_294, za_295, za_296, za_297, za_298, za_299, za_300, za_301, za_302, za_303, za_304, za_305, za_306, za_307, za_308, za_309, za_310, za_311, za_312]
                     first | done | omega) ?_
    refine zwp_V _ (sp_14 hW hC (hf.mono (by omega))) ?_
    rintro τ ⟨hg, hC2⟩
    rw [show n.toNat = m by omega]
    exact zwp_ret ⟨rfl, (hf.mono fun b hb => by unfold clsS; omega).tr (hg.mono fun b hb => by unfold clsS; omega), hC2⟩
  | k + 1, m, σ, e, hf => by
    have h5 := hW.2.2.1
    have h8 := hW.1.1.2.1
    have hL1 : cL σ 33 W := hC.1.fr (by omega) fun a a1 a2 => hf.1 a (by omega)
    have ez : zcnt (yP W seed odds t g says h) (m + 1) = zcnt (yP W seed odds t g says h) m + if yP W seed odds t g says h m = true then 1 else 0 := rfl
    have eP : (yP W seed odds t g says h m = true) ↔ HH W (CM W (yrD W odds (seed + m))) (W 7) t g h = says := by
      unfold yP
      rw [decide_eq_true_eq]
    simp only [eP] at ez
    refine zwp_of (fun r h => ze_143_58 _ _ _ _ _ _ _ _ _ _ r h) ?_
    refine zwp_f (by try simp (disch := first | assumption | exact isR33 | exact isT104 | exact isF99 | exact isF101 | exact isR3 | omega | (refine isTk ?_; omega) | (refine isOk isR33 ?_; omega) | (refine isOk ?_ ?_; assumption; omega)) only [mm_r, mm_rl, mm_add, mm_sub, mm_mul, mm_addJ, mm_mulJ, mm_lt, mm_le, mm_eq, mm_z, mm_cl, mm_w, mm_wl, mm_ite, mm_i2l, mm_l2i, mm_ltJ, mm_leJ, mm_eqJ, mm_clt, mm_cle, mm_cgt, mm_cge, mm_ceq, mm_b, mm_nb, mm_nb0, mm_nb1, mm_vb0, mm_vb1, mm_vbc, mm_vy0, mm_vy1, mm_at, mm_ne, mm_nj, mm_Lw, mm_Nw, mm_atJ, mm_neJ, mm_njJ, zbI_s, zbV_s, zbJ_s, cond_t, Bool.true_and, Bool.and_true, if_true, if_false, not_true, not_false_iff, Classical.not_not, zel_r, zel_42, zel_12, zel_71, zel_80, zel_89, zel_110, zel_188, zel_103, zel_195, zr_o, zr_1, zr_2, zr_3, zr_4, zr_5, zr_6, zr_7, zr_8, zr_9, zq_o, zq_v, zt_o, zt_1, zt_2, zt_3, zt_4, zt_5, zf_o, zf_1, za_w1, za_w2, za_w3, za_cm, za_sl, Int.toNat_natCast, Int.toNat_natCast_add_one, mm_t0, mm_t1, mm_t2, mm_t3, mm_t4, mm_t5, mm_t6, mm_t7, mm_t8, mm_t9, mm_t10, mm_t11, mm_t12, mm_t13, za_1, za_64, za_65, za_66, za_67, za_68, za_71, za_80, za_89, za_98, za_103, za_110, za_121, za_122, za_123, za_124, za_125, za_126, za_188, za_193, za_194, za_195, za_286, za_288, za_289, za_290, za_291, za_292, za_293, za_294, za_295, za_296, za_297, za_298, za_299, za_300, za_301, za_302, za_303, za_304, za_305, za_306, za_307, za_308, za_309, za_310, za_311, za_312]
                     first | done | omega) ?_
    rw [mm_i2l (by omega) (by omega), mm_i2l (by omega) (by omega), mm_addJ]
    refine zwp_V _ (sp_38 (seed := seed + m) hW hL1 h1 q2.1 q2.2 (by omega) (by omega)) ?_
    rintro τ ⟨hf2, hF⟩
    have hf3 := hf.tr (hf2.mono (T := fun b => b = 68 ∨ b = 101 ∨ b = 102 ∨ 104 ≤ b ∧ b < 110) (by omega))
    refine zwp_V (fun υ => mf (fun b => b = 68 ∨ 104 ≤ b ∧ b < 110) τ υ ∧ ∀ o, 0 ≤ o → o < W 5 → zN υ 68 o.toNat = CM W (yrD W odds (seed + m)) o) (by
      refine zwp_of (fun r h => zcc_40 (ze_40_0 _ r h)) ?_
      exact lp_40 hW (hC.1.fr (by omega) fun a a1 a2 => hf3.1 a (by omega)) (hC.2.1.fr h8 fun b b0 b1 => hf3.1 b (by omega)) hF (W 5).toNat 0 τ (by omega) mf.rf (fun o o0 o1 => by omega)) ?_
    rintro υ ⟨hf4, hv⟩
    have hf5 := hf3.tr (hf4.mono (T := fun b => b = 68 ∨ b = 101 ∨ b = 102 ∨ 104 ≤ b ∧ b < 110) (by omega))
    have hcc : ccC υ W (CM W (yrD W odds (seed + m))) (W 7) := by
      refine ⟨(hf5.1 63 (by omega) 0).trans hC.2.2.2.1.1, (hf5.1 63 (by omega) 1).trans hC.2.2.2.1.2, fun o o0 o1 => ⟨?_, hv o o0 o1⟩⟩
      exact (hC.2.2.2.2 o o0 o1).1.fr (hf5.1 64 (by omega) _) (hf5.1 65 (by omega) _) (hf5.1 66 (by omega) _) (hf5.1 67 (by omega) _)
    have rH := HH_rng hW.un (CM W (yrD W odds (seed + m))) (W 7) t g h
    have ih := lp_143 hW hC h1 q n0 n1 q2 ht0 ht1 hg0 hg1 s0 s1 hh0 hh1 k (m + 1) υ (by omega) hf5
    rw [ez] at ih
    rw [sp_6c hW.un hcc ht0 ht1 hg0 hg1 hh0 hh1, zbI_s]
    by_cases q3 : HH W (CM W (yrD W odds (seed + m))) (W 7) t g h = says
    · rw [if_pos q3] at ih
      refine zwp_f (by rw [q3]; exact fun p => p rfl) ?_
      rw [mm_add, mm_add]
      exact ih
    · rw [if_neg q3, Int.add_zero] at ih
      refine zwp_t (by rw [mm_eq (by omega) (by omega) (by omega) (by omega)]; exact q3) ?_
      rw [mm_add]
      exact ih
theorem cq_years {σ : zM} {W : Int → Int} {seed n odds t g says h : Int} (hW : WOK W) (hC : ctC σ W) (hs0 : -2147483648 ≤ seed) (hs1 : seed < 2147483648) (hn0 : -2147483648 ≤ n) (hn1 : n < 2147483648) (hd0 : -2147483648 ≤ odds) (hd1 : odds < 2147483648) (ht0 : -2147483648 ≤ t) (ht1 : t < 2147483648) (hg0 : -2147483648 ≤ g) (hg1 : g < 2147483648) (hy0 : -2147483648 ≤ says) (hy1 : says < 2147483648) (hh0 : -2147483648 ≤ h) (hh1 : h < 2147483648) : zwp (zcall 143 [.ref 0, .int (Int32.ofInt seed), .int (Int32.ofInt n), .int (Int32.ofInt odds), .int (Int32.ofInt t), .int (Int32.ofInt g), .int (Int32.ofInt says), .int (Int32.ofInt h)] σ) (fun v τ => v = some (.int (Int32.ofInt (Eys W seed n odds t g says h))) ∧ cK σ τ W) := by
  unfold Eys
  refine zwp_of (fun r h => zcc_143 (ze_143_0 _ _ _ _ _ _ _ _ r h)) ?_
  rw [sp_160 hs0 hs1, zbI_s]
  simp only [mm_z, mm_b]
  refine zwp_ite (fun q => ?_) (fun q => ?_)
  · rw [if_neg (fun p => q p.1)]
    exact zwp_ret ⟨rfl, cK.rf hC⟩
  · have q := Classical.not_not.mp q
    by_cases q2 : n < 1
    · refine zwp_t (by try simp (disch := first | assumption | exact isR33 | exact isT104 | exact isF99 | exact isF101 | exact isR3 | omega | (refine isTk ?_; omega) | (refine isOk isR33 ?_; omega) | (refine isOk ?_ ?_; assumption; omega)) only [mm_r, mm_rl, mm_add, mm_sub, mm_mul, mm_addJ, mm_mulJ, mm_lt, mm_le, mm_eq, mm_z, mm_cl, mm_w, mm_wl, mm_ite, mm_i2l, mm_l2i, mm_ltJ, mm_leJ, mm_eqJ, mm_clt, mm_cle, mm_cgt, mm_cge, mm_ceq, mm_b, mm_nb, mm_nb0, mm_nb1, mm_vb0, mm_vb1, mm_vbc, mm_vy0, mm_vy1, mm_at, mm_ne, mm_nj, mm_Lw, mm_Nw, mm_atJ, mm_neJ, mm_njJ, zbI_s, zbV_s, zbJ_s, cond_t, Bool.true_and, Bool.and_true, if_true, if_false, not_true, not_false_iff, Classical.not_not, zel_r, zel_42, zel_12, zel_71, zel_80, zel_89, zel_110, zel_188, zel_103, zel_195, zr_o, zr_1, zr_2, zr_3, zr_4, zr_5, zr_6, zr_7, zr_8, zr_9, zq_o, zq_v, zt_o, zt_1, zt_2, zt_3, zt_4, zt_5, zf_o, zf_1, za_w1, za_w2, za_w3, za_cm, za_sl, Int.toNat_natCast, Int.toNat_natCast_add_one, mm_t0, mm_t1, mm_t2, mm_t3, mm_t4, mm_t5, mm_t6, mm_t7, mm_t8, mm_t9, mm_t10, mm_t11, mm_t12, mm_t13, za_1, za_64, za_65, za_66, za_67, za_68, za_71, za_80, za_89, za_98, za_103, za_110, za_121, za_122, za_123, za_124, za_125, za_126, za_188, za_193, za_194, za_195, za_286, za_288, za_289, za_290, za_291, za_292, za_293, za_294, za_295, za_296, za_297, za_298, za_299, za_300, za_301, za_302, za_303, za_304, za_305, za_306, za_307, za_308, za_309, za_310, za_311, za_312]
                       first | done | omega) ?_
      rw [if_neg (fun p => by have := p.2.1; omega)]
      exact zwp_ret ⟨rfl, cK.rf hC⟩
    · refine zwp_f (by try simp (disch := first | assumption | exact isR33 | exact isT104 | exact isF99 | exact isF101 | exact isR3 | omega | (refine isTk ?_; omega) | (refine isOk isR33 ?_; omega) | (refine isOk ?_ ?_; assumption; omega)) only [mm_r, mm_rl, mm_add, mm_sub, mm_mul, mm_addJ, mm_mulJ, mm_lt, mm_le, mm_eq, mm_z, mm_cl, mm_w, mm_wl, mm_ite, mm_i2l, mm_l2i, mm_ltJ, mm_leJ, mm_eqJ, mm_clt, mm_cle, mm_cgt, mm_cge, mm_ceq, mm_b, mm_nb, mm_nb0, mm_nb1, mm_vb0, mm_vb1, mm_vbc, mm_vy0, mm_vy1, mm_at, mm_ne, mm_nj, mm_Lw, mm_Nw, mm_atJ, mm_neJ, mm_njJ, zbI_s, zbV_s, zbJ_s, cond_t, Bool.true_and, Bool.and_true, if_true, if_false, not_true, not_false_iff, Classical.not_not, zel_r, zel_42, zel_12, zel_71, zel_80, zel_89, zel_110, zel_188, zel_103, zel_195, zr_o, zr_1, zr_2, zr_3, zr_4, zr_5, zr_6, zr_7, zr_8, zr_9, zq_o, zq_v, zt_o, zt_1, zt_2, zt_3, zt_4, zt_5, zf_o, zf_1, za_w1, za_w2, za_w3, za_cm, za_sl, Int.toNat_natCast, Int.toNat_natCast_add_one, mm_t0, mm_t1, mm_t2, mm_t3, mm_t4, mm_t5, mm_t6, mm_t7, mm_t8, mm_t9, mm_t10, mm_t11, mm_t12, mm_t13, za_1, za_64, za_65, za_66, za_67, za_68, za_71, za_80, za_89, za_98, za_103, za_110, za_121, za_122, za_123, za_124, za_125, za_126, za_188, za_193, za_194, za_195, za_286, za_288, za_289, za_290, za_291, za_292, za_293, za_294, za_295, za_296, za_297, za_298, za_299, za_300, za_301, za_302, za_303, za_304, za_305, za_306, za_307, za_308, za_309, za_310, za_311, za_312]
                       first | done | omega) ?_
      by_cases q3 : 20 < n
      · refine zwp_t (by try simp (disch := first | assumption | exact isR33 | exact isT104 | exact isF99 | exact isF101 | exact isR3 | omega | (refine isTk ?_; omega) | (refine isOk isR33 ?_; omega) | (refine isOk ?_ ?_; assumption; omega)) only [mm_r, mm_rl, mm_add, mm_sub, mm_mul, mm_addJ, mm_mulJ, mm_lt, mm_le, mm_eq, mm_z, mm_cl, mm_w, mm_wl, mm_ite, mm_i2l, mm_l2i, mm_ltJ, mm_leJ, mm_eqJ, mm_clt, mm_cle, mm_cgt, mm_cge, mm_ceq, mm_b, mm_nb, mm_nb0, mm_nb1, mm_vb0, mm_vb1, mm_vbc, mm_vy0, mm_vy1, mm_at, mm_ne, mm_nj, mm_Lw, mm_Nw, mm_atJ, mm_neJ, mm_njJ, zbI_s, zbV_s, zbJ_s, cond_t, Bool.true_and, Bool.and_true, if_true, if_false, not_true, not_false_iff, Classical.not_not, zel_r, zel_42, zel_12, zel_71, zel_80, zel_89, zel_110, zel_188, zel_103, zel_195, zr_o, zr_1, zr_2, zr_3, zr_4, zr_5, zr_6, zr_7, zr_8, zr_9, zq_o, zq_v, zt_o, zt_1, zt_2, zt_3, zt_4, zt_5, zf_o, zf_1, za_w1, za_w2, za_w3, za_cm, za_sl, Int.toNat_natCast, Int.toNat_natCast_add_one, mm_t0, mm_t1, mm_t2, mm_t3, mm_t4, mm_t5, mm_t6, mm_t7, mm_t8, mm_t9, mm_t10, mm_t11, mm_t12, mm_t13, za_1, za_64, za_65, za_66, za_67, za_68, za_71, za_80, za_89, za_98, za_103, za_110, za_121, za_122, za_123, za_124, za_125, za_126, za_188, za_193, za_194, za_195, za_286, za_288, za_289, za_290, za_291, za_292, za_293, za_294, za_295, za_296, za_297, za_298, za_299, za_300, za_301, za_302, za_303, za_304, za_305, za_306, za_307, za_308, za_309, za_310, za_311, za_312]
                         first | done | omega) ?_
        rw [if_neg (fun p => by have := p.2.1; omega)]
        exact zwp_ret ⟨rfl, cK.rf hC⟩
      · refine zwp_f (by try simp (disch := first | assumption | exact isR33 | exact isT104 | exact isF99 | exact isF101 | exact isR3 | omega | (refine isTk ?_; omega) | (refine isOk isR33 ?_; omega) | (refine isOk ?_ ?_; assumption; omega)) only [mm_r, mm_rl, mm_add, mm_sub, mm_mul, mm_addJ, mm_mulJ, mm_lt, mm_le, mm_eq, mm_z, mm_cl, mm_w, mm_wl, mm_ite, mm_i2l, mm_l2i, mm_ltJ, mm_leJ, mm_eqJ, mm_clt, mm_cle, mm_cgt, mm_cge, mm_ceq, mm_b, mm_nb, mm_nb0, mm_nb1, mm_vb0, mm_vb1, mm_vbc, mm_vy0, mm_vy1, mm_at, mm_ne, mm_nj, mm_Lw, mm_Nw, mm_atJ, mm_neJ, mm_njJ, zbI_s, zbV_s, zbJ_s, cond_t, Bool.true_and, Bool.and_true, if_true, if_false, not_true, not_false_iff, Classical.not_not, zel_r, zel_42, zel_12, zel_71, zel_80, zel_89, zel_110, zel_188, zel_103, zel_195, zr_o, zr_1, zr_2, zr_3, zr_4, zr_5, zr_6, zr_7, zr_8, zr_9, zq_o, zq_v, zt_o, zt_1, zt_2, zt_3, zt_4, zt_5, zf_o, zf_1, za_w1, za_w2, za_w3, za_cm, za_sl, Int.toNat_natCast, Int.toNat_natCast_add_one, mm_t0, mm_t1, mm_t2, mm_t3, mm_t4, mm_t5, mm_t6, mm_t7, mm_t8, mm_t9, mm_t10, mm_t11, mm_t12, mm_t13, za_1, za_64, za_65, za_66, za_67, za_68, za_71, za_80, za_89, za_98, za_103, za_110, za_121, za_122, za_123, za_124, za_125, za_126, za_188, za_193, za_194, za_195, za_286, za_288, za_289, za_290, za_291, za_292, za_293, za_294, za_295, za_296, za_297, za_298, za_299, za_300, za_301, za_302, za_303, za_304, za_305, za_306, za_307, za_308, za_309, za_310, za_311, za_312]
                         first | done | omega) ?_
        rw [sp_161 hd0 hd1, zbI_s]
        simp only [mm_b, Classical.not_not]
        refine zwp_ite (fun q4 => ?_) (fun q4 => ?_)
        · rw [sp_150w hC.1 ht0 ht1 hg0 hg1 hh0 hh1, zbI_s]
          simp only [mm_b]
          refine zwp_ite (fun q5 => ?_) (fun q5 => ?_)
          · rw [if_neg (fun p => q5 p.2.2.2.1)]
            exact zwp_ret ⟨rfl, cK.rf hC⟩
          · have q5 := Classical.not_not.mp q5
            rw [sp_157 hy0 hy1, zbI_s]
            simp only [mm_b, Classical.not_not]
            refine zwp_ite (fun q6 => ?_) (fun q6 => ?_)
            · rw [if_pos (⟨q, by omega, q4, q5, q6⟩ : isSd seed ∧ (1 ≤ n ∧ n ≤ 20) ∧ isOd odds ∧ asked W t g h ∧ -1 ≤ says ∧ says < 10)]
              exact lp_143 hW hC (by omega) q (by omega) (by omega) q4 ht0 ht1 hg0 hg1 q6.1 q6.2 hh0 hh1 n.toNat 0 σ (by omega) mf.rf
            · rw [if_neg (fun p => q6 p.2.2.2.2)]
              exact zwp_ret ⟨rfl, cK.rf hC⟩
        · rw [if_neg (fun p => q4 p.2.2.1)]
          exact zwp_ret ⟨rfl, cK.rf hC⟩
