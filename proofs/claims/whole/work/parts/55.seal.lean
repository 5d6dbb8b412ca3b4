/-! CALLS: seal -/
def wSl (W : Int → Int) (n : Int) : Int → Int := fun j => if j = 7 then n else W j
theorem sl_k {W : Int → Int} {n j : Int} (h : j ≠ 7) : wSl W n j = W j := if_neg h
theorem sl_7 {W : Int → Int} {n : Int} : wSl W n 7 = n := if_pos rfl
theorem sl_o {W : Int → Int} {n o k : Int} (o0 : 0 ≤ o) (k0 : 0 ≤ k) : oo (wSl W n) o k = oo W o k := if_neg (by omega)
theorem sl_rdP {W : Int → Int} {n a b r : Int} (r0 : 0 ≤ r) : rdP (wSl W n) a b r = rdP W a b r := by
  unfold rdP
  rw [sl_k (by omega), sl_k (by omega)]
theorem sl_RD {W : Int → Int} {n : Int} : RD (wSl W n) = RD W := by
  funext a b
  unfold RD
  rw [sl_k (by decide)]
  exact zfst_congr _ _ fun r r0 r1 => sl_rdP r0
theorem sl_RH {W : Int → Int} {n r : Int} (r0 : 0 ≤ r) : RH (wSl W n) r = RH W r := if_neg (by omega)
theorem RD_ge {W : Int → Int} {a b : Int} (h : RD W a b ≠ -1) : 0 ≤ RD W a b := by
  rcases RD_rng W a b with e | ⟨h0, -, -⟩
  · exact absurd e h
  · exact h0
theorem sl_DD {W : Int → Int} {n : Int} : DD (wSl W n) = DD W := by
  have e : D0 (wSl W n) = D0 W := by
    funext a b
    unfold D0
    rw [sl_RD]
    by_cases q : RD W a b = -1
    · rw [if_pos q, if_pos q]
    · rw [sl_RH (RD_ge q)]
  unfold DD
  rw [e, sl_k (by decide)]
theorem sl_NX {W : Int → Int} {n : Int} : NX (wSl W n) = NX W := by
  funext a b
  unfold NX
  rw [sl_DD, sl_k (by decide)]
  have e : nxP (wSl W n) a b = nxP W a b := by
    funext t
    unfold nxP
    rw [sl_RD, sl_DD]
    by_cases q : RD W a t = -1
    · rw [decide_eq_false (fun p => p.1 q), decide_eq_false (fun p => p.1 q)]
    · rw [sl_RH (RD_ge q)]
  rw [e]
theorem sl_lead {W : Int → Int} {n : Int} (g : Int) : ∀ (k : Nat) (w : wy), lead (wSl W n) g k w = lead W g k w
  | 0, _ => rfl
  | k + 1, w => by
    rw [lead, lead, sl_NX, sl_lead g k]
theorem sl_wayV {W : Int → Int} {n : Int} (fr : Int) (v : Int → Int) : ∀ k : Nat, wayV (wSl W n) fr v k = wayV W fr v k
  | 0 => rfl
  | k + 1 => by rw [wayV, wayV, sl_lead, sl_wayV fr v k]
theorem sl_WAY {W : Int → Int} {n o : Int} (o0 : 0 ≤ o) : WAY (wSl W n) o = WAY W o := by
  unfold WAY way
  rw [sl_lead, sl_wayV, sl_o o0 (by decide), sl_o o0 (by decide), sl_o o0 (by decide)]
  congr 1
  refine wayV_c _ fun i i0 i1 => ?_
  exact sl_o o0 (by omega)
theorem sl_pac {W : Int → Int} {n o : Int} (o0 : 0 ≤ o) (hr : 0 ≤ oo W o 0) : pac (wSl W n) o = pac W o ∧ res (wSl W n) o = res W o := by
  unfold pac res
  rw [sl_o o0 (by decide), sl_k (by omega), sl_k (by omega)]
  exact ⟨rfl, rfl⟩
theorem sl_FL {W : Int → Int} {n : Int} (D : Int → Int → Bool) : FL (wSl W n) D = FL W D := by
  funext r x
  unfold FL
  rw [sl_k (by decide)]
  congr 1
  refine zany_congr _ fun f f0 f1 => ?_
  rw [sl_k (by omega), sl_k (by omega), sl_k (by omega)]
theorem sl_rdw {W : Int → Int} {n : Int} {w : wy} {i : Nat} : rdw (wSl W n) w i = rdw W w i := by
  unfold rdw
  rw [sl_RD]
theorem sl_tI {W : Int → Int} {n : Int} {F : Int → Int → Bool} {w : wy} {x p r : Int} (hw : wyOk W w) : ∀ i : Nat, (i : Int) < w.1 → tI (wSl W n) F w x p r i = tI W F w x p r i
  | 0, _ => rfl
  | i + 1, h => by
    have q := RD_ge (hw.2.2 i (by omega) (by omega))
    rw [tI, tI, sl_tI hw i (by omega), sl_rdw, sl_k (by decide)]
    rw [sl_RH (by unfold rdw; exact q)]
theorem sl_tO {W : Int → Int} {n : Int} {F : Int → Int → Bool} {w : wy} {x p r : Int} (hw : wyOk W w) (i : Nat) (h : (i : Int) < w.1) : tO (wSl W n) F w x p r i = tO W F w x p r i := by
  unfold tO
  rw [sl_tI hw i h, sl_rdw, sl_k (by decide)]
theorem sl_CMw {W : Int → Int} {n m : Int} {F : Int → Int → Bool} {w : wy} {x p r : Int} (hw : wyN W m w) : CMw (wSl W n) F w x p r = CMw W F w x p r := by
  unfold CMw
  rcases hw with e | ⟨e0, e1, e2⟩
  · rw [if_pos e, if_pos e]
  · rw [sl_tI e2 _ (by omega), sl_k (by decide)]
theorem sl_CMh {W : Int → Int} {n o x : Int} {F : Int → Int → Bool} (hW : wRd W) (o0 : 0 ≤ o) (ho : oOk W o) : CMh (wSl W n) F o x = CMh W F o x := by
  have hp := sl_pac (n := n) o0 ho.2.2.2.2.2.2.2.2.2.1
  unfold CMh
  rw [sl_WAY o0, hp.1, hp.2, sl_CMw (WAY_N hW ho).1]
theorem sl_CM {W : Int → Int} {n o : Int} (hW : wRd W) (o0 : 0 ≤ o) (ho : oOk W o) : CM (wSl W n) noD o = CM W noD o := by
  rw [CM_h, CM_h, sl_FL, sl_o o0 (by decide), sl_CMh hW o0 ho]
theorem sl_oOk {W : Int → Int} {n o : Int} (o0 : 0 ≤ o) (ho : oOk W o) : oOk (wSl W n) o := by
  have hp := sl_pac (n := n) o0 ho.2.2.2.2.2.2.2.2.2.1
  unfold oOk
  rw [hp.1, hp.2, sl_o o0 (by decide), sl_o o0 (by decide), sl_o o0 (by decide), sl_o o0 (by decide), sl_o o0 (by decide), sl_k (by decide)]
  obtain ⟨a1, a2, a3, a4, a5, a6, a7, a8⟩ := ho
  refine ⟨a1, a2, a3, a4, a5, a6, fun i i0 i1 => ?_, a8⟩
  rw [sl_o o0 (by omega)]
  exact a7 i i0 i1
theorem sl_WOK {W : Int → Int} (hW : WOK W) {n : Int} (n0 : 0 ≤ n) (n1 : n ≤ 99) : WOK (wSl W n) := by
  obtain ⟨⟨⟨b0, b1, b2, b3, b4⟩, c1, c2, c3, c4⟩, hf, ⟨d0, d1, d2, d3, d4, d5, d6, d7⟩, hr, ho⟩ := hW
  refine ⟨⟨⟨b0, b1, b2, b3, fun r r0 r1 => ?_⟩, c1, c2, c3, c4⟩, fun f f0 f1 => ?_, ⟨d0, d1, d2, d3, d4, d5, ?_, ?_⟩, fun i i0 i1 => ?_, fun o o0 o1 => ?_⟩
  · have r1 : r < W 2 := r1
    obtain ⟨e1, e2⟩ := b4 r r0 r1
    rw [sl_k (by omega), sl_k (by omega), sl_k (by omega), sl_k (by omega)]
    refine ⟨e1, fun q q0 q1 => ?_⟩
    rw [sl_rdP q0]
    exact e2 q q0 q1
  · rw [sl_k (by omega), sl_k (by omega), sl_k (by omega), sl_k (by omega), sl_k (by omega)]
    exact hf f f0 f1
  · rw [sl_7]
    exact n0
  · rw [sl_7]
    exact n1
  · rw [sl_k (by omega), sl_k (by omega)]
    exact hr i i0 i1
  · have h := ho o o0 o1
    refine ⟨sl_oOk o0 h.1, ?_⟩
    rw [sl_o o0 (by decide), sl_o o0 (by decide), sl_o o0 (by decide), sl_o o0 (by decide), sl_o o0 (by decide), sl_o o0 (by decide), sl_o o0 (by decide), sl_o o0 (by decide), sl_o o0 (by decide), sl_o o0 (by decide), sl_k (by decide), sl_k (by decide), sl_k (by decide)]
    exact h.2
theorem sl_cL {σ : zM} {W : Int → Int} {n : Int} {p : Nat} (n0 : 0 ≤ n) (n1 : n ≤ 99) (h : cL σ p W) : cL (zw σ p 3 n) p (wSl W n) := by
  obtain ⟨⟨l0, l1, l2, l3, l4, l5, l6, l7⟩, lr, lf, lp, lo⟩ := h
  refine ⟨⟨(mm_nj (by decide)).trans l0, (mm_nj (by decide)).trans l1, (mm_nj (by decide)).trans l2, ?_, (mm_nj (by decide)).trans l4, (mm_nj (by decide)).trans l5, (mm_nj (by decide)).trans l6, (mm_nj (by decide)).trans l7⟩, fun r r0 r1 => ?_, fun f f0 f1 => ?_, fun i i0 i1 => ?_, fun o o0 o1 => ?_⟩
  · rw [sl_7]
    exact mm_at rfl rfl (by omega) (by omega)
  · rw [mm_ne (by omega), mm_ne (by omega), mm_ne (by omega), sl_k (by omega), sl_k (by omega), sl_k (by omega)]
    exact lr r r0 r1
  · rw [mm_ne (by omega), mm_ne (by omega), mm_ne (by omega), sl_k (by omega), sl_k (by omega), sl_k (by omega)]
    exact lf f f0 f1
  · rw [mm_ne (by omega), mm_ne (by omega), sl_k (by omega), sl_k (by omega)]
    exact lp i i0 i1
  · have c := (lo o o0 o1).fr (τ := zw σ p 3 n) (fun k => mm_ne (by omega)) (fun k => mm_ne (by omega))
    unfold cO at c ⊢
    rw [sl_o o0 (by decide), sl_o o0 (by decide), sl_o o0 (by decide), sl_o o0 (by decide), sl_o o0 (by decide), sl_o o0 (by decide), sl_o o0 (by decide), sl_o o0 (by decide), sl_o o0 (by decide), sl_o o0 (by decide), sl_o o0 (by decide)]
    obtain ⟨c0, c1, c2, c3, c4, c5, c6, c7, c8, c9, c10⟩ := c
    refine ⟨c0, c1, c2, c3, c4, c5, c6, c7, fun v v0 v1 => ?_, c9, c10⟩
    rw [sl_o o0 (by omega)]
    exact c8 v v0 v1
theorem sl_ctC {σ : zM} {W : Int → Int} {n : Int} (hW : WOK W) (n0 : 0 ≤ n) (n1 : n ≤ 99) (h : ctC σ W) : ctC (zw (zw σ 33 3 n) 63 1 n) (wSl W n) := by
  have h5 := hW.2.2.1
  obtain ⟨hL, hy, hF, ⟨s0, s1⟩, hs⟩ := h
  have hf : mf (fun b => b = 33 ∨ b = 63) σ (zw (zw σ 33 3 n) 63 1 n) := ((mf.rf (S := fun b => b = 33 ∨ b = 63)).zw 33 _ _ (.inl rfl)).zw 63 _ _ (.inr rfl)
  have hy' := hy.fr hW.1.1.2.1 (τ := zw (zw σ 33 3 n) 63 1 n) fun b b0 b1 => hf.1 b (by omega)
  refine ⟨(sl_cL n0 n1 hL).fr (by rw [sl_k (by decide)]; omega) fun a a0 a1 k => mm_ne (by omega), ?_, ?_, ⟨?_, ?_⟩, fun p p0 p1 => ?_⟩
  · unfold wyC
    rw [sl_k (by decide), sl_k (by decide), sl_DD, sl_NX, sl_RD]
    refine ⟨hy'.1, hy'.2.1, hy'.2.2.1, fun r r0 r1 => ?_⟩
    rw [sl_RH r0]
    exact hy'.2.2.2 r r0 r1
  · rw [sl_k (by decide), sl_FL]
    exact hF.fr (hf.1 99 (by omega)) (hf.1 100 (by omega))
  · rw [sl_k (by decide)]
    exact (mm_nj (by decide)).trans ((mm_ne (by decide)).trans s0)
  · rw [sl_7]
    exact mm_at rfl rfl (by omega) (by omega)
  · obtain ⟨a, b, c⟩ := hs p p0 p1
    have ho := (hW.2.2.2.2 p p0 p1).1
    have hN := (WAY_N hW.1.1 ho).1
    have hp := sl_pac (n := n) p0 ho.2.2.2.2.2.2.2.2.2.1
    have b' := b.fr (τ := zw (zw σ 33 3 n) 63 1 n) (hf.1 68 (by omega) _) (fun r r0 r1 => hf.1 r (by omega))
    refine ⟨?_, ?_, ?_⟩
    · unfold sC
      rw [sl_o p0 (by decide), sl_o p0 (by decide), sl_o p0 (by decide), sl_o p0 (by decide)]
      exact a.fr (hf.1 64 (by omega) _) (hf.1 65 (by omega) _) (hf.1 66 (by omega) _) (hf.1 67 (by omega) _)
    · unfold vC tC tmC
      rw [sl_WAY p0, hp.1, hp.2, sl_o p0 (by decide), sl_CM hW.1.1 p0 ho, sl_FL]
      refine ⟨⟨b'.1.1, b'.1.2.1, fun i i1 => ?_⟩, fun w => ?_, b'.2.2⟩
      · rw [sl_rdw]
        rcases hN with e | ⟨e0, e1, e2⟩
        · omega
        · rw [sl_RH (by unfold rdw; exact RD_ge (e2.2.2 i (by omega) (by omega)))]
          exact b'.1.2.2 i i1
      · rcases hN with e | ⟨e0, e1, e2⟩
        · exact absurd e w
        · refine ⟨fun i i1 => ?_, fun i i1 => ?_⟩
          · rw [sl_tI e2 i (by omega)]
            exact (b'.2.1 w).1 i i1
          · rw [sl_tO e2 i (by omega)]
            exact (b'.2.1 w).2 i i1
    · intro z x x0 x1
      rw [sl_k (by decide)] at x1
      rw [hf.1 121 (by omega)] at z
      rw [hf.1 _ (by omega), sl_FL, sl_CMh hW.1.1 p0 ho]
      exact c z x x0 x1
abbrev inS (W : Int → Int) (n : Int) : Prop := 0 < W 0 ∧ 0 ≤ n ∧ n ≤ 99
def Wsl (W : Int → Int) (n : Int) : Int → Int := if inS W n then wSl W n else W
def Esl (W : Int → Int) (n : Int) : Int := if inS W n then W 7 else -2
theorem cq_seal {σ : zM} {W : Int → Int} {n : Int} (hW : WOK W) (hC : ctC σ W) (hn0 : -2147483648 ≤ n) (hn1 : n < 2147483648) : zwp (zcall 123 [.ref 0, .int (Int32.ofInt n)] σ) (fun v τ => v = some (.int (Int32.ofInt (Esl W n))) ∧ cK' σ τ (Wsl W n)) := by
  have e1 := hC.1.1.2.1
  have e3 := hC.1.1.2.2.2.1
  unfold Esl Wsl
  refine zwp_of (fun r h => zcc_123 (ze_123_0 _ _ r h)) ?_
  simp (disch := first | assumption | exact isR33 | exact isT104 | exact isF99 | exact isF101 | exact isR3 | omega | (refine isTk ?_; omega) | (refine isOk isR33 ?_; omega) | (refine isOk ?_ ?_; assumption; omega)) only [mm_r, mm_rl, mm_add, mm_sub, mm_mul, mm_addJ, mm_mulJ, mm_lt, mm_le, mm_eq, mm_z, mm_cl, mm_w, mm_wl, mm_ite, mm_i2l, mm_l2i, mm_ltJ, mm_leJ, mm_eqJ, mm_clt, mm_cle, mm_cgt, mm_cge, mm_ceq, mm_b, mm_nb, mm_nb0, mm_nb1, mm_vb0, mm_vb1, mm_vbc, mm_vy0, mm_vy1, mm_at, mm_ne, mm_nj, mm_Lw, mm_Nw, mm_atJ, mm_neJ, mm_njJ, zbI_s, zbV_s, zbJ_s, cond_t, Bool.true_and, Bool.and_true, if_true, if_false, not_true, not_false_iff, Classical.not_not, zel_r, zel_42, zel_12, zel_71, zel_80, zel_89, zel_110, zel_188, zel_103, zel_195, zr_o, zr_1, zr_2, zr_3, zr_4, zr_5, zr_6, zr_7, zr_8, zr_9, zq_o, zq_v, zt_o, zt_1, zt_2, zt_3, zt_4, zt_5, zf_o, zf_1, za_w1, za_w2, za_w3, za_cm, za_sl, Int.toNat_natCast, Int.toNat_natCast_add_one, mm_t0, mm_t1, mm_t2, mm_t3, mm_t4, mm_t5, mm_t6, mm_t7, mm_t8, mm_t9, mm_t10, mm_t11, mm_t12, mm_t13, za_1, za_64, za_65, za_66, za_67, za_68, za_71, za_80, za_89, za_98, za_103, za_110, za_121, za_122, za_123, za_124, za_125, za_126, za_188, za_193, za_194, za_195, za_286, za_288, za_289, za_290, za_291, za_292, za_293, za_294, za_295, za_296, za_297, za_298, za_299, za_300, za_301, za_302, za_303, za_304, za_305, za_306, za_307, za_308, za_309, za_310, za_311, za_312, sp_76, e1, sp_158]
  refine zwp_ite (fun q => ?_) (fun q => ?_)
  · rw [if_neg (fun p => q p.1), if_neg (fun p => q p.1)]
    exact zwp_ret ⟨rfl, (cK.rf hC).w⟩
  · have q := Classical.not_not.mp q
    refine zwp_ite (fun q2 => ?_) (fun q2 => ?_)
    · rw [if_pos (⟨q, q2⟩ : inS W n), if_pos (⟨q, q2⟩ : inS W n)]
      refine zwp_let (zwp_let ?_)
      rw [e3]
      exact zwp_ret ⟨rfl, ((mf.rf (S := fun b => 33 ≤ b ∧ b < 187)).zw 33 _ _ (by omega)).zw 63 _ _ (by omega), sl_ctC hW q2.1 q2.2 hC⟩
    · rw [if_neg (fun p => q2 p.2), if_neg (fun p => q2 p.2)]
      exact zwp_ret ⟨rfl, (cK.rf hC).w⟩
theorem rq_seal {σ : zM} {W : Int → Int} {n : Int} (hB : rB0 σ W) (hn0 : -2147483648 ≤ n) (hn1 : n < 2147483648) : zwp (zcall 231 [.ref 287, .int (Int32.ofInt n)] σ) (fun v τ => v = some (.int (Int32.ofInt (Esl W n))) ∧ rK' σ τ (Wsl W n)) := by
  have e0 : zN σ 288 0 = W 0 := wv_k hB.1 0
  have e7 : zN σ 288 7 = W 7 := wv_k hB.1 7
  unfold Esl Wsl
  refine zwp_of (fun r h => zcc_231 (ze_231_0 _ _ r h)) ?_
  simp (disch := first | assumption | exact isR33 | exact isT104 | exact isF99 | exact isF101 | exact isR3 | omega | (refine isTk ?_; omega) | (refine isOk isR33 ?_; omega) | (refine isOk ?_ ?_; assumption; omega)) only [mm_r, mm_rl, mm_add, mm_sub, mm_mul, mm_addJ, mm_mulJ, mm_lt, mm_le, mm_eq, mm_z, mm_cl, mm_w, mm_wl, mm_ite, mm_i2l, mm_l2i, mm_ltJ, mm_leJ, mm_eqJ, mm_clt, mm_cle, mm_cgt, mm_cge, mm_ceq, mm_b, mm_nb, mm_nb0, mm_nb1, mm_vb0, mm_vb1, mm_vbc, mm_vy0, mm_vy1, mm_at, mm_ne, mm_nj, mm_Lw, mm_Nw, mm_atJ, mm_neJ, mm_njJ, zbI_s, zbV_s, zbJ_s, cond_t, Bool.true_and, Bool.and_true, if_true, if_false, not_true, not_false_iff, Classical.not_not, zel_r, zel_42, zel_12, zel_71, zel_80, zel_89, zel_110, zel_188, zel_103, zel_195, zr_o, zr_1, zr_2, zr_3, zr_4, zr_5, zr_6, zr_7, zr_8, zr_9, zq_o, zq_v, zt_o, zt_1, zt_2, zt_3, zt_4, zt_5, zf_o, zf_1, za_w1, za_w2, za_w3, za_cm, za_sl, Int.toNat_natCast, Int.toNat_natCast_add_one, mm_t0, mm_t1, mm_t2, mm_t3, mm_t4, mm_t5, mm_t6, mm_t7, mm_t8, mm_t9, mm_t10, mm_t11, mm_t12, mm_t13, za_1, za_64, za_65, za_66, za_67, za_68, za_71, za_80, za_89, za_98, za_103, za_110, za_121, za_122, za_123, za_124, za_125, za_126, za_188, za_193, za_194, za_195, za_286, za_288, za_289, za_290, za_291, za_292, za_293, za_294, za_295, za_296, za_297, za_298, za_299, za_300, za_301, za_302, za_303, za_304, za_305, za_306, za_307, za_308, za_309, za_310, za_311, za_312, sp_166, e0, e7, sp_163]
  refine zwp_ite (fun q => ?_) (fun q => ?_)
  · rw [if_neg (fun p => q p.1), if_neg (fun p => q p.1)]
    exact zwp_ret ⟨rfl, rK.rf.w hB.1⟩
  · have q := Classical.not_not.mp q
    refine zwp_ite (fun q2 => ?_) (fun q2 => ?_)
    · rw [if_pos (⟨q, q2⟩ : inS W n), if_pos (⟨q, q2⟩ : inS W n)]
      refine zwp_let ?_
      refine zwp_ret ⟨rfl, (mf.rf (S := refS)).zw 288 _ _ (.inl ⟨by decide, by decide⟩), fun k _ => mm_ne (by decide), ?_⟩
      funext j
      show zN (zw σ 288 _ n) 288 j.toNat = if j = 7 then n else W j
      by_cases z : j = 7
      · rw [if_pos z, z]
        exact mm_at rfl rfl (by omega) (by omega)
      · rw [if_neg z, mm_nj (by omega), ← hB.1]
        rfl
    · rw [if_neg (fun p => q2 p.2), if_neg (fun p => q2 p.2)]
      exact zwp_ret ⟨rfl, rK.rf.w hB.1⟩
