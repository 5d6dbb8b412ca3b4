/-! CALLS: meets, cross: the calls -/
theorem rdP_of {W : Int → Int} {a b : Int} (h : RD W a b ≠ -1) : 0 ≤ RD W a b ∧ RD W a b < W 2 ∧ (W (8 + 3 * RD W a b) = a ∧ W (8 + 3 * RD W a b + 1) = b ∨ W (8 + 3 * RD W a b) = b ∧ W (8 + 3 * RD W a b + 1) = a) := by
  rcases RD_rng W a b with e | ⟨h0, h1, h2⟩
  · exact absurd e h
  · exact ⟨h0, by omega, of_decide_eq_true h2⟩
theorem cl_R {W : Int → Int} (hW : wRd W) {wa wb : wy} (ha : wyOk W wa) (hb : wyOk W wb) {Ia Oa Ib Ob : Nat → Int} {i j : Nat} (hi : (i : Int) + 1 < wa.1) (hj : (j : Int) + 1 < wb.1) : clP wa wb (rdw W wa) Ia Oa (rdw W wb) Ib Ob i j ↔ clR wa wb Ia Oa Ib Ob i j := by
  have ra := ha.2.2 i (by omega) hi
  have rb := hb.2.2 j (by omega) hj
  obtain ⟨x0, x1, x2⟩ := rdP_of ra
  obtain ⟨y0, y1, y2⟩ := rdP_of rb
  have hne := ((hW.2.2.2.2 _ x0 x1).1).2.2.2.2.1
  unfold clP rdw
  constructor
  · rintro ⟨h1, h2, h3, h4⟩
    rw [← h1] at y2
    exact ⟨by omega, by omega, h3, h4⟩
  · rintro ⟨h1, h2, h3, h4⟩
    refine ⟨?_, ?_, h3, h4⟩
    · rw [h1, h2, RD_sym]
    · rw [← h2]
      omega
def crB (W : Int → Int) (a b : Int) : Bool := zany (fun i => zany (fun j => decide (clR (WAY W a) (WAY W b) (TIo W noD a) (TOo W noD a) (TIo W noD b) (TOo W noD b) i.toNat j.toNat)) ((WAY W b).1 - 1).toNat) ((WAY W a).1 - 1).toNat
theorem crB_yes {W : Int → Int} {a b : Int} (h : ∃ i j : Nat, (i : Int) + 1 < (WAY W a).1 ∧ (j : Int) + 1 < (WAY W b).1 ∧ clR (WAY W a) (WAY W b) (TIo W noD a) (TOo W noD a) (TIo W noD b) (TOo W noD b) i j) : crB W a b = true := by
  obtain ⟨i, j, h1, h2, h3⟩ := h
  refine zany_of (i := i) (by omega) ?_
  refine zany_of (i := j) (by omega) ?_
  exact decide_eq_true h3
theorem crB_ex {W : Int → Int} {a b : Int} (h : crB W a b = true) : ∃ i j : Nat, (i : Int) + 1 < (WAY W a).1 ∧ (j : Int) + 1 < (WAY W b).1 ∧ clR (WAY W a) (WAY W b) (TIo W noD a) (TOo W noD a) (TIo W noD b) (TOo W noD b) i j := by
  obtain ⟨i, h1, h⟩ := zany_ex h
  obtain ⟨j, h2, h⟩ := zany_ex h
  exact ⟨i, j, by omega, by omega, of_decide_eq_true h⟩
theorem crB_sym (W : Int → Int) (a b : Int) : crB W a b = crB W b a := by
  have h : ∀ a b, crB W a b = true → crB W b a = true := fun a b h => by
    obtain ⟨i, j, h1, h2, h3, h4, h5, h6⟩ := crB_ex h
    exact crB_yes ⟨j, i, h2, h1, h4.symm, h3.symm, h6, h5⟩
  cases p : crB W a b with
  | true => exact (h a b p).symm
  | false =>
    cases q : crB W b a with
    | true => exact absurd (h b a q) (by rw [p]; decide)
    | false => rfl
theorem ctC.trD {σ : zM} {W : Int → Int} (hW : WOK W) (hC : ctC σ W) {o : Int} (h : inO W o) : trD σ (127 + 6 * o.toNat) (WAY W o) (rdw W (WAY W o)) (TIo W noD o) (TOo W noD o) := by
  have h5 := hW.2.2.1
  obtain ⟨-, ⟨⟨t0, t1, t2⟩, tm, -⟩, -⟩ := hC.2.2.2.2 o h.1 h.2
  obtain ⟨-, w0, w1, -, -⟩ := hW.tr h noD
  refine ⟨isTk (by omega), w0, w1, t0, fun i hi => ⟨?_, (tm (by omega)).1 i (by omega), fun hi2 => ⟨(t2 i hi2).1, (tm (by omega)).2 i (by omega)⟩⟩⟩
  have := t1 i (by omega) hi
  rw [Int.toNat_natCast] at this
  exact this
theorem gone.reD {σ : zM} {W : Int → Int} (hW : WOK W) (hg : gone σ W noD) {o : Int} (h : inO W o) : reD σ o (WAY W o) (TIo W noD o) (TOo W noD o) := by
  have h5 := hW.2.2.1
  obtain ⟨-, -, r, t⟩ := hg.2.1 o h.1 h.2
  obtain ⟨-, w0, w1, -, -⟩ := hW.tr h noD
  exact ⟨h.1, by omega, w0, w1, r.1, fun i hi => ⟨r.2 i (by omega) hi, (t (by omega)).1 i (by omega), fun hi2 => (t (by omega)).2 i (by omega) hi2⟩⟩
theorem sp_98 {σ : zM} {W : Int → Int} (hW : WOK W) (hC : ctC σ W) {a b : Int} (ha : inO W a) (hb : inO W b) : zwp (zcall 98 [.ref (127 + 6 * a.toNat), .ref (127 + 6 * b.toNat)] σ) (fun v τ => v = some (.int (Int32.ofInt (if crB W a b = true then 1 else 0))) ∧ τ = σ) := by
  have na := (hW.tr ha noD).1
  have nb := (hW.tr hb noD).1
  have ok : ∀ {w : wy} {i : Nat}, wyN W 29 w → (i : Int) + 1 < w.1 → wyOk W w := fun hn hi => by
    rcases hn with e | e
    · omega
    · exact e.2.2
  refine zwp_of (fun r h => zcc_98 (ze_98_0 _ _ _ r h)) ?_
  refine lp_98_2 (hC.trD hW ha) (hC.trD hW hb) (fun hn => ?_) (fun hx => ?_) 29 0 (by omega) (fun x j hx => absurd hx (by omega))
  · rw [if_neg (fun h => ?_)]
    · exact ⟨rfl, rfl⟩
    · obtain ⟨i, j, h1, h2, h3⟩ := crB_ex h
      exact hn i j h1 h2 ((cl_R hW.1.1 (ok na h1) (ok nb h2) h1 h2).mpr h3)
  · obtain ⟨i, j, h1, h2, h3⟩ := hx
    rw [if_pos (crB_yes ⟨i, j, h1, h2, (cl_R hW.1.1 (ok na h1) (ok nb h2) h1 h2).mp h3⟩)]
    exact ⟨rfl, rfl⟩
theorem sp_254 {σ : zM} {W : Int → Int} (hW : WOK W) (hg : gone σ W noD) {a b : Int} (ha : inO W a) (hb : inO W b) : zwp (zcall 254 [.ref 287, .int (Int32.ofInt a), .int (Int32.ofInt b)] σ) (fun v τ => v = some (.int (Int32.ofInt (if crB W a b = true then 1 else 0))) ∧ τ = σ) := by
  refine zwp_of (fun r h => zcc_254 (ze_254_0 _ _ _ r h)) ?_
  refine lp_254_2 (hg.reD hW ha) (hg.reD hW hb) (fun hn => ?_) (fun hx => ?_) 29 0 (by omega) (fun x j hx => absurd hx (by omega))
  · rw [if_neg (fun h => ?_)]
    · exact ⟨rfl, rfl⟩
    · obtain ⟨i, j, h1, h2, h3⟩ := crB_ex h
      exact hn i j h1 h2 h3
  · rw [if_pos (crB_yes hx)]
    exact ⟨rfl, rfl⟩
def Eme (W : Int → Int) (a b : Int) : Int := if inO W a ∧ inO W b ∧ a ≠ b then (if crB W a b = true then 1 else 0) else -2
theorem cq_meets {σ : zM} {W : Int → Int} {a b : Int} (hW : WOK W) (hC : ctC σ W) (a0 : -2147483648 ≤ a) (a1 : a < 2147483648) (b0 : -2147483648 ≤ b) (b1 : b < 2147483648) : zwp (zcall 136 [.ref 0, .int (Int32.ofInt a), .int (Int32.ofInt b)] σ) (fun v τ => v = some (.int (Int32.ofInt (Eme W a b))) ∧ cK σ τ W) := by
  have e7 := hC.1.1.2.2.2.2.2.2.2
  have h5 := hW.2.2.1
  have s := sp_79 (p := 33) (n := a) (σ := σ) isR33 (by omega) (by omega)
  have s2 := sp_79 (p := 33) (n := b) (σ := σ) isR33 (by omega) (by omega)
  rw [e7] at s s2
  unfold Eme
  refine zwp_of (fun r h => zcc_136 (ze_136_0 _ _ _ r h)) ?_
  simp (disch := first | assumption | exact isR33 | exact isT104 | exact isF99 | exact isF101 | exact isR3 | omega | (refine isTk ?_; omega) | (refine isOk isR33 ?_; omega) | (refine isOk ?_ ?_; assumption; omega)) only [mm_r, mm_rl, mm_add, mm_sub, mm_mul, mm_addJ, mm_mulJ, mm_lt, mm_le, mm_eq, mm_z, mm_cl, mm_w, mm_wl, mm_ite, mm_i2l, mm_l2i, mm_ltJ, mm_leJ, mm_eqJ, mm_clt, mm_cle, mm_cgt, mm_cge, mm_ceq, mm_b, mm_nb, mm_nb0, mm_nb1, mm_vb0, mm_vb1, mm_vbc, mm_vy0, mm_vy1, mm_at, mm_ne, mm_nj, mm_Lw, mm_Nw, mm_atJ, mm_neJ, mm_njJ, zbI_s, zbV_s, zbJ_s, cond_t, Bool.true_and, Bool.and_true, if_true, if_false, not_true, not_false_iff, Classical.not_not, zel_r, zel_42, zel_12, zel_71, zel_80, zel_89, zel_110, zel_188, zel_103, zel_195, zr_o, zr_1, zr_2, zr_3, zr_4, zr_5, zr_6, zr_7, zr_8, zr_9, zq_o, zq_v, zt_o, zt_1, zt_2, zt_3, zt_4, zt_5, zf_o, zf_1, za_w1, za_w2, za_w3, za_cm, za_sl, Int.toNat_natCast, Int.toNat_natCast_add_one, mm_t0, mm_t1, mm_t2, mm_t3, mm_t4, mm_t5, mm_t6, mm_t7, mm_t8, mm_t9, mm_t10, mm_t11, mm_t12, mm_t13, za_1, za_64, za_65, za_66, za_67, za_68, za_71, za_80, za_89, za_98, za_103, za_110, za_121, za_122, za_123, za_124, za_125, za_126, za_188, za_193, za_194, za_195, za_286, za_288, za_289, za_290, za_291, za_292, za_293, za_294, za_295, za_296, za_297, za_298, za_299, za_300, za_301, za_302, za_303, za_304, za_305, za_306, za_307, za_308, za_309, za_310, za_311, za_312, s, s2]
  refine zwp_ite (fun q => ?_) (fun q => ?_)
  · rw [if_neg (fun p => q p.1)]
    exact zwp_ret ⟨rfl, cK.rf hC⟩
  · have q := Classical.not_not.mp q
    refine zwp_ite (fun q2 => ?_) (fun q2 => ?_)
    · rw [if_neg (fun p => q2 p.2.1)]
      exact zwp_ret ⟨rfl, cK.rf hC⟩
    · have q2 := Classical.not_not.mp q2
      refine zwp_ite (fun q3 => ?_) (fun q3 => ?_)
      · rw [if_pos (⟨q, q2, q3⟩ : inO W a ∧ inO W b ∧ a ≠ b)]
        refine zwp_IE (sp_98 hW hC q q2) ?_
        rintro τ rfl
        simp only [mm_z, mm_b]
        refine zwp_ite (fun q4 => ?_) (fun q4 => ?_)
        · rw [if_neg q4]
          exact zwp_ret ⟨rfl, cK.rf hC⟩
        · rw [if_pos (Classical.not_not.mp q4)]
          exact zwp_ret ⟨rfl, cK.rf hC⟩
      · rw [if_neg (fun p => q3 p.2.2)]
        exact zwp_ret ⟨rfl, cK.rf hC⟩
theorem rq_meets {σ : zM} {W : Int → Int} {a b : Int} (hB : rB0 σ W) (a0 : -2147483648 ≤ a) (a1 : a < 2147483648) (b0 : -2147483648 ≤ b) (b1 : b < 2147483648) : zwp (zcall 256 [.ref 287, .int (Int32.ofInt a), .int (Int32.ofInt b)] σ) (fun v τ => v = some (.int (Int32.ofInt (Eme W a b))) ∧ rK σ τ) := by
  have e5 : zN σ 288 5 = W 5 := wv_k hB.1 5
  have h5 := hB.2.1.2.2.1
  have s := sp_170 (n := a) (σ := σ) (by omega) (by omega) (by omega)
  have s2 := sp_170 (n := b) (σ := σ) (by omega) (by omega) (by omega)
  rw [e5] at s s2
  unfold Eme
  refine zwp_of (fun r h => zcc_256 (ze_256_0 _ _ _ r h)) ?_
  simp (disch := first | assumption | exact isR33 | exact isT104 | exact isF99 | exact isF101 | exact isR3 | omega | (refine isTk ?_; omega) | (refine isOk isR33 ?_; omega) | (refine isOk ?_ ?_; assumption; omega)) only [mm_r, mm_rl, mm_add, mm_sub, mm_mul, mm_addJ, mm_mulJ, mm_lt, mm_le, mm_eq, mm_z, mm_cl, mm_w, mm_wl, mm_ite, mm_i2l, mm_l2i, mm_ltJ, mm_leJ, mm_eqJ, mm_clt, mm_cle, mm_cgt, mm_cge, mm_ceq, mm_b, mm_nb, mm_nb0, mm_nb1, mm_vb0, mm_vb1, mm_vbc, mm_vy0, mm_vy1, mm_at, mm_ne, mm_nj, mm_Lw, mm_Nw, mm_atJ, mm_neJ, mm_njJ, zbI_s, zbV_s, zbJ_s, cond_t, Bool.true_and, Bool.and_true, if_true, if_false, not_true, not_false_iff, Classical.not_not, zel_r, zel_42, zel_12, zel_71, zel_80, zel_89, zel_110, zel_188, zel_103, zel_195, zr_o, zr_1, zr_2, zr_3, zr_4, zr_5, zr_6, zr_7, zr_8, zr_9, zq_o, zq_v, zt_o, zt_1, zt_2, zt_3, zt_4, zt_5, zf_o, zf_1, za_w1, za_w2, za_w3, za_cm, za_sl, Int.toNat_natCast, Int.toNat_natCast_add_one, mm_t0, mm_t1, mm_t2, mm_t3, mm_t4, mm_t5, mm_t6, mm_t7, mm_t8, mm_t9, mm_t10, mm_t11, mm_t12, mm_t13, za_1, za_64, za_65, za_66, za_67, za_68, za_71, za_80, za_89, za_98, za_103, za_110, za_121, za_122, za_123, za_124, za_125, za_126, za_188, za_193, za_194, za_195, za_286, za_288, za_289, za_290, za_291, za_292, za_293, za_294, za_295, za_296, za_297, za_298, za_299, za_300, za_301, za_302, za_303, za_304, za_305, za_306, za_307, za_308, za_309, za_310, za_311, za_312, s, s2]
  refine zwp_ite (fun q => ?_) (fun q => ?_)
  · rw [if_neg (fun p => q p.1)]
    exact zwp_ret ⟨rfl, rK.rf⟩
  · have q := Classical.not_not.mp q
    refine zwp_ite (fun q2 => ?_) (fun q2 => ?_)
    · rw [if_neg (fun p => q2 p.2.1)]
      exact zwp_ret ⟨rfl, rK.rf⟩
    · have q2 := Classical.not_not.mp q2
      refine zwp_ite (fun q3 => ?_) (fun q3 => ?_)
      · rw [if_pos (⟨q, q2, q3⟩ : inO W a ∧ inO W b ∧ a ≠ b)]
        refine zwp_V _ (sp_210c hB) ?_
        rintro τ ⟨hk, hg⟩
        refine zwp_IE (sp_254 hB.2.1 hg q q2) ?_
        rintro τ rfl
        simp only [mm_z, mm_b]
        refine zwp_ite (fun q4 => ?_) (fun q4 => ?_)
        · rw [if_neg q4]
          exact zwp_ret ⟨rfl, hk⟩
        · rw [if_pos (Classical.not_not.mp q4)]
          exact zwp_ret ⟨rfl, hk⟩
      · rw [if_neg (fun p => q3 p.2.2)]
        exact zwp_ret ⟨rfl, rK.rf⟩
/-! how many cross -/
def sm (f : Int → Int) : Nat → Int
  | 0 => 0
  | n + 1 => sm f n + f n
theorem sm_congr {f g : Int → Int} : ∀ n : Nat, (∀ i : Int, 0 ≤ i → i < n → f i = g i) → sm f n = sm g n
  | 0, _ => rfl
  | n + 1, h => by rw [sm, sm, sm_congr n (fun i i0 i1 => h i i0 (by omega)), h n (by omega) (by omega)]
theorem sm_row (X : Int → Int → Bool) (n : Nat) : ∀ m : Nat, sm (fun i => zcnt (fun j => decide (i < j) && X i j) (n + 1)) m = sm (fun i => zcnt (fun j => decide (i < j) && X i j) n) m + zcnt (fun i => decide (i < (n : Int)) && X i n) m
  | 0 => rfl
  | m + 1 => by
    have e0 : ∀ f : Int → Int, sm f (m + 1) = sm f m + f m := fun _ => rfl
    have e1 : zcnt (fun j => decide ((m : Int) < j) && X m j) (n + 1) = zcnt (fun j => decide ((m : Int) < j) && X m j) n + (if (decide ((m : Int) < (n : Int)) && X m n) = true then 1 else 0) := rfl
    have e2 : zcnt (fun i => decide (i < (n : Int)) && X i n) (m + 1) = zcnt (fun i => decide (i < (n : Int)) && X i n) m + (if (decide ((m : Int) < (n : Int)) && X m n) = true then 1 else 0) := rfl
    rw [e0, e0, sm_row X n m, e2]
    rw [e1]
    omega
theorem zcnt_0 {P : Int → Bool} : ∀ n : Nat, (∀ j : Int, 0 ≤ j → j < n → P j = false) → zcnt P n = 0
  | 0, _ => rfl
  | n + 1, h => by
    rw [zcnt, zcnt_0 n (fun j j0 j1 => h j j0 (by omega)), h n (by omega) (by omega)]
    rfl
/-- pairs counted by rows or by columns -/
theorem sm_tri {X : Int → Int → Bool} (hX : ∀ i j, X i j = X j i) : ∀ n : Nat, sm (fun i => zcnt (fun j => decide (i < j) && X i j) n) n = sm (fun i => zcnt (fun j => X i j) i.toNat) n
  | 0 => rfl
  | n + 1 => by
    rw [sm, sm, sm_row, sm_tri hX n, zcnt_0 (n + 1) (fun j j0 j1 => ?_), Int.toNat_natCast, zcnt_congr (P' := fun j => X n j) n (fun j j0 j1 => ?_)]
    · omega
    · rw [decide_eq_true (show j < (n : Int) from j1), Bool.true_and, hX]
    · rw [decide_eq_false (show ¬ (n : Int) < j by omega), Bool.false_and]
def Ecr (W : Int → Int) : Int := if 0 < W 0 then sm (fun i => zcnt (fun j => crB W i j) i.toNat) (W 5).toNat else -2
theorem lp_135_32 {σ : zM} {W : Int → Int} (hW : WOK W) (hC : ctC σ W) {i : Nat} {acc : Int} {Q : Option Value → zM → Prop} (hi : (i : Int) < W 5)
    (K : zwp (zev 135 17 [some (.ref 0), some (.int (Int32.ofInt (acc + zcnt (fun j => decide ((i : Int) < j) && crB W i j) (W 5).toNat))), some (.int (Int32.ofInt ((i : Int) + 1))), none] [] σ) Q) : ∀ (k j : Nat), (j : Int) + k = W 5 → i < j → zwp (zev 135 32 [some (.ref 0), some (.int (Int32.ofInt (acc + zcnt (fun j => decide ((i : Int) < j) && crB W i j) j))), some (.int (Int32.ofInt i)), some (.int (Int32.ofInt j))] [] σ) Q
  | 0, j, e, hj => by
    have h5 := hW.2.2.1
    have e7 := hC.1.1.2.2.2.2.2.2.2
    obtain rfl : j = (W 5).toNat := by omega
    refine zwp_of (fun r h => ze_135_32 _ _ _ _ r h) ?_
    refine zwp_t (by try simp (disch := first | assumption | exact isR33 | exact isT104 | exact isF99 | exact isF101 | exact isR3 | omega | (refine isTk ?_; omega) | (refine isOk isR33 ?_; omega) | (refine isOk ?_ ?_; assumption; omega)) only [mm_r, mm_rl, mm_add, mm_sub, mm_mul, mm_addJ, mm_mulJ, mm_lt, mm_le, mm_eq, mm_z, mm_cl, mm_w, mm_wl, mm_ite, mm_i2l, mm_l2i, mm_ltJ, mm_leJ, mm_eqJ, mm_clt, mm_cle, mm_cgt, mm_cge, mm_ceq, mm_b, mm_nb, mm_nb0, mm_nb1, mm_vb0, mm_vb1, mm_vbc, mm_vy0, mm_vy1, mm_at, mm_ne, mm_nj, mm_Lw, mm_Nw, mm_atJ, mm_neJ, mm_njJ, zbI_s, zbV_s, zbJ_s, cond_t, Bool.true_and, Bool.and_true, if_true, if_false, not_true, not_false_iff, Classical.not_not, zel_r, zel_42, zel_12, zel_71, zel_80, zel_89, zel_110, zel_188, zel_103, zel_195, zr_o, zr_1, zr_2, zr_3, zr_4, zr_5, zr_6, zr_7, zr_8, zr_9, zq_o, zq_v, zt_o, zt_1, zt_2, zt_3, zt_4, zt_5, zf_o, zf_1, za_w1, za_w2, za_w3, za_cm, za_sl, Int.toNat_natCast, Int.toNat_natCast_add_one, mm_t0, mm_t1, mm_t2, mm_t3, mm_t4, mm_t5, mm_t6, mm_t7, mm_t8, mm_t9, mm_t10, mm_t11, mm_t12, mm_t13, za_1, za_64, za_65, za_66, za_67, za_68, za_71, za_80, za_89, za_98, za_103, za_110, za_121, za_122, za_123, za_124, za_125, za_126, za_188, za_193, za_194, za_195, za_286, za_288, za_289, za_290, za_291, za_292, za_293, za_294, za_295, za_296, za_297, za_298, za_299, za_300, za_301, za_302, za_303, za_304, za_305, za_306, za_307, za_308, za_309, za_310, za_311, za_312, e7]
                     first | done | omega) ?_
    rw [mm_add]
    exact K
  | k + 1, j, e, hj => by
    have h5 := hW.2.2.1
    have e7 := hC.1.1.2.2.2.2.2.2.2
    have ez : zcnt (fun j => decide ((i : Int) < j) && crB W i j) (j + 1) = zcnt (fun j => decide ((i : Int) < j) && crB W i j) j + (if crB W i j = true then 1 else 0) := by
      show _ + (if (decide ((i : Int) < (j : Int)) && crB W i j) = true then 1 else 0) = _
      rw [decide_eq_true (show (i : Int) < (j : Int) by omega), Bool.true_and]
    have ih := lp_135_32 hW hC hi K k (j + 1) (by omega) (by omega)
    rw [ez] at ih
    refine zwp_of (fun r h => ze_135_32 _ _ _ _ r h) ?_
    refine zwp_f (by try simp (disch := first | assumption | exact isR33 | exact isT104 | exact isF99 | exact isF101 | exact isR3 | omega | (refine isTk ?_; omega) | (refine isOk isR33 ?_; omega) | (refine isOk ?_ ?_; assumption; omega)) only [mm_r, mm_rl, mm_add, mm_sub, mm_mul, mm_addJ, mm_mulJ, mm_lt, mm_le, mm_eq, mm_z, mm_cl, mm_w, mm_wl, mm_ite, mm_i2l, mm_l2i, mm_ltJ, mm_leJ, mm_eqJ, mm_clt, mm_cle, mm_cgt, mm_cge, mm_ceq, mm_b, mm_nb, mm_nb0, mm_nb1, mm_vb0, mm_vb1, mm_vbc, mm_vy0, mm_vy1, mm_at, mm_ne, mm_nj, mm_Lw, mm_Nw, mm_atJ, mm_neJ, mm_njJ, zbI_s, zbV_s, zbJ_s, cond_t, Bool.true_and, Bool.and_true, if_true, if_false, not_true, not_false_iff, Classical.not_not, zel_r, zel_42, zel_12, zel_71, zel_80, zel_89, zel_110, zel_188, zel_103, zel_195, zr_o, zr_1, zr_2, zr_3, zr_4, zr_5, zr_6, zr_7, zr_8, zr_9, zq_o, zq_v, zt_o, zt_1, zt_2, zt_3, zt_4, zt_5, zf_o, zf_1, za_w1, za_w2, za_w3, za_cm, za_sl, Int.toNat_natCast, Int.toNat_natCast_add_one, mm_t0, mm_t1, mm_t2, mm_t3, mm_t4, mm_t5, mm_t6, mm_t7, mm_t8, mm_t9, mm_t10, mm_t11, mm_t12, mm_t13, za_1, za_64, za_65, za_66, za_67, za_68, za_71, za_80, za_89, za_98, za_103, za_110, za_121, za_122, za_123, za_124, za_125, za_126, za_188, za_193, za_194, za_195, za_286, za_288, za_289, za_290, za_291, za_292, za_293, za_294, za_295, za_296, za_297, za_298, za_299, za_300, za_301, za_302, za_303, za_304, za_305, za_306, za_307, za_308, za_309, za_310, za_311, za_312, e7]
                     first | done | omega) ?_
    refine zwp_cd (za_103 (by omega) (by omega)) (zwp_cd (za_103 (by omega) (by omega)) ?_)
    rw [mm_cl (n := (i : Int)) (by omega) (by omega), mm_cl (n := (j : Int)) (by omega) (by omega), zel_103, zel_103]
    refine zwp_cd (zt_o (isTk (by omega))) ?_
    refine zwp_IE (sp_98 (a := i) (b := j) hW hC ⟨by omega, hi⟩ ⟨by omega, by omega⟩) ?_
    rintro τ rfl
    rw [mm_add, mm_add]
    simp only [mm_z, mm_b]
    refine zwp_ite (fun q => ?_) (fun q => ?_)
    · rw [if_neg q, Int.add_zero] at ih
      exact ih
    · rw [if_pos (Classical.not_not.mp q), ← Int.add_assoc] at ih
      exact ih
theorem lp_135_17 {σ : zM} {W : Int → Int} (hW : WOK W) (hC : ctC σ W) {Q : Option Value → zM → Prop}
    (K : Q (some (.int (Int32.ofInt (sm (fun i => zcnt (fun j => decide (i < j) && crB W i j) (W 5).toNat) (W 5).toNat)))) σ) : ∀ (k i : Nat), (i : Int) + k = W 5 → zwp (zev 135 17 [some (.ref 0), some (.int (Int32.ofInt (sm (fun i => zcnt (fun j => decide (i < j) && crB W i j) (W 5).toNat) i))), some (.int (Int32.ofInt i)), none] [] σ) Q
  | 0, i, e => by
    have h5 := hW.2.2.1
    have e7 := hC.1.1.2.2.2.2.2.2.2
    obtain rfl : i = (W 5).toNat := by omega
    refine zwp_of (fun r h => ze_135_17 _ _ _ r h) ?_
    refine zwp_t (by try simp (disch := first | assumption | exact isR33 | exact isT104 | exact isF99 | exact isF101 | exact isR3 | omega | (refine isTk ?_; omega) | (refine isOk isR33 ?_; omega) | (refine isOk ?_ ?_; assumption; omega)) only [mm_r, mm_rl, mm_add, mm_sub, mm_mul, mm_addJ, mm_mulJ, mm_lt, mm_le, mm_eq, mm_z, mm_cl, mm_w, mm_wl, mm_ite, mm_i2l, mm_l2i, mm_ltJ, mm_leJ, mm_eqJ, mm_clt, mm_cle, mm_cgt, mm_cge, mm_ceq, mm_b, mm_nb, mm_nb0, mm_nb1, mm_vb0, mm_vb1, mm_vbc, mm_vy0, mm_vy1, mm_at, mm_ne, mm_nj, mm_Lw, mm_Nw, mm_atJ, mm_neJ, mm_njJ, zbI_s, zbV_s, zbJ_s, cond_t, Bool.true_and, Bool.and_true, if_true, if_false, not_true, not_false_iff, Classical.not_not, zel_r, zel_42, zel_12, zel_71, zel_80, zel_89, zel_110, zel_188, zel_103, zel_195, zr_o, zr_1, zr_2, zr_3, zr_4, zr_5, zr_6, zr_7, zr_8, zr_9, zq_o, zq_v, zt_o, zt_1, zt_2, zt_3, zt_4, zt_5, zf_o, zf_1, za_w1, za_w2, za_w3, za_cm, za_sl, Int.toNat_natCast, Int.toNat_natCast_add_one, mm_t0, mm_t1, mm_t2, mm_t3, mm_t4, mm_t5, mm_t6, mm_t7, mm_t8, mm_t9, mm_t10, mm_t11, mm_t12, mm_t13, za_1, za_64, za_65, za_66, za_67, za_68, za_71, za_80, za_89, za_98, za_103, za_110, za_121, za_122, za_123, za_124, za_125, za_126, za_188, za_193, za_194, za_195, za_286, za_288, za_289, za_290, za_291, za_292, za_293, za_294, za_295, za_296, za_297, za_298, za_299, za_300, za_301, za_302, za_303, za_304, za_305, za_306, za_307, za_308, za_309, za_310, za_311, za_312, e7]
                     first | done | omega) ?_
    exact zwp_ret K
  | k + 1, i, e => by
    have h5 := hW.2.2.1
    have e7 := hC.1.1.2.2.2.2.2.2.2
    have ih := lp_135_17 hW hC K k (i + 1) (by omega)
    have e0 : sm (fun i => zcnt (fun j => decide (i < j) && crB W i j) (W 5).toNat) (i + 1) = sm (fun i => zcnt (fun j => decide (i < j) && crB W i j) (W 5).toNat) i + zcnt (fun j => decide ((i : Int) < j) && crB W i j) (W 5).toNat := rfl
    rw [e0] at ih
    have l := lp_135_32 (acc := sm (fun i => zcnt (fun j => decide (i < j) && crB W i j) (W 5).toNat) i) hW hC (i := i) (by omega) ih (W 5 - (i + 1)).toNat (i + 1) (by omega) (by omega)
    rw [zcnt_0 (i + 1) (fun j j0 j1 => by rw [decide_eq_false (by omega), Bool.false_and]), Int.add_zero] at l
    refine zwp_of (fun r h => ze_135_17 _ _ _ r h) ?_
    refine zwp_f (by try simp (disch := first | assumption | exact isR33 | exact isT104 | exact isF99 | exact isF101 | exact isR3 | omega | (refine isTk ?_; omega) | (refine isOk isR33 ?_; omega) | (refine isOk ?_ ?_; assumption; omega)) only [mm_r, mm_rl, mm_add, mm_sub, mm_mul, mm_addJ, mm_mulJ, mm_lt, mm_le, mm_eq, mm_z, mm_cl, mm_w, mm_wl, mm_ite, mm_i2l, mm_l2i, mm_ltJ, mm_leJ, mm_eqJ, mm_clt, mm_cle, mm_cgt, mm_cge, mm_ceq, mm_b, mm_nb, mm_nb0, mm_nb1, mm_vb0, mm_vb1, mm_vbc, mm_vy0, mm_vy1, mm_at, mm_ne, mm_nj, mm_Lw, mm_Nw, mm_atJ, mm_neJ, mm_njJ, zbI_s, zbV_s, zbJ_s, cond_t, Bool.true_and, Bool.and_true, if_true, if_false, not_true, not_false_iff, Classical.not_not, zel_r, zel_42, zel_12, zel_71, zel_80, zel_89, zel_110, zel_188, zel_103, zel_195, zr_o, zr_1, zr_2, zr_3, zr_4, zr_5, zr_6, zr_7, zr_8, zr_9, zq_o, zq_v, zt_o, zt_1, zt_2, zt_3, zt_4, zt_5, zf_o, zf_1, za_w1, za_w2, za_w3, za_cm, za_sl, Int.toNat_natCast, Int.toNat_natCast_add_one, mm_t0, mm_t1, mm_t2, mm_t3, mm_t4, mm_t5, mm_t6, mm_t7, mm_t8, mm_t9, mm_t10, mm_t11, mm_t12, mm_t13, za_1, za_64, za_65, za_66, za_67, za_68, za_71, za_80, za_89, za_98, za_103, za_110, za_121, za_122, za_123, za_124, za_125, za_126, za_188, za_193, za_194, za_195, za_286, za_288, za_289, za_290, za_291, za_292, za_293, za_294, za_295, za_296, za_297, za_298, za_299, za_300, za_301, za_302, za_303, za_304, za_305, za_306, za_307, za_308, za_309, za_310, za_311, za_312, e7]
                     first | done | omega) ?_
    rw [mm_add]
    exact l
theorem cq_cross {σ : zM} {W : Int → Int} (hW : WOK W) (hC : ctC σ W) : zwp (zcall 135 [.ref 0] σ) (fun v τ => v = some (.int (Int32.ofInt (Ecr W))) ∧ cK σ τ W) := by
  have e1 := hC.1.1.2.1
  have h5 := hW.2.2.1
  unfold Ecr
  refine zwp_of (fun r h => zcc_135 (ze_135_0 _ r h)) ?_
  simp (disch := first | assumption | exact isR33 | exact isT104 | exact isF99 | exact isF101 | exact isR3 | omega | (refine isTk ?_; omega) | (refine isOk isR33 ?_; omega) | (refine isOk ?_ ?_; assumption; omega)) only [mm_r, mm_rl, mm_add, mm_sub, mm_mul, mm_addJ, mm_mulJ, mm_lt, mm_le, mm_eq, mm_z, mm_cl, mm_w, mm_wl, mm_ite, mm_i2l, mm_l2i, mm_ltJ, mm_leJ, mm_eqJ, mm_clt, mm_cle, mm_cgt, mm_cge, mm_ceq, mm_b, mm_nb, mm_nb0, mm_nb1, mm_vb0, mm_vb1, mm_vbc, mm_vy0, mm_vy1, mm_at, mm_ne, mm_nj, mm_Lw, mm_Nw, mm_atJ, mm_neJ, mm_njJ, zbI_s, zbV_s, zbJ_s, cond_t, Bool.true_and, Bool.and_true, if_true, if_false, not_true, not_false_iff, Classical.not_not, zel_r, zel_42, zel_12, zel_71, zel_80, zel_89, zel_110, zel_188, zel_103, zel_195, zr_o, zr_1, zr_2, zr_3, zr_4, zr_5, zr_6, zr_7, zr_8, zr_9, zq_o, zq_v, zt_o, zt_1, zt_2, zt_3, zt_4, zt_5, zf_o, zf_1, za_w1, za_w2, za_w3, za_cm, za_sl, Int.toNat_natCast, Int.toNat_natCast_add_one, mm_t0, mm_t1, mm_t2, mm_t3, mm_t4, mm_t5, mm_t6, mm_t7, mm_t8, mm_t9, mm_t10, mm_t11, mm_t12, mm_t13, za_1, za_64, za_65, za_66, za_67, za_68, za_71, za_80, za_89, za_98, za_103, za_110, za_121, za_122, za_123, za_124, za_125, za_126, za_188, za_193, za_194, za_195, za_286, za_288, za_289, za_290, za_291, za_292, za_293, za_294, za_295, za_296, za_297, za_298, za_299, za_300, za_301, za_302, za_303, za_304, za_305, za_306, za_307, za_308, za_309, za_310, za_311, za_312, sp_76, e1]
  refine zwp_ite (fun q => ?_) (fun q => ?_)
  · rw [if_pos q]
    exact lp_135_17 hW hC ⟨by rw [sm_tri (crB_sym W)], cK.rf hC⟩ (W 5).toNat 0 (by omega)
  · rw [if_neg q]
    exact zwp_ret ⟨rfl, cK.rf hC⟩
theorem lp_255_30 {σ : zM} {W : Int → Int} (hW : WOK W) (hg : gone σ W noD) {i : Nat} {acc : Int} {Q : Option Value → zM → Prop} (hi : (i : Int) < W 5)
    (K : zwp (zev 255 18 [some (.ref 287), some (.int (Int32.ofInt (acc + zcnt (fun j => crB W i j) i))), some (.int (Int32.ofInt ((i : Int) + 1))), none] [] σ) Q) : ∀ (k j : Nat), j + k = i → zwp (zev 255 30 [some (.ref 287), some (.int (Int32.ofInt (acc + zcnt (fun j => crB W i j) j))), some (.int (Int32.ofInt i)), some (.int (Int32.ofInt j))] [] σ) Q
  | 0, j, e => by
    have h5 := hW.2.2.1
    obtain rfl : j = i := by omega
    refine zwp_of (fun r h => ze_255_30 _ _ _ _ r h) ?_
    refine zwp_t (by try simp (disch := first | assumption | exact isR33 | exact isT104 | exact isF99 | exact isF101 | exact isR3 | omega | (refine isTk ?_; omega) | (refine isOk isR33 ?_; omega) | (refine isOk ?_ ?_; assumption; omega)) only [mm_r, mm_rl, mm_add, mm_sub, mm_mul, mm_addJ, mm_mulJ, mm_lt, mm_le, mm_eq, mm_z, mm_cl, mm_w, mm_wl, mm_ite, mm_i2l, mm_l2i, mm_ltJ, mm_leJ, mm_eqJ, mm_clt, mm_cle, mm_cgt, mm_cge, mm_ceq, mm_b, mm_nb, mm_nb0, mm_nb1, mm_vb0, mm_vb1, mm_vbc, mm_vy0, mm_vy1, mm_at, mm_ne, mm_nj, mm_Lw, mm_Nw, mm_atJ, mm_neJ, mm_njJ, zbI_s, zbV_s, zbJ_s, cond_t, Bool.true_and, Bool.and_true, if_true, if_false, not_true, not_false_iff, Classical.not_not, zel_r, zel_42, zel_12, zel_71, zel_80, zel_89, zel_110, zel_188, zel_103, zel_195, zr_o, zr_1, zr_2, zr_3, zr_4, zr_5, zr_6, zr_7, zr_8, zr_9, zq_o, zq_v, zt_o, zt_1, zt_2, zt_3, zt_4, zt_5, zf_o, zf_1, za_w1, za_w2, za_w3, za_cm, za_sl, Int.toNat_natCast, Int.toNat_natCast_add_one, mm_t0, mm_t1, mm_t2, mm_t3, mm_t4, mm_t5, mm_t6, mm_t7, mm_t8, mm_t9, mm_t10, mm_t11, mm_t12, mm_t13, za_1, za_64, za_65, za_66, za_67, za_68, za_71, za_80, za_89, za_98, za_103, za_110, za_121, za_122, za_123, za_124, za_125, za_126, za_188, za_193, za_194, za_195, za_286, za_288, za_289, za_290, za_291, za_292, za_293, za_294, za_295, za_296, za_297, za_298, za_299, za_300, za_301, za_302, za_303, za_304, za_305, za_306, za_307, za_308, za_309, za_310, za_311, za_312]
                     first | done | omega) ?_
    rw [mm_add]
    exact K
  | k + 1, j, e => by
    have h5 := hW.2.2.1
    have ez : zcnt (fun j => crB W i j) (j + 1) = zcnt (fun j => crB W i j) j + (if crB W i j = true then 1 else 0) := rfl
    have ih := lp_255_30 hW hg hi K k (j + 1) (by omega)
    rw [ez] at ih
    refine zwp_of (fun r h => ze_255_30 _ _ _ _ r h) ?_
    refine zwp_f (by try simp (disch := first | assumption | exact isR33 | exact isT104 | exact isF99 | exact isF101 | exact isR3 | omega | (refine isTk ?_; omega) | (refine isOk isR33 ?_; omega) | (refine isOk ?_ ?_; assumption; omega)) only [mm_r, mm_rl, mm_add, mm_sub, mm_mul, mm_addJ, mm_mulJ, mm_lt, mm_le, mm_eq, mm_z, mm_cl, mm_w, mm_wl, mm_ite, mm_i2l, mm_l2i, mm_ltJ, mm_leJ, mm_eqJ, mm_clt, mm_cle, mm_cgt, mm_cge, mm_ceq, mm_b, mm_nb, mm_nb0, mm_nb1, mm_vb0, mm_vb1, mm_vbc, mm_vy0, mm_vy1, mm_at, mm_ne, mm_nj, mm_Lw, mm_Nw, mm_atJ, mm_neJ, mm_njJ, zbI_s, zbV_s, zbJ_s, cond_t, Bool.true_and, Bool.and_true, if_true, if_false, not_true, not_false_iff, Classical.not_not, zel_r, zel_42, zel_12, zel_71, zel_80, zel_89, zel_110, zel_188, zel_103, zel_195, zr_o, zr_1, zr_2, zr_3, zr_4, zr_5, zr_6, zr_7, zr_8, zr_9, zq_o, zq_v, zt_o, zt_1, zt_2, zt_3, zt_4, zt_5, zf_o, zf_1, za_w1, za_w2, za_w3, za_cm, za_sl, Int.toNat_natCast, Int.toNat_natCast_add_one, mm_t0, mm_t1, mm_t2, mm_t3, mm_t4, mm_t5, mm_t6, mm_t7, mm_t8, mm_t9, mm_t10, mm_t11, mm_t12, mm_t13, za_1, za_64, za_65, za_66, za_67, za_68, za_71, za_80, za_89, za_98, za_103, za_110, za_121, za_122, za_123, za_124, za_125, za_126, za_188, za_193, za_194, za_195, za_286, za_288, za_289, za_290, za_291, za_292, za_293, za_294, za_295, za_296, za_297, za_298, za_299, za_300, za_301, za_302, za_303, za_304, za_305, za_306, za_307, za_308, za_309, za_310, za_311, za_312]
                     first | done | omega) ?_
    refine zwp_IE (sp_254 (a := i) (b := j) hW hg ⟨by omega, hi⟩ ⟨by omega, by omega⟩) ?_
    rintro τ rfl
    rw [mm_add, mm_add, mm_add, Int.add_zero]
    simp only [mm_z, mm_b]
    refine zwp_ite (fun q => ?_) (fun q => ?_)
    · rw [if_neg q, Int.add_zero] at ih
      exact ih
    · rw [if_pos (Classical.not_not.mp q), ← Int.add_assoc] at ih
      exact ih
theorem lp_255_18 {σ : zM} {W : Int → Int} (hW : WOK W) (hg : gone σ W noD) {Q : Option Value → zM → Prop}
    (K : Q (some (.int (Int32.ofInt (sm (fun i => zcnt (fun j => crB W i j) i.toNat) (W 5).toNat)))) σ) : ∀ (k i : Nat), (i : Int) + k = W 5 → zwp (zev 255 18 [some (.ref 287), some (.int (Int32.ofInt (sm (fun i => zcnt (fun j => crB W i j) i.toNat) i))), some (.int (Int32.ofInt i)), none] [] σ) Q
  | 0, i, e => by
    have h5 := hW.2.2.1
    have e5 : zN σ 288 5 = W 5 := wv_k hg.1.1 5
    obtain rfl : i = (W 5).toNat := by omega
    refine zwp_of (fun r h => ze_255_18 _ _ _ r h) ?_
    refine zwp_cd (by simp (disch := first | assumption | exact isR33 | exact isT104 | exact isF99 | exact isF101 | exact isR3 | omega | (refine isTk ?_; omega) | (refine isOk isR33 ?_; omega) | (refine isOk ?_ ?_; assumption; omega)) only [mm_r, mm_rl, mm_add, mm_sub, mm_mul, mm_addJ, mm_mulJ, mm_lt, mm_le, mm_eq, mm_z, mm_cl, mm_w, mm_wl, mm_ite, mm_i2l, mm_l2i, mm_ltJ, mm_leJ, mm_eqJ, mm_clt, mm_cle, mm_cgt, mm_cge, mm_ceq, mm_b, mm_nb, mm_nb0, mm_nb1, mm_vb0, mm_vb1, mm_vbc, mm_vy0, mm_vy1, mm_at, mm_ne, mm_nj, mm_Lw, mm_Nw, mm_atJ, mm_neJ, mm_njJ, zbI_s, zbV_s, zbJ_s, cond_t, Bool.true_and, Bool.and_true, if_true, if_false, not_true, not_false_iff, Classical.not_not, zel_r, zel_42, zel_12, zel_71, zel_80, zel_89, zel_110, zel_188, zel_103, zel_195, zr_o, zr_1, zr_2, zr_3, zr_4, zr_5, zr_6, zr_7, zr_8, zr_9, zq_o, zq_v, zt_o, zt_1, zt_2, zt_3, zt_4, zt_5, zf_o, zf_1, za_w1, za_w2, za_w3, za_cm, za_sl, Int.toNat_natCast, Int.toNat_natCast_add_one, mm_t0, mm_t1, mm_t2, mm_t3, mm_t4, mm_t5, mm_t6, mm_t7, mm_t8, mm_t9, mm_t10, mm_t11, mm_t12, mm_t13, za_1, za_64, za_65, za_66, za_67, za_68, za_71, za_80, za_89, za_98, za_103, za_110, za_121, za_122, za_123, za_124, za_125, za_126, za_188, za_193, za_194, za_195, za_286, za_288, za_289, za_290, za_291, za_292, za_293, za_294, za_295, za_296, za_297, za_298, za_299, za_300, za_301, za_302, za_303, za_304, za_305, za_306, za_307, za_308, za_309, za_310, za_311, za_312]) ?_
    refine zwp_t (by try simp (disch := first | assumption | exact isR33 | exact isT104 | exact isF99 | exact isF101 | exact isR3 | omega | (refine isTk ?_; omega) | (refine isOk isR33 ?_; omega) | (refine isOk ?_ ?_; assumption; omega)) only [mm_r, mm_rl, mm_add, mm_sub, mm_mul, mm_addJ, mm_mulJ, mm_lt, mm_le, mm_eq, mm_z, mm_cl, mm_w, mm_wl, mm_ite, mm_i2l, mm_l2i, mm_ltJ, mm_leJ, mm_eqJ, mm_clt, mm_cle, mm_cgt, mm_cge, mm_ceq, mm_b, mm_nb, mm_nb0, mm_nb1, mm_vb0, mm_vb1, mm_vbc, mm_vy0, mm_vy1, mm_at, mm_ne, mm_nj, mm_Lw, mm_Nw, mm_atJ, mm_neJ, mm_njJ, zbI_s, zbV_s, zbJ_s, cond_t, Bool.true_and, Bool.and_true, if_true, if_false, not_true, not_false_iff, Classical.not_not, zel_r, zel_42, zel_12, zel_71, zel_80, zel_89, zel_110, zel_188, zel_103, zel_195, zr_o, zr_1, zr_2, zr_3, zr_4, zr_5, zr_6, zr_7, zr_8, zr_9, zq_o, zq_v, zt_o, zt_1, zt_2, zt_3, zt_4, zt_5, zf_o, zf_1, za_w1, za_w2, za_w3, za_cm, za_sl, Int.toNat_natCast, Int.toNat_natCast_add_one, mm_t0, mm_t1, mm_t2, mm_t3, mm_t4, mm_t5, mm_t6, mm_t7, mm_t8, mm_t9, mm_t10, mm_t11, mm_t12, mm_t13, za_1, za_64, za_65, za_66, za_67, za_68, za_71, za_80, za_89, za_98, za_103, za_110, za_121, za_122, za_123, za_124, za_125, za_126, za_188, za_193, za_194, za_195, za_286, za_288, za_289, za_290, za_291, za_292, za_293, za_294, za_295, za_296, za_297, za_298, za_299, za_300, za_301, za_302, za_303, za_304, za_305, za_306, za_307, za_308, za_309, za_310, za_311, za_312, e5]
                     first | done | omega) ?_
    exact zwp_ret K
  | k + 1, i, e => by
    have h5 := hW.2.2.1
    have e5 : zN σ 288 5 = W 5 := wv_k hg.1.1 5
    have ih := lp_255_18 hW hg K k (i + 1) (by omega)
    have e0 : sm (fun i => zcnt (fun j => crB W i j) i.toNat) (i + 1) = sm (fun i => zcnt (fun j => crB W i j) i.toNat) i + zcnt (fun j => crB W i j) i := rfl
    rw [e0] at ih
    have l := lp_255_30 (acc := sm (fun i => zcnt (fun j => crB W i j) i.toNat) i) hW hg (i := i) (by omega) ih i 0 (by omega)
    rw [show zcnt (fun j => crB W i j) 0 = 0 from rfl, Int.add_zero] at l
    refine zwp_of (fun r h => ze_255_18 _ _ _ r h) ?_
    refine zwp_cd (by simp (disch := first | assumption | exact isR33 | exact isT104 | exact isF99 | exact isF101 | exact isR3 | omega | (refine isTk ?_; omega) | (refine isOk isR33 ?_; omega) | (refine isOk ?_ ?_; assumption; omega)) only [mm_r, mm_rl, mm_add, mm_sub, mm_mul, mm_addJ, mm_mulJ, mm_lt, mm_le, mm_eq, mm_z, mm_cl, mm_w, mm_wl, mm_ite, mm_i2l, mm_l2i, mm_ltJ, mm_leJ, mm_eqJ, mm_clt, mm_cle, mm_cgt, mm_cge, mm_ceq, mm_b, mm_nb, mm_nb0, mm_nb1, mm_vb0, mm_vb1, mm_vbc, mm_vy0, mm_vy1, mm_at, mm_ne, mm_nj, mm_Lw, mm_Nw, mm_atJ, mm_neJ, mm_njJ, zbI_s, zbV_s, zbJ_s, cond_t, Bool.true_and, Bool.and_true, if_true, if_false, not_true, not_false_iff, Classical.not_not, zel_r, zel_42, zel_12, zel_71, zel_80, zel_89, zel_110, zel_188, zel_103, zel_195, zr_o, zr_1, zr_2, zr_3, zr_4, zr_5, zr_6, zr_7, zr_8, zr_9, zq_o, zq_v, zt_o, zt_1, zt_2, zt_3, zt_4, zt_5, zf_o, zf_1, za_w1, za_w2, za_w3, za_cm, za_sl, Int.toNat_natCast, Int.toNat_natCast_add_one, mm_t0, mm_t1, mm_t2, mm_t3, mm_t4, mm_t5, mm_t6, mm_t7, mm_t8, mm_t9, mm_t10, mm_t11, mm_t12, mm_t13, za_1, za_64, za_65, za_66, za_67, za_68, za_71, za_80, za_89, za_98, za_103, za_110, za_121, za_122, za_123, za_124, za_125, za_126, za_188, za_193, za_194, za_195, za_286, za_288, za_289, za_290, za_291, za_292, za_293, za_294, za_295, za_296, za_297, za_298, za_299, za_300, za_301, za_302, za_303, za_304, za_305, za_306, za_307, za_308, za_309, za_310, za_311, za_312]) ?_
    refine zwp_f (by try simp (disch := first | assumption | exact isR33 | exact isT104 | exact isF99 | exact isF101 | exact isR3 | omega | (refine isTk ?_; omega) | (refine isOk isR33 ?_; omega) | (refine isOk ?_ ?_; assumption; omega)) only [mm_r, mm_rl, mm_add, mm_sub, mm_mul, mm_addJ, mm_mulJ, mm_lt, mm_le, mm_eq, mm_z, mm_cl, mm_w, mm_wl, mm_ite, mm_i2l, mm_l2i, mm_ltJ, mm_leJ, mm_eqJ, mm_clt, mm_cle, mm_cgt, mm_cge, mm_ceq, mm_b, mm_nb, mm_nb0, mm_nb1, mm_vb0, mm_vb1, mm_vbc, mm_vy0, mm_vy1, mm_at, mm_ne, mm_nj, mm_Lw, mm_Nw, mm_atJ, mm_neJ, mm_njJ, zbI_s, zbV_s, zbJ_s, cond_t, Bool.true_and, Bool.and_true, if_true, if_false, not_true, not_false_iff, Classical.not_not, zel_r, zel_42, zel_12, zel_71, zel_80, zel_89, zel_110, zel_188, zel_103, zel_195, zr_o, zr_1, zr_2, zr_3, zr_4, zr_5, zr_6, zr_7, zr_8, zr_9, zq_o, zq_v, zt_o, zt_1, zt_2, zt_3, zt_4, zt_5, zf_o, zf_1, za_w1, za_w2, za_w3, za_cm, za_sl, Int.toNat_natCast, Int.toNat_natCast_add_one, mm_t0, mm_t1, mm_t2, mm_t3, mm_t4, mm_t5, mm_t6, mm_t7, mm_t8, mm_t9, mm_t10, mm_t11, mm_t12, mm_t13, za_1, za_64, za_65, za_66, za_67, za_68, za_71, za_80, za_89, za_98, za_103, za_110, za_121, za_122, za_123, za_124, za_125, za_126, za_188, za_193, za_194, za_195, za_286, za_288, za_289, za_290, za_291, za_292, za_293, za_294, za_295, za_296, za_297, za_298, za_299, za_300, za_301, za_302, za_303, za_304, za_305, za_306, za_307, za_308, za_309, za_310, za_311, za_312, e5]
                     first | done | omega) ?_
    exact l
theorem rq_cross {σ : zM} {W : Int → Int} (hB : rB0 σ W) : zwp (zcall 255 [.ref 287] σ) (fun v τ => v = some (.int (Int32.ofInt (Ecr W))) ∧ rK σ τ) := by
  have e0 : zN σ 288 0 = W 0 := wv_k hB.1 0
  have h5 := hB.2.1.2.2.1
  unfold Ecr
  refine zwp_of (fun r h => zcc_255 (ze_255_0 _ r h)) ?_
  simp (disch := first | assumption | exact isR33 | exact isT104 | exact isF99 | exact isF101 | exact isR3 | omega | (refine isTk ?_; omega) | (refine isOk isR33 ?_; omega) | (refine isOk ?_ ?_; assumption; omega)) only [mm_r, mm_rl, mm_add, mm_sub, mm_mul, mm_addJ, mm_mulJ, mm_lt, mm_le, mm_eq, mm_z, mm_cl, mm_w, mm_wl, mm_ite, mm_i2l, mm_l2i, mm_ltJ, mm_leJ, mm_eqJ, mm_clt, mm_cle, mm_cgt, mm_cge, mm_ceq, mm_b, mm_nb, mm_nb0, mm_nb1, mm_vb0, mm_vb1, mm_vbc, mm_vy0, mm_vy1, mm_at, mm_ne, mm_nj, mm_Lw, mm_Nw, mm_atJ, mm_neJ, mm_njJ, zbI_s, zbV_s, zbJ_s, cond_t, Bool.true_and, Bool.and_true, if_true, if_false, not_true, not_false_iff, Classical.not_not, zel_r, zel_42, zel_12, zel_71, zel_80, zel_89, zel_110, zel_188, zel_103, zel_195, zr_o, zr_1, zr_2, zr_3, zr_4, zr_5, zr_6, zr_7, zr_8, zr_9, zq_o, zq_v, zt_o, zt_1, zt_2, zt_3, zt_4, zt_5, zf_o, zf_1, za_w1, za_w2, za_w3, za_cm, za_sl, Int.toNat_natCast, Int.toNat_natCast_add_one, mm_t0, mm_t1, mm_t2, mm_t3, mm_t4, mm_t5, mm_t6, mm_t7, mm_t8, mm_t9, mm_t10, mm_t11, mm_t12, mm_t13, za_1, za_64, za_65, za_66, za_67, za_68, za_71, za_80, za_89, za_98, za_103, za_110, za_121, za_122, za_123, za_124, za_125, za_126, za_188, za_193, za_194, za_195, za_286, za_288, za_289, za_290, za_291, za_292, za_293, za_294, za_295, za_296, za_297, za_298, za_299, za_300, za_301, za_302, za_303, za_304, za_305, za_306, za_307, za_308, za_309, za_310, za_311, za_312, sp_166, e0]
  refine zwp_ite (fun q => ?_) (fun q => ?_)
  · rw [if_pos q]
    refine zwp_V _ (sp_210c hB) ?_
    rintro τ ⟨hk, hg⟩
    exact lp_255_18 hB.2.1 hg ⟨rfl, hk⟩ (W 5).toNat 0 (by omega)
  · rw [if_neg q]
    exact zwp_ret ⟨rfl, rK.rf⟩
