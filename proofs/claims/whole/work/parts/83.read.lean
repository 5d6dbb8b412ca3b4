/-! THE TEXT: the lines, in numbers; what the class takes -/
/-- what a reading comes to: the fault (0: none), its place, the token, the realm -/
abbrev rdZ : Type := Int × Int × tk × (Int → Int)
def er (f p : Int) : rdZ := (f, p, (0, 0, 0, 0), fun _ => 0)
def okR (s : tk) (W : Int → Int) : rdZ := (0, -1, s, W)
def nxt (T : Int → Int) (sz : Int) (s : tk) : tk := scn T sz s.2.2.1 0
def wrd (a : Nat) : List Int32 := zstr.getD (a - 1000000) []
def isW (T : Int → Int) (a : Nat) (s : tk) : Prop := s.1 = 1 ∧ s.2.2.1 - s.2.1 = (wrd a).length ∧ ∀ j : Nat, j < (wrd a).length → T (s.2.1 + j) = ((wrd a).getD j 0).toInt
noncomputable def wd (T : Int → Int) (sz : Int) (a : Nat) (s : tk) (K : tk → rdZ) : rdZ := @ite _ (isW T a s) (Classical.propDecidable _) (K (nxt T sz s)) (er 1 s.2.1)
def nm (T : Int → Int) (sz lo hi : Int) (s : tk) (K : Int → tk → rdZ) : rdZ := if s.1 = 2 then (if lo ≤ s.2.2.2 ∧ s.2.2.2 ≤ hi then K s.2.2.2 (nxt T sz s) else er 2 s.2.1) else er 1 s.2.1
theorem wd_y {T : Int → Int} {sz : Int} {a : Nat} {s : tk} {K : tk → rdZ} (h : isW T a s) : wd T sz a s K = K (nxt T sz s) := if_pos h
theorem wd_n {T : Int → Int} {sz : Int} {a : Nat} {s : tk} {K : tk → rdZ} (h : ¬ isW T a s) : wd T sz a s K = er 1 s.2.1 := if_neg h
def tkO (sz : Int) (s : tk) : Prop := (0 ≤ s.1 ∧ s.1 ≤ 4) ∧ 0 ≤ s.2.1 ∧ s.2.1 ≤ s.2.2.1 ∧ s.2.2.1 ≤ sz ∧ 0 ≤ s.2.2.2
theorem nxt_ok {T : Int → Int} {sz : Int} {s : tk} (h : tkO sz s) : tkO sz (nxt T sz s) ∧ s.2.2.1 ≤ (nxt T sz s).2.2.1 ∧ ((nxt T sz s).1 ≠ 0 → s.2.2.1 < (nxt T sz s).2.2.1) := by
  obtain ⟨h1, h2, h3, h4, h5⟩ := h
  have r := scn_rng (T := T) (sz := sz) (st := s.2.2.1) (v := 0) (by omega) h4 (by decide)
  exact ⟨⟨⟨r.1, r.2.1⟩, by have := r.2.2.1; unfold nxt; omega, r.2.2.2.1, r.2.2.2.2.1, r.2.2.2.2.2.1⟩, by have := r.2.2.1; have := r.2.2.2.1; unfold nxt; omega, r.2.2.2.2.2.2⟩
/-- the world with one number changed -/
def wU (W : Int → Int) (j v : Int) : Int → Int := fun i => if i.toNat = j.toNat then v else W i
theorem wU_at {W : Int → Int} {j v i : Int} (h : i.toNat = j.toNat) : wU W j v i = v := if_pos h
theorem wU_ne {W : Int → Int} {j v i : Int} (h : i.toNat ≠ j.toNat) : wU W j v i = W i := if_neg h
theorem wv_U {σ : zM} {a : Nat} {j v : Int} (v0 : -2147483648 ≤ v) (v1 : v < 2147483648) : wv (zw σ a j.toNat v) a = wU (wv σ a) j v := by
  funext i
  show zN (zw σ a j.toNat v) a i.toNat = if i.toNat = j.toNat then v else zN σ a i.toNat
  by_cases q : i.toNat = j.toNat
  · rw [if_pos q, mm_at rfl q v0 v1]
  · rw [if_neg q, mm_nj q]
/-! the class: a road between two towns -/
theorem lp_80 {p : Nat} {σ : zM} {W : Int → Int} {x y : Int} (hp : isRealm p) (hL : cL σ p W) (h2 : W 2 ≤ 12) (x0 : -2147483648 ≤ x) (x1 : x < 2147483648) (y0 : -2147483648 ≤ y) (y1 : y < 2147483648) : ∀ (k i : Nat), (i : Int) + k = W 2 → zev 80 2 [some (.ref p), some (.int (Int32.ofInt x)), some (.int (Int32.ofInt y)), some (.int (Int32.ofInt i))] [] σ = some (some (.int (Int32.ofInt (zfst (rdP W x y) k i))), σ)
  | 0, i, e => by
    have e4 := hL.1.2.2.2.2.1
    have zo := zr_o hp
    refine ze_80_2 _ _ _ _ _ _ ?_
    rw [zo, cond_t]
    simp (disch := first | assumption | exact isR33 | exact isT104 | exact isF99 | exact isF101 | exact isR3 | omega | (refine isTk ?_; omega) | (refine isOk isR33 ?_; omega) | (refine isOk ?_ ?_; assumption; omega)) only [mm_r, mm_rl, mm_add, mm_sub, mm_mul, mm_addJ, mm_mulJ, mm_lt, mm_le, mm_eq, mm_z, mm_cl, mm_w, mm_wl, mm_ite, mm_i2l, mm_l2i, mm_ltJ, mm_leJ, mm_eqJ, mm_clt, mm_cle, mm_cgt, mm_cge, mm_ceq, mm_b, mm_nb, mm_nb0, mm_nb1, mm_vb0, mm_vb1, mm_vbc, mm_vy0, mm_vy1, mm_at, mm_ne, mm_nj, mm_Lw, mm_Nw, mm_atJ, mm_neJ, mm_njJ, zbI_s, zbV_s, zbJ_s, cond_t, Bool.true_and, Bool.and_true, if_true, if_false, not_true, not_false_iff, Classical.not_not, zel_r, zel_42, zel_12, zel_71, zel_80, zel_89, zel_110, zel_188, zel_103, zel_195, zr_o, zr_1, zr_2, zr_3, zr_4, zr_5, zr_6, zr_7, zr_8, zr_9, zq_o, zq_v, zt_o, zt_1, zt_2, zt_3, zt_4, zt_5, zf_o, zf_1, za_w1, za_w2, za_w3, za_cm, za_sl, Int.toNat_natCast, Int.toNat_natCast_add_one, mm_t0, mm_t1, mm_t2, mm_t3, mm_t4, mm_t5, mm_t6, mm_t7, mm_t8, mm_t9, mm_t10, mm_t11, mm_t12, mm_t13, za_1, za_64, za_65, za_66, za_67, za_68, za_71, za_80, za_89, za_98, za_103, za_110, za_121, za_122, za_123, za_124, za_125, za_126, za_188, za_193, za_194, za_195, za_286, za_288, za_289, za_290, za_291, za_292, za_293, za_294, za_295, za_296, za_297, za_298, za_299, za_300, za_301, za_302, za_303, za_304, za_305, za_306, za_307, za_308, za_309, za_310, za_311, za_312, e4]
    rw [if_pos (by omega)]
    rfl
  | k + 1, i, e => by
    have e4 := hL.1.2.2.2.2.1
    have zo := zr_o hp
    obtain ⟨a1, a2, -⟩ := hL.2.1 i (by omega) (by omega)
    rw [Int.toNat_natCast] at a1 a2
    have b1 := mm_lo σ (p + 1) i
    have b2 := mm_hi σ (p + 1) i
    have b3 := mm_lo σ (p + 2) i
    have b4 := mm_hi σ (p + 2) i
    rw [a1] at b1 b2
    rw [a2] at b3 b4
    have ih := lp_80 hp hL h2 x0 x1 y0 y1 k (i + 1) (by omega)
    have ez : zfst (rdP W x y) (k + 1) i = if rdP W x y i = true then (i : Int) else zfst (rdP W x y) k ((i : Int) + 1) := rfl
    have eP : (rdP W x y i = true) ↔ (W (8 + 3 * i) = x ∧ W (8 + 3 * i + 1) = y ∨ W (8 + 3 * i) = y ∧ W (8 + 3 * i + 1) = x) := by
      unfold rdP
      rw [decide_eq_true_eq]
    rw [ez]
    simp only [eP]
    refine ze_80_2 _ _ _ _ _ _ ?_
    rw [zo, cond_t]
    simp (disch := first | assumption | exact isR33 | exact isT104 | exact isF99 | exact isF101 | exact isR3 | omega | (refine isTk ?_; omega) | (refine isOk isR33 ?_; omega) | (refine isOk ?_ ?_; assumption; omega)) only [mm_r, mm_rl, mm_add, mm_sub, mm_mul, mm_addJ, mm_mulJ, mm_lt, mm_le, mm_eq, mm_z, mm_cl, mm_w, mm_wl, mm_ite, mm_i2l, mm_l2i, mm_ltJ, mm_leJ, mm_eqJ, mm_clt, mm_cle, mm_cgt, mm_cge, mm_ceq, mm_b, mm_nb, mm_nb0, mm_nb1, mm_vb0, mm_vb1, mm_vbc, mm_vy0, mm_vy1, mm_at, mm_ne, mm_nj, mm_Lw, mm_Nw, mm_atJ, mm_neJ, mm_njJ, zbI_s, zbV_s, zbJ_s, cond_t, Bool.true_and, Bool.and_true, if_true, if_false, not_true, not_false_iff, Classical.not_not, zel_r, zel_42, zel_12, zel_71, zel_80, zel_89, zel_110, zel_188, zel_103, zel_195, zr_o, zr_1, zr_2, zr_3, zr_4, zr_5, zr_6, zr_7, zr_8, zr_9, zq_o, zq_v, zt_o, zt_1, zt_2, zt_3, zt_4, zt_5, zf_o, zf_1, za_w1, za_w2, za_w3, za_cm, za_sl, Int.toNat_natCast, Int.toNat_natCast_add_one, mm_t0, mm_t1, mm_t2, mm_t3, mm_t4, mm_t5, mm_t6, mm_t7, mm_t8, mm_t9, mm_t10, mm_t11, mm_t12, mm_t13, za_1, za_64, za_65, za_66, za_67, za_68, za_71, za_80, za_89, za_98, za_103, za_110, za_121, za_122, za_123, za_124, za_125, za_126, za_188, za_193, za_194, za_195, za_286, za_288, za_289, za_290, za_291, za_292, za_293, za_294, za_295, za_296, za_297, za_298, za_299, za_300, za_301, za_302, za_303, za_304, za_305, za_306, za_307, za_308, za_309, za_310, za_311, za_312, e4, zo, a1, a2]
    rw [if_neg (by omega)]
    by_cases q1 : W (8 + 3 * i) = x
    · rw [if_neg (fun p => p q1)]
      by_cases q2 : W (8 + 3 * i + 1) = y
      · rw [if_pos q2, if_pos (.inl ⟨q1, q2⟩)]
      · rw [if_neg q2]
        by_cases q3 : W (8 + 3 * i) = y
        · rw [if_neg (fun p => p q3)]
          by_cases q4 : W (8 + 3 * i + 1) = x
          · rw [if_neg (fun p => p q4), if_pos (.inr ⟨q3, q4⟩)]
          · rw [if_pos q4, if_neg (by omega)]
            exact ih
        · rw [if_pos q3, if_neg (by omega)]
          exact ih
    · rw [if_pos q1]
      by_cases q3 : W (8 + 3 * i) = y
      · rw [if_neg (fun p => p q3)]
        by_cases q4 : W (8 + 3 * i + 1) = x
        · rw [if_neg (fun p => p q4), if_pos (.inr ⟨q3, q4⟩)]
        · rw [if_pos q4, if_neg (by omega)]
          exact ih
      · rw [if_pos q3, if_neg (by omega)]
        exact ih
theorem sp_80 {p : Nat} {σ : zM} {W : Int → Int} {x y : Int} (hp : isRealm p) (hL : cL σ p W) (h20 : 0 ≤ W 2) (h2 : W 2 ≤ 12) (x0 : -2147483648 ≤ x) (x1 : x < 2147483648) (y0 : -2147483648 ≤ y) (y1 : y < 2147483648) : zcall 80 [.ref p, .int (Int32.ofInt x), .int (Int32.ofInt y)] σ = some (some (.int (Int32.ofInt (RD W x y))), σ) := by
  refine zcc_80 (ze_80_0 _ _ _ _ _ ?_)
  exact lp_80 hp hL h2 x0 x1 y0 y1 (W 2).toNat 0 (by omega)
/-! the class takes -/
/-- what the Reader may change -/
def rdF (σ τ : zM) : Prop := mf (fun b => b = 2 ∨ 3 ≤ b ∧ b < 33) σ τ ∧ zN τ 2 2 = zN σ 2 2
theorem rdF.rf {σ : zM} : rdF σ σ := ⟨mf.rf, rfl⟩
theorem rdF.tr {σ τ υ : zM} (h : rdF σ τ) (g : rdF τ υ) : rdF σ υ := ⟨h.1.tr g.1, g.2.trans h.2⟩
theorem scF.R {σ τ : zM} (h : scF σ τ) : rdF σ τ := ⟨h.1.mono (by omega), h.2 2 (by omega)⟩
/-- all well so far; r0: the token, W: the realm told -/
def gC (σ : zM) (T : Int → Int) (sz : Int) (s : tk) (W : Int → Int) : Prop := tpC σ 1 T sz ∧ zN σ 2 2 = sz ∧ (zN σ 2 8 = 0 ∧ zN σ 2 9 = -1) ∧ tkC σ s ∧ tkO sz s ∧ cL σ 3 W
/-- the token and the tape alone -/
def gT (σ : zM) (T : Int → Int) (sz : Int) (s : tk) : Prop := tpC σ 1 T sz ∧ zN σ 2 2 = sz ∧ tkC σ s ∧ tkO sz s
theorem gC.t {σ : zM} {T : Int → Int} {sz : Int} {s : tk} {W : Int → Int} (h : gC σ T sz s W) : gT σ T sz s := ⟨h.1, h.2.1, h.2.2.2.1, h.2.2.2.2.1⟩
/-- a fault -/
def bdC (σ : zM) (f p : Int) (W : Int → Int) : Prop := zN σ 2 8 = f ∧ f ≠ 0 ∧ zN σ 2 9 = p ∧ cL σ 3 W ∧ ∃ T sz s, gT σ T sz s
theorem bdC.n {σ : zM} {f p : Int} {W : Int → Int} (h : bdC σ f p W) : zN σ 2 8 ≠ 0 := by rw [h.1]; exact h.2.1
def PC (σ0 : zM) (r : rdZ) (τ : zM) : Prop := rdF σ0 τ ∧ (r.1 ≠ 0 → zN τ 2 8 = r.1 ∧ zN τ 2 9 = r.2.1) ∧ (r.1 = 0 → (zN τ 2 8 = 0 ∧ zN τ 2 9 = -1) ∧ tkC τ r.2.2.1 ∧ cL τ 3 r.2.2.2)
def CR (σ0 : zM) (o : Option zR) (r : rdZ) : Prop := zwp o (fun v τ => v = none ∧ PC σ0 r τ)
theorem CR_bad {σ0 τ : zM} {f p : Int} {W : Int → Int} (hf : rdF σ0 τ) (hb : bdC τ f p W) : CR σ0 (some (none, τ)) (er f p) := zwp_ret ⟨rfl, hf, fun _ => ⟨hb.1, hb.2.2.1⟩, fun h => absurd h hb.2.1⟩
theorem bd_z {σ : zM} (h : zN σ 2 8 ≠ 0) : ¬ (zI σ 2 8 = 0) := by
  rw [mm_r, mm_z, mm_eq (mm_lo _ _ _) (mm_hi _ _ _) (by decide) (by decide)]
  exact h
theorem bd_54 {σ : zM} (h : zN σ 2 8 ≠ 0) {x y : Int32} : zcall 54 [.ref 2, .int x, .int y] σ = some (none, σ) := by
  refine zcc_54 (ze_54_0 _ _ _ _ ?_)
  rw [if_pos (bd_z h)]
theorem bd_56 {σ : zM} (h : zN σ 2 8 ≠ 0) {a : Nat} : zcall 56 [.ref 2, .ref a] σ = some (none, σ) := by
  refine zcc_56 (ze_56_0 _ _ _ ?_)
  rw [if_neg (bd_z h)]
theorem bd_57 {σ : zM} (h : zN σ 2 8 ≠ 0) : zcall 57 [.ref 2] σ = some (none, σ) := by
  refine zcc_57 (ze_57_0 _ _ ?_)
  rw [if_neg (bd_z h)]
theorem bd_58 {σ : zM} (h : zN σ 2 8 ≠ 0) {x y : Int32} : zcall 58 [.ref 2, .int x, .int y] σ = some (some (.int (Int32.ofInt (-1))), σ) := by
  refine zcc_58 (ze_58_0 _ _ _ _ ?_)
  rw [if_neg (bd_z h)]
theorem bd_59 {σ : zM} (h : zN σ 2 8 ≠ 0) : zcall 59 [.ref 2] σ = some (some (.int (Int32.ofInt (-1))), σ) := by
  refine zcc_59 (ze_59_0 _ _ ?_)
  rw [bd_58 h, zbI_s]
theorem bd_60 {σ : zM} (h : zN σ 2 8 ≠ 0) : zcall 60 [.ref 2] σ = some (some (.int (Int32.ofInt (-1))), σ) := by
  refine zcc_60 (ze_60_0 _ _ ?_)
  rw [bd_58 h, zbI_s]
theorem bd_61 {σ : zM} (h : zN σ 2 8 ≠ 0) {x : Int32} : zcall 61 [.ref 2, .int x] σ = some (none, σ) := by
  refine zcc_61 (ze_61_0 _ _ _ ?_)
  rw [bd_54 h, zbV_s]
  split <;> rfl
/-- the fault comes -/
theorem sp_54 {σ : zM} {x y : Int} (h : zN σ 2 8 = 0) : zcall 54 [.ref 2, .int (Int32.ofInt x), .int (Int32.ofInt y)] σ = some (none, zw (zw σ 2 8 x) 2 9 y) := by
  refine zcc_54 (ze_54_0 _ _ _ _ ?_)
  rw [if_neg (fun p => p (by rw [mm_r, h]; rfl))]
  rfl
theorem gC.bad {σ : zM} {T : Int → Int} {sz : Int} {s : tk} {W : Int → Int} (h : gC σ T sz s W) (h5 : W 5 ≤ 10) {f p : Int} (f0 : f ≠ 0) (f1 : -2147483648 ≤ f) (f2 : f < 2147483648) (p0 : -2147483648 ≤ p) (p1 : p < 2147483648) : bdC (zw (zw σ 2 8 f) 2 9 p) f p W ∧ rdF σ (zw (zw σ 2 8 f) 2 9 p) := by
  refine ⟨⟨?_, f0, mm_at rfl rfl p0 p1, h.2.2.2.2.2.fr h5 fun a a0 a1 k => ?_, T, sz, s, h.1.fr (fun k => by rw [mm_ne (by decide), mm_ne (by decide)]), ?_, ⟨?_, ?_, ?_, ?_⟩, h.2.2.2.2.1⟩, ((mf.rf (S := fun b => b = 2 ∨ 3 ≤ b ∧ b < 33)).zw 2 _ _ (.inl rfl)).zw 2 _ _ (.inl rfl), ?_⟩
  · rw [mm_nj (by decide), mm_at rfl rfl f1 f2]
  · rw [mm_ne (by omega), mm_ne (by omega)]
  · rw [mm_nj (by decide), mm_nj (by decide)]; exact h.2.1
  · rw [mm_nj (by decide), mm_nj (by decide)]; exact h.2.2.2.1.1
  · rw [mm_nj (by decide), mm_nj (by decide)]; exact h.2.2.2.1.2.1
  · rw [mm_nj (by decide), mm_nj (by decide)]; exact h.2.2.2.1.2.2.1
  · rw [mm_nj (by decide), mm_nj (by decide)]; exact h.2.2.2.1.2.2.2
  · rw [mm_nj (by decide), mm_nj (by decide)]
theorem gC.scan {σ : zM} {T : Int → Int} {sz : Int} {s : tk} {W : Int → Int} (h : gC σ T sz s W) (h5 : W 5 ≤ 10) : zwp (zcall 51 [.ref 2] σ) (fun w τ => w = none ∧ scF σ τ ∧ gC τ T sz (nxt T sz s) W) := by
  obtain ⟨h1, h2, h3, h4, h5', h6⟩ := h
  have hn := nxt_ok (T := T) h5'
  obtain ⟨o1, o2, o3, o4, o5⟩ := h5'
  refine zwp_mono (sp_51 (v := 0) h1 h2 h4.2.2.1 (by omega) o4) ?_
  rintro w τ ⟨rfl, hf, ht⟩
  exact ⟨rfl, hf, h1.fr (hf.1.1 1 (by decide)), (hf.2 2 (by omega)).trans h2, ⟨(hf.2 8 (by omega)).trans h3.1, (hf.2 9 (by omega)).trans h3.2⟩, ht, hn.1, h6.fr h5 fun a a0 a1 => hf.1.1 a (by omega)⟩
theorem nI_to (n : Nat) : nI n = Int32.ofInt n := mm_nat n
theorem wrd_tab : ∀ i, i < 19 → (wrd (1000000 + i)).length < 20 := by decide +kernel
theorem lp_55 {σ : zM} {T : Int → Int} {sz : Int} {s : tk} {a : Nat} (h : gT σ T sz s) (ha : 1000000 ≤ a ∧ a < 1000019) (hl : s.2.1 + (wrd a).length ≤ sz) : ∀ (k j : Nat), j + k = (wrd a).length → (∀ i : Nat, i < j → T (s.2.1 + i) = ((wrd a).getD i 0).toInt) → ∃ b : Int, (b = 1 ∧ (∀ i : Nat, i < (wrd a).length → T (s.2.1 + i) = ((wrd a).getD i 0).toInt) ∨ b = 0 ∧ ¬ (∀ i : Nat, i < (wrd a).length → T (s.2.1 + i) = ((wrd a).getD i 0).toInt)) ∧ zev 55 28 [some (.ref 2), some (.ref a), some (.int (Int32.ofInt j))] [] σ = some (some (.int (Int32.ofInt b)), σ)
  | 0, j, e, hj => by
    have hw := wrd_tab (a - 1000000) (by omega)
    rw [show 1000000 + (a - 1000000) = a by omega] at hw
    refine ⟨1, .inl ⟨rfl, fun i hi => hj i (by omega)⟩, ?_⟩
    have zl := zstr_len
    have ew : zstr.getD (a - 1000000) [] = wrd a := rfl
    have c1 : (decide (1000000 ≤ a) && decide (a < 1000000 + zstr.length)) = true := by rw [zl, decide_eq_true ha.1, decide_eq_true (by omega)]; rfl
    refine ze_55_28 _ _ _ _ ?_
    rw [ew, c1, cond_t, nI_to, if_pos (by rw [mm_le (by omega) (by omega) (by omega) (by omega)]; show ((wrd a).length : Int) ≤ _; omega), if_pos (by decide)]
  | k + 1, j, e, hj => by
    have hw := wrd_tab (a - 1000000) (by omega)
    rw [show 1000000 + (a - 1000000) = a by omega] at hw
    have zl := zstr_len
    have ew : zstr.getD (a - 1000000) [] = wrd a := rfl
    obtain ⟨h1, h2, h4, ⟨o1, o2, o3, o4, o5⟩⟩ := h
    have h : gT σ T sz s := ⟨h1, h2, h4, ⟨o1, o2, o3, o4, o5⟩⟩
    have hs := h1.1
    obtain ⟨t1, t2, t3⟩ := h1.2 (s.2.1 + j) (by omega) (by omega)
    have c1 : (decide (1000000 ≤ a) && decide (a < 1000000 + zstr.length)) = true := by rw [zl, decide_eq_true ha.1, decide_eq_true (by omega)]; rfl
    have c2 : (true && decide (0 ≤ Int32.ofInt (j : Int)) && decide ((Int32.ofInt (j : Int)).toNatClampNeg < (wrd a).length)) = true := by
      rw [decide_eq_true (by rw [mm_z, mm_le (by omega) (by omega) (by omega) (by omega)]; omega), decide_eq_true (by rw [mm_cl (by omega) (by omega), Int.toNat_natCast]; show j < (wrd a).length; omega)]
      rfl
    have bj : -2147483648 ≤ (j : Int) ∧ (j : Int) < 2147483648 := ⟨by omega, by omega⟩
    have hc : zI σ 1 (s.2.1 + j).toNat = Int32.ofInt (T (s.2.1 + j)) := by rw [mm_r, t1]
    by_cases q : T (s.2.1 + j) = ((wrd a).getD j 0).toInt
    · obtain ⟨b, hb, ih⟩ := lp_55 h ha hl k (j + 1) (by omega) (fun i hi => by
        by_cases z : i = j
        · rw [z]
          exact q
        · exact hj i (by omega))
      refine ⟨b, hb, ?_⟩
      refine ze_55_28 _ _ _ _ ?_
      rw [ew, c1, cond_t, nI_to, if_neg (by rw [mm_le (by omega) (by omega) (by omega) (by omega)]; show ¬ ((wrd a).length : Int) ≤ _; omega), mm_r σ 2 4, h4.2.1, mm_add, za_1 (by omega) (by omega), cond_t, c2, cond_t, mm_cl (by omega) (by omega), hc, if_pos (by
        rw [← Int32.toInt_inj, mm_to (Int.le_trans (by decide) t2) (Int.lt_of_lt_of_le t3 (by decide)), mm_cl bj.1 bj.2, Int.toNat_natCast]
        exact q), mm_add]
      exact ih
    · refine ⟨0, .inr ⟨rfl, fun p => q (p j (by omega))⟩, ?_⟩
      refine ze_55_28 _ _ _ _ ?_
      rw [ew, c1, cond_t, nI_to, if_neg (by rw [mm_le (by omega) (by omega) (by omega) (by omega)]; show ¬ ((wrd a).length : Int) ≤ _; omega), mm_r σ 2 4, h4.2.1, mm_add, za_1 (by omega) (by omega), cond_t, c2, cond_t, mm_cl (by omega) (by omega), hc, if_neg (by
        rw [← Int32.toInt_inj, mm_to (Int.le_trans (by decide) t2) (Int.lt_of_lt_of_le t3 (by decide)), mm_cl bj.1 bj.2, Int.toNat_natCast]
        exact q), if_pos (by decide)]
/-- whether the token is a word -/
theorem sp_55 {σ : zM} {T : Int → Int} {sz : Int} {s : tk} {a : Nat} (h : gT σ T sz s) (ha : 1000000 ≤ a ∧ a < 1000019) : ∃ b : Int, (b = 1 ∧ isW T a s ∨ b = 0 ∧ ¬ isW T a s) ∧ zcall 55 [.ref 2, .ref a] σ = some (some (.int (Int32.ofInt b)), σ) := by
  have hw := wrd_tab (a - 1000000) (by omega)
  rw [show 1000000 + (a - 1000000) = a by omega] at hw
  have zl := zstr_len
  have ew : zstr.getD (a - 1000000) [] = wrd a := rfl
  obtain ⟨h1, h2, h4, ⟨o1, o2, o3, o4, o5⟩⟩ := h
  have h : gT σ T sz s := ⟨h1, h2, h4, ⟨o1, o2, o3, o4, o5⟩⟩
  have hs := h1.1
  have c1 : (decide (1000000 ≤ a) && decide (a < 1000000 + zstr.length)) = true := by rw [zl, decide_eq_true ha.1, decide_eq_true (by omega)]; rfl
  by_cases q : s.1 = 1
  · by_cases q2 : s.2.2.1 - s.2.1 = (wrd a).length
    · obtain ⟨b, hb, e⟩ := lp_55 h ha (by omega) (wrd a).length 0 (by omega) (fun i hi => absurd hi (by omega))
      refine ⟨b, ?_, ?_⟩
      · rcases hb with ⟨b1, b2⟩ | ⟨b1, b2⟩
        · exact .inl ⟨b1, q, q2, b2⟩
        · exact .inr ⟨b1, fun p => b2 p.2.2⟩
      · refine zcc_55 (ze_55_0 _ _ _ ?_)
        rw [if_neg (by rw [mm_r, h4.1, q]; exact fun p => p rfl), ew, c1, cond_t, nI_to, mm_r σ 2 5, mm_r σ 2 4, h4.2.2.1, h4.2.1, mm_sub, if_pos (by rw [q2])]
        exact e
    · refine ⟨0, .inr ⟨rfl, fun p => q2 p.2.1⟩, ?_⟩
      refine zcc_55 (ze_55_0 _ _ _ ?_)
      rw [if_neg (by rw [mm_r, h4.1, q]; exact fun p => p rfl), ew, c1, cond_t, nI_to, mm_r σ 2 5, mm_r σ 2 4, h4.2.2.1, h4.2.1, mm_sub, if_neg (by rw [mm_eq (by omega) (by omega) (by omega) (by omega)]; exact q2), if_pos (by decide)]
  · refine ⟨0, .inr ⟨rfl, fun p => q p.1⟩, ?_⟩
    refine zcc_55 (ze_55_0 _ _ _ ?_)
    rw [if_pos (by rw [mm_r, h4.1, mm_eq (by omega) (by omega) (by decide) (by decide)]; exact q), if_pos (by decide)]
/-- a word is taken -/
theorem cw {σ0 σ : zM} {T : Int → Int} {sz : Int} {s : tk} {W : Int → Int} {a : Nat} {k : zM → Option zR} {K : tk → rdZ} (h : gC σ T sz s W) (h5 : W 5 ≤ 10) (ha : 1000000 ≤ a ∧ a < 1000019) (hf : rdF σ0 σ) (hok : ∀ τ, gC τ T sz (nxt T sz s) W → rdF σ0 τ → scF σ τ → CR σ0 (k τ) (K (nxt T sz s))) (hno : ∀ τ, bdC τ 1 s.2.1 W → rdF σ0 τ → CR σ0 (k τ) (er 1 s.2.1)) : CR σ0 (zbV (zcall 56 [.ref 2, .ref a] σ) k) (wd T sz a s K) := by
  obtain ⟨b, hb, e⟩ := sp_55 h.t ha
  have h3 := h.2.2.1.1
  have hs := h.1.1
  obtain ⟨o1, o2, o3, o4, o5⟩ := h.2.2.2.2.1
  have h4 := h.2.2.2.1.2.1
  rcases hb with ⟨rfl, hb⟩ | ⟨rfl, hb⟩
  · rw [wd_y hb]
    refine zwp_V (fun τ => scF σ τ ∧ gC τ T sz (nxt T sz s) W) ?_ (fun τ g => hok τ g.2 (hf.tr g.1.R) g.1)
    refine zwp_of (fun r h => zcc_56 (ze_56_0 _ _ r h)) ?_
    refine zwp_t (by rw [mm_r, h3]; rfl) ?_
    rw [e, zbI_s]
    refine zwp_t (by decide) ?_
    refine zwp_V _ (h.scan h5) ?_
    rintro τ ⟨g1, g2⟩
    exact zwp_ret ⟨rfl, g1, g2⟩
  · rw [wd_n hb]
    have hbd := h.bad (f := 1) (p := s.2.1) h5 (by decide) (by decide) (by decide) (by omega) (by omega)
    refine zwp_V (fun τ => τ = zw (zw σ 2 8 1) 2 9 s.2.1) ?_ (fun τ g => by
      rw [g]
      exact hno _ hbd.1 (hf.tr hbd.2))
    refine zwp_of (fun r h => zcc_56 (ze_56_0 _ _ r h)) ?_
    refine zwp_t (by rw [mm_r, h3]; rfl) ?_
    rw [e, zbI_s]
    refine zwp_f (by decide) ?_
    rw [mm_r, h4, sp_54 h3, zbV_s]
    exact zwp_ret ⟨rfl, rfl⟩
/-- a number is taken -/
theorem cn {σ0 σ : zM} {T : Int → Int} {sz lo hi : Int} {s : tk} {W : Int → Int} {k : Int32 → zM → Option zR} {K : Int → tk → rdZ} (h : gC σ T sz s W) (h5 : W 5 ≤ 10) (l0 : 0 ≤ lo) (l1 : lo ≤ 1000) (i0 : -1 ≤ hi) (i1 : hi ≤ 1000) (hf : rdF σ0 σ) (hok : ∀ τ, lo ≤ s.2.2.2 → s.2.2.2 ≤ hi → gC τ T sz (nxt T sz s) W → zN τ 2 7 = s.2.1 → rdF σ0 τ → mf (fun b => b = 2) σ τ → CR σ0 (k (Int32.ofInt s.2.2.2) τ) (K s.2.2.2 (nxt T sz s))) (hno : ∀ τ f, bdC τ f s.2.1 W → rdF σ0 τ → mf (fun b => b = 2) σ τ → CR σ0 (k (Int32.ofInt (-1)) τ) (er f s.2.1)) : CR σ0 (zbI (zcall 58 [.ref 2, .int (Int32.ofInt lo), .int (Int32.ofInt hi)] σ) k) (nm T sz lo hi s K) := by
  have h3 := h.2.2.1.1
  have hs := h.1.1
  obtain ⟨o1, o2, o3, o4, o5⟩ := h.2.2.2.2.1
  obtain ⟨h4, h41, h42, h43⟩ := h.2.2.2.1
  have m6 := mi6_rng o5
  have hbad : ∀ f, f ≠ 0 → -2147483648 ≤ f → f < 2147483648 → CR σ0 (k (Int32.ofInt (-1)) (zw (zw σ 2 8 f) 2 9 s.2.1)) (er f s.2.1) := by
    intro f f0 f1 f2
    have hbd := h.bad (f := f) (p := s.2.1) h5 f0 f1 f2 (by omega) (by omega)
    exact hno _ f hbd.1 (hf.tr hbd.2) (((mf.rf (S := fun b => b = 2)).zw 2 _ _ rfl).zw 2 _ _ rfl)
  unfold nm
  by_cases q : s.1 = 2
  · rw [if_pos q]
    by_cases q2 : lo ≤ s.2.2.2 ∧ s.2.2.2 ≤ hi
    · rw [if_pos q2]
      have e6 : mi6 s.2.2.2 = s.2.2.2 := if_pos (by omega)
      refine zwp_IE (E := s.2.2.2) (P := fun τ => gC τ T sz (nxt T sz s) W ∧ zN τ 2 7 = s.2.1 ∧ mf (fun b => b = 2) σ τ ∧ zN τ 2 2 = zN σ 2 2) ?_ (fun τ g => hok τ q2.1 q2.2 g.1 g.2.1 (hf.tr ⟨g.2.2.1.mono (by omega), g.2.2.2⟩) g.2.2.1)
      refine zwp_of (fun r h => zcc_58 (ze_58_0 _ _ _ r h)) ?_
      refine zwp_t (by rw [mm_r, h3]; rfl) ?_
      refine zwp_t (by rw [mm_r, h4, q]) ?_
      rw [mm_r σ 2 6, h43 q, e6]
      refine zwp_f (by rw [mm_lt (by omega) (by omega) (by omega) (by omega)]; omega) ?_
      refine zwp_t (by rw [mm_le (by omega) (by omega) (by omega) (by omega)]; omega) ?_
      rw [mm_r σ 2 4, h41]
      refine zwp_letE (τ' := zw σ 2 7 s.2.1) (by simp (disch := first | assumption | exact isR33 | exact isT104 | exact isF99 | exact isF101 | exact isR3 | omega | (refine isTk ?_; omega) | (refine isOk isR33 ?_; omega) | (refine isOk ?_ ?_; assumption; omega)) only [mm_r, mm_rl, mm_add, mm_sub, mm_mul, mm_addJ, mm_mulJ, mm_lt, mm_le, mm_eq, mm_z, mm_cl, mm_w, mm_wl, mm_ite, mm_i2l, mm_l2i, mm_ltJ, mm_leJ, mm_eqJ, mm_clt, mm_cle, mm_cgt, mm_cge, mm_ceq, mm_b, mm_nb, mm_nb0, mm_nb1, mm_vb0, mm_vb1, mm_vbc, mm_vy0, mm_vy1, mm_at, mm_ne, mm_nj, mm_Lw, mm_Nw, mm_atJ, mm_neJ, mm_njJ, zbI_s, zbV_s, zbJ_s, cond_t, Bool.true_and, Bool.and_true, if_true, if_false, not_true, not_false_iff, Classical.not_not, zel_r, zel_42, zel_12, zel_71, zel_80, zel_89, zel_110, zel_188, zel_103, zel_195, zr_o, zr_1, zr_2, zr_3, zr_4, zr_5, zr_6, zr_7, zr_8, zr_9, zq_o, zq_v, zt_o, zt_1, zt_2, zt_3, zt_4, zt_5, zf_o, zf_1, za_w1, za_w2, za_w3, za_cm, za_sl, Int.toNat_natCast, Int.toNat_natCast_add_one, mm_t0, mm_t1, mm_t2, mm_t3, mm_t4, mm_t5, mm_t6, mm_t7, mm_t8, mm_t9, mm_t10, mm_t11, mm_t12, mm_t13, za_1, za_64, za_65, za_66, za_67, za_68, za_71, za_80, za_89, za_98, za_103, za_110, za_121, za_122, za_123, za_124, za_125, za_126, za_188, za_193, za_194, za_195, za_286, za_288, za_289, za_290, za_291, za_292, za_293, za_294, za_295, za_296, za_297, za_298, za_299, za_300, za_301, za_302, za_303, za_304, za_305, za_306, za_307, za_308, za_309, za_310, za_311, za_312]) ?_
      have hG : gC (zw σ 2 7 s.2.1) T sz s W := ⟨h.1.fr fun k => mm_ne (by decide), (mm_nj (by decide)).trans h.2.1, ⟨(mm_nj (by decide)).trans h3, (mm_nj (by decide)).trans h.2.2.1.2⟩, ⟨(mm_nj (by decide)).trans h4, (mm_nj (by decide)).trans h41, (mm_nj (by decide)).trans h42, fun p => (mm_nj (by decide)).trans (h43 p)⟩, h.2.2.2.2.1, h.2.2.2.2.2.fr h5 fun a a0 a1 k => mm_ne (by omega)⟩
      refine zwp_V _ (hG.scan h5) ?_
      rintro τ ⟨g1, g2⟩
      refine zwp_ret ⟨rfl, g2, (g1.2 7 (by omega)).trans (mm_at rfl rfl (by omega) (by omega)), ((mf.rf (S := fun b => b = 2)).zw 2 _ _ rfl).tr g1.1, (g1.2 2 (by omega)).trans (mm_nj (by decide))⟩
    · rw [if_neg q2]
      refine zwp_IE (E := -1) (P := fun τ => τ = zw (zw σ 2 8 2) 2 9 s.2.1) ?_ (fun τ g => by
        rw [g]
        exact hbad 2 (by decide) (by decide) (by decide))
      refine zwp_of (fun r h => zcc_58 (ze_58_0 _ _ _ r h)) ?_
      refine zwp_t (by rw [mm_r, h3]; rfl) ?_
      refine zwp_t (by rw [mm_r, h4, q]) ?_
      rw [mm_r σ 2 6, h43 q, mm_r σ 2 4, h41, sp_54 h3]
      by_cases q3 : mi6 s.2.2.2 < lo
      · refine zwp_t (by rw [mm_lt (by omega) (by omega) (by omega) (by omega)]; omega) ?_
        rw [zbV_s]
        exact zwp_ret ⟨rfl, rfl⟩
      · refine zwp_f (by rw [mm_lt (by omega) (by omega) (by omega) (by omega)]; omega) ?_
        refine zwp_f (by
          rw [mm_le (by omega) (by omega) (by omega) (by omega)]
          unfold mi6 at q3 ⊢
          split at q3
          · next z => rw [if_pos z]; omega
          · next z => rw [if_neg z]; omega) ?_
        rw [zbV_s]
        exact zwp_ret ⟨rfl, rfl⟩
  · rw [if_neg q]
    refine zwp_IE (E := -1) (P := fun τ => τ = zw (zw σ 2 8 1) 2 9 s.2.1) ?_ (fun τ g => by
      rw [g]
      exact hbad 1 (by decide) (by decide) (by decide))
    refine zwp_of (fun r h => zcc_58 (ze_58_0 _ _ _ r h)) ?_
    refine zwp_t (by rw [mm_r, h3]; rfl) ?_
    refine zwp_f (by rw [mm_r, h4, mm_eq (by omega) (by omega) (by decide) (by decide)]; exact q) ?_
    rw [mm_r σ 2 4, h41, sp_54 h3, zbV_s]
    exact zwp_ret ⟨rfl, rfl⟩
