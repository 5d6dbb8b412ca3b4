/-! CALLS: ways, best: the class -/
theorem zsum_add (f g : Int → Int) : ∀ n : Nat, zsum (fun i => f i + g i) n = zsum f n + zsum g n
  | 0 => rfl
  | n + 1 => by
    rw [zsum, zsum, zsum, zsum_add f g n]
    omega
theorem zsum_0 : ∀ n : Nat, zsum (fun _ => 0) n = 0
  | 0 => rfl
  | n + 1 => by rw [zsum, zsum_0 n]; rfl
theorem zsum_swap (f : Int → Int → Int) (m : Nat) : ∀ n : Nat, zsum (fun i => zsum (fun j => f i j) m) n = zsum (fun j => zsum (fun i => f i j) n) m
  | 0 => (zsum_0 m).symm
  | n + 1 => by
    rw [zsum, zsum_swap f m n]
    exact (zsum_add _ _ m).symm
theorem zsum_x {f : Int → Int} {n : Nat} : ∀ m : Nat, n ≤ m → (∀ j : Nat, n ≤ j → j < m → f j = 0) → zsum f m = zsum f n
  | 0, h, _ => by rw [show n = 0 by omega]
  | m + 1, h, hP => by
    by_cases e : n = m + 1
    · rw [e]
    · rw [zsum, zsum_x m (by omega) (fun j a b => hP j a (by omega)), hP m (by omega) (by omega)]
      omega
/-- coming as the rider r takes it at h by way of v -/
def Csd (W : Int → Int) (o r v h : Int) : Int := CMw W (FL W noD) (wayBy W (oo W o 4) v (oo W o 5)) h (W (68 + 2 * r)) (W (68 + 2 * r + 1))
def Pc (W : Int → Int) (o x c : Int) : Bool := decide (BB W (cup (CM W noD) o c) (W 7) (oo W o 5) (oo W o 1) x = o)
def Ps (W : Int → Int) (o x r v h : Int) : Bool := Pc W o x (Csd W o r v h)
def t01 (b : Bool) : Int := if b = true then 1 else 0
theorem t01_rng (b : Bool) : 0 ≤ t01 b ∧ t01 b ≤ 1 := by cases b <;> decide
theorem Pc_in {W : Int → Int} {o x c : Int} (o0 : 0 ≤ o) (h : Pc W o x c = true) : c ≠ -1 ∧ c ≤ x := by
  have h := of_decide_eq_true h
  have := BB_in (W := W) (c := cup (CM W noD) o c) (sl := W 7) (t := oo W o 5) (g := oo W o 1) (h := x) (by omega)
  rw [h] at this
  have e : cup (CM W noD) o c o = c := if_pos rfl
  rw [e] at this
  exact this
theorem Csd_rng {W : Int → Int} (hW : WOK W) {o r v h : Int} (o0 : 0 ≤ o) (o1 : o < W 5) (r0 : 0 ≤ r) (r1 : r < W 4) (v0 : -1 ≤ v) (v1 : v < W 0) (h0 : 0 ≤ h) (h1 : h ≤ 200) : -1 ≤ Csd W o r v h ∧ Csd W o r v h < 99 ∧ (Csd W o r v h ≠ -1 → h ≤ Csd W o r v h) := by
  have ho := (hW.2.2.2.2 o o0 o1).1
  have hN := (wayBy_N hW.1.1 (v := v) ho.1 ho.2.1 (by omega) ho.2.2.1 ho.2.2.2.1).1.le (m := 29) (by omega)
  have hp := hW.2.2.2.1 r r0 r1
  exact (CMw_rng (F := FL W noD) (h := h) hW.1 hN h0 h1 hp.1 hp.2.1 hp.2.2.1 hp.2.2.2).2
theorem Ps_late {W : Int → Int} (hW : WOK W) {o x r v h : Int} (o0 : 0 ≤ o) (o1 : o < W 5) (r0 : 0 ≤ r) (r1 : r < W 4) (v0 : -1 ≤ v) (v1 : v < W 0) (h0 : 0 ≤ h) (h1 : h ≤ 200) (hx : x < h) : Ps W o x r v h = false := by
  have cr := Csd_rng hW o0 o1 r0 r1 v0 v1 h0 h1
  refine Bool.not_eq_true _ |>.mp fun p => ?_
  have p := Pc_in o0 p
  have := cr.2.2 p.1
  omega
/-- the first of those that are before -/
def sS (W : Int → Int) (o x r h v : Int) : Prop := 0 ≤ r ∧ r < W 4 ∧ 0 ≤ h ∧ h < W 1 ∧ -1 ≤ v ∧ v < W 0 ∧ Ps W o x r v h = true
def lx (r h v r' h' v' : Int) : Prop := r < r' ∨ r = r' ∧ (h < h' ∨ h = h' ∧ v < v')
def bst (W : Int → Int) (o x : Int) (B : Int → Int → Int → Prop) (a b c : Int) : Prop := (a = -1 ∧ ∀ r h v, sS W o x r h v → ¬ B r h v) ∨ (sS W o x a b c ∧ B a b c ∧ ∀ r h v, sS W o x r h v → B r h v → ¬ lx r h v a b c)
theorem bst.eq {W : Int → Int} {o x : Int} {B B' : Int → Int → Int → Prop} {a b c : Int} (h : bst W o x B a b c) (hB : ∀ r h v, sS W o x r h v → (B r h v ↔ B' r h v)) : bst W o x B' a b c := by
  rcases h with ⟨h1, h2⟩ | ⟨h1, h2, h3⟩
  · exact .inl ⟨h1, fun r h v hs hb => h2 r h v hs ((hB r h v hs).mpr hb)⟩
  · exact .inr ⟨h1, (hB a b c h1).mp h2, fun r h v hs hb => h3 r h v hs ((hB r h v hs).mpr hb)⟩
theorem bst.one {W : Int → Int} {o x : Int} {B B' : Int → Int → Int → Prop} {a b c a' b' c' : Int} (h : bst W o x B a b c) (g : bst W o x B' a' b' c') (hB : ∀ r h v, sS W o x r h v → B r h v) (hB' : ∀ r h v, sS W o x r h v → B' r h v) : a = a' ∧ (a ≠ -1 → b = b' ∧ c = c') := by
  rcases h with ⟨h1, h2⟩ | ⟨h1, h2, h3⟩
  · rcases g with ⟨g1, g2⟩ | ⟨g1, g2, g3⟩
    · exact ⟨by omega, fun p => absurd h1 p⟩
    · exact absurd (hB _ _ _ g1) (h2 _ _ _ g1)
  · rcases g with ⟨g1, g2⟩ | ⟨g1, g2, g3⟩
    · exact absurd (hB' _ _ _ h1) (g2 _ _ _ h1)
    · have p := h3 _ _ _ g1 (hB _ _ _ g1)
      have q := g3 _ _ _ h1 (hB' _ _ _ h1)
      unfold lx at p q
      omega
/-- what best says of the first -/
def bsA (W : Int → Int) (o x what n : Int) : Prop := ∃ a b c, bst W o x (fun _ _ _ => True) a b c ∧ n = if a = -1 then -1 else if what = 0 then a else if what = 1 then b else c
noncomputable def Ebe (W : Int → Int) (o x what : Int) : Int := if sndb W o x ∧ 0 ≤ what ∧ what ≤ 2 then Classical.epsilon (bsA W o x what) else -2
theorem bsA_e {W : Int → Int} {o x what n : Int} (h : bsA W o x what n) : Classical.epsilon (bsA W o x what) = n := by
  obtain ⟨a, b, c, h1, h2⟩ := Classical.epsilon_spec ⟨n, h⟩
  obtain ⟨a', b', c', g1, g2⟩ := h
  have u := h1.one g1 (fun _ _ _ _ => trivial) (fun _ _ _ _ => trivial)
  rw [h2, g2, ← u.1]
  by_cases q : a = -1
  · rw [if_pos q, if_pos q]
  · rw [if_neg q, if_neg q, (u.2 q).1, (u.2 q).2]
/-- how many -/
def cSd (W : Int → Int) (o x : Int) : Int := zsum (fun r => zsum (fun h => zsum (fun j => t01 (Ps W o x r (j - 1) h)) (W 0 + 1).toNat) (W 1).toNat) (W 4).toNat
def Ewa (W : Int → Int) (o x : Int) : Int := if sndb W o x then cSd W o x else -2
theorem cSd_rng {W : Int → Int} (hW : WOK W) (o x : Int) : 0 ≤ cSd W o x ∧ cSd W o x ≤ 6000 := by
  have h9 := hW.1.2.2.1
  have h8 := hW.1.1.2.1
  have h5 := hW.2.2.1
  have a := fun r h => zsum_rng (f := fun j => t01 (Ps W o x r (j - 1) h)) (M := 1) (fun i => t01_rng _) (W 0 + 1).toNat
  have b := fun r => zsum_rng (f := fun h => zsum (fun j => t01 (Ps W o x r (j - 1) h)) (W 0 + 1).toNat) (M := 9) (fun h => by have := a r h; omega) (W 1).toNat
  have c := zsum_rng (f := fun r => zsum (fun h => zsum (fun j => t01 (Ps W o x r (j - 1) h)) (W 0 + 1).toNat) (W 1).toNat) (M := 891) (fun r => by have := b r; omega) (W 4).toNat
  unfold cSd
  omega
/-- as the class counts -/
theorem cSd_cls {W : Int → Int} (hW : WOK W) {o x : Int} (o0 : 0 ≤ o) (o1 : o < W 5) (x0 : 0 ≤ x) (x1 : x < W 1) : zsum (fun r => zsum (fun j => zsum (fun h => t01 (Ps W o x r (j - 1) h)) (x + 1).toNat) (W 0 + 1).toNat) (W 4).toNat = cSd W o x := by
  have h9 := hW.1.2.2.1
  have h8 := hW.1.1.2.1
  have h80 := hW.1.1.1
  have h5 := hW.2.2.1
  unfold cSd
  refine zsum_congr _ fun r r0 r1 => ?_
  rw [zsum_swap (fun h j => t01 (Ps W o x r (j - 1) h))]
  refine zsum_congr _ fun j j0 j1 => ?_
  refine (zsum_x (W 1).toNat (by omega) fun h a b => ?_).symm
  have := Ps_late hW (o := o) (x := x) (r := r) (v := j - 1) (h := h) o0 o1 r0 (by omega) (by omega) (by omega) (by omega) (by omega) (by omega)
  rw [this]
  rfl
/-- within the class's search -/
def uS (σ0 σ : zM) (W : Int → Int) (o x : Int) : Prop := mf (fun b => b = 69 ∨ 104 ≤ b ∧ b < 110 ∨ b = 125) σ0 σ ∧ ∀ j : Nat, (j : Int) ≤ x → zN σ 125 j = t01 (Pc W o x j)
def uB (σ : zM) (W : Int → Int) (o x : Int) (B : Int → Int → Int → Prop) : Prop := ∃ a b c, bst W o x B a b c ∧ zN σ 69 14 = a ∧ (a ≠ -1 → zN σ 69 15 = b ∧ zN σ 69 16 = c)
theorem uB.fr {σ τ : zM} {W : Int → Int} {o x : Int} {B : Int → Int → Int → Prop} (h : uB σ W o x B) (hf : ∀ k, zN τ 69 k = zN σ 69 k) : uB τ W o x B := by
  obtain ⟨a, b, c, h1, h2, h3⟩ := h
  exact ⟨a, b, c, h1, (hf _).trans h2, fun p => ⟨(hf _).trans (h3 p).1, (hf _).trans (h3 p).2⟩⟩
theorem uB.eq {σ : zM} {W : Int → Int} {o x : Int} {B B' : Int → Int → Int → Prop} (h : uB σ W o x B) (hB : ∀ r h v, sS W o x r h v → (B r h v ↔ B' r h v)) : uB σ W o x B' := by
  obtain ⟨a, b, c, h1, h2⟩ := h
  exact ⟨a, b, c, h1.eq hB, h2⟩
/-- those that the class has tried -/
def bC (r v h : Int) (r' h' v' : Int) : Prop := r' < r ∨ r' = r ∧ (v' < v ∨ v' = v ∧ h' < h)
theorem sp_28 {σ : zM} {W : Int → Int} {o x r v h : Int} (hB : uB σ W o x (bC r v h)) (hW : WOK W) (hs : sS W o x r h v) : zwp (zcall 28 [.ref 69, .int (Int32.ofInt r), .int (Int32.ofInt h), .int (Int32.ofInt v)] σ) (fun v' τ => v' = none ∧ mf (fun b => b = 69) σ τ ∧ uB τ W o x (bC r v (h + 1))) := by
  obtain ⟨a, b, c, h1, h2, h3⟩ := hB
  have h9 := hW.1.2.2.1
  have h8 := hW.1.1.2.1
  have h5 := hW.2.2.1
  obtain ⟨s1, s2, s3, s4, s5, s6, s7⟩ := hs
  have hs : sS W o x r h v := ⟨s1, s2, s3, s4, s5, s6, s7⟩
  have ra : a = -1 ∨ 0 ≤ a ∧ a < 6 ∧ 0 ≤ b ∧ b < 99 := by
    rcases h1 with ⟨p, -⟩ | ⟨⟨p1, p2, p3, p4, -⟩, -⟩
    · exact .inl p
    · exact .inr (by omega)
  have hset : uB (zw (zw (zw σ 69 14 r) 69 15 h) 69 16 v) W o x (bC r v (h + 1)) ↔ bst W o x (bC r v (h + 1)) r h v := by
    constructor
    · rintro ⟨a', b', c', g1, g2, g3⟩
      have e1 : zN (zw (zw (zw σ 69 14 r) 69 15 h) 69 16 v) 69 14 = r := by rw [mm_nj (by decide), mm_nj (by decide), mm_at rfl rfl (by omega) (by omega)]
      have e2 : zN (zw (zw (zw σ 69 14 r) 69 15 h) 69 16 v) 69 15 = h := by rw [mm_nj (by decide), mm_at rfl rfl (by omega) (by omega)]
      have e3 : zN (zw (zw (zw σ 69 14 r) 69 15 h) 69 16 v) 69 16 = v := mm_at rfl rfl (by omega) (by omega)
      rw [e1] at g2
      rw [e2, e3] at g3
      obtain ⟨k1, k2⟩ := g3 (by omega)
      rw [← g2, ← k1, ← k2] at g1
      exact g1
    · intro g
      exact ⟨r, h, v, g, by rw [mm_nj (by decide), mm_nj (by decide), mm_at rfl rfl (by omega) (by omega)], fun _ => ⟨by rw [mm_nj (by decide), mm_at rfl rfl (by omega) (by omega)], mm_at rfl rfl (by omega) (by omega)⟩⟩
  have hf3 : mf (fun b => b = 69) σ (zw (zw (zw σ 69 14 r) 69 15 h) 69 16 v) := (((mf.rf (S := fun b => b = 69)).zw 69 _ _ rfl).zw 69 _ _ rfl).zw 69 _ _ rfl
  refine zwp_of (fun r h => zcc_28 (ze_28_0 _ _ _ _ r h)) ?_
  by_cases q : a = -1
  · refine zwp_t (by try simp (disch := first | assumption | exact isR33 | exact isT104 | exact isF99 | exact isF101 | exact isR3 | omega | (refine isTk ?_; omega) | (refine isOk isR33 ?_; omega) | (refine isOk ?_ ?_; assumption; omega)) only [mm_r, mm_rl, mm_add, mm_sub, mm_mul, mm_addJ, mm_mulJ, mm_lt, mm_le, mm_eq, mm_z, mm_cl, mm_w, mm_wl, mm_ite, mm_i2l, mm_l2i, mm_ltJ, mm_leJ, mm_eqJ, mm_clt, mm_cle, mm_cgt, mm_cge, mm_ceq, mm_b, mm_nb, mm_nb0, mm_nb1, mm_vb0, mm_vb1, mm_vbc, mm_vy0, mm_vy1, mm_at, mm_ne, mm_nj, mm_Lw, mm_Nw, mm_atJ, mm_neJ, mm_njJ, zbI_s, zbV_s, zbJ_s, cond_t, Bool.true_and, Bool.and_true, if_true, if_false, not_true, not_false_iff, Classical.not_not, zel_r, zel_42, zel_12, zel_71, zel_80, zel_89, zel_110, zel_188, zel_103, zel_195, zr_o, zr_1, zr_2, zr_3, zr_4, zr_5, zr_6, zr_7, zr_8, zr_9, zq_o, zq_v, zt_o, zt_1, zt_2, zt_3, zt_4, zt_5, zf_o, zf_1, za_w1, za_w2, za_w3, za_cm, za_sl, Int.toNat_natCast, Int.toNat_natCast_add_one, mm_t0, mm_t1, mm_t2, mm_t3, mm_t4, mm_t5, mm_t6, mm_t7, mm_t8, mm_t9, mm_t10, mm_t11, mm_t12, mm_t13, za_1, za_64, za_65, za_66, za_67, za_68, za_71, za_80, za_89, za_98, za_103, za_110, za_121, za_122, za_123, za_124, za_125, za_126, za_188, za_193, za_194, za_195, za_286, za_288, za_289, za_290, za_291, za_292, za_293, za_294, za_295, za_296, za_297, za_298, za_299, za_300, za_301, za_302, za_303, za_304, za_305, za_306, za_307, za_308, za_309, za_310, za_311, za_312, h2, q]; first | done | omega) ?_
    refine zwp_letE (τ' := zw σ 69 14 r) (by simp (disch := first | assumption | exact isR33 | exact isT104 | exact isF99 | exact isF101 | exact isR3 | omega | (refine isTk ?_; omega) | (refine isOk isR33 ?_; omega) | (refine isOk ?_ ?_; assumption; omega)) only [mm_r, mm_rl, mm_add, mm_sub, mm_mul, mm_addJ, mm_mulJ, mm_lt, mm_le, mm_eq, mm_z, mm_cl, mm_w, mm_wl, mm_ite, mm_i2l, mm_l2i, mm_ltJ, mm_leJ, mm_eqJ, mm_clt, mm_cle, mm_cgt, mm_cge, mm_ceq, mm_b, mm_nb, mm_nb0, mm_nb1, mm_vb0, mm_vb1, mm_vbc, mm_vy0, mm_vy1, mm_at, mm_ne, mm_nj, mm_Lw, mm_Nw, mm_atJ, mm_neJ, mm_njJ, zbI_s, zbV_s, zbJ_s, cond_t, Bool.true_and, Bool.and_true, if_true, if_false, not_true, not_false_iff, Classical.not_not, zel_r, zel_42, zel_12, zel_71, zel_80, zel_89, zel_110, zel_188, zel_103, zel_195, zr_o, zr_1, zr_2, zr_3, zr_4, zr_5, zr_6, zr_7, zr_8, zr_9, zq_o, zq_v, zt_o, zt_1, zt_2, zt_3, zt_4, zt_5, zf_o, zf_1, za_w1, za_w2, za_w3, za_cm, za_sl, Int.toNat_natCast, Int.toNat_natCast_add_one, mm_t0, mm_t1, mm_t2, mm_t3, mm_t4, mm_t5, mm_t6, mm_t7, mm_t8, mm_t9, mm_t10, mm_t11, mm_t12, mm_t13, za_1, za_64, za_65, za_66, za_67, za_68, za_71, za_80, za_89, za_98, za_103, za_110, za_121, za_122, za_123, za_124, za_125, za_126, za_188, za_193, za_194, za_195, za_286, za_288, za_289, za_290, za_291, za_292, za_293, za_294, za_295, za_296, za_297, za_298, za_299, za_300, za_301, za_302, za_303, za_304, za_305, za_306, za_307, za_308, za_309, za_310, za_311, za_312]) ?_
    refine zwp_letE (τ' := zw (zw σ 69 14 r) 69 15 h) (by simp (disch := first | assumption | exact isR33 | exact isT104 | exact isF99 | exact isF101 | exact isR3 | omega | (refine isTk ?_; omega) | (refine isOk isR33 ?_; omega) | (refine isOk ?_ ?_; assumption; omega)) only [mm_r, mm_rl, mm_add, mm_sub, mm_mul, mm_addJ, mm_mulJ, mm_lt, mm_le, mm_eq, mm_z, mm_cl, mm_w, mm_wl, mm_ite, mm_i2l, mm_l2i, mm_ltJ, mm_leJ, mm_eqJ, mm_clt, mm_cle, mm_cgt, mm_cge, mm_ceq, mm_b, mm_nb, mm_nb0, mm_nb1, mm_vb0, mm_vb1, mm_vbc, mm_vy0, mm_vy1, mm_at, mm_ne, mm_nj, mm_Lw, mm_Nw, mm_atJ, mm_neJ, mm_njJ, zbI_s, zbV_s, zbJ_s, cond_t, Bool.true_and, Bool.and_true, if_true, if_false, not_true, not_false_iff, Classical.not_not, zel_r, zel_42, zel_12, zel_71, zel_80, zel_89, zel_110, zel_188, zel_103, zel_195, zr_o, zr_1, zr_2, zr_3, zr_4, zr_5, zr_6, zr_7, zr_8, zr_9, zq_o, zq_v, zt_o, zt_1, zt_2, zt_3, zt_4, zt_5, zf_o, zf_1, za_w1, za_w2, za_w3, za_cm, za_sl, Int.toNat_natCast, Int.toNat_natCast_add_one, mm_t0, mm_t1, mm_t2, mm_t3, mm_t4, mm_t5, mm_t6, mm_t7, mm_t8, mm_t9, mm_t10, mm_t11, mm_t12, mm_t13, za_1, za_64, za_65, za_66, za_67, za_68, za_71, za_80, za_89, za_98, za_103, za_110, za_121, za_122, za_123, za_124, za_125, za_126, za_188, za_193, za_194, za_195, za_286, za_288, za_289, za_290, za_291, za_292, za_293, za_294, za_295, za_296, za_297, za_298, za_299, za_300, za_301, za_302, za_303, za_304, za_305, za_306, za_307, za_308, za_309, za_310, za_311, za_312]) ?_
    refine zwp_letE (τ' := zw (zw (zw σ 69 14 r) 69 15 h) 69 16 v) (by simp (disch := first | assumption | exact isR33 | exact isT104 | exact isF99 | exact isF101 | exact isR3 | omega | (refine isTk ?_; omega) | (refine isOk isR33 ?_; omega) | (refine isOk ?_ ?_; assumption; omega)) only [mm_r, mm_rl, mm_add, mm_sub, mm_mul, mm_addJ, mm_mulJ, mm_lt, mm_le, mm_eq, mm_z, mm_cl, mm_w, mm_wl, mm_ite, mm_i2l, mm_l2i, mm_ltJ, mm_leJ, mm_eqJ, mm_clt, mm_cle, mm_cgt, mm_cge, mm_ceq, mm_b, mm_nb, mm_nb0, mm_nb1, mm_vb0, mm_vb1, mm_vbc, mm_vy0, mm_vy1, mm_at, mm_ne, mm_nj, mm_Lw, mm_Nw, mm_atJ, mm_neJ, mm_njJ, zbI_s, zbV_s, zbJ_s, cond_t, Bool.true_and, Bool.and_true, if_true, if_false, not_true, not_false_iff, Classical.not_not, zel_r, zel_42, zel_12, zel_71, zel_80, zel_89, zel_110, zel_188, zel_103, zel_195, zr_o, zr_1, zr_2, zr_3, zr_4, zr_5, zr_6, zr_7, zr_8, zr_9, zq_o, zq_v, zt_o, zt_1, zt_2, zt_3, zt_4, zt_5, zf_o, zf_1, za_w1, za_w2, za_w3, za_cm, za_sl, Int.toNat_natCast, Int.toNat_natCast_add_one, mm_t0, mm_t1, mm_t2, mm_t3, mm_t4, mm_t5, mm_t6, mm_t7, mm_t8, mm_t9, mm_t10, mm_t11, mm_t12, mm_t13, za_1, za_64, za_65, za_66, za_67, za_68, za_71, za_80, za_89, za_98, za_103, za_110, za_121, za_122, za_123, za_124, za_125, za_126, za_188, za_193, za_194, za_195, za_286, za_288, za_289, za_290, za_291, za_292, za_293, za_294, za_295, za_296, za_297, za_298, za_299, za_300, za_301, za_302, za_303, za_304, za_305, za_306, za_307, za_308, za_309, za_310, za_311, za_312]) ?_
    refine zwp_ret ⟨rfl, hf3, hset.mpr (.inr ⟨hs, .inr ⟨rfl, .inr ⟨rfl, by omega⟩⟩, fun r' h' v' g1 g2 => ?_⟩)⟩
    rcases h1 with ⟨-, p⟩ | ⟨⟨p1, -⟩, -⟩
    · have := p r' h' v' g1
      unfold bC at this g2
      unfold lx
      omega
    · omega
  · have ra : 0 ≤ a ∧ a < 6 ∧ 0 ≤ b ∧ b < 99 := by omega
    obtain ⟨k15, k16⟩ := h3 q
    rcases h1 with ⟨p, -⟩ | ⟨p1, p2, p3⟩
    · exact absurd p q
    refine zwp_f (by try simp (disch := first | assumption | exact isR33 | exact isT104 | exact isF99 | exact isF101 | exact isR3 | omega | (refine isTk ?_; omega) | (refine isOk isR33 ?_; omega) | (refine isOk ?_ ?_; assumption; omega)) only [mm_r, mm_rl, mm_add, mm_sub, mm_mul, mm_addJ, mm_mulJ, mm_lt, mm_le, mm_eq, mm_z, mm_cl, mm_w, mm_wl, mm_ite, mm_i2l, mm_l2i, mm_ltJ, mm_leJ, mm_eqJ, mm_clt, mm_cle, mm_cgt, mm_cge, mm_ceq, mm_b, mm_nb, mm_nb0, mm_nb1, mm_vb0, mm_vb1, mm_vbc, mm_vy0, mm_vy1, mm_at, mm_ne, mm_nj, mm_Lw, mm_Nw, mm_atJ, mm_neJ, mm_njJ, zbI_s, zbV_s, zbJ_s, cond_t, Bool.true_and, Bool.and_true, if_true, if_false, not_true, not_false_iff, Classical.not_not, zel_r, zel_42, zel_12, zel_71, zel_80, zel_89, zel_110, zel_188, zel_103, zel_195, zr_o, zr_1, zr_2, zr_3, zr_4, zr_5, zr_6, zr_7, zr_8, zr_9, zq_o, zq_v, zt_o, zt_1, zt_2, zt_3, zt_4, zt_5, zf_o, zf_1, za_w1, za_w2, za_w3, za_cm, za_sl, Int.toNat_natCast, Int.toNat_natCast_add_one, mm_t0, mm_t1, mm_t2, mm_t3, mm_t4, mm_t5, mm_t6, mm_t7, mm_t8, mm_t9, mm_t10, mm_t11, mm_t12, mm_t13, za_1, za_64, za_65, za_66, za_67, za_68, za_71, za_80, za_89, za_98, za_103, za_110, za_121, za_122, za_123, za_124, za_125, za_126, za_188, za_193, za_194, za_195, za_286, za_288, za_289, za_290, za_291, za_292, za_293, za_294, za_295, za_296, za_297, za_298, za_299, za_300, za_301, za_302, za_303, za_304, za_305, za_306, za_307, za_308, za_309, za_310, za_311, za_312, h2]; first | done | omega) ?_
    by_cases q2 : a = r
    · refine zwp_f (by try simp (disch := first | assumption | exact isR33 | exact isT104 | exact isF99 | exact isF101 | exact isR3 | omega | (refine isTk ?_; omega) | (refine isOk isR33 ?_; omega) | (refine isOk ?_ ?_; assumption; omega)) only [mm_r, mm_rl, mm_add, mm_sub, mm_mul, mm_addJ, mm_mulJ, mm_lt, mm_le, mm_eq, mm_z, mm_cl, mm_w, mm_wl, mm_ite, mm_i2l, mm_l2i, mm_ltJ, mm_leJ, mm_eqJ, mm_clt, mm_cle, mm_cgt, mm_cge, mm_ceq, mm_b, mm_nb, mm_nb0, mm_nb1, mm_vb0, mm_vb1, mm_vbc, mm_vy0, mm_vy1, mm_at, mm_ne, mm_nj, mm_Lw, mm_Nw, mm_atJ, mm_neJ, mm_njJ, zbI_s, zbV_s, zbJ_s, cond_t, Bool.true_and, Bool.and_true, if_true, if_false, not_true, not_false_iff, Classical.not_not, zel_r, zel_42, zel_12, zel_71, zel_80, zel_89, zel_110, zel_188, zel_103, zel_195, zr_o, zr_1, zr_2, zr_3, zr_4, zr_5, zr_6, zr_7, zr_8, zr_9, zq_o, zq_v, zt_o, zt_1, zt_2, zt_3, zt_4, zt_5, zf_o, zf_1, za_w1, za_w2, za_w3, za_cm, za_sl, Int.toNat_natCast, Int.toNat_natCast_add_one, mm_t0, mm_t1, mm_t2, mm_t3, mm_t4, mm_t5, mm_t6, mm_t7, mm_t8, mm_t9, mm_t10, mm_t11, mm_t12, mm_t13, za_1, za_64, za_65, za_66, za_67, za_68, za_71, za_80, za_89, za_98, za_103, za_110, za_121, za_122, za_123, za_124, za_125, za_126, za_188, za_193, za_194, za_195, za_286, za_288, za_289, za_290, za_291, za_292, za_293, za_294, za_295, za_296, za_297, za_298, za_299, za_300, za_301, za_302, za_303, za_304, za_305, za_306, za_307, za_308, za_309, za_310, za_311, za_312, h2]; first | done | omega) ?_
      by_cases q3 : b ≤ h
      · refine zwp_t (by try simp (disch := first | assumption | exact isR33 | exact isT104 | exact isF99 | exact isF101 | exact isR3 | omega | (refine isTk ?_; omega) | (refine isOk isR33 ?_; omega) | (refine isOk ?_ ?_; assumption; omega)) only [mm_r, mm_rl, mm_add, mm_sub, mm_mul, mm_addJ, mm_mulJ, mm_lt, mm_le, mm_eq, mm_z, mm_cl, mm_w, mm_wl, mm_ite, mm_i2l, mm_l2i, mm_ltJ, mm_leJ, mm_eqJ, mm_clt, mm_cle, mm_cgt, mm_cge, mm_ceq, mm_b, mm_nb, mm_nb0, mm_nb1, mm_vb0, mm_vb1, mm_vbc, mm_vy0, mm_vy1, mm_at, mm_ne, mm_nj, mm_Lw, mm_Nw, mm_atJ, mm_neJ, mm_njJ, zbI_s, zbV_s, zbJ_s, cond_t, Bool.true_and, Bool.and_true, if_true, if_false, not_true, not_false_iff, Classical.not_not, zel_r, zel_42, zel_12, zel_71, zel_80, zel_89, zel_110, zel_188, zel_103, zel_195, zr_o, zr_1, zr_2, zr_3, zr_4, zr_5, zr_6, zr_7, zr_8, zr_9, zq_o, zq_v, zt_o, zt_1, zt_2, zt_3, zt_4, zt_5, zf_o, zf_1, za_w1, za_w2, za_w3, za_cm, za_sl, Int.toNat_natCast, Int.toNat_natCast_add_one, mm_t0, mm_t1, mm_t2, mm_t3, mm_t4, mm_t5, mm_t6, mm_t7, mm_t8, mm_t9, mm_t10, mm_t11, mm_t12, mm_t13, za_1, za_64, za_65, za_66, za_67, za_68, za_71, za_80, za_89, za_98, za_103, za_110, za_121, za_122, za_123, za_124, za_125, za_126, za_188, za_193, za_194, za_195, za_286, za_288, za_289, za_290, za_291, za_292, za_293, za_294, za_295, za_296, za_297, za_298, za_299, za_300, za_301, za_302, za_303, za_304, za_305, za_306, za_307, za_308, za_309, za_310, za_311, za_312, k15]; first | done | omega) ?_
        refine zwp_ret ⟨rfl, mf.rf, a, b, c, .inr ⟨p1, ?_, fun r' h' v' g1 g2 => ?_⟩, h2, h3⟩
        · unfold bC at p2 ⊢
          omega
        · have := p3 r' h' v' g1
          unfold bC at this g2 p2
          unfold lx at this ⊢
          omega
      · refine zwp_f (by try simp (disch := first | assumption | exact isR33 | exact isT104 | exact isF99 | exact isF101 | exact isR3 | omega | (refine isTk ?_; omega) | (refine isOk isR33 ?_; omega) | (refine isOk ?_ ?_; assumption; omega)) only [mm_r, mm_rl, mm_add, mm_sub, mm_mul, mm_addJ, mm_mulJ, mm_lt, mm_le, mm_eq, mm_z, mm_cl, mm_w, mm_wl, mm_ite, mm_i2l, mm_l2i, mm_ltJ, mm_leJ, mm_eqJ, mm_clt, mm_cle, mm_cgt, mm_cge, mm_ceq, mm_b, mm_nb, mm_nb0, mm_nb1, mm_vb0, mm_vb1, mm_vbc, mm_vy0, mm_vy1, mm_at, mm_ne, mm_nj, mm_Lw, mm_Nw, mm_atJ, mm_neJ, mm_njJ, zbI_s, zbV_s, zbJ_s, cond_t, Bool.true_and, Bool.and_true, if_true, if_false, not_true, not_false_iff, Classical.not_not, zel_r, zel_42, zel_12, zel_71, zel_80, zel_89, zel_110, zel_188, zel_103, zel_195, zr_o, zr_1, zr_2, zr_3, zr_4, zr_5, zr_6, zr_7, zr_8, zr_9, zq_o, zq_v, zt_o, zt_1, zt_2, zt_3, zt_4, zt_5, zf_o, zf_1, za_w1, za_w2, za_w3, za_cm, za_sl, Int.toNat_natCast, Int.toNat_natCast_add_one, mm_t0, mm_t1, mm_t2, mm_t3, mm_t4, mm_t5, mm_t6, mm_t7, mm_t8, mm_t9, mm_t10, mm_t11, mm_t12, mm_t13, za_1, za_64, za_65, za_66, za_67, za_68, za_71, za_80, za_89, za_98, za_103, za_110, za_121, za_122, za_123, za_124, za_125, za_126, za_188, za_193, za_194, za_195, za_286, za_288, za_289, za_290, za_291, za_292, za_293, za_294, za_295, za_296, za_297, za_298, za_299, za_300, za_301, za_302, za_303, za_304, za_305, za_306, za_307, za_308, za_309, za_310, za_311, za_312, k15]; first | done | omega) ?_
        refine zwp_letE (τ' := zw σ 69 14 r) (by simp (disch := first | assumption | exact isR33 | exact isT104 | exact isF99 | exact isF101 | exact isR3 | omega | (refine isTk ?_; omega) | (refine isOk isR33 ?_; omega) | (refine isOk ?_ ?_; assumption; omega)) only [mm_r, mm_rl, mm_add, mm_sub, mm_mul, mm_addJ, mm_mulJ, mm_lt, mm_le, mm_eq, mm_z, mm_cl, mm_w, mm_wl, mm_ite, mm_i2l, mm_l2i, mm_ltJ, mm_leJ, mm_eqJ, mm_clt, mm_cle, mm_cgt, mm_cge, mm_ceq, mm_b, mm_nb, mm_nb0, mm_nb1, mm_vb0, mm_vb1, mm_vbc, mm_vy0, mm_vy1, mm_at, mm_ne, mm_nj, mm_Lw, mm_Nw, mm_atJ, mm_neJ, mm_njJ, zbI_s, zbV_s, zbJ_s, cond_t, Bool.true_and, Bool.and_true, if_true, if_false, not_true, not_false_iff, Classical.not_not, zel_r, zel_42, zel_12, zel_71, zel_80, zel_89, zel_110, zel_188, zel_103, zel_195, zr_o, zr_1, zr_2, zr_3, zr_4, zr_5, zr_6, zr_7, zr_8, zr_9, zq_o, zq_v, zt_o, zt_1, zt_2, zt_3, zt_4, zt_5, zf_o, zf_1, za_w1, za_w2, za_w3, za_cm, za_sl, Int.toNat_natCast, Int.toNat_natCast_add_one, mm_t0, mm_t1, mm_t2, mm_t3, mm_t4, mm_t5, mm_t6, mm_t7, mm_t8, mm_t9, mm_t10, mm_t11, mm_t12, mm_t13, za_1, za_64, za_65, za_66, za_67, za_68, za_71, za_80, za_89, za_98, za_103, za_110, za_121, za_122, za_123, za_124, za_125, za_126, za_188, za_193, za_194, za_195, za_286, za_288, za_289, za_290, za_291, za_292, za_293, za_294, za_295, za_296, za_297, za_298, za_299, za_300, za_301, za_302, za_303, za_304, za_305, za_306, za_307, za_308, za_309, za_310, za_311, za_312]) ?_
        refine zwp_letE (τ' := zw (zw σ 69 14 r) 69 15 h) (by simp (disch := first | assumption | exact isR33 | exact isT104 | exact isF99 | exact isF101 | exact isR3 | omega | (refine isTk ?_; omega) | (refine isOk isR33 ?_; omega) | (refine isOk ?_ ?_; assumption; omega)) only [mm_r, mm_rl, mm_add, mm_sub, mm_mul, mm_addJ, mm_mulJ, mm_lt, mm_le, mm_eq, mm_z, mm_cl, mm_w, mm_wl, mm_ite, mm_i2l, mm_l2i, mm_ltJ, mm_leJ, mm_eqJ, mm_clt, mm_cle, mm_cgt, mm_cge, mm_ceq, mm_b, mm_nb, mm_nb0, mm_nb1, mm_vb0, mm_vb1, mm_vbc, mm_vy0, mm_vy1, mm_at, mm_ne, mm_nj, mm_Lw, mm_Nw, mm_atJ, mm_neJ, mm_njJ, zbI_s, zbV_s, zbJ_s, cond_t, Bool.true_and, Bool.and_true, if_true, if_false, not_true, not_false_iff, Classical.not_not, zel_r, zel_42, zel_12, zel_71, zel_80, zel_89, zel_110, zel_188, zel_103, zel_195, zr_o, zr_1, zr_2, zr_3, zr_4, zr_5, zr_6, zr_7, zr_8, zr_9, zq_o, zq_v, zt_o, zt_1, zt_2, zt_3, zt_4, zt_5, zf_o, zf_1, za_w1, za_w2, za_w3, za_cm, za_sl, Int.toNat_natCast, Int.toNat_natCast_add_one, mm_t0, mm_t1, mm_t2, mm_t3, mm_t4, mm_t5, mm_t6, mm_t7, mm_t8, mm_t9, mm_t10, mm_t11, mm_t12, mm_t13, za_1, za_64, za_65, za_66, za_67, za_68, za_71, za_80, za_89, za_98, za_103, za_110, za_121, za_122, za_123, za_124, za_125, za_126, za_188, za_193, za_194, za_195, za_286, za_288, za_289, za_290, za_291, za_292, za_293, za_294, za_295, za_296, za_297, za_298, za_299, za_300, za_301, za_302, za_303, za_304, za_305, za_306, za_307, za_308, za_309, za_310, za_311, za_312]) ?_
        refine zwp_letE (τ' := zw (zw (zw σ 69 14 r) 69 15 h) 69 16 v) (by simp (disch := first | assumption | exact isR33 | exact isT104 | exact isF99 | exact isF101 | exact isR3 | omega | (refine isTk ?_; omega) | (refine isOk isR33 ?_; omega) | (refine isOk ?_ ?_; assumption; omega)) only [mm_r, mm_rl, mm_add, mm_sub, mm_mul, mm_addJ, mm_mulJ, mm_lt, mm_le, mm_eq, mm_z, mm_cl, mm_w, mm_wl, mm_ite, mm_i2l, mm_l2i, mm_ltJ, mm_leJ, mm_eqJ, mm_clt, mm_cle, mm_cgt, mm_cge, mm_ceq, mm_b, mm_nb, mm_nb0, mm_nb1, mm_vb0, mm_vb1, mm_vbc, mm_vy0, mm_vy1, mm_at, mm_ne, mm_nj, mm_Lw, mm_Nw, mm_atJ, mm_neJ, mm_njJ, zbI_s, zbV_s, zbJ_s, cond_t, Bool.true_and, Bool.and_true, if_true, if_false, not_true, not_false_iff, Classical.not_not, zel_r, zel_42, zel_12, zel_71, zel_80, zel_89, zel_110, zel_188, zel_103, zel_195, zr_o, zr_1, zr_2, zr_3, zr_4, zr_5, zr_6, zr_7, zr_8, zr_9, zq_o, zq_v, zt_o, zt_1, zt_2, zt_3, zt_4, zt_5, zf_o, zf_1, za_w1, za_w2, za_w3, za_cm, za_sl, Int.toNat_natCast, Int.toNat_natCast_add_one, mm_t0, mm_t1, mm_t2, mm_t3, mm_t4, mm_t5, mm_t6, mm_t7, mm_t8, mm_t9, mm_t10, mm_t11, mm_t12, mm_t13, za_1, za_64, za_65, za_66, za_67, za_68, za_71, za_80, za_89, za_98, za_103, za_110, za_121, za_122, za_123, za_124, za_125, za_126, za_188, za_193, za_194, za_195, za_286, za_288, za_289, za_290, za_291, za_292, za_293, za_294, za_295, za_296, za_297, za_298, za_299, za_300, za_301, za_302, za_303, za_304, za_305, za_306, za_307, za_308, za_309, za_310, za_311, za_312]) ?_
        refine zwp_ret ⟨rfl, hf3, hset.mpr (.inr ⟨hs, .inr ⟨rfl, .inr ⟨rfl, by omega⟩⟩, fun r' h' v' g1 g2 => ?_⟩)⟩
        have := p3 r' h' v' g1
        unfold bC at this g2 p2
        unfold lx at this ⊢
        omega
    · refine zwp_t (by try simp (disch := first | assumption | exact isR33 | exact isT104 | exact isF99 | exact isF101 | exact isR3 | omega | (refine isTk ?_; omega) | (refine isOk isR33 ?_; omega) | (refine isOk ?_ ?_; assumption; omega)) only [mm_r, mm_rl, mm_add, mm_sub, mm_mul, mm_addJ, mm_mulJ, mm_lt, mm_le, mm_eq, mm_z, mm_cl, mm_w, mm_wl, mm_ite, mm_i2l, mm_l2i, mm_ltJ, mm_leJ, mm_eqJ, mm_clt, mm_cle, mm_cgt, mm_cge, mm_ceq, mm_b, mm_nb, mm_nb0, mm_nb1, mm_vb0, mm_vb1, mm_vbc, mm_vy0, mm_vy1, mm_at, mm_ne, mm_nj, mm_Lw, mm_Nw, mm_atJ, mm_neJ, mm_njJ, zbI_s, zbV_s, zbJ_s, cond_t, Bool.true_and, Bool.and_true, if_true, if_false, not_true, not_false_iff, Classical.not_not, zel_r, zel_42, zel_12, zel_71, zel_80, zel_89, zel_110, zel_188, zel_103, zel_195, zr_o, zr_1, zr_2, zr_3, zr_4, zr_5, zr_6, zr_7, zr_8, zr_9, zq_o, zq_v, zt_o, zt_1, zt_2, zt_3, zt_4, zt_5, zf_o, zf_1, za_w1, za_w2, za_w3, za_cm, za_sl, Int.toNat_natCast, Int.toNat_natCast_add_one, mm_t0, mm_t1, mm_t2, mm_t3, mm_t4, mm_t5, mm_t6, mm_t7, mm_t8, mm_t9, mm_t10, mm_t11, mm_t12, mm_t13, za_1, za_64, za_65, za_66, za_67, za_68, za_71, za_80, za_89, za_98, za_103, za_110, za_121, za_122, za_123, za_124, za_125, za_126, za_188, za_193, za_194, za_195, za_286, za_288, za_289, za_290, za_291, za_292, za_293, za_294, za_295, za_296, za_297, za_298, za_299, za_300, za_301, za_302, za_303, za_304, za_305, za_306, za_307, za_308, za_309, za_310, za_311, za_312, h2]; first | done | omega) ?_
      refine zwp_ret ⟨rfl, mf.rf, a, b, c, .inr ⟨p1, ?_, fun r' h' v' g1 g2 => ?_⟩, h2, h3⟩
      · unfold bC at p2 ⊢
        omega
      · have := p3 r' h' v' g1
        unfold bC at this g2 p2
        unfold lx at this ⊢
        omega
theorem lp_27 {σ0 : zM} {W : Int → Int} {o x r v : Int} (hW : WOK W) (hC : ctC σ0 W) (o0 : 0 ≤ o) (o1 : o < W 5) (x0 : 0 ≤ x) (x1 : x < W 1) (r0 : 0 ≤ r) (r1 : r < W 4) (v0 : -1 ≤ v) (v1 : v < W 0) : ∀ (k h : Nat) (σ : zM), (h : Int) + k = x + 1 → uS σ0 σ W o x → tC σ 104 W (wayBy W (oo W o 4) v (oo W o 5)) → uB σ W o x (bC r v h) → zwp (zev 27 6 [some (.ref 69), some (.int (Int32.ofInt r)), some (.int (Int32.ofInt v)), some (.int (Int32.ofInt x)), some (.int (Int32.ofInt (zsum (fun h => t01 (Ps W o x r v h)) h))), some (.int (Int32.ofInt h)), none] [] σ) (fun v' τ => v' = some (.int (Int32.ofInt (zsum (fun h => t01 (Ps W o x r v h)) (x + 1).toNat))) ∧ uS σ0 τ W o x ∧ uB τ W o x (bC r v (x + 1)))
  | 0, h, σ, e, hS, hT, hB => by
    have h9 := hW.1.2.2.1
    refine zwp_of (fun r h => ze_27_6 _ _ _ _ _ _ r h) ?_
    refine zwp_t (by try simp (disch := first | assumption | exact isR33 | exact isT104 | exact isF99 | exact isF101 | exact isR3 | omega | (refine isTk ?_; omega) | (refine isOk isR33 ?_; omega) | (refine isOk ?_ ?_; assumption; omega)) only [mm_r, mm_rl, mm_add, mm_sub, mm_mul, mm_addJ, mm_mulJ, mm_lt, mm_le, mm_eq, mm_z, mm_cl, mm_w, mm_wl, mm_ite, mm_i2l, mm_l2i, mm_ltJ, mm_leJ, mm_eqJ, mm_clt, mm_cle, mm_cgt, mm_cge, mm_ceq, mm_b, mm_nb, mm_nb0, mm_nb1, mm_vb0, mm_vb1, mm_vbc, mm_vy0, mm_vy1, mm_at, mm_ne, mm_nj, mm_Lw, mm_Nw, mm_atJ, mm_neJ, mm_njJ, zbI_s, zbV_s, zbJ_s, cond_t, Bool.true_and, Bool.and_true, if_true, if_false, not_true, not_false_iff, Classical.not_not, zel_r, zel_42, zel_12, zel_71, zel_80, zel_89, zel_110, zel_188, zel_103, zel_195, zr_o, zr_1, zr_2, zr_3, zr_4, zr_5, zr_6, zr_7, zr_8, zr_9, zq_o, zq_v, zt_o, zt_1, zt_2, zt_3, zt_4, zt_5, zf_o, zf_1, za_w1, za_w2, za_w3, za_cm, za_sl, Int.toNat_natCast, Int.toNat_natCast_add_one, mm_t0, mm_t1, mm_t2, mm_t3, mm_t4, mm_t5, mm_t6, mm_t7, mm_t8, mm_t9, mm_t10, mm_t11, mm_t12, mm_t13, za_1, za_64, za_65, za_66, za_67, za_68, za_71, za_80, za_89, za_98, za_103, za_110, za_121, za_122, za_123, za_124, za_125, za_126, za_188, za_193, za_194, za_195, za_286, za_288, za_289, za_290, za_291, za_292, za_293, za_294, za_295, za_296, za_297, za_298, za_299, za_300, za_301, za_302, za_303, za_304, za_305, za_306, za_307, za_308, za_309, za_310, za_311, za_312]
                     first | done | omega) ?_
    rw [show (x + 1).toNat = h by omega]
    refine zwp_ret ⟨rfl, hS, ?_⟩
    rw [show x + 1 = (h : Int) by omega]
    exact hB
  | k + 1, h, σ, e, hS, hT, hB => by
    have h9 := hW.1.2.2.1
    have h8 := hW.1.1.2.1
    have h5 := hW.2.2.1
    have ho := (hW.2.2.2.2 o o0 o1).1
    have hN := (wayBy_N hW.1.1 (v := v) ho.1 ho.2.1 (by omega) ho.2.2.1 ho.2.2.2.1).1.le (m := 29) (by omega)
    obtain ⟨p0, p1, q0, q1⟩ := hW.2.2.2.1 r r0 r1
    have hF := hC.2.2.1.fr (hS.1.1 99 (by omega)) (hS.1.1 100 (by omega))
    have hL : cL σ 33 W := hC.1.fr (by omega) fun a a1 a2 => hS.1.1 a (by omega)
    obtain ⟨e7, e8⟩ := hL.2.2.2.1 r r0 r1
    have cr := CMw_rng (F := FL W noD) (h := h) hW.1 hN (by omega) (by omega) p0 p1 q0 q1
    have hx : (if (wayBy W (oo W o 4) v (oo W o 5)).1 = 0 then -1 else tI W (FL W noD) (wayBy W (oo W o 4) v (oo W o 5)) h (W (68 + 2 * r)) (W (68 + 2 * r + 1)) ((wayBy W (oo W o 4) v (oo W o 5)).1 - 1).toNat) = -1 ∨ 0 ≤ (if (wayBy W (oo W o 4) v (oo W o 5)).1 = 0 then -1 else tI W (FL W noD) (wayBy W (oo W o 4) v (oo W o 5)) h (W (68 + 2 * r)) (W (68 + 2 * r + 1)) ((wayBy W (oo W o 4) v (oo W o 5)).1 - 1).toNat) ∧ (if (wayBy W (oo W o 4) v (oo W o 5)).1 = 0 then -1 else tI W (FL W noD) (wayBy W (oo W o 4) v (oo W o 5)) h (W (68 + 2 * r)) (W (68 + 2 * r + 1)) ((wayBy W (oo W o 4) v (oo W o 5)).1 - 1).toNat) < 100000 := by
      rcases hN with q | ⟨w0, w1, w2⟩
      · rw [if_pos q]
        exact .inl rfl
      · rw [if_neg (by omega)]
        have := tI_rng hW.1.1 h9 (F := FL W noD) w2 (h := h) (by omega) (by omega) p0 p1 q0 q1 ((wayBy W (oo W o 4) v (oo W o 5)).1 - 1).toNat (by omega)
        exact .inr (by omega)
    have ec := cr.1
    have s94 := sp_94 (h := h) isT104 isF99 hW.1 hN (by omega) (by omega) p0 p1 q0 q1 hT hF
    generalize hxx : (if (wayBy W (oo W o 4) v (oo W o 5)).1 = 0 then -1 else tI W (FL W noD) (wayBy W (oo W o 4) v (oo W o 5)) h (W (68 + 2 * r)) (W (68 + 2 * r + 1)) ((wayBy W (oo W o 4) v (oo W o 5)).1 - 1).toNat) = y at hx s94
    have ec : Csd W o r v h = if 0 ≤ y ∧ y < W 1 then y else -1 := by
      rw [← hxx]
      exact ec
    have ez : zsum (fun h => t01 (Ps W o x r v h)) (h + 1) = zsum (fun h => t01 (Ps W o x r v h)) h + t01 (Ps W o x r v h) := rfl
    have step : ∀ τ, uS σ0 τ W o x → tC τ 104 W (wayBy W (oo W o 4) v (oo W o 5)) → uB τ W o x (bC r v h) → Ps W o x r v h = false → zwp (zev 27 6 [some (.ref 69), some (.int (Int32.ofInt r)), some (.int (Int32.ofInt v)), some (.int (Int32.ofInt x)), some (.int (Int32.ofInt (zsum (fun h => t01 (Ps W o x r v h)) h))), some (.int (Int32.ofInt ((h : Int) + 1))), none] [] τ) (fun v' τ => v' = some (.int (Int32.ofInt (zsum (fun h => t01 (Ps W o x r v h)) (x + 1).toNat))) ∧ uS σ0 τ W o x ∧ uB τ W o x (bC r v (x + 1))) := by
      intro τ a1 a2 a3 a4
      have l := lp_27 hW hC o0 o1 x0 x1 r0 r1 v0 v1 k (h + 1) τ (by omega) a1 a2 (a3.eq fun r' h' v' hs => by
        unfold bC
        constructor
        · intro p
          omega
        · intro p
          by_cases z : r' = r ∧ v' = v ∧ h' = h
          · obtain ⟨z1, z2, z3⟩ := z
            have := hs.2.2.2.2.2.2
            rw [z1, z2, z3, a4] at this
            exact absurd this (by decide)
          · omega)
      rw [ez, a4] at l
      have t0 : t01 false = 0 := rfl
      rw [t0, Int.add_zero] at l
      exact l
    refine zwp_of (fun r h => ze_27_6 _ _ _ _ _ _ r h) ?_
    refine zwp_f (by try simp (disch := first | assumption | exact isR33 | exact isT104 | exact isF99 | exact isF101 | exact isR3 | omega | (refine isTk ?_; omega) | (refine isOk isR33 ?_; omega) | (refine isOk ?_ ?_; assumption; omega)) only [mm_r, mm_rl, mm_add, mm_sub, mm_mul, mm_addJ, mm_mulJ, mm_lt, mm_le, mm_eq, mm_z, mm_cl, mm_w, mm_wl, mm_ite, mm_i2l, mm_l2i, mm_ltJ, mm_leJ, mm_eqJ, mm_clt, mm_cle, mm_cgt, mm_cge, mm_ceq, mm_b, mm_nb, mm_nb0, mm_nb1, mm_vb0, mm_vb1, mm_vbc, mm_vy0, mm_vy1, mm_at, mm_ne, mm_nj, mm_Lw, mm_Nw, mm_atJ, mm_neJ, mm_njJ, zbI_s, zbV_s, zbJ_s, cond_t, Bool.true_and, Bool.and_true, if_true, if_false, not_true, not_false_iff, Classical.not_not, zel_r, zel_42, zel_12, zel_71, zel_80, zel_89, zel_110, zel_188, zel_103, zel_195, zr_o, zr_1, zr_2, zr_3, zr_4, zr_5, zr_6, zr_7, zr_8, zr_9, zq_o, zq_v, zt_o, zt_1, zt_2, zt_3, zt_4, zt_5, zf_o, zf_1, za_w1, za_w2, za_w3, za_cm, za_sl, Int.toNat_natCast, Int.toNat_natCast_add_one, mm_t0, mm_t1, mm_t2, mm_t3, mm_t4, mm_t5, mm_t6, mm_t7, mm_t8, mm_t9, mm_t10, mm_t11, mm_t12, mm_t13, za_1, za_64, za_65, za_66, za_67, za_68, za_71, za_80, za_89, za_98, za_103, za_110, za_121, za_122, za_123, za_124, za_125, za_126, za_188, za_193, za_194, za_195, za_286, za_288, za_289, za_290, za_291, za_292, za_293, za_294, za_295, za_296, za_297, za_298, za_299, za_300, za_301, za_302, za_303, za_304, za_305, za_306, za_307, za_308, za_309, za_310, za_311, za_312]
                     first | done | omega) ?_
    repeat (with_reducible refine zwp_cd ?_ ?_; (· simp (disch := first | assumption | exact isR33 | exact isT104 | exact isF99 | exact isF101 | exact isR3 | omega | (refine isTk ?_; omega) | (refine isOk isR33 ?_; omega) | (refine isOk ?_ ?_; assumption; omega)) only [mm_r, mm_rl, mm_add, mm_sub, mm_mul, mm_addJ, mm_mulJ, mm_lt, mm_le, mm_eq, mm_z, mm_cl, mm_w, mm_wl, mm_ite, mm_i2l, mm_l2i, mm_ltJ, mm_leJ, mm_eqJ, mm_clt, mm_cle, mm_cgt, mm_cge, mm_ceq, mm_b, mm_nb, mm_nb0, mm_nb1, mm_vb0, mm_vb1, mm_vbc, mm_vy0, mm_vy1, mm_at, mm_ne, mm_nj, mm_Lw, mm_Nw, mm_atJ, mm_neJ, mm_njJ, zbI_s, zbV_s, zbJ_s, cond_t, Bool.true_and, Bool.and_true, if_true, if_false, not_true, not_false_iff, Classical.not_not, zel_r, zel_42, zel_12, zel_71, zel_80, zel_89, zel_110, zel_188, zel_103, zel_195, zr_o, zr_1, zr_2, zr_3, zr_4, zr_5, zr_6, zr_7, zr_8, zr_9, zq_o, zq_v, zt_o, zt_1, zt_2, zt_3, zt_4, zt_5, zf_o, zf_1, za_w1, za_w2, za_w3, za_cm, za_sl, Int.toNat_natCast, Int.toNat_natCast_add_one, mm_t0, mm_t1, mm_t2, mm_t3, mm_t4, mm_t5, mm_t6, mm_t7, mm_t8, mm_t9, mm_t10, mm_t11, mm_t12, mm_t13, za_1, za_64, za_65, za_66, za_67, za_68, za_71, za_80, za_89, za_98, za_103, za_110, za_121, za_122, za_123, za_124, za_125, za_126, za_188, za_193, za_194, za_195, za_286, za_288, za_289, za_290, za_291, za_292, za_293, za_294, za_295, za_296, za_297, za_298, za_299, za_300, za_301, za_302, za_303, za_304, za_305, za_306, za_307, za_308, za_309, za_310, za_311, za_312]))
    refine zwp_IE (by simp (disch := first | assumption | exact isR33 | exact isT104 | exact isF99 | exact isF101 | exact isR3 | omega | (refine isTk ?_; omega) | (refine isOk isR33 ?_; omega) | (refine isOk ?_ ?_; assumption; omega)) only [mm_r, mm_rl, mm_add, mm_sub, mm_mul, mm_addJ, mm_mulJ, mm_lt, mm_le, mm_eq, mm_z, mm_cl, mm_w, mm_wl, mm_ite, mm_i2l, mm_l2i, mm_ltJ, mm_leJ, mm_eqJ, mm_clt, mm_cle, mm_cgt, mm_cge, mm_ceq, mm_b, mm_nb, mm_nb0, mm_nb1, mm_vb0, mm_vb1, mm_vbc, mm_vy0, mm_vy1, mm_at, mm_ne, mm_nj, mm_Lw, mm_Nw, mm_atJ, mm_neJ, mm_njJ, zbI_s, zbV_s, zbJ_s, cond_t, Bool.true_and, Bool.and_true, if_true, if_false, not_true, not_false_iff, Classical.not_not, zel_r, zel_42, zel_12, zel_71, zel_80, zel_89, zel_110, zel_188, zel_103, zel_195, zr_o, zr_1, zr_2, zr_3, zr_4, zr_5, zr_6, zr_7, zr_8, zr_9, zq_o, zq_v, zt_o, zt_1, zt_2, zt_3, zt_4, zt_5, zf_o, zf_1, za_w1, za_w2, za_w3, za_cm, za_sl, Int.toNat_natCast, Int.toNat_natCast_add_one, mm_t0, mm_t1, mm_t2, mm_t3, mm_t4, mm_t5, mm_t6, mm_t7, mm_t8, mm_t9, mm_t10, mm_t11, mm_t12, mm_t13, za_1, za_64, za_65, za_66, za_67, za_68, za_71, za_80, za_89, za_98, za_103, za_110, za_121, za_122, za_123, za_124, za_125, za_126, za_188, za_193, za_194, za_195, za_286, za_288, za_289, za_290, za_291, za_292, za_293, za_294, za_295, za_296, za_297, za_298, za_299, za_300, za_301, za_302, za_303, za_304, za_305, za_306, za_307, za_308, za_309, za_310, za_311, za_312, e7, e8]
                      exact s94) ?_
    rintro τ ⟨hf, -⟩
    have hS2 : uS σ0 τ W o x := ⟨hS.1.tr (hf.mono (by omega)), fun j hj => (hf.1 125 (by omega) j).trans (hS.2 j hj)⟩
    have hT2 := hT.fr6 hf (by omega)
    have hB2 : uB τ W o x (bC r v h) := hB.fr (hf.1 69 (by omega))
    by_cases q1 : y = -1
    · refine zwp_t (by try simp (disch := first | assumption | exact isR33 | exact isT104 | exact isF99 | exact isF101 | exact isR3 | omega | (refine isTk ?_; omega) | (refine isOk isR33 ?_; omega) | (refine isOk ?_ ?_; assumption; omega)) only [mm_r, mm_rl, mm_add, mm_sub, mm_mul, mm_addJ, mm_mulJ, mm_lt, mm_le, mm_eq, mm_z, mm_cl, mm_w, mm_wl, mm_ite, mm_i2l, mm_l2i, mm_ltJ, mm_leJ, mm_eqJ, mm_clt, mm_cle, mm_cgt, mm_cge, mm_ceq, mm_b, mm_nb, mm_nb0, mm_nb1, mm_vb0, mm_vb1, mm_vbc, mm_vy0, mm_vy1, mm_at, mm_ne, mm_nj, mm_Lw, mm_Nw, mm_atJ, mm_neJ, mm_njJ, zbI_s, zbV_s, zbJ_s, cond_t, Bool.true_and, Bool.and_true, if_true, if_false, not_true, not_false_iff, Classical.not_not, zel_r, zel_42, zel_12, zel_71, zel_80, zel_89, zel_110, zel_188, zel_103, zel_195, zr_o, zr_1, zr_2, zr_3, zr_4, zr_5, zr_6, zr_7, zr_8, zr_9, zq_o, zq_v, zt_o, zt_1, zt_2, zt_3, zt_4, zt_5, zf_o, zf_1, za_w1, za_w2, za_w3, za_cm, za_sl, Int.toNat_natCast, Int.toNat_natCast_add_one, mm_t0, mm_t1, mm_t2, mm_t3, mm_t4, mm_t5, mm_t6, mm_t7, mm_t8, mm_t9, mm_t10, mm_t11, mm_t12, mm_t13, za_1, za_64, za_65, za_66, za_67, za_68, za_71, za_80, za_89, za_98, za_103, za_110, za_121, za_122, za_123, za_124, za_125, za_126, za_188, za_193, za_194, za_195, za_286, za_288, za_289, za_290, za_291, za_292, za_293, za_294, za_295, za_296, za_297, za_298, za_299, za_300, za_301, za_302, za_303, za_304, za_305, za_306, za_307, za_308, za_309, za_310, za_311, za_312]
                       first | done | omega) ?_
      rw [mm_add]
      refine step τ hS2 hT2 hB2 (Bool.not_eq_true _ |>.mp fun p => ?_)
      have p := (Pc_in o0 p).1
      rw [ec, if_neg (by omega)] at p
      exact p rfl
    · refine zwp_f (by try simp (disch := first | assumption | exact isR33 | exact isT104 | exact isF99 | exact isF101 | exact isR3 | omega | (refine isTk ?_; omega) | (refine isOk isR33 ?_; omega) | (refine isOk ?_ ?_; assumption; omega)) only [mm_r, mm_rl, mm_add, mm_sub, mm_mul, mm_addJ, mm_mulJ, mm_lt, mm_le, mm_eq, mm_z, mm_cl, mm_w, mm_wl, mm_ite, mm_i2l, mm_l2i, mm_ltJ, mm_leJ, mm_eqJ, mm_clt, mm_cle, mm_cgt, mm_cge, mm_ceq, mm_b, mm_nb, mm_nb0, mm_nb1, mm_vb0, mm_vb1, mm_vbc, mm_vy0, mm_vy1, mm_at, mm_ne, mm_nj, mm_Lw, mm_Nw, mm_atJ, mm_neJ, mm_njJ, zbI_s, zbV_s, zbJ_s, cond_t, Bool.true_and, Bool.and_true, if_true, if_false, not_true, not_false_iff, Classical.not_not, zel_r, zel_42, zel_12, zel_71, zel_80, zel_89, zel_110, zel_188, zel_103, zel_195, zr_o, zr_1, zr_2, zr_3, zr_4, zr_5, zr_6, zr_7, zr_8, zr_9, zq_o, zq_v, zt_o, zt_1, zt_2, zt_3, zt_4, zt_5, zf_o, zf_1, za_w1, za_w2, za_w3, za_cm, za_sl, Int.toNat_natCast, Int.toNat_natCast_add_one, mm_t0, mm_t1, mm_t2, mm_t3, mm_t4, mm_t5, mm_t6, mm_t7, mm_t8, mm_t9, mm_t10, mm_t11, mm_t12, mm_t13, za_1, za_64, za_65, za_66, za_67, za_68, za_71, za_80, za_89, za_98, za_103, za_110, za_121, za_122, za_123, za_124, za_125, za_126, za_188, za_193, za_194, za_195, za_286, za_288, za_289, za_290, za_291, za_292, za_293, za_294, za_295, za_296, za_297, za_298, za_299, za_300, za_301, za_302, za_303, za_304, za_305, za_306, za_307, za_308, za_309, za_310, za_311, za_312]
                       first | done | omega) ?_
      by_cases q2 : x < y
      · refine zwp_t (by try simp (disch := first | assumption | exact isR33 | exact isT104 | exact isF99 | exact isF101 | exact isR3 | omega | (refine isTk ?_; omega) | (refine isOk isR33 ?_; omega) | (refine isOk ?_ ?_; assumption; omega)) only [mm_r, mm_rl, mm_add, mm_sub, mm_mul, mm_addJ, mm_mulJ, mm_lt, mm_le, mm_eq, mm_z, mm_cl, mm_w, mm_wl, mm_ite, mm_i2l, mm_l2i, mm_ltJ, mm_leJ, mm_eqJ, mm_clt, mm_cle, mm_cgt, mm_cge, mm_ceq, mm_b, mm_nb, mm_nb0, mm_nb1, mm_vb0, mm_vb1, mm_vbc, mm_vy0, mm_vy1, mm_at, mm_ne, mm_nj, mm_Lw, mm_Nw, mm_atJ, mm_neJ, mm_njJ, zbI_s, zbV_s, zbJ_s, cond_t, Bool.true_and, Bool.and_true, if_true, if_false, not_true, not_false_iff, Classical.not_not, zel_r, zel_42, zel_12, zel_71, zel_80, zel_89, zel_110, zel_188, zel_103, zel_195, zr_o, zr_1, zr_2, zr_3, zr_4, zr_5, zr_6, zr_7, zr_8, zr_9, zq_o, zq_v, zt_o, zt_1, zt_2, zt_3, zt_4, zt_5, zf_o, zf_1, za_w1, za_w2, za_w3, za_cm, za_sl, Int.toNat_natCast, Int.toNat_natCast_add_one, mm_t0, mm_t1, mm_t2, mm_t3, mm_t4, mm_t5, mm_t6, mm_t7, mm_t8, mm_t9, mm_t10, mm_t11, mm_t12, mm_t13, za_1, za_64, za_65, za_66, za_67, za_68, za_71, za_80, za_89, za_98, za_103, za_110, za_121, za_122, za_123, za_124, za_125, za_126, za_188, za_193, za_194, za_195, za_286, za_288, za_289, za_290, za_291, za_292, za_293, za_294, za_295, za_296, za_297, za_298, za_299, za_300, za_301, za_302, za_303, za_304, za_305, za_306, za_307, za_308, za_309, za_310, za_311, za_312]
                         first | done | omega) ?_
        rw [mm_add]
        refine step τ hS2 hT2 hB2 (Bool.not_eq_true _ |>.mp fun p => ?_)
        have p := Pc_in o0 p
        rw [ec] at p
        by_cases z : y < W 1
        · rw [if_pos ⟨by omega, z⟩] at p
          omega
        · rw [if_neg (fun a => z a.2)] at p
          exact p.1 rfl
      · refine zwp_f (by try simp (disch := first | assumption | exact isR33 | exact isT104 | exact isF99 | exact isF101 | exact isR3 | omega | (refine isTk ?_; omega) | (refine isOk isR33 ?_; omega) | (refine isOk ?_ ?_; assumption; omega)) only [mm_r, mm_rl, mm_add, mm_sub, mm_mul, mm_addJ, mm_mulJ, mm_lt, mm_le, mm_eq, mm_z, mm_cl, mm_w, mm_wl, mm_ite, mm_i2l, mm_l2i, mm_ltJ, mm_leJ, mm_eqJ, mm_clt, mm_cle, mm_cgt, mm_cge, mm_ceq, mm_b, mm_nb, mm_nb0, mm_nb1, mm_vb0, mm_vb1, mm_vbc, mm_vy0, mm_vy1, mm_at, mm_ne, mm_nj, mm_Lw, mm_Nw, mm_atJ, mm_neJ, mm_njJ, zbI_s, zbV_s, zbJ_s, cond_t, Bool.true_and, Bool.and_true, if_true, if_false, not_true, not_false_iff, Classical.not_not, zel_r, zel_42, zel_12, zel_71, zel_80, zel_89, zel_110, zel_188, zel_103, zel_195, zr_o, zr_1, zr_2, zr_3, zr_4, zr_5, zr_6, zr_7, zr_8, zr_9, zq_o, zq_v, zt_o, zt_1, zt_2, zt_3, zt_4, zt_5, zf_o, zf_1, za_w1, za_w2, za_w3, za_cm, za_sl, Int.toNat_natCast, Int.toNat_natCast_add_one, mm_t0, mm_t1, mm_t2, mm_t3, mm_t4, mm_t5, mm_t6, mm_t7, mm_t8, mm_t9, mm_t10, mm_t11, mm_t12, mm_t13, za_1, za_64, za_65, za_66, za_67, za_68, za_71, za_80, za_89, za_98, za_103, za_110, za_121, za_122, za_123, za_124, za_125, za_126, za_188, za_193, za_194, za_195, za_286, za_288, za_289, za_290, za_291, za_292, za_293, za_294, za_295, za_296, za_297, za_298, za_299, za_300, za_301, za_302, za_303, za_304, za_305, za_306, za_307, za_308, za_309, za_310, za_311, za_312]
                         first | done | omega) ?_
        rw [if_pos (⟨by omega, by omega⟩ : 0 ≤ y ∧ y < W 1)] at ec
        have e125 := hS2.2 y.toNat (by omega)
        rw [show ((y.toNat : Nat) : Int) = y by omega] at e125
        have eP : Pc W o x y = Ps W o x r v h := by
          unfold Ps
          rw [ec]
        rw [eP] at e125
        refine zwp_cd (za_125 (by omega) (by omega)) ?_
        by_cases q3 : Ps W o x r v h = true
        · rw [q3] at e125
          have e125 : zN τ 125 y.toNat = 1 := e125
          refine zwp_f (by try simp (disch := first | assumption | exact isR33 | exact isT104 | exact isF99 | exact isF101 | exact isR3 | omega | (refine isTk ?_; omega) | (refine isOk isR33 ?_; omega) | (refine isOk ?_ ?_; assumption; omega)) only [mm_r, mm_rl, mm_add, mm_sub, mm_mul, mm_addJ, mm_mulJ, mm_lt, mm_le, mm_eq, mm_z, mm_cl, mm_w, mm_wl, mm_ite, mm_i2l, mm_l2i, mm_ltJ, mm_leJ, mm_eqJ, mm_clt, mm_cle, mm_cgt, mm_cge, mm_ceq, mm_b, mm_nb, mm_nb0, mm_nb1, mm_vb0, mm_vb1, mm_vbc, mm_vy0, mm_vy1, mm_at, mm_ne, mm_nj, mm_Lw, mm_Nw, mm_atJ, mm_neJ, mm_njJ, zbI_s, zbV_s, zbJ_s, cond_t, Bool.true_and, Bool.and_true, if_true, if_false, not_true, not_false_iff, Classical.not_not, zel_r, zel_42, zel_12, zel_71, zel_80, zel_89, zel_110, zel_188, zel_103, zel_195, zr_o, zr_1, zr_2, zr_3, zr_4, zr_5, zr_6, zr_7, zr_8, zr_9, zq_o, zq_v, zt_o, zt_1, zt_2, zt_3, zt_4, zt_5, zf_o, zf_1, za_w1, za_w2, za_w3, za_cm, za_sl, Int.toNat_natCast, Int.toNat_natCast_add_one, mm_t0, mm_t1, mm_t2, mm_t3, mm_t4, mm_t5, mm_t6, mm_t7, mm_t8, mm_t9, mm_t10, mm_t11, mm_t12, mm_t13, za_1, za_64, za_65, za_66, za_67, za_68, za_71, za_80, za_89, za_98, za_103, za_110, za_121, za_122, za_123, za_124, za_125, za_126, za_188, za_193, za_194, za_195, za_286, za_288, za_289, za_290, za_291, za_292, za_293, za_294, za_295, za_296, za_297, za_298, za_299, za_300, za_301, za_302, za_303, za_304, za_305, za_306, za_307, za_308, za_309, za_310, za_311, za_312, e125]; first | done | omega) ?_
          refine zwp_V _ (sp_28 hB2 hW ⟨r0, r1, by omega, by omega, v0, v1, q3⟩) ?_
          rintro υ ⟨hf2, hB3⟩
          have hS3 : uS σ0 υ W o x := ⟨hS2.1.tr (hf2.mono (by omega)), fun j hj => (hf2.1 125 (by omega) j).trans (hS2.2 j hj)⟩
          have l := lp_27 hW hC o0 o1 x0 x1 r0 r1 v0 v1 k (h + 1) υ (by omega) hS3 (hT2.fr fun b b0 b1 => hf2.1 b (by omega)) hB3
          rw [ez, q3] at l
          rw [mm_add, mm_add]
          exact l
        · have q3 := Bool.not_eq_true _ |>.mp q3
          rw [q3] at e125
          have e125 : zN τ 125 y.toNat = 0 := e125
          refine zwp_t (by try simp (disch := first | assumption | exact isR33 | exact isT104 | exact isF99 | exact isF101 | exact isR3 | omega | (refine isTk ?_; omega) | (refine isOk isR33 ?_; omega) | (refine isOk ?_ ?_; assumption; omega)) only [mm_r, mm_rl, mm_add, mm_sub, mm_mul, mm_addJ, mm_mulJ, mm_lt, mm_le, mm_eq, mm_z, mm_cl, mm_w, mm_wl, mm_ite, mm_i2l, mm_l2i, mm_ltJ, mm_leJ, mm_eqJ, mm_clt, mm_cle, mm_cgt, mm_cge, mm_ceq, mm_b, mm_nb, mm_nb0, mm_nb1, mm_vb0, mm_vb1, mm_vbc, mm_vy0, mm_vy1, mm_at, mm_ne, mm_nj, mm_Lw, mm_Nw, mm_atJ, mm_neJ, mm_njJ, zbI_s, zbV_s, zbJ_s, cond_t, Bool.true_and, Bool.and_true, if_true, if_false, not_true, not_false_iff, Classical.not_not, zel_r, zel_42, zel_12, zel_71, zel_80, zel_89, zel_110, zel_188, zel_103, zel_195, zr_o, zr_1, zr_2, zr_3, zr_4, zr_5, zr_6, zr_7, zr_8, zr_9, zq_o, zq_v, zt_o, zt_1, zt_2, zt_3, zt_4, zt_5, zf_o, zf_1, za_w1, za_w2, za_w3, za_cm, za_sl, Int.toNat_natCast, Int.toNat_natCast_add_one, mm_t0, mm_t1, mm_t2, mm_t3, mm_t4, mm_t5, mm_t6, mm_t7, mm_t8, mm_t9, mm_t10, mm_t11, mm_t12, mm_t13, za_1, za_64, za_65, za_66, za_67, za_68, za_71, za_80, za_89, za_98, za_103, za_110, za_121, za_122, za_123, za_124, za_125, za_126, za_188, za_193, za_194, za_195, za_286, za_288, za_289, za_290, za_291, za_292, za_293, za_294, za_295, za_296, za_297, za_298, za_299, za_300, za_301, za_302, za_303, za_304, za_305, za_306, za_307, za_308, za_309, za_310, za_311, za_312, e125]; first | done | omega) ?_
          rw [mm_add]
          exact step τ hS2 hT2 hB2 q3
theorem lp_26_51 {σ0 : zM} {W : Int → Int} {o x r cc : Int} (hW : WOK W) (hC : ctC σ0 W) (o0 : 0 ≤ o) (o1 : o < W 5) (x0 : 0 ≤ x) (x1 : x < W 1) (r0 : 0 ≤ r) (r1 : r < W 4) {Q : Option Value → zM → Prop}
    (K : ∀ τ, uS σ0 τ W o x → uB τ W o x (bC (r + 1) (-1) 0) → zwp (zev 26 36 [some (.ref 69), some (.int (Int32.ofInt o)), some (.int (Int32.ofInt x)), some (.int (Int32.ofInt (cc + zsum (fun j => zsum (fun h => t01 (Ps W o x r (j - 1) h)) (x + 1).toNat) (W 0 + 1).toNat))), some (.int (Int32.ofInt (r + 1))), none] [] τ) Q) : ∀ (k j : Nat) (σ : zM), (j : Int) + k = W 0 + 1 → uS σ0 σ W o x → uB σ W o x (bC r ((j : Int) - 1) 0) → zwp (zev 26 51 [some (.ref 69), some (.int (Int32.ofInt o)), some (.int (Int32.ofInt x)), some (.int (Int32.ofInt (cc + zsum (fun j => zsum (fun h => t01 (Ps W o x r (j - 1) h)) (x + 1).toNat) j))), some (.int (Int32.ofInt r)), some (.int (Int32.ofInt ((j : Int) - 1)))] [] σ) Q
  | 0, j, σ, e, hS, hB => by
    have h9 := hW.1.2.2.1
    have h8 := hW.1.1.2.1
    have h80 := hW.1.1.1
    have h5 := hW.2.2.1
    have hL : cL σ 33 W := hC.1.fr (by omega) fun a a1 a2 => hS.1.1 a (by omega)
    have e1 := hL.1.2.1
    refine zwp_of (fun r h => ze_26_51 _ _ _ _ _ _ r h) ?_
    refine zwp_t (by try simp (disch := first | assumption | exact isR33 | exact isT104 | exact isF99 | exact isF101 | exact isR3 | omega | (refine isTk ?_; omega) | (refine isOk isR33 ?_; omega) | (refine isOk ?_ ?_; assumption; omega)) only [mm_r, mm_rl, mm_add, mm_sub, mm_mul, mm_addJ, mm_mulJ, mm_lt, mm_le, mm_eq, mm_z, mm_cl, mm_w, mm_wl, mm_ite, mm_i2l, mm_l2i, mm_ltJ, mm_leJ, mm_eqJ, mm_clt, mm_cle, mm_cgt, mm_cge, mm_ceq, mm_b, mm_nb, mm_nb0, mm_nb1, mm_vb0, mm_vb1, mm_vbc, mm_vy0, mm_vy1, mm_at, mm_ne, mm_nj, mm_Lw, mm_Nw, mm_atJ, mm_neJ, mm_njJ, zbI_s, zbV_s, zbJ_s, cond_t, Bool.true_and, Bool.and_true, if_true, if_false, not_true, not_false_iff, Classical.not_not, zel_r, zel_42, zel_12, zel_71, zel_80, zel_89, zel_110, zel_188, zel_103, zel_195, zr_o, zr_1, zr_2, zr_3, zr_4, zr_5, zr_6, zr_7, zr_8, zr_9, zq_o, zq_v, zt_o, zt_1, zt_2, zt_3, zt_4, zt_5, zf_o, zf_1, za_w1, za_w2, za_w3, za_cm, za_sl, Int.toNat_natCast, Int.toNat_natCast_add_one, mm_t0, mm_t1, mm_t2, mm_t3, mm_t4, mm_t5, mm_t6, mm_t7, mm_t8, mm_t9, mm_t10, mm_t11, mm_t12, mm_t13, za_1, za_64, za_65, za_66, za_67, za_68, za_71, za_80, za_89, za_98, za_103, za_110, za_121, za_122, za_123, za_124, za_125, za_126, za_188, za_193, za_194, za_195, za_286, za_288, za_289, za_290, za_291, za_292, za_293, za_294, za_295, za_296, za_297, za_298, za_299, za_300, za_301, za_302, za_303, za_304, za_305, za_306, za_307, za_308, za_309, za_310, za_311, za_312, e1]
                     first | done | omega) ?_
    rw [mm_add]
    have := K σ hS (hB.eq fun r' h' v' hs => by
      obtain ⟨a1, a2, a3, a4, a5, a6, -⟩ := hs
      unfold bC
      omega)
    rw [show (W 0 + 1).toNat = j by omega] at this
    exact this
  | k + 1, j, σ, e, hS, hB => by
    have h9 := hW.1.2.2.1
    have h8 := hW.1.1.2.1
    have h80 := hW.1.1.1
    have h5 := hW.2.2.1
    have hL : cL σ 33 W := hC.1.fr (by omega) fun a a1 a2 => hS.1.1 a (by omega)
    have e1 := hL.1.2.1
    have ho := (hW.2.2.2.2 o o0 o1).1
    have hO := hL.2.2.2.2 o o0 o1
    have e4 := hO.2.2.2.2.1
    have e5 := hO.2.2.2.2.2.1
    refine zwp_of (fun r h => ze_26_51 _ _ _ _ _ _ r h) ?_
    refine zwp_f (by try simp (disch := first | assumption | exact isR33 | exact isT104 | exact isF99 | exact isF101 | exact isR3 | omega | (refine isTk ?_; omega) | (refine isOk isR33 ?_; omega) | (refine isOk ?_ ?_; assumption; omega)) only [mm_r, mm_rl, mm_add, mm_sub, mm_mul, mm_addJ, mm_mulJ, mm_lt, mm_le, mm_eq, mm_z, mm_cl, mm_w, mm_wl, mm_ite, mm_i2l, mm_l2i, mm_ltJ, mm_leJ, mm_eqJ, mm_clt, mm_cle, mm_cgt, mm_cge, mm_ceq, mm_b, mm_nb, mm_nb0, mm_nb1, mm_vb0, mm_vb1, mm_vbc, mm_vy0, mm_vy1, mm_at, mm_ne, mm_nj, mm_Lw, mm_Nw, mm_atJ, mm_neJ, mm_njJ, zbI_s, zbV_s, zbJ_s, cond_t, Bool.true_and, Bool.and_true, if_true, if_false, not_true, not_false_iff, Classical.not_not, zel_r, zel_42, zel_12, zel_71, zel_80, zel_89, zel_110, zel_188, zel_103, zel_195, zr_o, zr_1, zr_2, zr_3, zr_4, zr_5, zr_6, zr_7, zr_8, zr_9, zq_o, zq_v, zt_o, zt_1, zt_2, zt_3, zt_4, zt_5, zf_o, zf_1, za_w1, za_w2, za_w3, za_cm, za_sl, Int.toNat_natCast, Int.toNat_natCast_add_one, mm_t0, mm_t1, mm_t2, mm_t3, mm_t4, mm_t5, mm_t6, mm_t7, mm_t8, mm_t9, mm_t10, mm_t11, mm_t12, mm_t13, za_1, za_64, za_65, za_66, za_67, za_68, za_71, za_80, za_89, za_98, za_103, za_110, za_121, za_122, za_123, za_124, za_125, za_126, za_188, za_193, za_194, za_195, za_286, za_288, za_289, za_290, za_291, za_292, za_293, za_294, za_295, za_296, za_297, za_298, za_299, za_300, za_301, za_302, za_303, za_304, za_305, za_306, za_307, za_308, za_309, za_310, za_311, za_312, e1]
                     first | done | omega) ?_
    repeat (with_reducible refine zwp_cd ?_ ?_; (· simp (disch := first | assumption | exact isR33 | exact isT104 | exact isF99 | exact isF101 | exact isR3 | omega | (refine isTk ?_; omega) | (refine isOk isR33 ?_; omega) | (refine isOk ?_ ?_; assumption; omega)) only [mm_r, mm_rl, mm_add, mm_sub, mm_mul, mm_addJ, mm_mulJ, mm_lt, mm_le, mm_eq, mm_z, mm_cl, mm_w, mm_wl, mm_ite, mm_i2l, mm_l2i, mm_ltJ, mm_leJ, mm_eqJ, mm_clt, mm_cle, mm_cgt, mm_cge, mm_ceq, mm_b, mm_nb, mm_nb0, mm_nb1, mm_vb0, mm_vb1, mm_vbc, mm_vy0, mm_vy1, mm_at, mm_ne, mm_nj, mm_Lw, mm_Nw, mm_atJ, mm_neJ, mm_njJ, zbI_s, zbV_s, zbJ_s, cond_t, Bool.true_and, Bool.and_true, if_true, if_false, not_true, not_false_iff, Classical.not_not, zel_r, zel_42, zel_12, zel_71, zel_80, zel_89, zel_110, zel_188, zel_103, zel_195, zr_o, zr_1, zr_2, zr_3, zr_4, zr_5, zr_6, zr_7, zr_8, zr_9, zq_o, zq_v, zt_o, zt_1, zt_2, zt_3, zt_4, zt_5, zf_o, zf_1, za_w1, za_w2, za_w3, za_cm, za_sl, Int.toNat_natCast, Int.toNat_natCast_add_one, mm_t0, mm_t1, mm_t2, mm_t3, mm_t4, mm_t5, mm_t6, mm_t7, mm_t8, mm_t9, mm_t10, mm_t11, mm_t12, mm_t13, za_1, za_64, za_65, za_66, za_67, za_68, za_71, za_80, za_89, za_98, za_103, za_110, za_121, za_122, za_123, za_124, za_125, za_126, za_188, za_193, za_194, za_195, za_286, za_288, za_289, za_290, za_291, za_292, za_293, za_294, za_295, za_296, za_297, za_298, za_299, za_300, za_301, za_302, za_303, za_304, za_305, za_306, za_307, za_308, za_309, za_310, za_311, za_312]))
    refine zwp_V (fun τ => mf (fun b => 104 ≤ b ∧ b < 104 + 4) σ τ ∧ tC τ 104 W (wayBy W (oo W o 4) ((j : Int) - 1) (oo W o 5))) (by
      simp (disch := first | assumption | exact isR33 | exact isT104 | exact isF99 | exact isF101 | exact isR3 | omega | (refine isTk ?_; omega) | (refine isOk isR33 ?_; omega) | (refine isOk ?_ ?_; assumption; omega)) only [mm_r, mm_rl, mm_add, mm_sub, mm_mul, mm_addJ, mm_mulJ, mm_lt, mm_le, mm_eq, mm_z, mm_cl, mm_w, mm_wl, mm_ite, mm_i2l, mm_l2i, mm_ltJ, mm_leJ, mm_eqJ, mm_clt, mm_cle, mm_cgt, mm_cge, mm_ceq, mm_b, mm_nb, mm_nb0, mm_nb1, mm_vb0, mm_vb1, mm_vbc, mm_vy0, mm_vy1, mm_at, mm_ne, mm_nj, mm_Lw, mm_Nw, mm_atJ, mm_neJ, mm_njJ, zbI_s, zbV_s, zbJ_s, cond_t, Bool.true_and, Bool.and_true, if_true, if_false, not_true, not_false_iff, Classical.not_not, zel_r, zel_42, zel_12, zel_71, zel_80, zel_89, zel_110, zel_188, zel_103, zel_195, zr_o, zr_1, zr_2, zr_3, zr_4, zr_5, zr_6, zr_7, zr_8, zr_9, zq_o, zq_v, zt_o, zt_1, zt_2, zt_3, zt_4, zt_5, zf_o, zf_1, za_w1, za_w2, za_w3, za_cm, za_sl, Int.toNat_natCast, Int.toNat_natCast_add_one, mm_t0, mm_t1, mm_t2, mm_t3, mm_t4, mm_t5, mm_t6, mm_t7, mm_t8, mm_t9, mm_t10, mm_t11, mm_t12, mm_t13, za_1, za_64, za_65, za_66, za_67, za_68, za_71, za_80, za_89, za_98, za_103, za_110, za_121, za_122, za_123, za_124, za_125, za_126, za_188, za_193, za_194, za_195, za_286, za_288, za_289, za_290, za_291, za_292, za_293, za_294, za_295, za_296, za_297, za_298, za_299, za_300, za_301, za_302, za_303, za_304, za_305, za_306, za_307, za_308, za_309, za_310, za_311, za_312, e4, e5]
      exact sp_91 isT104 hW.1.1 ho.1 ho.2.1 (by omega) ho.2.2.1 ho.2.2.2.1 (hC.2.1.fr h8 fun b b0 b1 => hS.1.1 b (by omega))) ?_
    rintro τ ⟨hf, hT⟩
    have hS2 : uS σ0 τ W o x := ⟨hS.1.tr (hf.mono (by omega)), fun j hj => (hf.1 125 (by omega) j).trans (hS.2 j hj)⟩
    refine zwp_IE (E := zsum (fun h => t01 (Ps W o x r ((j : Int) - 1) h)) (x + 1).toNat) (P := fun υ => uS σ0 υ W o x ∧ uB υ W o x (bC r ((j : Int) - 1) (x + 1))) ?_ ?_
    · refine zwp_of (fun r h => zcc_27 (ze_27_0 _ _ _ _ r h)) ?_
      exact lp_27 (r := r) (v := (j : Int) - 1) hW hC o0 o1 x0 x1 r0 r1 (by omega) (by omega) (x + 1).toNat 0 τ (by omega) hS2 hT (hB.fr (hf.1 69 (by omega)))
    · rintro υ ⟨hS3, hB3⟩
      have ez : zsum (fun j => zsum (fun h => t01 (Ps W o x r (j - 1) h)) (x + 1).toNat) (j + 1) = zsum (fun j => zsum (fun h => t01 (Ps W o x r (j - 1) h)) (x + 1).toNat) j + zsum (fun h => t01 (Ps W o x r ((j : Int) - 1) h)) (x + 1).toNat := rfl
      have l := lp_26_51 hW hC o0 o1 x0 x1 r0 r1 K k (j + 1) υ (by omega) hS3 (hB3.eq fun r' h' v' hs => by
        have := hs
        obtain ⟨a1, a2, a3, a4, a5, a6, a7⟩ := this
        have hle : h' ≤ x := by
          rcases Decidable.em (h' ≤ x) with z | z
          · exact z
          · have := Ps_late hW o0 o1 a1 a2 a5 a6 a3 (by omega) (by omega : x < h')
            rw [this] at a7
            exact absurd a7 (by decide)
        unfold bC
        omega)
      rw [ez, ← Int.add_assoc, show ((j + 1 : Nat) : Int) - 1 = (j : Int) - 1 + 1 by omega] at l
      rw [mm_add, mm_add]
      exact l
theorem lp_26_36 {σ0 : zM} {W : Int → Int} {o x : Int} (hW : WOK W) (hC : ctC σ0 W) (o0 : 0 ≤ o) (o1 : o < W 5) (x0 : 0 ≤ x) (x1 : x < W 1) : ∀ (k r : Nat) (σ : zM), (r : Int) + k = W 4 → uS σ0 σ W o x → uB σ W o x (bC r (-1) 0) → zwp (zev 26 36 [some (.ref 69), some (.int (Int32.ofInt o)), some (.int (Int32.ofInt x)), some (.int (Int32.ofInt (zsum (fun r => zsum (fun j => zsum (fun h => t01 (Ps W o x r (j - 1) h)) (x + 1).toNat) (W 0 + 1).toNat) r))), some (.int (Int32.ofInt r)), none] [] σ) (fun v τ => v = some (.int (Int32.ofInt (cSd W o x))) ∧ uS σ0 τ W o x ∧ uB τ W o x (fun _ _ _ => True))
  | 0, r, σ, e, hS, hB => by
    have h9 := hW.1.2.2.1
    have h5 := hW.2.2.1
    have hL : cL σ 33 W := hC.1.fr (by omega) fun a a1 a2 => hS.1.1 a (by omega)
    have e6 := hL.1.2.2.2.2.2.2.1
    refine zwp_of (fun r h => ze_26_36 _ _ _ _ _ r h) ?_
    refine zwp_t (by try simp (disch := first | assumption | exact isR33 | exact isT104 | exact isF99 | exact isF101 | exact isR3 | omega | (refine isTk ?_; omega) | (refine isOk isR33 ?_; omega) | (refine isOk ?_ ?_; assumption; omega)) only [mm_r, mm_rl, mm_add, mm_sub, mm_mul, mm_addJ, mm_mulJ, mm_lt, mm_le, mm_eq, mm_z, mm_cl, mm_w, mm_wl, mm_ite, mm_i2l, mm_l2i, mm_ltJ, mm_leJ, mm_eqJ, mm_clt, mm_cle, mm_cgt, mm_cge, mm_ceq, mm_b, mm_nb, mm_nb0, mm_nb1, mm_vb0, mm_vb1, mm_vbc, mm_vy0, mm_vy1, mm_at, mm_ne, mm_nj, mm_Lw, mm_Nw, mm_atJ, mm_neJ, mm_njJ, zbI_s, zbV_s, zbJ_s, cond_t, Bool.true_and, Bool.and_true, if_true, if_false, not_true, not_false_iff, Classical.not_not, zel_r, zel_42, zel_12, zel_71, zel_80, zel_89, zel_110, zel_188, zel_103, zel_195, zr_o, zr_1, zr_2, zr_3, zr_4, zr_5, zr_6, zr_7, zr_8, zr_9, zq_o, zq_v, zt_o, zt_1, zt_2, zt_3, zt_4, zt_5, zf_o, zf_1, za_w1, za_w2, za_w3, za_cm, za_sl, Int.toNat_natCast, Int.toNat_natCast_add_one, mm_t0, mm_t1, mm_t2, mm_t3, mm_t4, mm_t5, mm_t6, mm_t7, mm_t8, mm_t9, mm_t10, mm_t11, mm_t12, mm_t13, za_1, za_64, za_65, za_66, za_67, za_68, za_71, za_80, za_89, za_98, za_103, za_110, za_121, za_122, za_123, za_124, za_125, za_126, za_188, za_193, za_194, za_195, za_286, za_288, za_289, za_290, za_291, za_292, za_293, za_294, za_295, za_296, za_297, za_298, za_299, za_300, za_301, za_302, za_303, za_304, za_305, za_306, za_307, za_308, za_309, za_310, za_311, za_312, e6]
                     first | done | omega) ?_
    rw [← cSd_cls hW o0 o1 x0 x1, show (W 4).toNat = r by omega]
    exact zwp_ret ⟨rfl, hS, hB.eq fun r' h' v' hs => by
      obtain ⟨a1, a2, a3, a4, a5, a6, -⟩ := hs
      unfold bC
      exact ⟨fun _ => trivial, fun _ => by omega⟩⟩
  | k + 1, r, σ, e, hS, hB => by
    have h9 := hW.1.2.2.1
    have h8 := hW.1.1.2.1
    have h80 := hW.1.1.1
    have h5 := hW.2.2.1
    have hL : cL σ 33 W := hC.1.fr (by omega) fun a a1 a2 => hS.1.1 a (by omega)
    have e6 := hL.1.2.2.2.2.2.2.1
    refine zwp_of (fun r h => ze_26_36 _ _ _ _ _ r h) ?_
    refine zwp_f (by try simp (disch := first | assumption | exact isR33 | exact isT104 | exact isF99 | exact isF101 | exact isR3 | omega | (refine isTk ?_; omega) | (refine isOk isR33 ?_; omega) | (refine isOk ?_ ?_; assumption; omega)) only [mm_r, mm_rl, mm_add, mm_sub, mm_mul, mm_addJ, mm_mulJ, mm_lt, mm_le, mm_eq, mm_z, mm_cl, mm_w, mm_wl, mm_ite, mm_i2l, mm_l2i, mm_ltJ, mm_leJ, mm_eqJ, mm_clt, mm_cle, mm_cgt, mm_cge, mm_ceq, mm_b, mm_nb, mm_nb0, mm_nb1, mm_vb0, mm_vb1, mm_vbc, mm_vy0, mm_vy1, mm_at, mm_ne, mm_nj, mm_Lw, mm_Nw, mm_atJ, mm_neJ, mm_njJ, zbI_s, zbV_s, zbJ_s, cond_t, Bool.true_and, Bool.and_true, if_true, if_false, not_true, not_false_iff, Classical.not_not, zel_r, zel_42, zel_12, zel_71, zel_80, zel_89, zel_110, zel_188, zel_103, zel_195, zr_o, zr_1, zr_2, zr_3, zr_4, zr_5, zr_6, zr_7, zr_8, zr_9, zq_o, zq_v, zt_o, zt_1, zt_2, zt_3, zt_4, zt_5, zf_o, zf_1, za_w1, za_w2, za_w3, za_cm, za_sl, Int.toNat_natCast, Int.toNat_natCast_add_one, mm_t0, mm_t1, mm_t2, mm_t3, mm_t4, mm_t5, mm_t6, mm_t7, mm_t8, mm_t9, mm_t10, mm_t11, mm_t12, mm_t13, za_1, za_64, za_65, za_66, za_67, za_68, za_71, za_80, za_89, za_98, za_103, za_110, za_121, za_122, za_123, za_124, za_125, za_126, za_188, za_193, za_194, za_195, za_286, za_288, za_289, za_290, za_291, za_292, za_293, za_294, za_295, za_296, za_297, za_298, za_299, za_300, za_301, za_302, za_303, za_304, za_305, za_306, za_307, za_308, za_309, za_310, za_311, za_312, e6]
                     first | done | omega) ?_
    have l := lp_26_51 (r := r) (cc := zsum (fun r => zsum (fun j => zsum (fun h => t01 (Ps W o x r (j - 1) h)) (x + 1).toNat) (W 0 + 1).toNat) r) hW hC o0 o1 x0 x1 (by omega) (by omega) (fun τ a1 a2 => lp_26_36 hW hC o0 o1 x0 x1 k (r + 1) τ (by omega) a1 a2) (W 0 + 1).toNat 0 σ (by omega) hS hB
    have z0 : zsum (fun j => zsum (fun h => t01 (Ps W o x r (j - 1) h)) (x + 1).toNat) 0 = 0 := rfl
    rw [z0, Int.add_zero] at l
    exact l
theorem lp_26_2 {σ0 : zM} {W : Int → Int} {o x : Int} (hW : WOK W) (hC : ctC σ0 W) (o0 : 0 ≤ o) (o1 : o < W 5) (x0 : 0 ≤ x) (x1 : x < W 1) : ∀ (k j : Nat) (σ : zM), (j : Int) + k = x + 1 → mf (fun b => b = 125) σ0 σ → (∀ i : Nat, i < j → zN σ 125 i = t01 (Pc W o x i)) → zwp (zev 26 2 [some (.ref 69), some (.int (Int32.ofInt o)), some (.int (Int32.ofInt x)), some (.int (Int32.ofInt j)), none, none] [] σ) (fun v τ => v = some (.int (Int32.ofInt (cSd W o x))) ∧ uS σ0 τ W o x ∧ uB τ W o x (fun _ _ _ => True))
  | 0, j, σ, e, hf, hv => by
    have h9 := hW.1.2.2.1
    refine zwp_of (fun r h => ze_26_2 _ _ _ _ r h) ?_
    refine zwp_t (by try simp (disch := first | assumption | exact isR33 | exact isT104 | exact isF99 | exact isF101 | exact isR3 | omega | (refine isTk ?_; omega) | (refine isOk isR33 ?_; omega) | (refine isOk ?_ ?_; assumption; omega)) only [mm_r, mm_rl, mm_add, mm_sub, mm_mul, mm_addJ, mm_mulJ, mm_lt, mm_le, mm_eq, mm_z, mm_cl, mm_w, mm_wl, mm_ite, mm_i2l, mm_l2i, mm_ltJ, mm_leJ, mm_eqJ, mm_clt, mm_cle, mm_cgt, mm_cge, mm_ceq, mm_b, mm_nb, mm_nb0, mm_nb1, mm_vb0, mm_vb1, mm_vbc, mm_vy0, mm_vy1, mm_at, mm_ne, mm_nj, mm_Lw, mm_Nw, mm_atJ, mm_neJ, mm_njJ, zbI_s, zbV_s, zbJ_s, cond_t, Bool.true_and, Bool.and_true, if_true, if_false, not_true, not_false_iff, Classical.not_not, zel_r, zel_42, zel_12, zel_71, zel_80, zel_89, zel_110, zel_188, zel_103, zel_195, zr_o, zr_1, zr_2, zr_3, zr_4, zr_5, zr_6, zr_7, zr_8, zr_9, zq_o, zq_v, zt_o, zt_1, zt_2, zt_3, zt_4, zt_5, zf_o, zf_1, za_w1, za_w2, za_w3, za_cm, za_sl, Int.toNat_natCast, Int.toNat_natCast_add_one, mm_t0, mm_t1, mm_t2, mm_t3, mm_t4, mm_t5, mm_t6, mm_t7, mm_t8, mm_t9, mm_t10, mm_t11, mm_t12, mm_t13, za_1, za_64, za_65, za_66, za_67, za_68, za_71, za_80, za_89, za_98, za_103, za_110, za_121, za_122, za_123, za_124, za_125, za_126, za_188, za_193, za_194, za_195, za_286, za_288, za_289, za_290, za_291, za_292, za_293, za_294, za_295, za_296, za_297, za_298, za_299, za_300, za_301, za_302, za_303, za_304, za_305, za_306, za_307, za_308, za_309, za_310, za_311, za_312]
                     first | done | omega) ?_
    refine zwp_letE (τ' := zw σ 69 14 (-1)) (by simp (disch := first | assumption | exact isR33 | exact isT104 | exact isF99 | exact isF101 | exact isR3 | omega | (refine isTk ?_; omega) | (refine isOk isR33 ?_; omega) | (refine isOk ?_ ?_; assumption; omega)) only [mm_r, mm_rl, mm_add, mm_sub, mm_mul, mm_addJ, mm_mulJ, mm_lt, mm_le, mm_eq, mm_z, mm_cl, mm_w, mm_wl, mm_ite, mm_i2l, mm_l2i, mm_ltJ, mm_leJ, mm_eqJ, mm_clt, mm_cle, mm_cgt, mm_cge, mm_ceq, mm_b, mm_nb, mm_nb0, mm_nb1, mm_vb0, mm_vb1, mm_vbc, mm_vy0, mm_vy1, mm_at, mm_ne, mm_nj, mm_Lw, mm_Nw, mm_atJ, mm_neJ, mm_njJ, zbI_s, zbV_s, zbJ_s, cond_t, Bool.true_and, Bool.and_true, if_true, if_false, not_true, not_false_iff, Classical.not_not, zel_r, zel_42, zel_12, zel_71, zel_80, zel_89, zel_110, zel_188, zel_103, zel_195, zr_o, zr_1, zr_2, zr_3, zr_4, zr_5, zr_6, zr_7, zr_8, zr_9, zq_o, zq_v, zt_o, zt_1, zt_2, zt_3, zt_4, zt_5, zf_o, zf_1, za_w1, za_w2, za_w3, za_cm, za_sl, Int.toNat_natCast, Int.toNat_natCast_add_one, mm_t0, mm_t1, mm_t2, mm_t3, mm_t4, mm_t5, mm_t6, mm_t7, mm_t8, mm_t9, mm_t10, mm_t11, mm_t12, mm_t13, za_1, za_64, za_65, za_66, za_67, za_68, za_71, za_80, za_89, za_98, za_103, za_110, za_121, za_122, za_123, za_124, za_125, za_126, za_188, za_193, za_194, za_195, za_286, za_288, za_289, za_290, za_291, za_292, za_293, za_294, za_295, za_296, za_297, za_298, za_299, za_300, za_301, za_302, za_303, za_304, za_305, za_306, za_307, za_308, za_309, za_310, za_311, za_312]) ?_
    have l := lp_26_36 (σ0 := σ0) hW hC o0 o1 x0 x1 (W 4).toNat 0 (zw σ 69 14 (-1)) (by have := hW.2.2.1; omega) ⟨(hf.mono (by omega)).zw 69 _ _ (.inl rfl), fun i hi => by rw [mm_ne (by decide)]; exact hv i (by omega)⟩ ⟨-1, 0, 0, .inl ⟨rfl, fun r' h' v' hs => by
      obtain ⟨a1, a2, a3, a4, a5, a6, -⟩ := hs
      unfold bC
      omega⟩, mm_at rfl rfl (by decide) (by decide), fun p => absurd rfl p⟩
    exact l
  | k + 1, j, σ, e, hf, hv => by
    have h9 := hW.1.2.2.1
    have h8 := hW.1.1.2.1
    have h5 := hW.2.2.1
    have hL : cL σ 33 W := hC.1.fr (by omega) fun a a1 a2 => hf.1 a (by omega)
    have hcc : ccC σ W (CM W noD) (W 7) := hC.cc.fr fun b _ _ => hf.1 b (by omega)
    refine zwp_of (fun r h => ze_26_2 _ _ _ _ r h) ?_
    refine zwp_f (by try simp (disch := first | assumption | exact isR33 | exact isT104 | exact isF99 | exact isF101 | exact isR3 | omega | (refine isTk ?_; omega) | (refine isOk isR33 ?_; omega) | (refine isOk ?_ ?_; assumption; omega)) only [mm_r, mm_rl, mm_add, mm_sub, mm_mul, mm_addJ, mm_mulJ, mm_lt, mm_le, mm_eq, mm_z, mm_cl, mm_w, mm_wl, mm_ite, mm_i2l, mm_l2i, mm_ltJ, mm_leJ, mm_eqJ, mm_clt, mm_cle, mm_cgt, mm_cge, mm_ceq, mm_b, mm_nb, mm_nb0, mm_nb1, mm_vb0, mm_vb1, mm_vbc, mm_vy0, mm_vy1, mm_at, mm_ne, mm_nj, mm_Lw, mm_Nw, mm_atJ, mm_neJ, mm_njJ, zbI_s, zbV_s, zbJ_s, cond_t, Bool.true_and, Bool.and_true, if_true, if_false, not_true, not_false_iff, Classical.not_not, zel_r, zel_42, zel_12, zel_71, zel_80, zel_89, zel_110, zel_188, zel_103, zel_195, zr_o, zr_1, zr_2, zr_3, zr_4, zr_5, zr_6, zr_7, zr_8, zr_9, zq_o, zq_v, zt_o, zt_1, zt_2, zt_3, zt_4, zt_5, zf_o, zf_1, za_w1, za_w2, za_w3, za_cm, za_sl, Int.toNat_natCast, Int.toNat_natCast_add_one, mm_t0, mm_t1, mm_t2, mm_t3, mm_t4, mm_t5, mm_t6, mm_t7, mm_t8, mm_t9, mm_t10, mm_t11, mm_t12, mm_t13, za_1, za_64, za_65, za_66, za_67, za_68, za_71, za_80, za_89, za_98, za_103, za_110, za_121, za_122, za_123, za_124, za_125, za_126, za_188, za_193, za_194, za_195, za_286, za_288, za_289, za_290, za_291, za_292, za_293, za_294, za_295, za_296, za_297, za_298, za_299, za_300, za_301, za_302, za_303, za_304, za_305, za_306, za_307, za_308, za_309, za_310, za_311, za_312]
                     first | done | omega) ?_
    refine zwp_IE (sp_24 (x := j) hW hL hcc o0 o1 (by omega) (by omega) (by omega) (by omega)) ?_
    intro τ hs
    have eP : (if BB W (cup (CM W noD) o j) (W 7) (oo W o 5) (oo W o 1) x = o then (1 : Int) else 0) = t01 (Pc W o x j) := by
      unfold t01 Pc
      by_cases q : BB W (cup (CM W noD) o j) (W 7) (oo W o 5) (oo W o 1) x = o
      · rw [if_pos q, if_pos (decide_eq_true q)]
      · rw [if_neg q, if_neg (by rw [decide_eq_false q]; decide)]
    have rt := t01_rng (Pc W o x j)
    rw [mm_vbc, eP]
    refine zwp_cd (za_125 (by omega) (by omega)) ?_
    refine zwp_letE (τ' := zw τ 125 j (t01 (Pc W o x j))) (by simp (disch := first | assumption | exact isR33 | exact isT104 | exact isF99 | exact isF101 | exact isR3 | omega | (refine isTk ?_; omega) | (refine isOk isR33 ?_; omega) | (refine isOk ?_ ?_; assumption; omega)) only [mm_r, mm_rl, mm_add, mm_sub, mm_mul, mm_addJ, mm_mulJ, mm_lt, mm_le, mm_eq, mm_z, mm_cl, mm_w, mm_wl, mm_ite, mm_i2l, mm_l2i, mm_ltJ, mm_leJ, mm_eqJ, mm_clt, mm_cle, mm_cgt, mm_cge, mm_ceq, mm_b, mm_nb, mm_nb0, mm_nb1, mm_vb0, mm_vb1, mm_vbc, mm_vy0, mm_vy1, mm_at, mm_ne, mm_nj, mm_Lw, mm_Nw, mm_atJ, mm_neJ, mm_njJ, zbI_s, zbV_s, zbJ_s, cond_t, Bool.true_and, Bool.and_true, if_true, if_false, not_true, not_false_iff, Classical.not_not, zel_r, zel_42, zel_12, zel_71, zel_80, zel_89, zel_110, zel_188, zel_103, zel_195, zr_o, zr_1, zr_2, zr_3, zr_4, zr_5, zr_6, zr_7, zr_8, zr_9, zq_o, zq_v, zt_o, zt_1, zt_2, zt_3, zt_4, zt_5, zf_o, zf_1, za_w1, za_w2, za_w3, za_cm, za_sl, Int.toNat_natCast, Int.toNat_natCast_add_one, mm_t0, mm_t1, mm_t2, mm_t3, mm_t4, mm_t5, mm_t6, mm_t7, mm_t8, mm_t9, mm_t10, mm_t11, mm_t12, mm_t13, za_1, za_64, za_65, za_66, za_67, za_68, za_71, za_80, za_89, za_98, za_103, za_110, za_121, za_122, za_123, za_124, za_125, za_126, za_188, za_193, za_194, za_195, za_286, za_288, za_289, za_290, za_291, za_292, za_293, za_294, za_295, za_296, za_297, za_298, za_299, za_300, za_301, za_302, za_303, za_304, za_305, za_306, za_307, za_308, za_309, za_310, za_311, za_312]) ?_
    rw [mm_add]
    refine lp_26_2 hW hC o0 o1 x0 x1 k (j + 1) _ (by omega) ((hf.tr (hs.m _)).zw 125 _ _ rfl) (fun i hi => ?_)
    by_cases q : i = j
    · rw [q]
      exact mm_at rfl rfl (by omega) (by omega)
    · rw [mm_nj q, hs.k]
      exact hv i (by omega)
theorem sp_26 {σ : zM} {W : Int → Int} {o x : Int} (hW : WOK W) (hC : ctC σ W) (o0 : 0 ≤ o) (o1 : o < W 5) (x0 : 0 ≤ x) (x1 : x < W 1) : zwp (zcall 26 [.ref 69, .int (Int32.ofInt o), .int (Int32.ofInt x)] σ) (fun v τ => v = some (.int (Int32.ofInt (cSd W o x))) ∧ cK σ τ W ∧ uB τ W o x (fun _ _ _ => True)) := by
  refine zwp_of (fun r h => zcc_26 (ze_26_0 _ _ _ r h)) ?_
  refine zwp_mono (lp_26_2 hW hC o0 o1 x0 x1 (x + 1).toNat 0 σ (by omega) mf.rf (fun i hi => absurd hi (by omega))) ?_
  rintro v τ ⟨h1, h2, h3⟩
  exact ⟨h1, ⟨h2.1.mono fun b hb => by unfold clsS; omega, hC.fr hW fun b hb => h2.1.1 b (by omega)⟩, h3⟩
theorem cq_ways {σ : zM} {W : Int → Int} {o x : Int} (hW : WOK W) (hC : ctC σ W) (ho0 : -2147483648 ≤ o) (ho1 : o < 2147483648) (hh0 : -2147483648 ≤ x) (hh1 : x < 2147483648) : zwp (zcall 127 [.ref 0, .int (Int32.ofInt o), .int (Int32.ofInt x)] σ) (fun v τ => v = some (.int (Int32.ofInt (Ewa W o x))) ∧ cK σ τ W) := by
  unfold Ewa
  refine zwp_of (fun r h => zcc_127 (ze_127_0 _ _ _ r h)) ?_
  rw [sp_151w hW hC.1 ho0 ho1 hh0 hh1]
  simp only [zbI_s, mm_z, mm_b]
  refine zwp_ite (fun q => ?_) (fun q => ?_)
  · rw [if_neg q]
    exact zwp_ret ⟨rfl, cK.rf hC⟩
  · have q := Classical.not_not.mp q
    rw [if_pos q]
    refine zwp_IE (sp_26 hW hC q.1.1 q.1.2 q.2.1.1 q.2.1.2) ?_
    rintro τ ⟨hk, -⟩
    exact zwp_ret ⟨rfl, hk⟩
theorem cS_pos {W : Int → Int} (hW : WOK W) {o x : Int} {a b c : Int} (h : bst W o x (fun _ _ _ => True) a b c) : cSd W o x = 0 ↔ a = -1 := by
  have h9 := hW.1.2.2.1
  have h8 := hW.1.1.2.1
  have h80 := hW.1.1.1
  have h5 := hW.2.2.1
  constructor
  · intro e
    rcases h with ⟨h1, h2⟩ | ⟨⟨a1, a2, a3, a4, a5, a6, a7⟩, -⟩
    · exact h1
    · exfalso
      have pos : ∀ (f : Int → Int) (n : Nat) (i : Int), (∀ j, 0 ≤ f j) → 0 ≤ i → i < n → f i ≤ zsum f n := by
        intro f n
        induction n with
        | zero => intro i _ _ _; omega
        | succ n ih =>
          intro i hf i0 i1
          have nn : ∀ m : Nat, 0 ≤ zsum f m := by
            intro m
            induction m with
            | zero => exact Int.le_refl _
            | succ m ihm => rw [zsum]; have := hf m; omega
          rw [zsum]
          by_cases z : i = n
          · rw [z]
            have := nn n
            omega
          · have := ih i hf i0 (by omega)
            have := hf n
            omega
      have nn : ∀ (f : Int → Int) (m : Nat), (∀ j, 0 ≤ f j) → 0 ≤ zsum f m := by
        intro f m hf
        induction m with
        | zero => exact Int.le_refl _
        | succ m ihm => rw [zsum]; have := hf m; omega
      have n1 : ∀ r h, 0 ≤ zsum (fun j => t01 (Ps W o x r (j - 1) h)) (W 0 + 1).toNat := fun r h => nn _ _ (fun j => (t01_rng _).1)
      have n2 : ∀ r, 0 ≤ zsum (fun h => zsum (fun j => t01 (Ps W o x r (j - 1) h)) (W 0 + 1).toNat) (W 1).toNat := fun r => nn _ _ (fun h => n1 r h)
      have p1 := pos (fun j => t01 (Ps W o x a (j - 1) b)) (W 0 + 1).toNat (c + 1) (fun j => (t01_rng _).1) (by omega) (by omega)
      have p2 := pos (fun h => zsum (fun j => t01 (Ps W o x a (j - 1) h)) (W 0 + 1).toNat) (W 1).toNat b (fun h => n1 a h) a3 (by omega)
      have p3 := pos (fun r => zsum (fun h => zsum (fun j => t01 (Ps W o x r (j - 1) h)) (W 0 + 1).toNat) (W 1).toNat) (W 4).toNat a (fun r => n2 r) a1 (by omega)
      have e1 : t01 (Ps W o x a (c + 1 - 1) b) = 1 := by
        rw [show c + 1 - 1 = c by omega, a7]
        rfl
      have p1 : t01 (Ps W o x a (c + 1 - 1) b) ≤ _ := p1
      have p3 : _ ≤ cSd W o x := p3
      rw [e1] at p1
      have p2 : zsum (fun j => t01 (Ps W o x a (j - 1) b)) (W 0 + 1).toNat ≤ _ := p2
      omega
  · intro e
    rcases h with ⟨h1, h2⟩ | ⟨⟨a1, -⟩, -⟩
    · unfold cSd
      refine (zsum_congr (g := fun _ => 0) _ fun r r0 r1 => ?_).trans (zsum_0 _)
      refine (zsum_congr (g := fun _ => 0) _ fun h h0 h1 => ?_).trans (zsum_0 _)
      refine (zsum_congr (g := fun _ => 0) _ fun j j0 j1 => ?_).trans (zsum_0 _)
      have q : Ps W o x r (j - 1) h = false := Bool.not_eq_true _ |>.mp fun p => h2 r h (j - 1) ⟨r0, by omega, h0, by omega, by omega, by omega, p⟩ trivial
      rw [q]
      rfl
    · omega
theorem cq_best {σ : zM} {W : Int → Int} {o x what : Int} (hW : WOK W) (hC : ctC σ W) (ho0 : -2147483648 ≤ o) (ho1 : o < 2147483648) (hh0 : -2147483648 ≤ x) (hh1 : x < 2147483648) (hw0 : -2147483648 ≤ what) (hw1 : what < 2147483648) : zwp (zcall 128 [.ref 0, .int (Int32.ofInt o), .int (Int32.ofInt x), .int (Int32.ofInt what)] σ) (fun v τ => v = some (.int (Int32.ofInt (Ebe W o x what))) ∧ cK σ τ W) := by
  unfold Ebe
  refine zwp_of (fun r h => zcc_128 (ze_128_0 _ _ _ _ r h)) ?_
  rw [sp_151w hW hC.1 ho0 ho1 hh0 hh1]
  simp only [zbI_s, mm_z, mm_b]
  refine zwp_ite (fun q => ?_) (fun q => ?_)
  · rw [if_neg (fun p => q p.1)]
    exact zwp_ret ⟨rfl, cK.rf hC⟩
  · have q := Classical.not_not.mp q
    by_cases q2 : what < 0
    · refine zwp_t (by try simp (disch := first | assumption | exact isR33 | exact isT104 | exact isF99 | exact isF101 | exact isR3 | omega | (refine isTk ?_; omega) | (refine isOk isR33 ?_; omega) | (refine isOk ?_ ?_; assumption; omega)) only [mm_r, mm_rl, mm_add, mm_sub, mm_mul, mm_addJ, mm_mulJ, mm_lt, mm_le, mm_eq, mm_z, mm_cl, mm_w, mm_wl, mm_ite, mm_i2l, mm_l2i, mm_ltJ, mm_leJ, mm_eqJ, mm_clt, mm_cle, mm_cgt, mm_cge, mm_ceq, mm_b, mm_nb, mm_nb0, mm_nb1, mm_vb0, mm_vb1, mm_vbc, mm_vy0, mm_vy1, mm_at, mm_ne, mm_nj, mm_Lw, mm_Nw, mm_atJ, mm_neJ, mm_njJ, zbI_s, zbV_s, zbJ_s, cond_t, Bool.true_and, Bool.and_true, if_true, if_false, not_true, not_false_iff, Classical.not_not, zel_r, zel_42, zel_12, zel_71, zel_80, zel_89, zel_110, zel_188, zel_103, zel_195, zr_o, zr_1, zr_2, zr_3, zr_4, zr_5, zr_6, zr_7, zr_8, zr_9, zq_o, zq_v, zt_o, zt_1, zt_2, zt_3, zt_4, zt_5, zf_o, zf_1, za_w1, za_w2, za_w3, za_cm, za_sl, Int.toNat_natCast, Int.toNat_natCast_add_one, mm_t0, mm_t1, mm_t2, mm_t3, mm_t4, mm_t5, mm_t6, mm_t7, mm_t8, mm_t9, mm_t10, mm_t11, mm_t12, mm_t13, za_1, za_64, za_65, za_66, za_67, za_68, za_71, za_80, za_89, za_98, za_103, za_110, za_121, za_122, za_123, za_124, za_125, za_126, za_188, za_193, za_194, za_195, za_286, za_288, za_289, za_290, za_291, za_292, za_293, za_294, za_295, za_296, za_297, za_298, za_299, za_300, za_301, za_302, za_303, za_304, za_305, za_306, za_307, za_308, za_309, za_310, za_311, za_312]
                       first | done | omega) ?_
      rw [if_neg (fun p => by have := p.2.1; omega)]
      exact zwp_ret ⟨rfl, cK.rf hC⟩
    · refine zwp_f (by try simp (disch := first | assumption | exact isR33 | exact isT104 | exact isF99 | exact isF101 | exact isR3 | omega | (refine isTk ?_; omega) | (refine isOk isR33 ?_; omega) | (refine isOk ?_ ?_; assumption; omega)) only [mm_r, mm_rl, mm_add, mm_sub, mm_mul, mm_addJ, mm_mulJ, mm_lt, mm_le, mm_eq, mm_z, mm_cl, mm_w, mm_wl, mm_ite, mm_i2l, mm_l2i, mm_ltJ, mm_leJ, mm_eqJ, mm_clt, mm_cle, mm_cgt, mm_cge, mm_ceq, mm_b, mm_nb, mm_nb0, mm_nb1, mm_vb0, mm_vb1, mm_vbc, mm_vy0, mm_vy1, mm_at, mm_ne, mm_nj, mm_Lw, mm_Nw, mm_atJ, mm_neJ, mm_njJ, zbI_s, zbV_s, zbJ_s, cond_t, Bool.true_and, Bool.and_true, if_true, if_false, not_true, not_false_iff, Classical.not_not, zel_r, zel_42, zel_12, zel_71, zel_80, zel_89, zel_110, zel_188, zel_103, zel_195, zr_o, zr_1, zr_2, zr_3, zr_4, zr_5, zr_6, zr_7, zr_8, zr_9, zq_o, zq_v, zt_o, zt_1, zt_2, zt_3, zt_4, zt_5, zf_o, zf_1, za_w1, za_w2, za_w3, za_cm, za_sl, Int.toNat_natCast, Int.toNat_natCast_add_one, mm_t0, mm_t1, mm_t2, mm_t3, mm_t4, mm_t5, mm_t6, mm_t7, mm_t8, mm_t9, mm_t10, mm_t11, mm_t12, mm_t13, za_1, za_64, za_65, za_66, za_67, za_68, za_71, za_80, za_89, za_98, za_103, za_110, za_121, za_122, za_123, za_124, za_125, za_126, za_188, za_193, za_194, za_195, za_286, za_288, za_289, za_290, za_291, za_292, za_293, za_294, za_295, za_296, za_297, za_298, za_299, za_300, za_301, za_302, za_303, za_304, za_305, za_306, za_307, za_308, za_309, za_310, za_311, za_312]
                       first | done | omega) ?_
      by_cases q3 : what ≤ 2
      · refine zwp_t (by try simp (disch := first | assumption | exact isR33 | exact isT104 | exact isF99 | exact isF101 | exact isR3 | omega | (refine isTk ?_; omega) | (refine isOk isR33 ?_; omega) | (refine isOk ?_ ?_; assumption; omega)) only [mm_r, mm_rl, mm_add, mm_sub, mm_mul, mm_addJ, mm_mulJ, mm_lt, mm_le, mm_eq, mm_z, mm_cl, mm_w, mm_wl, mm_ite, mm_i2l, mm_l2i, mm_ltJ, mm_leJ, mm_eqJ, mm_clt, mm_cle, mm_cgt, mm_cge, mm_ceq, mm_b, mm_nb, mm_nb0, mm_nb1, mm_vb0, mm_vb1, mm_vbc, mm_vy0, mm_vy1, mm_at, mm_ne, mm_nj, mm_Lw, mm_Nw, mm_atJ, mm_neJ, mm_njJ, zbI_s, zbV_s, zbJ_s, cond_t, Bool.true_and, Bool.and_true, if_true, if_false, not_true, not_false_iff, Classical.not_not, zel_r, zel_42, zel_12, zel_71, zel_80, zel_89, zel_110, zel_188, zel_103, zel_195, zr_o, zr_1, zr_2, zr_3, zr_4, zr_5, zr_6, zr_7, zr_8, zr_9, zq_o, zq_v, zt_o, zt_1, zt_2, zt_3, zt_4, zt_5, zf_o, zf_1, za_w1, za_w2, za_w3, za_cm, za_sl, Int.toNat_natCast, Int.toNat_natCast_add_one, mm_t0, mm_t1, mm_t2, mm_t3, mm_t4, mm_t5, mm_t6, mm_t7, mm_t8, mm_t9, mm_t10, mm_t11, mm_t12, mm_t13, za_1, za_64, za_65, za_66, za_67, za_68, za_71, za_80, za_89, za_98, za_103, za_110, za_121, za_122, za_123, za_124, za_125, za_126, za_188, za_193, za_194, za_195, za_286, za_288, za_289, za_290, za_291, za_292, za_293, za_294, za_295, za_296, za_297, za_298, za_299, za_300, za_301, za_302, za_303, za_304, za_305, za_306, za_307, za_308, za_309, za_310, za_311, za_312]
                         first | done | omega) ?_
        rw [if_pos (⟨q, by omega, q3⟩ : sndb W o x ∧ 0 ≤ what ∧ what ≤ 2)]
        refine zwp_IE (sp_26 hW hC q.1.1 q.1.2 q.2.1.1 q.2.1.2) ?_
        rintro τ ⟨hk, a, b, c, hb, h14, h156⟩
        have hz := cS_pos hW hb
        have rng := cSd_rng hW o x
        have E : Classical.epsilon (bsA W o x what) = if a = -1 then -1 else if what = 0 then a else if what = 1 then b else c := bsA_e ⟨a, b, c, hb, rfl⟩
        rw [E]
        by_cases q4 : a = -1
        · refine zwp_f (by try simp (disch := first | assumption | exact isR33 | exact isT104 | exact isF99 | exact isF101 | exact isR3 | omega | (refine isTk ?_; omega) | (refine isOk isR33 ?_; omega) | (refine isOk ?_ ?_; assumption; omega)) only [mm_r, mm_rl, mm_add, mm_sub, mm_mul, mm_addJ, mm_mulJ, mm_lt, mm_le, mm_eq, mm_z, mm_cl, mm_w, mm_wl, mm_ite, mm_i2l, mm_l2i, mm_ltJ, mm_leJ, mm_eqJ, mm_clt, mm_cle, mm_cgt, mm_cge, mm_ceq, mm_b, mm_nb, mm_nb0, mm_nb1, mm_vb0, mm_vb1, mm_vbc, mm_vy0, mm_vy1, mm_at, mm_ne, mm_nj, mm_Lw, mm_Nw, mm_atJ, mm_neJ, mm_njJ, zbI_s, zbV_s, zbJ_s, cond_t, Bool.true_and, Bool.and_true, if_true, if_false, not_true, not_false_iff, Classical.not_not, zel_r, zel_42, zel_12, zel_71, zel_80, zel_89, zel_110, zel_188, zel_103, zel_195, zr_o, zr_1, zr_2, zr_3, zr_4, zr_5, zr_6, zr_7, zr_8, zr_9, zq_o, zq_v, zt_o, zt_1, zt_2, zt_3, zt_4, zt_5, zf_o, zf_1, za_w1, za_w2, za_w3, za_cm, za_sl, Int.toNat_natCast, Int.toNat_natCast_add_one, mm_t0, mm_t1, mm_t2, mm_t3, mm_t4, mm_t5, mm_t6, mm_t7, mm_t8, mm_t9, mm_t10, mm_t11, mm_t12, mm_t13, za_1, za_64, za_65, za_66, za_67, za_68, za_71, za_80, za_89, za_98, za_103, za_110, za_121, za_122, za_123, za_124, za_125, za_126, za_188, za_193, za_194, za_195, za_286, za_288, za_289, za_290, za_291, za_292, za_293, za_294, za_295, za_296, za_297, za_298, za_299, za_300, za_301, za_302, za_303, za_304, za_305, za_306, za_307, za_308, za_309, za_310, za_311, za_312, hz.mpr q4]; first | done | omega) ?_
          rw [if_pos q4]
          exact zwp_ret ⟨rfl, hk⟩
        · have : cSd W o x ≠ 0 := fun p => q4 (hz.mp p)
          refine zwp_t (by try simp (disch := first | assumption | exact isR33 | exact isT104 | exact isF99 | exact isF101 | exact isR3 | omega | (refine isTk ?_; omega) | (refine isOk isR33 ?_; omega) | (refine isOk ?_ ?_; assumption; omega)) only [mm_r, mm_rl, mm_add, mm_sub, mm_mul, mm_addJ, mm_mulJ, mm_lt, mm_le, mm_eq, mm_z, mm_cl, mm_w, mm_wl, mm_ite, mm_i2l, mm_l2i, mm_ltJ, mm_leJ, mm_eqJ, mm_clt, mm_cle, mm_cgt, mm_cge, mm_ceq, mm_b, mm_nb, mm_nb0, mm_nb1, mm_vb0, mm_vb1, mm_vbc, mm_vy0, mm_vy1, mm_at, mm_ne, mm_nj, mm_Lw, mm_Nw, mm_atJ, mm_neJ, mm_njJ, zbI_s, zbV_s, zbJ_s, cond_t, Bool.true_and, Bool.and_true, if_true, if_false, not_true, not_false_iff, Classical.not_not, zel_r, zel_42, zel_12, zel_71, zel_80, zel_89, zel_110, zel_188, zel_103, zel_195, zr_o, zr_1, zr_2, zr_3, zr_4, zr_5, zr_6, zr_7, zr_8, zr_9, zq_o, zq_v, zt_o, zt_1, zt_2, zt_3, zt_4, zt_5, zf_o, zf_1, za_w1, za_w2, za_w3, za_cm, za_sl, Int.toNat_natCast, Int.toNat_natCast_add_one, mm_t0, mm_t1, mm_t2, mm_t3, mm_t4, mm_t5, mm_t6, mm_t7, mm_t8, mm_t9, mm_t10, mm_t11, mm_t12, mm_t13, za_1, za_64, za_65, za_66, za_67, za_68, za_71, za_80, za_89, za_98, za_103, za_110, za_121, za_122, za_123, za_124, za_125, za_126, za_188, za_193, za_194, za_195, za_286, za_288, za_289, za_290, za_291, za_292, za_293, za_294, za_295, za_296, za_297, za_298, za_299, za_300, za_301, za_302, za_303, za_304, za_305, za_306, za_307, za_308, za_309, za_310, za_311, za_312]
                           first | done | omega) ?_
          obtain ⟨k15, k16⟩ := h156 q4
          rw [if_neg q4]
          by_cases q5 : what = 0
          · refine zwp_t (by try simp (disch := first | assumption | exact isR33 | exact isT104 | exact isF99 | exact isF101 | exact isR3 | omega | (refine isTk ?_; omega) | (refine isOk isR33 ?_; omega) | (refine isOk ?_ ?_; assumption; omega)) only [mm_r, mm_rl, mm_add, mm_sub, mm_mul, mm_addJ, mm_mulJ, mm_lt, mm_le, mm_eq, mm_z, mm_cl, mm_w, mm_wl, mm_ite, mm_i2l, mm_l2i, mm_ltJ, mm_leJ, mm_eqJ, mm_clt, mm_cle, mm_cgt, mm_cge, mm_ceq, mm_b, mm_nb, mm_nb0, mm_nb1, mm_vb0, mm_vb1, mm_vbc, mm_vy0, mm_vy1, mm_at, mm_ne, mm_nj, mm_Lw, mm_Nw, mm_atJ, mm_neJ, mm_njJ, zbI_s, zbV_s, zbJ_s, cond_t, Bool.true_and, Bool.and_true, if_true, if_false, not_true, not_false_iff, Classical.not_not, zel_r, zel_42, zel_12, zel_71, zel_80, zel_89, zel_110, zel_188, zel_103, zel_195, zr_o, zr_1, zr_2, zr_3, zr_4, zr_5, zr_6, zr_7, zr_8, zr_9, zq_o, zq_v, zt_o, zt_1, zt_2, zt_3, zt_4, zt_5, zf_o, zf_1, za_w1, za_w2, za_w3, za_cm, za_sl, Int.toNat_natCast, Int.toNat_natCast_add_one, mm_t0, mm_t1, mm_t2, mm_t3, mm_t4, mm_t5, mm_t6, mm_t7, mm_t8, mm_t9, mm_t10, mm_t11, mm_t12, mm_t13, za_1, za_64, za_65, za_66, za_67, za_68, za_71, za_80, za_89, za_98, za_103, za_110, za_121, za_122, za_123, za_124, za_125, za_126, za_188, za_193, za_194, za_195, za_286, za_288, za_289, za_290, za_291, za_292, za_293, za_294, za_295, za_296, za_297, za_298, za_299, za_300, za_301, za_302, za_303, za_304, za_305, za_306, za_307, za_308, za_309, za_310, za_311, za_312]
                             first | done | omega) ?_
            rw [if_pos q5, mm_r, h14]
            exact zwp_ret ⟨rfl, hk⟩
          · refine zwp_f (by try simp (disch := first | assumption | exact isR33 | exact isT104 | exact isF99 | exact isF101 | exact isR3 | omega | (refine isTk ?_; omega) | (refine isOk isR33 ?_; omega) | (refine isOk ?_ ?_; assumption; omega)) only [mm_r, mm_rl, mm_add, mm_sub, mm_mul, mm_addJ, mm_mulJ, mm_lt, mm_le, mm_eq, mm_z, mm_cl, mm_w, mm_wl, mm_ite, mm_i2l, mm_l2i, mm_ltJ, mm_leJ, mm_eqJ, mm_clt, mm_cle, mm_cgt, mm_cge, mm_ceq, mm_b, mm_nb, mm_nb0, mm_nb1, mm_vb0, mm_vb1, mm_vbc, mm_vy0, mm_vy1, mm_at, mm_ne, mm_nj, mm_Lw, mm_Nw, mm_atJ, mm_neJ, mm_njJ, zbI_s, zbV_s, zbJ_s, cond_t, Bool.true_and, Bool.and_true, if_true, if_false, not_true, not_false_iff, Classical.not_not, zel_r, zel_42, zel_12, zel_71, zel_80, zel_89, zel_110, zel_188, zel_103, zel_195, zr_o, zr_1, zr_2, zr_3, zr_4, zr_5, zr_6, zr_7, zr_8, zr_9, zq_o, zq_v, zt_o, zt_1, zt_2, zt_3, zt_4, zt_5, zf_o, zf_1, za_w1, za_w2, za_w3, za_cm, za_sl, Int.toNat_natCast, Int.toNat_natCast_add_one, mm_t0, mm_t1, mm_t2, mm_t3, mm_t4, mm_t5, mm_t6, mm_t7, mm_t8, mm_t9, mm_t10, mm_t11, mm_t12, mm_t13, za_1, za_64, za_65, za_66, za_67, za_68, za_71, za_80, za_89, za_98, za_103, za_110, za_121, za_122, za_123, za_124, za_125, za_126, za_188, za_193, za_194, za_195, za_286, za_288, za_289, za_290, za_291, za_292, za_293, za_294, za_295, za_296, za_297, za_298, za_299, za_300, za_301, za_302, za_303, za_304, za_305, za_306, za_307, za_308, za_309, za_310, za_311, za_312]
                             first | done | omega) ?_
            rw [if_neg q5]
            by_cases q6 : what = 1
            · refine zwp_t (by try simp (disch := first | assumption | exact isR33 | exact isT104 | exact isF99 | exact isF101 | exact isR3 | omega | (refine isTk ?_; omega) | (refine isOk isR33 ?_; omega) | (refine isOk ?_ ?_; assumption; omega)) only [mm_r, mm_rl, mm_add, mm_sub, mm_mul, mm_addJ, mm_mulJ, mm_lt, mm_le, mm_eq, mm_z, mm_cl, mm_w, mm_wl, mm_ite, mm_i2l, mm_l2i, mm_ltJ, mm_leJ, mm_eqJ, mm_clt, mm_cle, mm_cgt, mm_cge, mm_ceq, mm_b, mm_nb, mm_nb0, mm_nb1, mm_vb0, mm_vb1, mm_vbc, mm_vy0, mm_vy1, mm_at, mm_ne, mm_nj, mm_Lw, mm_Nw, mm_atJ, mm_neJ, mm_njJ, zbI_s, zbV_s, zbJ_s, cond_t, Bool.true_and, Bool.and_true, if_true, if_false, not_true, not_false_iff, Classical.not_not, zel_r, zel_42, zel_12, zel_71, zel_80, zel_89, zel_110, zel_188, zel_103, zel_195, zr_o, zr_1, zr_2, zr_3, zr_4, zr_5, zr_6, zr_7, zr_8, zr_9, zq_o, zq_v, zt_o, zt_1, zt_2, zt_3, zt_4, zt_5, zf_o, zf_1, za_w1, za_w2, za_w3, za_cm, za_sl, Int.toNat_natCast, Int.toNat_natCast_add_one, mm_t0, mm_t1, mm_t2, mm_t3, mm_t4, mm_t5, mm_t6, mm_t7, mm_t8, mm_t9, mm_t10, mm_t11, mm_t12, mm_t13, za_1, za_64, za_65, za_66, za_67, za_68, za_71, za_80, za_89, za_98, za_103, za_110, za_121, za_122, za_123, za_124, za_125, za_126, za_188, za_193, za_194, za_195, za_286, za_288, za_289, za_290, za_291, za_292, za_293, za_294, za_295, za_296, za_297, za_298, za_299, za_300, za_301, za_302, za_303, za_304, za_305, za_306, za_307, za_308, za_309, za_310, za_311, za_312]
                               first | done | omega) ?_
              rw [if_pos q6, mm_r, k15]
              exact zwp_ret ⟨rfl, hk⟩
            · refine zwp_f (by try simp (disch := first | assumption | exact isR33 | exact isT104 | exact isF99 | exact isF101 | exact isR3 | omega | (refine isTk ?_; omega) | (refine isOk isR33 ?_; omega) | (refine isOk ?_ ?_; assumption; omega)) only [mm_r, mm_rl, mm_add, mm_sub, mm_mul, mm_addJ, mm_mulJ, mm_lt, mm_le, mm_eq, mm_z, mm_cl, mm_w, mm_wl, mm_ite, mm_i2l, mm_l2i, mm_ltJ, mm_leJ, mm_eqJ, mm_clt, mm_cle, mm_cgt, mm_cge, mm_ceq, mm_b, mm_nb, mm_nb0, mm_nb1, mm_vb0, mm_vb1, mm_vbc, mm_vy0, mm_vy1, mm_at, mm_ne, mm_nj, mm_Lw, mm_Nw, mm_atJ, mm_neJ, mm_njJ, zbI_s, zbV_s, zbJ_s, cond_t, Bool.true_and, Bool.and_true, if_true, if_false, not_true, not_false_iff, Classical.not_not, zel_r, zel_42, zel_12, zel_71, zel_80, zel_89, zel_110, zel_188, zel_103, zel_195, zr_o, zr_1, zr_2, zr_3, zr_4, zr_5, zr_6, zr_7, zr_8, zr_9, zq_o, zq_v, zt_o, zt_1, zt_2, zt_3, zt_4, zt_5, zf_o, zf_1, za_w1, za_w2, za_w3, za_cm, za_sl, Int.toNat_natCast, Int.toNat_natCast_add_one, mm_t0, mm_t1, mm_t2, mm_t3, mm_t4, mm_t5, mm_t6, mm_t7, mm_t8, mm_t9, mm_t10, mm_t11, mm_t12, mm_t13, za_1, za_64, za_65, za_66, za_67, za_68, za_71, za_80, za_89, za_98, za_103, za_110, za_121, za_122, za_123, za_124, za_125, za_126, za_188, za_193, za_194, za_195, za_286, za_288, za_289, za_290, za_291, za_292, za_293, za_294, za_295, za_296, za_297, za_298, za_299, za_300, za_301, za_302, za_303, za_304, za_305, za_306, za_307, za_308, za_309, za_310, za_311, za_312]
                               first | done | omega) ?_
              rw [if_neg q6, mm_r, k16]
              exact zwp_ret ⟨rfl, hk⟩
      · refine zwp_f (by try simp (disch := first | assumption | exact isR33 | exact isT104 | exact isF99 | exact isF101 | exact isR3 | omega | (refine isTk ?_; omega) | (refine isOk isR33 ?_; omega) | (refine isOk ?_ ?_; assumption; omega)) only [mm_r, mm_rl, mm_add, mm_sub, mm_mul, mm_addJ, mm_mulJ, mm_lt, mm_le, mm_eq, mm_z, mm_cl, mm_w, mm_wl, mm_ite, mm_i2l, mm_l2i, mm_ltJ, mm_leJ, mm_eqJ, mm_clt, mm_cle, mm_cgt, mm_cge, mm_ceq, mm_b, mm_nb, mm_nb0, mm_nb1, mm_vb0, mm_vb1, mm_vbc, mm_vy0, mm_vy1, mm_at, mm_ne, mm_nj, mm_Lw, mm_Nw, mm_atJ, mm_neJ, mm_njJ, zbI_s, zbV_s, zbJ_s, cond_t, Bool.true_and, Bool.and_true, if_true, if_false, not_true, not_false_iff, Classical.not_not, zel_r, zel_42, zel_12, zel_71, zel_80, zel_89, zel_110, zel_188, zel_103, zel_195, zr_o, zr_1, zr_2, zr_3, zr_4, zr_5, zr_6, zr_7, zr_8, zr_9, zq_o, zq_v, zt_o, zt_1, zt_2, zt_3, zt_4, zt_5, zf_o, zf_1, za_w1, za_w2, za_w3, za_cm, za_sl, Int.toNat_natCast, Int.toNat_natCast_add_one, mm_t0, mm_t1, mm_t2, mm_t3, mm_t4, mm_t5, mm_t6, mm_t7, mm_t8, mm_t9, mm_t10, mm_t11, mm_t12, mm_t13, za_1, za_64, za_65, za_66, za_67, za_68, za_71, za_80, za_89, za_98, za_103, za_110, za_121, za_122, za_123, za_124, za_125, za_126, za_188, za_193, za_194, za_195, za_286, za_288, za_289, za_290, za_291, za_292, za_293, za_294, za_295, za_296, za_297, za_298, za_299, za_300, za_301, za_302, za_303, za_304, za_305, za_306, za_307, za_308, za_309, za_310, za_311, za_312]
                         first | done | omega) ?_
        rw [if_neg (fun p => q3 p.2.2)]
        exact zwp_ret ⟨rfl, cK.rf hC⟩
