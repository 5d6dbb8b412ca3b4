/-! CALLS: queen: the class -/
theorem udn_x {T : Int → Bool} {U : Int → Int} {N : Nat} (h11 : N ≤ 11) (hR : ∀ o : Int, 0 ≤ o → o < N → U o = -1 ∨ 0 ≤ U o ∧ U o < N) {o : Nat} (ho : N ≤ o) (o32 : o < 32) : ∀ k, k ≤ N → xb (udn T U N k) o = false
  | 0, _ => by rw [udn, xb_0]
  | k + 1, hk => by
    have ih := udn_x (T := T) h11 hR ho o32 k (by omega)
    have r := hR ((N : Int) - 1 - k) (by omega) (by omega)
    rw [udn]
    split
    · next q =>
      have r2 : 0 ≤ U ((N : Int) - 1 - k) ∧ U ((N : Int) - 1 - k) < N := by
        rcases r with r | r
        · exact absurd r q.1
        · exact r
      rw [xb_or, ih, Bool.false_or]
      have e : U ((N : Int) - 1 - k) = ((U ((N : Int) - 1 - k)).toNat : Nat) := by omega
      rw [e, bt_tab _ (by omega) o o32]
      exact decide_eq_false (by omega)
    · exact ih
theorem udn_up {T : Int → Bool} {U : Int → Int} {N : Nat} (h : U N = -1) : ∀ k : Nat, udn T U (N + 1) (k + 1) = udn T U N k
  | 0 => by
    have e : ((N + 1 : Nat) : Int) - 1 - (0 : Nat) = N := by omega
    rw [udn, udn, udn, e, if_neg (fun q => q.1 h)]
  | k + 1 => by
    have ih := udn_up (T := T) h k
    have e : ((N + 1 : Nat) : Int) - 1 - ((k + 1 : Nat) : Int) = (N : Int) - 1 - k := by omega
    rw [udn, ih, e, udn]
/-- one seat more, which undoes nothing and which none undoes: she bears if she comes no earlier than who else would -/
theorem hB_q {T : Int → Bool} {U A S c : Int → Int} {n : Nat} {g : Int} (h10 : n ≤ 10) (hR : ∀ o : Int, 0 ≤ o → o < n → U o = -1 ∨ 0 ≤ U o ∧ U o < n) (hU : U n = -1) (hA : A n = g) (hS : S n ≠ -1) : (hB T U A S c (n + 1) g = n) ↔ T n = true ∧ (hB T U A S c n g = -1 ∨ c (hB T U A S c n g) ≤ c n) := by
  have ex := udn_x (T := T) (o := n) (by omega) hR (Nat.le_refl _) (by omega) n (Nat.le_refl _)
  have r := br_rng (fun o => T o && !(xb (udn T U n n) o.toNat) && decide (A o = g) && decide (S o ≠ -1)) c n
  unfold hB
  rw [udn_up hU, br]
  have hP : ((T n && !(xb (udn T U n n) (n : Int).toNat) && decide (A n = g) && decide (S n ≠ -1)) = true) ↔ T n = true := by
    rw [Int.toNat_natCast, ex, decide_eq_true hA, decide_eq_true hS]
    simp
  simp only [hP]
  generalize br (fun o => T o && !(xb (udn T U n n) o.toNat) && decide (A o = g) && decide (S o ≠ -1)) c n = b at r ⊢
  constructor
  · intro q
    split at q
    · next p => exact p
    · omega
  · intro q
    rw [if_pos q]
/-- she bears, coming at x -/
abbrev QB (W : Int → Int) (t g h x : Int) : Prop := x ≠ -1 ∧ x ≤ h ∧ x ≤ W 7 ∧ (BB W (CM W noD) (W 7) t g h = -1 ∨ CM W noD (BB W (CM W noD) (W 7) t g h) ≤ x)
def Pq (W : Int → Int) (f t g h s : Int) : Bool := decide (CMw W (FL W noD) (wayBy W f (-1) t) s 1 0 ≠ -1 ∧ CMw W (FL W noD) (wayBy W f (-1) t) s 1 0 ≤ h ∧ CMw W (FL W noD) (wayBy W f (-1) t) s 1 0 ≤ W 7 ∧ (BB W (CM W noD) (W 7) t g h = -1 ∨ CM W noD (BB W (CM W noD) (W 7) t g h) ≤ CMw W (FL W noD) (wayBy W f (-1) t) s 1 0))
theorem Pq_iff {W : Int → Int} {f t g h s : Int} : Pq W f t g h s = true ↔ QB W t g h (CMw W (FL W noD) (wayBy W f (-1) t) s 1 0) := by
  unfold Pq QB
  rw [decide_eq_true_eq]
/-- the class's council with the queen told last -/
def qC (σ : zM) (W : Int → Int) (t g says : Int) : Prop := zN σ 63 0 = W 5 + 1 ∧ zN σ 63 1 = W 7 ∧ (∀ o, 0 ≤ o → o < W 5 → sC σ W o ∧ zN σ 68 o.toNat = CM W noD o) ∧ zN σ 64 (W 5).toNat = t ∧ zN σ 65 (W 5).toNat = g ∧ zN σ 66 (W 5).toNat = says ∧ zN σ 67 (W 5).toNat = -1
theorem qC.fr {σ τ : zM} {W : Int → Int} {t g says : Int} (h : qC σ W t g says) (hf : ∀ b, 63 ≤ b → b < 69 → ∀ k, zN τ b k = zN σ b k) : qC τ W t g says := by
  obtain ⟨h0, h1, h2, h3, h4, h5, h6⟩ := h
  refine ⟨(hf 63 (by omega) (by omega) 0).trans h0, (hf 63 (by omega) (by omega) 1).trans h1, fun o o0 o1 => ⟨(h2 o o0 o1).1.fr (hf 64 (by omega) (by omega) _) (hf 65 (by omega) (by omega) _) (hf 66 (by omega) (by omega) _) (hf 67 (by omega) (by omega) _), (hf 68 (by omega) (by omega) _).trans (h2 o o0 o1).2⟩, (hf 64 (by omega) (by omega) _).trans h3, (hf 65 (by omega) (by omega) _).trans h4, (hf 66 (by omega) (by omega) _).trans h5, (hf 67 (by omega) (by omega) _).trans h6⟩
theorem sp_22q {σ : zM} {W : Int → Int} {t g says x h : Int} (hW : WOK W) (hC : qC σ W t g says) (hs : says ≠ -1) (x0 : -2147483648 ≤ x) (x1 : x < 2147483648) (ht0 : -2147483648 ≤ t) (ht1 : t < 2147483648) (hg0 : -2147483648 ≤ g) (hg1 : g < 2147483648) (hh0 : -2147483648 ≤ h) (hh1 : h < 2147483648) : ∃ b : Int, (-1 ≤ b ∧ b ≤ W 5) ∧ ((b = W 5) ↔ QB W t g h x) ∧ zwp (zcall 22 [.ref 69, .int (Int32.ofInt (W 5)), .int (Int32.ofInt x), .int (Int32.ofInt t), .int (Int32.ofInt g), .int (Int32.ofInt h)] σ) (fun v τ => v = some (.int (Int32.ofInt b)) ∧ same σ τ) := by
  have h5 := hW.2.2.1
  have un := hW.un
  have b0 := mm_lo σ 68 (W 5).toNat
  have b1 := mm_hi σ 68 (W 5).toNat
  obtain ⟨c0, c1, c2, c3, c4, c5, c6⟩ := hC
  have hN : (((W 5).toNat : Nat) : Int) = W 5 := by omega
  have hlt : ∀ o : Int, 0 ≤ o → o < W 5 → zN (zw σ 68 (W 5).toNat x) 68 o.toNat = CM W noD o := fun o o0 o1 => by
    rw [mm_nj (by omega)]
    exact (c2 o o0 o1).2
  have hat : zN (zw σ 68 (W 5).toNat x) 68 (W 5).toNat = x := mm_at rfl rfl x0 x1
  have hK : kC (zw σ 68 (W 5).toNat x) ((W 5).toNat + 1) := by
    refine ⟨?_, by omega, fun o ho => ?_⟩
    · rw [mm_ne (by decide), c0]
      omega
    · rw [mm_ne (by decide)]
      by_cases q : o = (W 5).toNat
      · rw [q]
        exact .inl c6
      · have e := (c2 o (by omega) (by omega)).1.2.2.2
        rw [Int.toNat_natCast] at e
        have := (un.2.2 o (by omega) (by omega)).1
        omega
  have r : -1 ≤ kB (zw σ 68 (W 5).toNat x) ((W 5).toNat + 1) t g h ∧ kB (zw σ 68 (W 5).toNat x) ((W 5).toNat + 1) t g h < (((W 5).toNat + 1 : Nat) : Int) := br_rng _ _ _
  have hT : ∀ o : Int, 0 ≤ o → o < ((W 5).toNat : Nat) → kT (zw σ 68 (W 5).toNat x) t h o = TT W (CM W noD) (W 7) t h o := fun o o0 o1 => by
    have e := (c2 o o0 (by omega)).1.1
    have e8 := hlt o o0 (by omega)
    unfold kT TT
    rw [e8, mm_ne (by decide), e, mm_ne (by decide), c1]
  have hU : ∀ o : Int, 0 ≤ o → o < ((W 5).toNat : Nat) → kr (zw σ 68 (W 5).toNat x) 67 o = oo W o 3 := fun o o0 o1 => (mm_ne (by decide)).trans (c2 o o0 (by omega)).1.2.2.2
  have hR : ∀ o : Int, 0 ≤ o → o < ((W 5).toNat : Nat) → kr (zw σ 68 (W 5).toNat x) 67 o = -1 ∨ 0 ≤ kr (zw σ 68 (W 5).toNat x) 67 o ∧ kr (zw σ 68 (W 5).toNat x) 67 o < ((W 5).toNat : Nat) := fun o o0 o1 => by
    rw [hU o o0 o1]
    have := (un.2.2 o o0 (by omega)).1
    omega
  have hq := hB_q (T := kT (zw σ 68 (W 5).toNat x) t h) (U := kr (zw σ 68 (W 5).toNat x) 67) (A := kr (zw σ 68 (W 5).toNat x) 65) (S := kr (zw σ 68 (W 5).toNat x) 66) (c := kr (zw σ 68 (W 5).toNat x) 68) (n := (W 5).toNat) (g := g) (by omega) hR (by unfold kr; rw [Int.toNat_natCast, mm_ne (by decide)]; exact c6) (by unfold kr; rw [Int.toNat_natCast, mm_ne (by decide)]; exact c4) (by unfold kr; rw [Int.toNat_natCast, mm_ne (by decide), c5]; exact hs)
  have eB : hB (kT (zw σ 68 (W 5).toNat x) t h) (kr (zw σ 68 (W 5).toNat x) 67) (kr (zw σ 68 (W 5).toNat x) 65) (kr (zw σ 68 (W 5).toNat x) 66) (kr (zw σ 68 (W 5).toNat x) 68) (W 5).toNat g = BB W (CM W noD) (W 7) t g h := hB_congr hT hU (fun o o0 o1 => (mm_ne (by decide)).trans (c2 o o0 (by omega)).1.2.1) (fun o o0 o1 => (mm_ne (by decide)).trans (c2 o o0 (by omega)).1.2.2.1) (fun o o0 o1 => hlt o o0 (by omega)) hR
  rw [eB] at hq
  have rB := BB_rng W (CM W noD) (W 7) t g h
  refine ⟨kB (zw σ 68 (W 5).toNat x) ((W 5).toNat + 1) t g h, ⟨r.1, by omega⟩, ?_, ?_⟩
  · rw [← hN]
    refine hq.trans ?_
    have e1 : (kT (zw σ 68 (W 5).toNat x) t h (((W 5).toNat : Nat) : Int) = true) ↔ x ≠ -1 ∧ x ≤ h ∧ x ≤ W 7 := by
      unfold kT
      rw [Int.toNat_natCast, hat, mm_ne (by decide), c3, mm_ne (by decide), c1, decide_eq_true_eq]
      exact ⟨fun p => p.2, fun p => ⟨rfl, p⟩⟩
    have e2 : kr (zw σ 68 (W 5).toNat x) 68 (((W 5).toNat : Nat) : Int) = x := by
      unfold kr
      rw [Int.toNat_natCast, hat]
    rw [e1, e2]
    unfold QB
    by_cases z : BB W (CM W noD) (W 7) t g h = -1
    · constructor
      · intro p
        exact ⟨p.1.1, p.1.2.1, p.1.2.2, .inl z⟩
      · intro p
        exact ⟨⟨p.1, p.2.1, p.2.2.1⟩, .inl z⟩
    · have e3 : kr (zw σ 68 (W 5).toNat x) 68 (BB W (CM W noD) (W 7) t g h) = CM W noD (BB W (CM W noD) (W 7) t g h) := hlt _ (by omega) (by omega)
      rw [e3]
      constructor
      · intro p
        exact ⟨p.1.1, p.1.2.1, p.1.2.2, p.2⟩
      · intro p
        exact ⟨⟨p.1, p.2.1, p.2.2.1⟩, p.2.2.2⟩
  · refine zwp_of (fun r h => zcc_22 (ze_22_0 _ _ _ _ _ _ r h)) ?_
    repeat (with_reducible refine zwp_cd ?_ ?_; (· simp (disch := first | assumption | exact isR33 | exact isT104 | exact isF99 | exact isF101 | exact isR3 | omega | (refine isTk ?_; omega) | (refine isOk isR33 ?_; omega) | (refine isOk ?_ ?_; assumption; omega)) only [mm_r, mm_rl, mm_add, mm_sub, mm_mul, mm_addJ, mm_mulJ, mm_lt, mm_le, mm_eq, mm_z, mm_cl, mm_w, mm_wl, mm_ite, mm_i2l, mm_l2i, mm_ltJ, mm_leJ, mm_eqJ, mm_clt, mm_cle, mm_cgt, mm_cge, mm_ceq, mm_b, mm_nb, mm_nb0, mm_nb1, mm_vb0, mm_vb1, mm_vbc, mm_vy0, mm_vy1, mm_at, mm_ne, mm_nj, mm_Lw, mm_Nw, mm_atJ, mm_neJ, mm_njJ, zbI_s, zbV_s, zbJ_s, cond_t, Bool.true_and, Bool.and_true, if_true, if_false, not_true, not_false_iff, Classical.not_not, zel_r, zel_42, zel_12, zel_71, zel_80, zel_89, zel_110, zel_188, zel_103, zel_195, zr_o, zr_1, zr_2, zr_3, zr_4, zr_5, zr_6, zr_7, zr_8, zr_9, zq_o, zq_v, zt_o, zt_1, zt_2, zt_3, zt_4, zt_5, zf_o, zf_1, za_w1, za_w2, za_w3, za_cm, za_sl, Int.toNat_natCast, Int.toNat_natCast_add_one, mm_t0, mm_t1, mm_t2, mm_t3, mm_t4, mm_t5, mm_t6, mm_t7, mm_t8, mm_t9, mm_t10, mm_t11, mm_t12, mm_t13, za_1, za_64, za_65, za_66, za_67, za_68, za_71, za_80, za_89, za_98, za_103, za_110, za_121, za_122, za_123, za_124, za_125, za_126, za_188, za_193, za_194, za_195, za_286, za_288, za_289, za_290, za_291, za_292, za_293, za_294, za_295, za_296, za_297, za_298, za_299, za_300, za_301, za_302, za_303, za_304, za_305, za_306, za_307, za_308, za_309, za_310, za_311, za_312]))
    refine zwp_letE (τ' := zw σ 68 (W 5).toNat x) (by simp (disch := first | assumption | exact isR33 | exact isT104 | exact isF99 | exact isF101 | exact isR3 | omega | (refine isTk ?_; omega) | (refine isOk isR33 ?_; omega) | (refine isOk ?_ ?_; assumption; omega)) only [mm_r, mm_rl, mm_add, mm_sub, mm_mul, mm_addJ, mm_mulJ, mm_lt, mm_le, mm_eq, mm_z, mm_cl, mm_w, mm_wl, mm_ite, mm_i2l, mm_l2i, mm_ltJ, mm_leJ, mm_eqJ, mm_clt, mm_cle, mm_cgt, mm_cge, mm_ceq, mm_b, mm_nb, mm_nb0, mm_nb1, mm_vb0, mm_vb1, mm_vbc, mm_vy0, mm_vy1, mm_at, mm_ne, mm_nj, mm_Lw, mm_Nw, mm_atJ, mm_neJ, mm_njJ, zbI_s, zbV_s, zbJ_s, cond_t, Bool.true_and, Bool.and_true, if_true, if_false, not_true, not_false_iff, Classical.not_not, zel_r, zel_42, zel_12, zel_71, zel_80, zel_89, zel_110, zel_188, zel_103, zel_195, zr_o, zr_1, zr_2, zr_3, zr_4, zr_5, zr_6, zr_7, zr_8, zr_9, zq_o, zq_v, zt_o, zt_1, zt_2, zt_3, zt_4, zt_5, zf_o, zf_1, za_w1, za_w2, za_w3, za_cm, za_sl, Int.toNat_natCast, Int.toNat_natCast_add_one, mm_t0, mm_t1, mm_t2, mm_t3, mm_t4, mm_t5, mm_t6, mm_t7, mm_t8, mm_t9, mm_t10, mm_t11, mm_t12, mm_t13, za_1, za_64, za_65, za_66, za_67, za_68, za_71, za_80, za_89, za_98, za_103, za_110, za_121, za_122, za_123, za_124, za_125, za_126, za_188, za_193, za_194, za_195, za_286, za_288, za_289, za_290, za_291, za_292, za_293, za_294, za_295, za_296, za_297, za_298, za_299, za_300, za_301, za_302, za_303, za_304, za_305, za_306, za_307, za_308, za_309, za_310, za_311, za_312]) ?_
    rw [sp_5 ht0 ht1 hg0 hg1 hh0 hh1 hK, zbI_s]
    repeat (with_reducible refine zwp_cd ?_ ?_; (· simp (disch := first | assumption | exact isR33 | exact isT104 | exact isF99 | exact isF101 | exact isR3 | omega | (refine isTk ?_; omega) | (refine isOk isR33 ?_; omega) | (refine isOk ?_ ?_; assumption; omega)) only [mm_r, mm_rl, mm_add, mm_sub, mm_mul, mm_addJ, mm_mulJ, mm_lt, mm_le, mm_eq, mm_z, mm_cl, mm_w, mm_wl, mm_ite, mm_i2l, mm_l2i, mm_ltJ, mm_leJ, mm_eqJ, mm_clt, mm_cle, mm_cgt, mm_cge, mm_ceq, mm_b, mm_nb, mm_nb0, mm_nb1, mm_vb0, mm_vb1, mm_vbc, mm_vy0, mm_vy1, mm_at, mm_ne, mm_nj, mm_Lw, mm_Nw, mm_atJ, mm_neJ, mm_njJ, zbI_s, zbV_s, zbJ_s, cond_t, Bool.true_and, Bool.and_true, if_true, if_false, not_true, not_false_iff, Classical.not_not, zel_r, zel_42, zel_12, zel_71, zel_80, zel_89, zel_110, zel_188, zel_103, zel_195, zr_o, zr_1, zr_2, zr_3, zr_4, zr_5, zr_6, zr_7, zr_8, zr_9, zq_o, zq_v, zt_o, zt_1, zt_2, zt_3, zt_4, zt_5, zf_o, zf_1, za_w1, za_w2, za_w3, za_cm, za_sl, Int.toNat_natCast, Int.toNat_natCast_add_one, mm_t0, mm_t1, mm_t2, mm_t3, mm_t4, mm_t5, mm_t6, mm_t7, mm_t8, mm_t9, mm_t10, mm_t11, mm_t12, mm_t13, za_1, za_64, za_65, za_66, za_67, za_68, za_71, za_80, za_89, za_98, za_103, za_110, za_121, za_122, za_123, za_124, za_125, za_126, za_188, za_193, za_194, za_195, za_286, za_288, za_289, za_290, za_291, za_292, za_293, za_294, za_295, za_296, za_297, za_298, za_299, za_300, za_301, za_302, za_303, za_304, za_305, za_306, za_307, za_308, za_309, za_310, za_311, za_312]))
    refine zwp_letE (τ' := zw (zw σ 68 (W 5).toNat x) 68 (W 5).toNat (zN σ 68 (W 5).toNat)) (by simp (disch := first | assumption | exact isR33 | exact isT104 | exact isF99 | exact isF101 | exact isR3 | omega | (refine isTk ?_; omega) | (refine isOk isR33 ?_; omega) | (refine isOk ?_ ?_; assumption; omega)) only [mm_r, mm_rl, mm_add, mm_sub, mm_mul, mm_addJ, mm_mulJ, mm_lt, mm_le, mm_eq, mm_z, mm_cl, mm_w, mm_wl, mm_ite, mm_i2l, mm_l2i, mm_ltJ, mm_leJ, mm_eqJ, mm_clt, mm_cle, mm_cgt, mm_cge, mm_ceq, mm_b, mm_nb, mm_nb0, mm_nb1, mm_vb0, mm_vb1, mm_vbc, mm_vy0, mm_vy1, mm_at, mm_ne, mm_nj, mm_Lw, mm_Nw, mm_atJ, mm_neJ, mm_njJ, zbI_s, zbV_s, zbJ_s, cond_t, Bool.true_and, Bool.and_true, if_true, if_false, not_true, not_false_iff, Classical.not_not, zel_r, zel_42, zel_12, zel_71, zel_80, zel_89, zel_110, zel_188, zel_103, zel_195, zr_o, zr_1, zr_2, zr_3, zr_4, zr_5, zr_6, zr_7, zr_8, zr_9, zq_o, zq_v, zt_o, zt_1, zt_2, zt_3, zt_4, zt_5, zf_o, zf_1, za_w1, za_w2, za_w3, za_cm, za_sl, Int.toNat_natCast, Int.toNat_natCast_add_one, mm_t0, mm_t1, mm_t2, mm_t3, mm_t4, mm_t5, mm_t6, mm_t7, mm_t8, mm_t9, mm_t10, mm_t11, mm_t12, mm_t13, za_1, za_64, za_65, za_66, za_67, za_68, za_71, za_80, za_89, za_98, za_103, za_110, za_121, za_122, za_123, za_124, za_125, za_126, za_188, za_193, za_194, za_195, za_286, za_288, za_289, za_290, za_291, za_292, za_293, za_294, za_295, za_296, za_297, za_298, za_299, za_300, za_301, za_302, za_303, za_304, za_305, za_306, za_307, za_308, za_309, za_310, za_311, za_312]) ?_
    exact zwp_ret ⟨rfl, same_back rfl b0 b1⟩
theorem ctC.fq {σ τ : zM} {W : Int → Int} (h : ctC σ W) (hW : WOK W) (hf : ∀ b, (33 ≤ b ∧ b < 63 ∨ 72 ≤ b ∧ b ≤ 100 ∨ 111 ≤ b ∧ b ≤ 121 ∨ 127 ≤ b ∧ b < 187) → ∀ k, zN τ b k = zN σ b k) (h0 : zN τ 63 0 = zN σ 63 0) (h1 : zN τ 63 1 = zN σ 63 1) (hs : ∀ b, 64 ≤ b → b < 69 → ∀ k : Nat, (k : Int) < W 5 → zN τ b k = zN σ b k) : ctC τ W := by
  have h5 := hW.2.2.1
  obtain ⟨a1, a2, a3, a4, a5⟩ := h
  refine ⟨a1.fr (by omega) fun a x y => hf a (by omega), a2.fr hW.1.1.2.1 fun b x y => hf b (by omega), a3.fr (hf 99 (by omega)) (hf 100 (by omega)), ⟨h0.trans a4.1, h1.trans a4.2⟩, fun o o0 o1 => ?_⟩
  obtain ⟨b1, b2, b3⟩ := a5 o o0 o1
  refine ⟨b1.fr (hs 64 (by omega) (by omega) _ (by omega)) (hs 65 (by omega) (by omega) _ (by omega)) (hs 66 (by omega) (by omega) _ (by omega)) (hs 67 (by omega) (by omega) _ (by omega)), b2.fr (hs 68 (by omega) (by omega) _ (by omega)) (fun r r0 r1 => hf r (by omega)), ?_⟩
  intro p x x0 x1
  rw [hf 121 (by omega)] at p
  rw [hf _ (by omega)]
  exact b3 p x x0 x1
/-- within the queen's thought -/
def qS (σ0 σ : zM) (W : Int → Int) (f t g says : Int) : Prop := mf (fun b => 63 ≤ b ∧ b < 69 ∨ 104 ≤ b ∧ b < 110) σ0 σ ∧ qC σ W t g says ∧ (∀ b, 64 ≤ b → b < 69 → ∀ k : Nat, (k : Int) < W 5 → zN σ b k = zN σ0 b k) ∧ tC σ 104 W (wayBy W f (-1) t)
theorem lp_30e {σ0 σ : zM} {W : Int → Int} {f t g says h a b : Int} (hW : WOK W) (hC : ctC σ0 W) (hS : qS σ0 σ W f t g says) (hh0 : -2147483648 ≤ h) (hh1 : h < 2147483648) (a0 : -1 ≤ a) (a1 : a < 1000) (b0 : -1 ≤ b) (b1 : b < 1000) (hab : b < 0 ∨ a ≠ -1) : zwp (zev 30 97 [some (.ref 69), none, some (.int (Int32.ofInt t)), some (.int (Int32.ofInt g)), none, some (.int (Int32.ofInt h)), some (.int (Int32.ofInt (W 5))), some (.int (Int32.ofInt a)), some (.int (Int32.ofInt b)), none] [] σ) (fun v τ => v = some (.int (Int32.ofInt a)) ∧ cK σ0 τ W) := by
  have h5 := hW.2.2.1
  obtain ⟨s1, s2, s3, -⟩ := hS
  have hend : cK σ0 (zw σ 63 0 (W 5)) W := by
    refine ⟨(s1.mono fun b hb => by unfold clsS; omega).zw 63 _ _ (.inl (by decide)), hC.fq hW (fun b hb k => ?_) ?_ ?_ (fun b b0 b1 k hk => ?_)⟩
    · rw [mm_ne (by omega)]
      exact s1.1 b (by omega) k
    · rw [mm_at rfl rfl (by omega) (by omega)]
      exact hC.2.2.2.1.1.symm
    · rw [mm_nj (by decide), s2.2.1]
      exact hC.2.2.2.1.2.symm
    · rw [mm_ne (by omega)]
      exact s3 b b0 b1 k hk
  refine zwp_of (fun r h => ze_30_97 _ _ _ _ _ _ _ r h) ?_
  by_cases q : b < 0
  · refine zwp_t (by try simp (disch := first | assumption | exact isR33 | exact isT104 | exact isF99 | exact isF101 | exact isR3 | omega | (refine isTk ?_; omega) | (refine isOk isR33 ?_; omega) | (refine isOk ?_ ?_; assumption; omega)) only [mm_r, mm_rl, mm_add, mm_sub, mm_mul, mm_addJ, mm_mulJ, mm_lt, mm_le, mm_eq, mm_z, mm_cl, mm_w, mm_wl, mm_ite, mm_i2l, mm_l2i, mm_ltJ, mm_leJ, mm_eqJ, mm_clt, mm_cle, mm_cgt, mm_cge, mm_ceq, mm_b, mm_nb, mm_nb0, mm_nb1, mm_vb0, mm_vb1, mm_vbc, mm_vy0, mm_vy1, mm_at, mm_ne, mm_nj, mm_Lw, mm_Nw, mm_atJ, mm_neJ, mm_njJ, zbI_s, zbV_s, zbJ_s, cond_t, Bool.true_and, Bool.and_true, if_true, if_false, not_true, not_false_iff, Classical.not_not, zel_r, zel_42, zel_12, zel_71, zel_80, zel_89, zel_110, zel_188, zel_103, zel_195, zr_o, zr_1, zr_2, zr_3, zr_4, zr_5, zr_6, zr_7, zr_8, zr_9, zq_o, zq_v, zt_o, zt_1, zt_2, zt_3, zt_4, zt_5, zf_o, zf_1, za_w1, za_w2, za_w3, za_cm, za_sl, Int.toNat_natCast, Int.toNat_natCast_add_one, mm_t0, mm_t1, mm_t2, mm_t3, mm_t4, mm_t5, mm_t6, mm_t7, mm_t8, mm_t9, mm_t10, mm_t11, mm_t12, mm_t13, za_1, za_64, za_65, za_66, za_67, za_68, za_71, za_80, za_89, za_98, za_103, za_110, za_121, za_122, za_123, za_124, za_125, za_126, za_188, za_193, za_194, za_195, za_286, za_288, za_289, za_290, za_291, za_292, za_293, za_294, za_295, za_296, za_297, za_298, za_299, za_300, za_301, za_302, za_303, za_304, za_305, za_306, za_307, za_308, za_309, za_310, za_311, za_312]
                     first | done | omega) ?_
    refine zwp_letE (τ' := zw σ 63 0 (W 5)) (by simp (disch := first | assumption | exact isR33 | exact isT104 | exact isF99 | exact isF101 | exact isR3 | omega | (refine isTk ?_; omega) | (refine isOk isR33 ?_; omega) | (refine isOk ?_ ?_; assumption; omega)) only [mm_r, mm_rl, mm_add, mm_sub, mm_mul, mm_addJ, mm_mulJ, mm_lt, mm_le, mm_eq, mm_z, mm_cl, mm_w, mm_wl, mm_ite, mm_i2l, mm_l2i, mm_ltJ, mm_leJ, mm_eqJ, mm_clt, mm_cle, mm_cgt, mm_cge, mm_ceq, mm_b, mm_nb, mm_nb0, mm_nb1, mm_vb0, mm_vb1, mm_vbc, mm_vy0, mm_vy1, mm_at, mm_ne, mm_nj, mm_Lw, mm_Nw, mm_atJ, mm_neJ, mm_njJ, zbI_s, zbV_s, zbJ_s, cond_t, Bool.true_and, Bool.and_true, if_true, if_false, not_true, not_false_iff, Classical.not_not, zel_r, zel_42, zel_12, zel_71, zel_80, zel_89, zel_110, zel_188, zel_103, zel_195, zr_o, zr_1, zr_2, zr_3, zr_4, zr_5, zr_6, zr_7, zr_8, zr_9, zq_o, zq_v, zt_o, zt_1, zt_2, zt_3, zt_4, zt_5, zf_o, zf_1, za_w1, za_w2, za_w3, za_cm, za_sl, Int.toNat_natCast, Int.toNat_natCast_add_one, mm_t0, mm_t1, mm_t2, mm_t3, mm_t4, mm_t5, mm_t6, mm_t7, mm_t8, mm_t9, mm_t10, mm_t11, mm_t12, mm_t13, za_1, za_64, za_65, za_66, za_67, za_68, za_71, za_80, za_89, za_98, za_103, za_110, za_121, za_122, za_123, za_124, za_125, za_126, za_188, za_193, za_194, za_195, za_286, za_288, za_289, za_290, za_291, za_292, za_293, za_294, za_295, za_296, za_297, za_298, za_299, za_300, za_301, za_302, za_303, za_304, za_305, za_306, za_307, za_308, za_309, za_310, za_311, za_312]) ?_
    exact zwp_ret ⟨rfl, hend⟩
  · refine zwp_f (by try simp (disch := first | assumption | exact isR33 | exact isT104 | exact isF99 | exact isF101 | exact isR3 | omega | (refine isTk ?_; omega) | (refine isOk isR33 ?_; omega) | (refine isOk ?_ ?_; assumption; omega)) only [mm_r, mm_rl, mm_add, mm_sub, mm_mul, mm_addJ, mm_mulJ, mm_lt, mm_le, mm_eq, mm_z, mm_cl, mm_w, mm_wl, mm_ite, mm_i2l, mm_l2i, mm_ltJ, mm_leJ, mm_eqJ, mm_clt, mm_cle, mm_cgt, mm_cge, mm_ceq, mm_b, mm_nb, mm_nb0, mm_nb1, mm_vb0, mm_vb1, mm_vbc, mm_vy0, mm_vy1, mm_at, mm_ne, mm_nj, mm_Lw, mm_Nw, mm_atJ, mm_neJ, mm_njJ, zbI_s, zbV_s, zbJ_s, cond_t, Bool.true_and, Bool.and_true, if_true, if_false, not_true, not_false_iff, Classical.not_not, zel_r, zel_42, zel_12, zel_71, zel_80, zel_89, zel_110, zel_188, zel_103, zel_195, zr_o, zr_1, zr_2, zr_3, zr_4, zr_5, zr_6, zr_7, zr_8, zr_9, zq_o, zq_v, zt_o, zt_1, zt_2, zt_3, zt_4, zt_5, zf_o, zf_1, za_w1, za_w2, za_w3, za_cm, za_sl, Int.toNat_natCast, Int.toNat_natCast_add_one, mm_t0, mm_t1, mm_t2, mm_t3, mm_t4, mm_t5, mm_t6, mm_t7, mm_t8, mm_t9, mm_t10, mm_t11, mm_t12, mm_t13, za_1, za_64, za_65, za_66, za_67, za_68, za_71, za_80, za_89, za_98, za_103, za_110, za_121, za_122, za_123, za_124, za_125, za_126, za_188, za_193, za_194, za_195, za_286, za_288, za_289, za_290, za_291, za_292, za_293, za_294, za_295, za_296, za_297, za_298, za_299, za_300, za_301, za_302, za_303, za_304, za_305, za_306, za_307, za_308, za_309, za_310, za_311, za_312]
                     first | done | omega) ?_
    refine zwp_t (by try simp (disch := first | assumption | exact isR33 | exact isT104 | exact isF99 | exact isF101 | exact isR3 | omega | (refine isTk ?_; omega) | (refine isOk isR33 ?_; omega) | (refine isOk ?_ ?_; assumption; omega)) only [mm_r, mm_rl, mm_add, mm_sub, mm_mul, mm_addJ, mm_mulJ, mm_lt, mm_le, mm_eq, mm_z, mm_cl, mm_w, mm_wl, mm_ite, mm_i2l, mm_l2i, mm_ltJ, mm_leJ, mm_eqJ, mm_clt, mm_cle, mm_cgt, mm_cge, mm_ceq, mm_b, mm_nb, mm_nb0, mm_nb1, mm_vb0, mm_vb1, mm_vbc, mm_vy0, mm_vy1, mm_at, mm_ne, mm_nj, mm_Lw, mm_Nw, mm_atJ, mm_neJ, mm_njJ, zbI_s, zbV_s, zbJ_s, cond_t, Bool.true_and, Bool.and_true, if_true, if_false, not_true, not_false_iff, Classical.not_not, zel_r, zel_42, zel_12, zel_71, zel_80, zel_89, zel_110, zel_188, zel_103, zel_195, zr_o, zr_1, zr_2, zr_3, zr_4, zr_5, zr_6, zr_7, zr_8, zr_9, zq_o, zq_v, zt_o, zt_1, zt_2, zt_3, zt_4, zt_5, zf_o, zf_1, za_w1, za_w2, za_w3, za_cm, za_sl, Int.toNat_natCast, Int.toNat_natCast_add_one, mm_t0, mm_t1, mm_t2, mm_t3, mm_t4, mm_t5, mm_t6, mm_t7, mm_t8, mm_t9, mm_t10, mm_t11, mm_t12, mm_t13, za_1, za_64, za_65, za_66, za_67, za_68, za_71, za_80, za_89, za_98, za_103, za_110, za_121, za_122, za_123, za_124, za_125, za_126, za_188, za_193, za_194, za_195, za_286, za_288, za_289, za_290, za_291, za_292, za_293, za_294, za_295, za_296, za_297, za_298, za_299, za_300, za_301, za_302, za_303, za_304, za_305, za_306, za_307, za_308, za_309, za_310, za_311, za_312]
                     first | done | omega) ?_
    refine zwp_letE (τ' := zw σ 63 0 (W 5)) (by simp (disch := first | assumption | exact isR33 | exact isT104 | exact isF99 | exact isF101 | exact isR3 | omega | (refine isTk ?_; omega) | (refine isOk isR33 ?_; omega) | (refine isOk ?_ ?_; assumption; omega)) only [mm_r, mm_rl, mm_add, mm_sub, mm_mul, mm_addJ, mm_mulJ, mm_lt, mm_le, mm_eq, mm_z, mm_cl, mm_w, mm_wl, mm_ite, mm_i2l, mm_l2i, mm_ltJ, mm_leJ, mm_eqJ, mm_clt, mm_cle, mm_cgt, mm_cge, mm_ceq, mm_b, mm_nb, mm_nb0, mm_nb1, mm_vb0, mm_vb1, mm_vbc, mm_vy0, mm_vy1, mm_at, mm_ne, mm_nj, mm_Lw, mm_Nw, mm_atJ, mm_neJ, mm_njJ, zbI_s, zbV_s, zbJ_s, cond_t, Bool.true_and, Bool.and_true, if_true, if_false, not_true, not_false_iff, Classical.not_not, zel_r, zel_42, zel_12, zel_71, zel_80, zel_89, zel_110, zel_188, zel_103, zel_195, zr_o, zr_1, zr_2, zr_3, zr_4, zr_5, zr_6, zr_7, zr_8, zr_9, zq_o, zq_v, zt_o, zt_1, zt_2, zt_3, zt_4, zt_5, zf_o, zf_1, za_w1, za_w2, za_w3, za_cm, za_sl, Int.toNat_natCast, Int.toNat_natCast_add_one, mm_t0, mm_t1, mm_t2, mm_t3, mm_t4, mm_t5, mm_t6, mm_t7, mm_t8, mm_t9, mm_t10, mm_t11, mm_t12, mm_t13, za_1, za_64, za_65, za_66, za_67, za_68, za_71, za_80, za_89, za_98, za_103, za_110, za_121, za_122, za_123, za_124, za_125, za_126, za_188, za_193, za_194, za_195, za_286, za_288, za_289, za_290, za_291, za_292, za_293, za_294, za_295, za_296, za_297, za_298, za_299, za_300, za_301, za_302, za_303, za_304, za_305, za_306, za_307, za_308, za_309, za_310, za_311, za_312]) ?_
    exact zwp_ret ⟨rfl, hend⟩
theorem lp_30 {σ0 : zM} {W : Int → Int} {f t g says h : Int} (hW : WOK W) (hC : ctC σ0 W) (hs : says ≠ -1) (f0 : 0 ≤ f) (f1 : f < W 0) (t0 : 0 ≤ t) (t1 : t < W 0) (g0 : 0 ≤ g) (g1 : g < 3) (h0 : 0 ≤ h) (h1 : h < W 1) : ∀ (n : Nat) (σ : zM), (n : Int) ≤ h + 1 → qS σ0 σ W f t g says → zwp (zev 30 97 [some (.ref 69), none, some (.int (Int32.ofInt t)), some (.int (Int32.ofInt g)), none, some (.int (Int32.ofInt h)), some (.int (Int32.ofInt (W 5))), some (.int (Int32.ofInt (-1))), some (.int (Int32.ofInt ((n : Int) - 1))), none] [] σ) (fun v τ => v = some (.int (Int32.ofInt (zlst (Pq W f t g h) n))) ∧ cK σ0 τ W)
  | 0, σ, hn, hS => by
    have h9 := hW.1.2.2.1
    exact lp_30e hW hC hS (by omega) (by omega) (by omega) (by omega) (by omega) (by omega) (.inl (by omega))
  | n + 1, σ, hn, hS => by
    have h9 := hW.1.2.2.1
    have h8 := hW.1.1.2.1
    have h5 := hW.2.2.1
    have hS' := hS
    obtain ⟨s1, s2, s3, s4⟩ := hS'
    have hN := (wayBy_N hW.1.1 (v := -1) f0 f1 (.inl rfl) t0 t1).1.le (m := 29) (by omega)
    have hF := hC.2.2.1.fr (s1.1 99 (by omega)) (s1.1 100 (by omega))
    have cr := CMw_rng (F := FL W noD) (h := n) (p := 1) (r := 0) hW.1 hN (by omega) (by omega) (by omega) (by omega) (by omega) (by omega)
    have hx : (if (wayBy W f (-1) t).1 = 0 then -1 else tI W (FL W noD) (wayBy W f (-1) t) n 1 0 ((wayBy W f (-1) t).1 - 1).toNat) = -1 ∨ 0 ≤ (if (wayBy W f (-1) t).1 = 0 then -1 else tI W (FL W noD) (wayBy W f (-1) t) n 1 0 ((wayBy W f (-1) t).1 - 1).toNat) ∧ (if (wayBy W f (-1) t).1 = 0 then -1 else tI W (FL W noD) (wayBy W f (-1) t) n 1 0 ((wayBy W f (-1) t).1 - 1).toNat) < 100000 := by
      rcases hN with q | ⟨q0, q1, q2⟩
      · rw [if_pos q]
        exact .inl rfl
      · rw [if_neg (by omega)]
        have := tI_rng hW.1.1 h9 (F := FL W noD) q2 (h := n) (p := 1) (r := 0) (by omega) (by omega) (by omega) (by omega) (by omega) (by omega) ((wayBy W f (-1) t).1 - 1).toNat (by omega)
        exact .inr (by omega)
    have ec := cr.1
    have ez : zlst (Pq W f t g h) (n + 1) = if Pq W f t g h n = true then (n : Int) else zlst (Pq W f t g h) n := rfl
    rw [ez, show ((n + 1 : Nat) : Int) - 1 = n by omega]
    simp only [Pq_iff]
    have s94 := sp_94 (h := n) (p := 1) (r := 0) isT104 isF99 hW.1 hN (by omega) (by omega) (by omega) (by omega) (by omega) (by omega) s4 hF
    generalize hxx : (if (wayBy W f (-1) t).1 = 0 then -1 else tI W (FL W noD) (wayBy W f (-1) t) n 1 0 ((wayBy W f (-1) t).1 - 1).toNat) = x at hx s94
    have ec : CMw W (FL W noD) (wayBy W f (-1) t) n 1 0 = if 0 ≤ x ∧ x < W 1 then x else -1 := by
      rw [← hxx]
      exact ec
    rw [ec]
    refine zwp_of (fun r h => ze_30_97 _ _ _ _ _ _ _ r h) ?_
    refine zwp_f (by try simp (disch := first | assumption | exact isR33 | exact isT104 | exact isF99 | exact isF101 | exact isR3 | omega | (refine isTk ?_; omega) | (refine isOk isR33 ?_; omega) | (refine isOk ?_ ?_; assumption; omega)) only [mm_r, mm_rl, mm_add, mm_sub, mm_mul, mm_addJ, mm_mulJ, mm_lt, mm_le, mm_eq, mm_z, mm_cl, mm_w, mm_wl, mm_ite, mm_i2l, mm_l2i, mm_ltJ, mm_leJ, mm_eqJ, mm_clt, mm_cle, mm_cgt, mm_cge, mm_ceq, mm_b, mm_nb, mm_nb0, mm_nb1, mm_vb0, mm_vb1, mm_vbc, mm_vy0, mm_vy1, mm_at, mm_ne, mm_nj, mm_Lw, mm_Nw, mm_atJ, mm_neJ, mm_njJ, zbI_s, zbV_s, zbJ_s, cond_t, Bool.true_and, Bool.and_true, if_true, if_false, not_true, not_false_iff, Classical.not_not, zel_r, zel_42, zel_12, zel_71, zel_80, zel_89, zel_110, zel_188, zel_103, zel_195, zr_o, zr_1, zr_2, zr_3, zr_4, zr_5, zr_6, zr_7, zr_8, zr_9, zq_o, zq_v, zt_o, zt_1, zt_2, zt_3, zt_4, zt_5, zf_o, zf_1, za_w1, za_w2, za_w3, za_cm, za_sl, Int.toNat_natCast, Int.toNat_natCast_add_one, mm_t0, mm_t1, mm_t2, mm_t3, mm_t4, mm_t5, mm_t6, mm_t7, mm_t8, mm_t9, mm_t10, mm_t11, mm_t12, mm_t13, za_1, za_64, za_65, za_66, za_67, za_68, za_71, za_80, za_89, za_98, za_103, za_110, za_121, za_122, za_123, za_124, za_125, za_126, za_188, za_193, za_194, za_195, za_286, za_288, za_289, za_290, za_291, za_292, za_293, za_294, za_295, za_296, za_297, za_298, za_299, za_300, za_301, za_302, za_303, za_304, za_305, za_306, za_307, za_308, za_309, za_310, za_311, za_312]
                     first | done | omega) ?_
    refine zwp_f (by try simp (disch := first | assumption | exact isR33 | exact isT104 | exact isF99 | exact isF101 | exact isR3 | omega | (refine isTk ?_; omega) | (refine isOk isR33 ?_; omega) | (refine isOk ?_ ?_; assumption; omega)) only [mm_r, mm_rl, mm_add, mm_sub, mm_mul, mm_addJ, mm_mulJ, mm_lt, mm_le, mm_eq, mm_z, mm_cl, mm_w, mm_wl, mm_ite, mm_i2l, mm_l2i, mm_ltJ, mm_leJ, mm_eqJ, mm_clt, mm_cle, mm_cgt, mm_cge, mm_ceq, mm_b, mm_nb, mm_nb0, mm_nb1, mm_vb0, mm_vb1, mm_vbc, mm_vy0, mm_vy1, mm_at, mm_ne, mm_nj, mm_Lw, mm_Nw, mm_atJ, mm_neJ, mm_njJ, zbI_s, zbV_s, zbJ_s, cond_t, Bool.true_and, Bool.and_true, if_true, if_false, not_true, not_false_iff, Classical.not_not, zel_r, zel_42, zel_12, zel_71, zel_80, zel_89, zel_110, zel_188, zel_103, zel_195, zr_o, zr_1, zr_2, zr_3, zr_4, zr_5, zr_6, zr_7, zr_8, zr_9, zq_o, zq_v, zt_o, zt_1, zt_2, zt_3, zt_4, zt_5, zf_o, zf_1, za_w1, za_w2, za_w3, za_cm, za_sl, Int.toNat_natCast, Int.toNat_natCast_add_one, mm_t0, mm_t1, mm_t2, mm_t3, mm_t4, mm_t5, mm_t6, mm_t7, mm_t8, mm_t9, mm_t10, mm_t11, mm_t12, mm_t13, za_1, za_64, za_65, za_66, za_67, za_68, za_71, za_80, za_89, za_98, za_103, za_110, za_121, za_122, za_123, za_124, za_125, za_126, za_188, za_193, za_194, za_195, za_286, za_288, za_289, za_290, za_291, za_292, za_293, za_294, za_295, za_296, za_297, za_298, za_299, za_300, za_301, za_302, za_303, za_304, za_305, za_306, za_307, za_308, za_309, za_310, za_311, za_312]
                     first | done | omega) ?_
    refine zwp_IE s94 ?_
    rintro τ ⟨hf, -⟩
    have hS2 : qS σ0 τ W f t g says := ⟨s1.tr (hf.mono (by omega)), s2.fr fun b b0 b1 => hf.1 b (by omega), fun b b0 b1 k hk => (hf.1 b (by omega) k).trans (s3 b b0 b1 k hk), s4.fr6 hf (by omega)⟩
    by_cases q1 : x = -1
    · refine zwp_t (by try simp (disch := first | assumption | exact isR33 | exact isT104 | exact isF99 | exact isF101 | exact isR3 | omega | (refine isTk ?_; omega) | (refine isOk isR33 ?_; omega) | (refine isOk ?_ ?_; assumption; omega)) only [mm_r, mm_rl, mm_add, mm_sub, mm_mul, mm_addJ, mm_mulJ, mm_lt, mm_le, mm_eq, mm_z, mm_cl, mm_w, mm_wl, mm_ite, mm_i2l, mm_l2i, mm_ltJ, mm_leJ, mm_eqJ, mm_clt, mm_cle, mm_cgt, mm_cge, mm_ceq, mm_b, mm_nb, mm_nb0, mm_nb1, mm_vb0, mm_vb1, mm_vbc, mm_vy0, mm_vy1, mm_at, mm_ne, mm_nj, mm_Lw, mm_Nw, mm_atJ, mm_neJ, mm_njJ, zbI_s, zbV_s, zbJ_s, cond_t, Bool.true_and, Bool.and_true, if_true, if_false, not_true, not_false_iff, Classical.not_not, zel_r, zel_42, zel_12, zel_71, zel_80, zel_89, zel_110, zel_188, zel_103, zel_195, zr_o, zr_1, zr_2, zr_3, zr_4, zr_5, zr_6, zr_7, zr_8, zr_9, zq_o, zq_v, zt_o, zt_1, zt_2, zt_3, zt_4, zt_5, zf_o, zf_1, za_w1, za_w2, za_w3, za_cm, za_sl, Int.toNat_natCast, Int.toNat_natCast_add_one, mm_t0, mm_t1, mm_t2, mm_t3, mm_t4, mm_t5, mm_t6, mm_t7, mm_t8, mm_t9, mm_t10, mm_t11, mm_t12, mm_t13, za_1, za_64, za_65, za_66, za_67, za_68, za_71, za_80, za_89, za_98, za_103, za_110, za_121, za_122, za_123, za_124, za_125, za_126, za_188, za_193, za_194, za_195, za_286, za_288, za_289, za_290, za_291, za_292, za_293, za_294, za_295, za_296, za_297, za_298, za_299, za_300, za_301, za_302, za_303, za_304, za_305, za_306, za_307, za_308, za_309, za_310, za_311, za_312]
                       first | done | omega) ?_
      rw [if_neg (fun p => by have := p.1; rw [if_neg (by omega)] at this; exact this rfl)]
      try simp (disch := first | assumption | exact isR33 | exact isT104 | exact isF99 | exact isF101 | exact isR3 | omega | (refine isTk ?_; omega) | (refine isOk isR33 ?_; omega) | (refine isOk ?_ ?_; assumption; omega)) only [mm_r, mm_rl, mm_add, mm_sub, mm_mul, mm_addJ, mm_mulJ, mm_lt, mm_le, mm_eq, mm_z, mm_cl, mm_w, mm_wl, mm_ite, mm_i2l, mm_l2i, mm_ltJ, mm_leJ, mm_eqJ, mm_clt, mm_cle, mm_cgt, mm_cge, mm_ceq, mm_b, mm_nb, mm_nb0, mm_nb1, mm_vb0, mm_vb1, mm_vbc, mm_vy0, mm_vy1, mm_at, mm_ne, mm_nj, mm_Lw, mm_Nw, mm_atJ, mm_neJ, mm_njJ, zbI_s, zbV_s, zbJ_s, cond_t, Bool.true_and, Bool.and_true, if_true, if_false, not_true, not_false_iff, Classical.not_not, zel_r, zel_42, zel_12, zel_71, zel_80, zel_89, zel_110, zel_188, zel_103, zel_195, zr_o, zr_1, zr_2, zr_3, zr_4, zr_5, zr_6, zr_7, zr_8, zr_9, zq_o, zq_v, zt_o, zt_1, zt_2, zt_3, zt_4, zt_5, zf_o, zf_1, za_w1, za_w2, za_w3, za_cm, za_sl, Int.toNat_natCast, Int.toNat_natCast_add_one, mm_t0, mm_t1, mm_t2, mm_t3, mm_t4, mm_t5, mm_t6, mm_t7, mm_t8, mm_t9, mm_t10, mm_t11, mm_t12, mm_t13, za_1, za_64, za_65, za_66, za_67, za_68, za_71, za_80, za_89, za_98, za_103, za_110, za_121, za_122, za_123, za_124, za_125, za_126, za_188, za_193, za_194, za_195, za_286, za_288, za_289, za_290, za_291, za_292, za_293, za_294, za_295, za_296, za_297, za_298, za_299, za_300, za_301, za_302, za_303, za_304, za_305, za_306, za_307, za_308, za_309, za_310, za_311, za_312]
      rw [show (n : Int) + -1 = n - 1 by omega]
      exact lp_30 hW hC hs f0 f1 t0 t1 g0 g1 h0 h1 n τ (by omega) hS2
    · refine zwp_f (by try simp (disch := first | assumption | exact isR33 | exact isT104 | exact isF99 | exact isF101 | exact isR3 | omega | (refine isTk ?_; omega) | (refine isOk isR33 ?_; omega) | (refine isOk ?_ ?_; assumption; omega)) only [mm_r, mm_rl, mm_add, mm_sub, mm_mul, mm_addJ, mm_mulJ, mm_lt, mm_le, mm_eq, mm_z, mm_cl, mm_w, mm_wl, mm_ite, mm_i2l, mm_l2i, mm_ltJ, mm_leJ, mm_eqJ, mm_clt, mm_cle, mm_cgt, mm_cge, mm_ceq, mm_b, mm_nb, mm_nb0, mm_nb1, mm_vb0, mm_vb1, mm_vbc, mm_vy0, mm_vy1, mm_at, mm_ne, mm_nj, mm_Lw, mm_Nw, mm_atJ, mm_neJ, mm_njJ, zbI_s, zbV_s, zbJ_s, cond_t, Bool.true_and, Bool.and_true, if_true, if_false, not_true, not_false_iff, Classical.not_not, zel_r, zel_42, zel_12, zel_71, zel_80, zel_89, zel_110, zel_188, zel_103, zel_195, zr_o, zr_1, zr_2, zr_3, zr_4, zr_5, zr_6, zr_7, zr_8, zr_9, zq_o, zq_v, zt_o, zt_1, zt_2, zt_3, zt_4, zt_5, zf_o, zf_1, za_w1, za_w2, za_w3, za_cm, za_sl, Int.toNat_natCast, Int.toNat_natCast_add_one, mm_t0, mm_t1, mm_t2, mm_t3, mm_t4, mm_t5, mm_t6, mm_t7, mm_t8, mm_t9, mm_t10, mm_t11, mm_t12, mm_t13, za_1, za_64, za_65, za_66, za_67, za_68, za_71, za_80, za_89, za_98, za_103, za_110, za_121, za_122, za_123, za_124, za_125, za_126, za_188, za_193, za_194, za_195, za_286, za_288, za_289, za_290, za_291, za_292, za_293, za_294, za_295, za_296, za_297, za_298, za_299, za_300, za_301, za_302, za_303, za_304, za_305, za_306, za_307, za_308, za_309, za_310, za_311, za_312]
                       first | done | omega) ?_
      by_cases q2 : h < x
      · refine zwp_t (by try simp (disch := first | assumption | exact isR33 | exact isT104 | exact isF99 | exact isF101 | exact isR3 | omega | (refine isTk ?_; omega) | (refine isOk isR33 ?_; omega) | (refine isOk ?_ ?_; assumption; omega)) only [mm_r, mm_rl, mm_add, mm_sub, mm_mul, mm_addJ, mm_mulJ, mm_lt, mm_le, mm_eq, mm_z, mm_cl, mm_w, mm_wl, mm_ite, mm_i2l, mm_l2i, mm_ltJ, mm_leJ, mm_eqJ, mm_clt, mm_cle, mm_cgt, mm_cge, mm_ceq, mm_b, mm_nb, mm_nb0, mm_nb1, mm_vb0, mm_vb1, mm_vbc, mm_vy0, mm_vy1, mm_at, mm_ne, mm_nj, mm_Lw, mm_Nw, mm_atJ, mm_neJ, mm_njJ, zbI_s, zbV_s, zbJ_s, cond_t, Bool.true_and, Bool.and_true, if_true, if_false, not_true, not_false_iff, Classical.not_not, zel_r, zel_42, zel_12, zel_71, zel_80, zel_89, zel_110, zel_188, zel_103, zel_195, zr_o, zr_1, zr_2, zr_3, zr_4, zr_5, zr_6, zr_7, zr_8, zr_9, zq_o, zq_v, zt_o, zt_1, zt_2, zt_3, zt_4, zt_5, zf_o, zf_1, za_w1, za_w2, za_w3, za_cm, za_sl, Int.toNat_natCast, Int.toNat_natCast_add_one, mm_t0, mm_t1, mm_t2, mm_t3, mm_t4, mm_t5, mm_t6, mm_t7, mm_t8, mm_t9, mm_t10, mm_t11, mm_t12, mm_t13, za_1, za_64, za_65, za_66, za_67, za_68, za_71, za_80, za_89, za_98, za_103, za_110, za_121, za_122, za_123, za_124, za_125, za_126, za_188, za_193, za_194, za_195, za_286, za_288, za_289, za_290, za_291, za_292, za_293, za_294, za_295, za_296, za_297, za_298, za_299, za_300, za_301, za_302, za_303, za_304, za_305, za_306, za_307, za_308, za_309, za_310, za_311, za_312]
                         first | done | omega) ?_
        rw [if_neg (fun p => by
          have p1 := p.1
          have p2 := p.2.1
          by_cases z : x < W 1
          · rw [if_pos ⟨by omega, z⟩] at p2
            omega
          · rw [if_neg (fun y => z y.2)] at p1
            exact p1 rfl)]
        try simp (disch := first | assumption | exact isR33 | exact isT104 | exact isF99 | exact isF101 | exact isR3 | omega | (refine isTk ?_; omega) | (refine isOk isR33 ?_; omega) | (refine isOk ?_ ?_; assumption; omega)) only [mm_r, mm_rl, mm_add, mm_sub, mm_mul, mm_addJ, mm_mulJ, mm_lt, mm_le, mm_eq, mm_z, mm_cl, mm_w, mm_wl, mm_ite, mm_i2l, mm_l2i, mm_ltJ, mm_leJ, mm_eqJ, mm_clt, mm_cle, mm_cgt, mm_cge, mm_ceq, mm_b, mm_nb, mm_nb0, mm_nb1, mm_vb0, mm_vb1, mm_vbc, mm_vy0, mm_vy1, mm_at, mm_ne, mm_nj, mm_Lw, mm_Nw, mm_atJ, mm_neJ, mm_njJ, zbI_s, zbV_s, zbJ_s, cond_t, Bool.true_and, Bool.and_true, if_true, if_false, not_true, not_false_iff, Classical.not_not, zel_r, zel_42, zel_12, zel_71, zel_80, zel_89, zel_110, zel_188, zel_103, zel_195, zr_o, zr_1, zr_2, zr_3, zr_4, zr_5, zr_6, zr_7, zr_8, zr_9, zq_o, zq_v, zt_o, zt_1, zt_2, zt_3, zt_4, zt_5, zf_o, zf_1, za_w1, za_w2, za_w3, za_cm, za_sl, Int.toNat_natCast, Int.toNat_natCast_add_one, mm_t0, mm_t1, mm_t2, mm_t3, mm_t4, mm_t5, mm_t6, mm_t7, mm_t8, mm_t9, mm_t10, mm_t11, mm_t12, mm_t13, za_1, za_64, za_65, za_66, za_67, za_68, za_71, za_80, za_89, za_98, za_103, za_110, za_121, za_122, za_123, za_124, za_125, za_126, za_188, za_193, za_194, za_195, za_286, za_288, za_289, za_290, za_291, za_292, za_293, za_294, za_295, za_296, za_297, za_298, za_299, za_300, za_301, za_302, za_303, za_304, za_305, za_306, za_307, za_308, za_309, za_310, za_311, za_312]
        rw [show (n : Int) + -1 = n - 1 by omega]
        exact lp_30 hW hC hs f0 f1 t0 t1 g0 g1 h0 h1 n τ (by omega) hS2
      · refine zwp_f (by try simp (disch := first | assumption | exact isR33 | exact isT104 | exact isF99 | exact isF101 | exact isR3 | omega | (refine isTk ?_; omega) | (refine isOk isR33 ?_; omega) | (refine isOk ?_ ?_; assumption; omega)) only [mm_r, mm_rl, mm_add, mm_sub, mm_mul, mm_addJ, mm_mulJ, mm_lt, mm_le, mm_eq, mm_z, mm_cl, mm_w, mm_wl, mm_ite, mm_i2l, mm_l2i, mm_ltJ, mm_leJ, mm_eqJ, mm_clt, mm_cle, mm_cgt, mm_cge, mm_ceq, mm_b, mm_nb, mm_nb0, mm_nb1, mm_vb0, mm_vb1, mm_vbc, mm_vy0, mm_vy1, mm_at, mm_ne, mm_nj, mm_Lw, mm_Nw, mm_atJ, mm_neJ, mm_njJ, zbI_s, zbV_s, zbJ_s, cond_t, Bool.true_and, Bool.and_true, if_true, if_false, not_true, not_false_iff, Classical.not_not, zel_r, zel_42, zel_12, zel_71, zel_80, zel_89, zel_110, zel_188, zel_103, zel_195, zr_o, zr_1, zr_2, zr_3, zr_4, zr_5, zr_6, zr_7, zr_8, zr_9, zq_o, zq_v, zt_o, zt_1, zt_2, zt_3, zt_4, zt_5, zf_o, zf_1, za_w1, za_w2, za_w3, za_cm, za_sl, Int.toNat_natCast, Int.toNat_natCast_add_one, mm_t0, mm_t1, mm_t2, mm_t3, mm_t4, mm_t5, mm_t6, mm_t7, mm_t8, mm_t9, mm_t10, mm_t11, mm_t12, mm_t13, za_1, za_64, za_65, za_66, za_67, za_68, za_71, za_80, za_89, za_98, za_103, za_110, za_121, za_122, za_123, za_124, za_125, za_126, za_188, za_193, za_194, za_195, za_286, za_288, za_289, za_290, za_291, za_292, za_293, za_294, za_295, za_296, za_297, za_298, za_299, za_300, za_301, za_302, za_303, za_304, za_305, za_306, za_307, za_308, za_309, za_310, za_311, za_312]
                         first | done | omega) ?_
        rw [if_pos (⟨by omega, by omega⟩ : 0 ≤ x ∧ x < W 1)]
        obtain ⟨b, rb, hb, hz⟩ := sp_22q (σ := τ) (x := x) (h := h) hW hS2.2.1 hs (by omega) (by omega) (by omega) (by omega) (by omega) (by omega) (by omega) (by omega)
        refine zwp_IE hz ?_
        intro υ hsm
        have hS3 : qS σ0 υ W f t g says := ⟨hS2.1.tr (hsm.m _), hS2.2.1.fr fun b _ _ => hsm.k b, fun b b0 b1 k hk => (hsm.k b k).trans (hS2.2.2.1 b b0 b1 k hk), hS2.2.2.2.fr fun b _ _ => hsm.k b⟩
        by_cases q3 : b = W 5
        · rw [if_pos (hb.mp q3)]
          refine zwp_f (by try simp (disch := first | assumption | exact isR33 | exact isT104 | exact isF99 | exact isF101 | exact isR3 | omega | (refine isTk ?_; omega) | (refine isOk isR33 ?_; omega) | (refine isOk ?_ ?_; assumption; omega)) only [mm_r, mm_rl, mm_add, mm_sub, mm_mul, mm_addJ, mm_mulJ, mm_lt, mm_le, mm_eq, mm_z, mm_cl, mm_w, mm_wl, mm_ite, mm_i2l, mm_l2i, mm_ltJ, mm_leJ, mm_eqJ, mm_clt, mm_cle, mm_cgt, mm_cge, mm_ceq, mm_b, mm_nb, mm_nb0, mm_nb1, mm_vb0, mm_vb1, mm_vbc, mm_vy0, mm_vy1, mm_at, mm_ne, mm_nj, mm_Lw, mm_Nw, mm_atJ, mm_neJ, mm_njJ, zbI_s, zbV_s, zbJ_s, cond_t, Bool.true_and, Bool.and_true, if_true, if_false, not_true, not_false_iff, Classical.not_not, zel_r, zel_42, zel_12, zel_71, zel_80, zel_89, zel_110, zel_188, zel_103, zel_195, zr_o, zr_1, zr_2, zr_3, zr_4, zr_5, zr_6, zr_7, zr_8, zr_9, zq_o, zq_v, zt_o, zt_1, zt_2, zt_3, zt_4, zt_5, zf_o, zf_1, za_w1, za_w2, za_w3, za_cm, za_sl, Int.toNat_natCast, Int.toNat_natCast_add_one, mm_t0, mm_t1, mm_t2, mm_t3, mm_t4, mm_t5, mm_t6, mm_t7, mm_t8, mm_t9, mm_t10, mm_t11, mm_t12, mm_t13, za_1, za_64, za_65, za_66, za_67, za_68, za_71, za_80, za_89, za_98, za_103, za_110, za_121, za_122, za_123, za_124, za_125, za_126, za_188, za_193, za_194, za_195, za_286, za_288, za_289, za_290, za_291, za_292, za_293, za_294, za_295, za_296, za_297, za_298, za_299, za_300, za_301, za_302, za_303, za_304, za_305, za_306, za_307, za_308, za_309, za_310, za_311, za_312]
                           first | done | omega) ?_
          try simp (disch := first | assumption | exact isR33 | exact isT104 | exact isF99 | exact isF101 | exact isR3 | omega | (refine isTk ?_; omega) | (refine isOk isR33 ?_; omega) | (refine isOk ?_ ?_; assumption; omega)) only [mm_r, mm_rl, mm_add, mm_sub, mm_mul, mm_addJ, mm_mulJ, mm_lt, mm_le, mm_eq, mm_z, mm_cl, mm_w, mm_wl, mm_ite, mm_i2l, mm_l2i, mm_ltJ, mm_leJ, mm_eqJ, mm_clt, mm_cle, mm_cgt, mm_cge, mm_ceq, mm_b, mm_nb, mm_nb0, mm_nb1, mm_vb0, mm_vb1, mm_vbc, mm_vy0, mm_vy1, mm_at, mm_ne, mm_nj, mm_Lw, mm_Nw, mm_atJ, mm_neJ, mm_njJ, zbI_s, zbV_s, zbJ_s, cond_t, Bool.true_and, Bool.and_true, if_true, if_false, not_true, not_false_iff, Classical.not_not, zel_r, zel_42, zel_12, zel_71, zel_80, zel_89, zel_110, zel_188, zel_103, zel_195, zr_o, zr_1, zr_2, zr_3, zr_4, zr_5, zr_6, zr_7, zr_8, zr_9, zq_o, zq_v, zt_o, zt_1, zt_2, zt_3, zt_4, zt_5, zf_o, zf_1, za_w1, za_w2, za_w3, za_cm, za_sl, Int.toNat_natCast, Int.toNat_natCast_add_one, mm_t0, mm_t1, mm_t2, mm_t3, mm_t4, mm_t5, mm_t6, mm_t7, mm_t8, mm_t9, mm_t10, mm_t11, mm_t12, mm_t13, za_1, za_64, za_65, za_66, za_67, za_68, za_71, za_80, za_89, za_98, za_103, za_110, za_121, za_122, za_123, za_124, za_125, za_126, za_188, za_193, za_194, za_195, za_286, za_288, za_289, za_290, za_291, za_292, za_293, za_294, za_295, za_296, za_297, za_298, za_299, za_300, za_301, za_302, za_303, za_304, za_305, za_306, za_307, za_308, za_309, za_310, za_311, za_312]
          rw [show (n : Int) + -1 = n - 1 by omega]
          exact lp_30e hW hC hS3 (by omega) (by omega) (by omega) (by omega) (by omega) (by omega) (.inr (by omega))
        · rw [if_neg (fun p => q3 (hb.mpr p))]
          refine zwp_t (by try simp (disch := first | assumption | exact isR33 | exact isT104 | exact isF99 | exact isF101 | exact isR3 | omega | (refine isTk ?_; omega) | (refine isOk isR33 ?_; omega) | (refine isOk ?_ ?_; assumption; omega)) only [mm_r, mm_rl, mm_add, mm_sub, mm_mul, mm_addJ, mm_mulJ, mm_lt, mm_le, mm_eq, mm_z, mm_cl, mm_w, mm_wl, mm_ite, mm_i2l, mm_l2i, mm_ltJ, mm_leJ, mm_eqJ, mm_clt, mm_cle, mm_cgt, mm_cge, mm_ceq, mm_b, mm_nb, mm_nb0, mm_nb1, mm_vb0, mm_vb1, mm_vbc, mm_vy0, mm_vy1, mm_at, mm_ne, mm_nj, mm_Lw, mm_Nw, mm_atJ, mm_neJ, mm_njJ, zbI_s, zbV_s, zbJ_s, cond_t, Bool.true_and, Bool.and_true, if_true, if_false, not_true, not_false_iff, Classical.not_not, zel_r, zel_42, zel_12, zel_71, zel_80, zel_89, zel_110, zel_188, zel_103, zel_195, zr_o, zr_1, zr_2, zr_3, zr_4, zr_5, zr_6, zr_7, zr_8, zr_9, zq_o, zq_v, zt_o, zt_1, zt_2, zt_3, zt_4, zt_5, zf_o, zf_1, za_w1, za_w2, za_w3, za_cm, za_sl, Int.toNat_natCast, Int.toNat_natCast_add_one, mm_t0, mm_t1, mm_t2, mm_t3, mm_t4, mm_t5, mm_t6, mm_t7, mm_t8, mm_t9, mm_t10, mm_t11, mm_t12, mm_t13, za_1, za_64, za_65, za_66, za_67, za_68, za_71, za_80, za_89, za_98, za_103, za_110, za_121, za_122, za_123, za_124, za_125, za_126, za_188, za_193, za_194, za_195, za_286, za_288, za_289, za_290, za_291, za_292, za_293, za_294, za_295, za_296, za_297, za_298, za_299, za_300, za_301, za_302, za_303, za_304, za_305, za_306, za_307, za_308, za_309, za_310, za_311, za_312]
                           first | done | omega) ?_
          try simp (disch := first | assumption | exact isR33 | exact isT104 | exact isF99 | exact isF101 | exact isR3 | omega | (refine isTk ?_; omega) | (refine isOk isR33 ?_; omega) | (refine isOk ?_ ?_; assumption; omega)) only [mm_r, mm_rl, mm_add, mm_sub, mm_mul, mm_addJ, mm_mulJ, mm_lt, mm_le, mm_eq, mm_z, mm_cl, mm_w, mm_wl, mm_ite, mm_i2l, mm_l2i, mm_ltJ, mm_leJ, mm_eqJ, mm_clt, mm_cle, mm_cgt, mm_cge, mm_ceq, mm_b, mm_nb, mm_nb0, mm_nb1, mm_vb0, mm_vb1, mm_vbc, mm_vy0, mm_vy1, mm_at, mm_ne, mm_nj, mm_Lw, mm_Nw, mm_atJ, mm_neJ, mm_njJ, zbI_s, zbV_s, zbJ_s, cond_t, Bool.true_and, Bool.and_true, if_true, if_false, not_true, not_false_iff, Classical.not_not, zel_r, zel_42, zel_12, zel_71, zel_80, zel_89, zel_110, zel_188, zel_103, zel_195, zr_o, zr_1, zr_2, zr_3, zr_4, zr_5, zr_6, zr_7, zr_8, zr_9, zq_o, zq_v, zt_o, zt_1, zt_2, zt_3, zt_4, zt_5, zf_o, zf_1, za_w1, za_w2, za_w3, za_cm, za_sl, Int.toNat_natCast, Int.toNat_natCast_add_one, mm_t0, mm_t1, mm_t2, mm_t3, mm_t4, mm_t5, mm_t6, mm_t7, mm_t8, mm_t9, mm_t10, mm_t11, mm_t12, mm_t13, za_1, za_64, za_65, za_66, za_67, za_68, za_71, za_80, za_89, za_98, za_103, za_110, za_121, za_122, za_123, za_124, za_125, za_126, za_188, za_193, za_194, za_195, za_286, za_288, za_289, za_290, za_291, za_292, za_293, za_294, za_295, za_296, za_297, za_298, za_299, za_300, za_301, za_302, za_303, za_304, za_305, za_306, za_307, za_308, za_309, za_310, za_311, za_312]
          rw [show (n : Int) + -1 = n - 1 by omega]
          exact lp_30 hW hC hs f0 f1 t0 t1 g0 g1 h0 h1 n υ (by omega) hS3
theorem zlst_x {P : Int → Bool} {n : Nat} : ∀ m : Nat, n ≤ m → (∀ j : Nat, n ≤ j → j < m → P j = false) → zlst P m = zlst P n
  | 0, h, _ => by rw [show n = 0 by omega]
  | m + 1, h, hP => by
    by_cases e : n = m + 1
    · rw [e]
    · rw [zlst, if_neg (by rw [hP m (by omega) (by omega)]; decide)]
      exact zlst_x m (by omega) (fun j j0 j1 => hP j j0 (by omega))
theorem Pq_late {W : Int → Int} {f t g h s : Int} (hW : WOK W) (f0 : 0 ≤ f) (f1 : f < W 0) (t0 : 0 ≤ t) (t1 : t < W 0) (s0 : 0 ≤ s) (s1 : s ≤ 200) (hs : h < s) : Pq W f t g h s = false := by
  have hN := (wayBy_N hW.1.1 (v := -1) f0 f1 (.inl rfl) t0 t1).1.le (m := 29) (by omega)
  have cr := CMw_rng (F := FL W noD) (h := s) (p := 1) (r := 0) hW.1 hN s0 s1 (by omega) (by omega) (by omega) (by omega)
  refine Bool.not_eq_true _ |>.mp fun p => ?_
  have p := Pq_iff.mp p
  have p1 := p.1
  have p2 := p.2.1
  have := cr.2.2.2 p1
  omega
def Equ (W : Int → Int) (f t g says h : Int) : Int := if inT W f ∧ asked W t g h ∧ f ≠ t ∧ 0 ≤ says ∧ says < 10 then zlst (Pq W f t g h) (W 1).toNat else -2
theorem sp_30 {σ : zM} {W : Int → Int} {f t g says h : Int} (hW : WOK W) (hC : ctC σ W) (hs0 : 0 ≤ says) (hs1 : says < 10) (f0 : 0 ≤ f) (f1 : f < W 0) (t0 : 0 ≤ t) (t1 : t < W 0) (g0 : 0 ≤ g) (g1 : g < 3) (h0 : 0 ≤ h) (h1 : h < W 1) : zwp (zcall 30 [.ref 69, .int (Int32.ofInt f), .int (Int32.ofInt t), .int (Int32.ofInt g), .int (Int32.ofInt says), .int (Int32.ofInt h)] σ) (fun v τ => v = some (.int (Int32.ofInt (zlst (Pq W f t g h) (W 1).toNat))) ∧ cK σ τ W) := by
  have h5 := hW.2.2.1
  have h9 := hW.1.2.2.1
  have h8 := hW.1.1.2.1
  have e7 := hC.1.1.2.2.2.2.2.2.2
  rw [zlst_x (P := Pq W f t g h) (n := (h + 1).toNat) (W 1).toNat (by omega) (fun j j0 j1 => Pq_late hW f0 f1 t0 t1 (by omega) (by omega) (by omega))]
  refine zwp_of (fun r h => zcc_30 (ze_30_0 _ _ _ _ _ _ r h)) ?_
  simp (disch := first | assumption | exact isR33 | exact isT104 | exact isF99 | exact isF101 | exact isR3 | omega | (refine isTk ?_; omega) | (refine isOk isR33 ?_; omega) | (refine isOk ?_ ?_; assumption; omega)) only [mm_r, mm_rl, mm_add, mm_sub, mm_mul, mm_addJ, mm_mulJ, mm_lt, mm_le, mm_eq, mm_z, mm_cl, mm_w, mm_wl, mm_ite, mm_i2l, mm_l2i, mm_ltJ, mm_leJ, mm_eqJ, mm_clt, mm_cle, mm_cgt, mm_cge, mm_ceq, mm_b, mm_nb, mm_nb0, mm_nb1, mm_vb0, mm_vb1, mm_vbc, mm_vy0, mm_vy1, mm_at, mm_ne, mm_nj, mm_Lw, mm_Nw, mm_atJ, mm_neJ, mm_njJ, zbI_s, zbV_s, zbJ_s, cond_t, Bool.true_and, Bool.and_true, if_true, if_false, not_true, not_false_iff, Classical.not_not, zel_r, zel_42, zel_12, zel_71, zel_80, zel_89, zel_110, zel_188, zel_103, zel_195, zr_o, zr_1, zr_2, zr_3, zr_4, zr_5, zr_6, zr_7, zr_8, zr_9, zq_o, zq_v, zt_o, zt_1, zt_2, zt_3, zt_4, zt_5, zf_o, zf_1, za_w1, za_w2, za_w3, za_cm, za_sl, Int.toNat_natCast, Int.toNat_natCast_add_one, mm_t0, mm_t1, mm_t2, mm_t3, mm_t4, mm_t5, mm_t6, mm_t7, mm_t8, mm_t9, mm_t10, mm_t11, mm_t12, mm_t13, za_1, za_64, za_65, za_66, za_67, za_68, za_71, za_80, za_89, za_98, za_103, za_110, za_121, za_122, za_123, za_124, za_125, za_126, za_188, za_193, za_194, za_195, za_286, za_288, za_289, za_290, za_291, za_292, za_293, za_294, za_295, za_296, za_297, za_298, za_299, za_300, za_301, za_302, za_303, za_304, za_305, za_306, za_307, za_308, za_309, za_310, za_311, za_312, e7, zlet_s]
  generalize hσ1 : zw (zw (zw (zw (zw (zw σ 64 (W 5).toNat t) 65 (W 5).toNat g) 66 (W 5).toNat says) 67 (W 5).toNat (-1)) 68 (W 5).toNat (-1)) 63 0 (W 5 + 1) = σ1
  have u : ∀ a j : Nat, a ≠ 63 → j ≠ (W 5).toNat → zN σ1 a j = zN σ a j := by
    intro a j ha hj
    rw [← hσ1, mm_ne ha, mm_nj hj, mm_nj hj, mm_nj hj, mm_nj hj, mm_nj hj]
  have f1' : mf (fun b => 63 ≤ b ∧ b < 69) σ σ1 := by
    rw [← hσ1]
    exact (((((mf.rf.zw _ _ _ ⟨by omega, by omega⟩).zw _ _ _ ⟨by omega, by omega⟩).zw _ _ _ ⟨by omega, by omega⟩).zw _ _ _ ⟨by omega, by omega⟩).zw _ _ _ ⟨by omega, by omega⟩).zw _ _ _ ⟨by omega, by omega⟩
  have hQ : qC σ1 W t g says := by
    refine ⟨?_, ?_, fun o o0 o1 => ?_, ?_, ?_, ?_, ?_⟩
    · rw [← hσ1, mm_at rfl rfl (by omega) (by omega)]
    · rw [← hσ1, mm_nj (by decide), mm_ne (by decide), mm_ne (by decide), mm_ne (by decide), mm_ne (by decide), mm_ne (by decide)]
      exact hC.2.2.2.1.2
    · obtain ⟨a, b, -⟩ := hC.2.2.2.2 o o0 o1
      exact ⟨a.fr (u 64 _ (by decide) (by omega)) (u 65 _ (by decide) (by omega)) (u 66 _ (by decide) (by omega)) (u 67 _ (by decide) (by omega)), (u 68 _ (by decide) (by omega)).trans b.2.2⟩
    · rw [← hσ1, mm_ne (by decide), mm_ne (by decide), mm_ne (by decide), mm_ne (by decide), mm_ne (by decide), mm_at rfl rfl (by omega) (by omega)]
    · rw [← hσ1, mm_ne (by decide), mm_ne (by decide), mm_ne (by decide), mm_ne (by decide), mm_at rfl rfl (by omega) (by omega)]
    · rw [← hσ1, mm_ne (by decide), mm_ne (by decide), mm_ne (by decide), mm_at rfl rfl (by omega) (by omega)]
    · rw [← hσ1, mm_ne (by decide), mm_ne (by decide), mm_at rfl rfl (by omega) (by omega)]
  refine zwp_V _ (sp_91 isT104 hW.1.1 f0 f1 (.inl rfl) t0 t1 (hC.2.1.fr h8 fun b b0 b1 => f1'.1 b (by omega))) ?_
  rintro τ ⟨hf, hT⟩
  have l := lp_30 (σ0 := σ) (says := says) hW hC (by omega) f0 f1 t0 t1 g0 g1 h0 h1 (h + 1).toNat τ (by omega) ⟨(f1'.mono (by omega)).tr (hf.mono (by omega)), hQ.fr fun b b0 b1 => hf.1 b (by omega), fun b b0 b1 k hk => (hf.1 b (by omega) k).trans (u b k (by omega) (by omega)), hT⟩
  rw [show (((h + 1).toNat : Nat) : Int) - 1 = h by omega] at l
  exact l
theorem cq_queen {σ : zM} {W : Int → Int} {f t g says h : Int} (hW : WOK W) (hC : ctC σ W) (hf0 : -2147483648 ≤ f) (hf1 : f < 2147483648) (ht0 : -2147483648 ≤ t) (ht1 : t < 2147483648) (hg0 : -2147483648 ≤ g) (hg1 : g < 2147483648) (hs0 : -2147483648 ≤ says) (hs1 : says < 2147483648) (hh0 : -2147483648 ≤ h) (hh1 : h < 2147483648) : zwp (zcall 130 [.ref 0, .int (Int32.ofInt f), .int (Int32.ofInt t), .int (Int32.ofInt g), .int (Int32.ofInt says), .int (Int32.ofInt h)] σ) (fun v τ => v = some (.int (Int32.ofInt (Equ W f t g says h))) ∧ cK σ τ W) := by
  have e1 := hC.1.1.2.1
  have s := sp_77 (p := 33) (n := f) (σ := σ) isR33 (by omega) (by omega)
  rw [e1] at s
  unfold Equ
  refine zwp_of (fun r h => zcc_130 (ze_130_0 _ _ _ _ _ _ r h)) ?_
  rw [sp_150w hC.1 ht0 ht1 hg0 hg1 hh0 hh1]
  simp (disch := first | assumption | exact isR33 | exact isT104 | exact isF99 | exact isF101 | exact isR3 | omega | (refine isTk ?_; omega) | (refine isOk isR33 ?_; omega) | (refine isOk ?_ ?_; assumption; omega)) only [mm_r, mm_rl, mm_add, mm_sub, mm_mul, mm_addJ, mm_mulJ, mm_lt, mm_le, mm_eq, mm_z, mm_cl, mm_w, mm_wl, mm_ite, mm_i2l, mm_l2i, mm_ltJ, mm_leJ, mm_eqJ, mm_clt, mm_cle, mm_cgt, mm_cge, mm_ceq, mm_b, mm_nb, mm_nb0, mm_nb1, mm_vb0, mm_vb1, mm_vbc, mm_vy0, mm_vy1, mm_at, mm_ne, mm_nj, mm_Lw, mm_Nw, mm_atJ, mm_neJ, mm_njJ, zbI_s, zbV_s, zbJ_s, cond_t, Bool.true_and, Bool.and_true, if_true, if_false, not_true, not_false_iff, Classical.not_not, zel_r, zel_42, zel_12, zel_71, zel_80, zel_89, zel_110, zel_188, zel_103, zel_195, zr_o, zr_1, zr_2, zr_3, zr_4, zr_5, zr_6, zr_7, zr_8, zr_9, zq_o, zq_v, zt_o, zt_1, zt_2, zt_3, zt_4, zt_5, zf_o, zf_1, za_w1, za_w2, za_w3, za_cm, za_sl, Int.toNat_natCast, Int.toNat_natCast_add_one, mm_t0, mm_t1, mm_t2, mm_t3, mm_t4, mm_t5, mm_t6, mm_t7, mm_t8, mm_t9, mm_t10, mm_t11, mm_t12, mm_t13, za_1, za_64, za_65, za_66, za_67, za_68, za_71, za_80, za_89, za_98, za_103, za_110, za_121, za_122, za_123, za_124, za_125, za_126, za_188, za_193, za_194, za_195, za_286, za_288, za_289, za_290, za_291, za_292, za_293, za_294, za_295, za_296, za_297, za_298, za_299, za_300, za_301, za_302, za_303, za_304, za_305, za_306, za_307, za_308, za_309, za_310, za_311, za_312, s, sp_156]
  refine zwp_ite (fun q => ?_) (fun q => ?_)
  · rw [if_neg (fun p => q p.2.1)]
    exact zwp_ret ⟨rfl, cK.rf hC⟩
  · have q := Classical.not_not.mp q
    refine zwp_ite (fun q2 => ?_) (fun q2 => ?_)
    · rw [if_neg (fun p => q2 p.1)]
      exact zwp_ret ⟨rfl, cK.rf hC⟩
    · have q2 := Classical.not_not.mp q2
      refine zwp_ite (fun q3 => ?_) (fun q3 => ?_)
      · rw [if_neg (fun p => p.2.2.1 q3)]
        exact zwp_ret ⟨rfl, cK.rf hC⟩
      · refine zwp_ite (fun q4 => ?_) (fun q4 => ?_)
        · rw [if_pos (⟨q2, q, q3, q4⟩ : inT W f ∧ asked W t g h ∧ f ≠ t ∧ 0 ≤ says ∧ says < 10)]
          refine zwp_IE (sp_30 hW hC q4.1 q4.2 q2.1 q2.2 q.1.1 q.1.2 q.2.1.1 q.2.1.2 q.2.2.1 q.2.2.2) ?_
          intro τ hk
          exact zwp_ret ⟨rfl, hk⟩
        · rw [if_neg (fun p => q4 p.2.2.2)]
          exact zwp_ret ⟨rfl, cK.rf hC⟩
