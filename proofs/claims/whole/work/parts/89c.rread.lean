/-! THE TEXT: what the reference takes -/
def rrF (σ τ : zM) : Prop := mf (fun b => b = 287 ∨ b = 293) σ τ ∧ (∀ k, k ≤ 7 ∨ 14 ≤ k → zN τ 287 k = zN σ 287 k) ∧ ∀ j, 220 ≤ j → zN τ 293 j = zN σ 293 j
theorem rrF.rf {σ : zM} : rrF σ σ := ⟨mf.rf, fun _ _ => rfl, fun _ _ => rfl⟩
theorem rrF.tr {σ τ υ : zM} (h : rrF σ τ) (g : rrF τ υ) : rrF σ υ := ⟨h.1.tr g.1, fun k hk => (g.2.1 k hk).trans (h.2.1 k hk), fun j hj => (g.2.2 j hj).trans (h.2.2 j hj)⟩
theorem srF.R {σ τ : zM} (h : srF σ τ) : rrF σ τ := ⟨h.1.mono (by omega), fun k hk => h.2 k (by omega), fun j _ => h.1.1 293 (by decide) j⟩
theorem rrF.w {σ τ : zM} (h : rrF σ τ) {j : Nat} (hj : j < 220) (v : Int) : rrF σ (zw τ 293 j v) := ⟨h.1.zw 293 _ _ (.inr rfl), fun k hk => (mm_ne (by decide)).trans (h.2.1 k hk), fun i hi => (mm_nj (by omega)).trans (h.2.2 i hi)⟩
/-- all well so far -/
def gR (σ : zM) (T : Int → Int) (sz : Int) (s : tk) (V : Int → Int) : Prop := tpC σ 291 T sz ∧ zN σ 287 7 = sz ∧ (zN σ 287 12 = 0 ∧ zN σ 287 13 = -1) ∧ tkR σ s ∧ tkO sz s ∧ wv σ 293 = V
/-- a fault -/
def bR (σ0 τ : zM) (f p : Int) : Prop := (zN τ 287 12 = f ∧ f ≠ 0 ∧ zN τ 287 13 = p) ∧ rrF σ0 τ
theorem bR.n {σ0 σ : zM} {f p : Int} (h : bR σ0 σ f p) : zN σ 287 12 ≠ 0 := by rw [h.1.1]; exact h.1.2.1
def PV (σ0 : zM) (r : rdZ) (τ : zM) : Prop := rrF σ0 τ ∧ (r.1 ≠ 0 → zN τ 287 12 = r.1 ∧ zN τ 287 13 = r.2.1) ∧ (r.1 = 0 → (zN τ 287 12 = 0 ∧ zN τ 287 13 = -1) ∧ tkR τ r.2.2.1 ∧ wv τ 293 = r.2.2.2)
def VR (σ0 : zM) (o : Option zR) (r : rdZ) : Prop := zwp o (fun v τ => v = none ∧ PV σ0 r τ)
theorem bze {σ0 τ : zM} {f p : Int} (h : bR σ0 τ f p) : VR σ0 (some (none, τ)) (er f p) := zwp_ret ⟨rfl, h.2, fun _ => ⟨h.1.1, h.1.2.2⟩, fun e => absurd e h.1.2.1⟩
theorem e179 {σ : zM} (h : zN σ 287 12 ≠ 0) : zcall 179 [.ref 287] σ = some (some (.int (Int32.ofInt 0)), σ) := by
  rw [sp_179, if_neg h]
theorem g179 {σ : zM} (h : zN σ 287 12 = 0) : zcall 179 [.ref 287] σ = some (some (.int (Int32.ofInt 1)), σ) := by
  rw [sp_179, if_pos h]
theorem e180 {σ : zM} (h : zN σ 287 12 ≠ 0) {x : Int32} : zcall 180 [.ref 287, .int x] σ = some (none, σ) := by
  refine zcc_180 (ze_180_0 _ _ _ ?_)
  rw [e179 h, zbI_s, if_neg (by decide)]
theorem wlen {a : Nat} (ha : 1000000 ≤ a ∧ a < 1000019) : (wrd a).length < 20 ∧ 0 < (wrd a).length := by
  have h : ∀ i, i < 19 → (wrd (1000000 + i)).length < 20 ∧ 0 < (wrd (1000000 + i)).length := by decide +kernel
  have := h (a - 1000000) (by omega)
  rw [show 1000000 + (a - 1000000) = a by omega] at this
  exact this
theorem c1a {a : Nat} (ha : 1000000 ≤ a ∧ a < 1000019) : (decide (1000000 ≤ a) && decide (a < 1000000 + zstr.length)) = true := by
  rw [zstr_len, decide_eq_true ha.1, decide_eq_true (by omega)]
  rfl
theorem lp_181_0 {σ : zM} {a : Nat} (ha : 1000000 ≤ a ∧ a < 1000019) : zev 181 39 [some (.ref 287), some (.ref a), some (.int (Int32.ofInt 0)), some (.int (Int32.ofInt 0))] [] σ = some (some (.int (Int32.ofInt 0)), σ) := by
  have hw := wlen ha
  have ew : zstr.getD (a - 1000000) [] = wrd a := rfl
  refine ze_181_39 _ _ _ _ _ ?_
  rw [ew, c1a ha, cond_t, nI_to, if_neg (by rw [mm_le (by omega) (by omega) (by omega) (by omega)]; omega), if_pos (by decide), if_pos (by decide)]
theorem e181 {σ : zM} (h : zN σ 287 12 ≠ 0) {a : Nat} (ha : 1000000 ≤ a ∧ a < 1000019) : zcall 181 [.ref 287, .ref a] σ = some (some (.int (Int32.ofInt 0)), σ) := by
  refine zcc_181 (ze_181_0 _ _ _ ?_)
  rw [e179 h, zbI_s, if_pos (by decide)]
  exact lp_181_0 ha
theorem e182 {σ : zM} (h : zN σ 287 12 ≠ 0) {a : Nat} (ha : 1000000 ≤ a ∧ a < 1000019) : zcall 182 [.ref 287, .ref a] σ = some (some (.int (Int32.ofInt 0)), σ) := by
  refine zcc_182 (ze_182_0 _ _ _ ?_)
  rw [e181 h ha, zbI_s, if_pos (by decide), if_pos (by decide)]
theorem e183 {σ : zM} (h : zN σ 287 12 ≠ 0) {a : Nat} (ha : 1000000 ≤ a ∧ a < 1000019) : zcall 183 [.ref 287, .ref a] σ = some (none, σ) := by
  refine zcc_183 (ze_183_0 _ _ _ ?_)
  rw [e182 h ha, zbI_s, if_neg (by decide), e180 h, zbV_s]
theorem e184 {σ : zM} (h : zN σ 287 12 ≠ 0) {x y : Int32} : zcall 184 [.ref 287, .int x, .int y] σ = some (some (.int (Int32.ofInt 0)), σ) := by
  refine zcc_184 (ze_184_0 _ _ _ _ ?_)
  rw [e179 h, zbI_s, if_pos (by decide)]
  refine ze_184_20 _ _ _ _ ?_
  rw [e179 h, zbI_s, if_pos (by decide), e179 h, zbI_s, if_neg (by decide)]
theorem e185 {σ : zM} (h : zN σ 287 12 ≠ 0) {a : Nat} (ha : 1000000 ≤ a ∧ a < 1000019) {x y : Int32} : zcall 185 [.ref 287, .ref a, .int x, .int y] σ = some (some (.int (Int32.ofInt 0)), σ) := by
  refine zcc_185 (ze_185_0 _ _ _ _ _ ?_)
  rw [e183 h ha, zbV_s, e184 h, zbI_s]
theorem e187 {σ : zM} (h : zN σ 287 12 ≠ 0) : zcall 187 [.ref 287] σ = some (some (.int (Int32.ofInt 0)), σ) := by
  refine zcc_187 (ze_187_0 _ _ ?_)
  rw [za_293 (by decide) (by decide), cond_t, e184 h, zbI_s]
abbrev okw (a : Nat) : Prop := 1000000 ≤ a ∧ a < 1000019
theorem bz179 {σ0 τ : zM} {f p : Int} {k : Int32 → zM → Option zR} (h : bR σ0 τ f p) (hk : VR σ0 (k (Int32.ofInt 0) τ) (er f p)) : VR σ0 (zbI (zcall 179 [.ref 287] τ) k) (er f p) := by
  rw [e179 h.n, zbI_s]; exact hk
theorem bz180 {σ0 τ : zM} {f p : Int} {x : Int32} {k : zM → Option zR} (h : bR σ0 τ f p) (hk : VR σ0 (k τ) (er f p)) : VR σ0 (zbV (zcall 180 [.ref 287, .int x] τ) k) (er f p) := by
  rw [e180 h.n, zbV_s]; exact hk
theorem bz181 {σ0 τ : zM} {f p : Int} {a : Nat} {k : Int32 → zM → Option zR} (h : bR σ0 τ f p) (hk : VR σ0 (k (Int32.ofInt 0) τ) (er f p)) (ha : okw a := by decide) : VR σ0 (zbI (zcall 181 [.ref 287, .ref a] τ) k) (er f p) := by
  rw [e181 h.n ha, zbI_s]; exact hk
theorem bz182 {σ0 τ : zM} {f p : Int} {a : Nat} {k : Int32 → zM → Option zR} (h : bR σ0 τ f p) (hk : VR σ0 (k (Int32.ofInt 0) τ) (er f p)) (ha : okw a := by decide) : VR σ0 (zbI (zcall 182 [.ref 287, .ref a] τ) k) (er f p) := by
  rw [e182 h.n ha, zbI_s]; exact hk
theorem bz183 {σ0 τ : zM} {f p : Int} {a : Nat} {k : zM → Option zR} (h : bR σ0 τ f p) (hk : VR σ0 (k τ) (er f p)) (ha : okw a := by decide) : VR σ0 (zbV (zcall 183 [.ref 287, .ref a] τ) k) (er f p) := by
  rw [e183 h.n ha, zbV_s]; exact hk
theorem bz184 {σ0 τ : zM} {f p : Int} {x y : Int32} {k : Int32 → zM → Option zR} (h : bR σ0 τ f p) (hk : VR σ0 (k (Int32.ofInt 0) τ) (er f p)) : VR σ0 (zbI (zcall 184 [.ref 287, .int x, .int y] τ) k) (er f p) := by
  rw [e184 h.n, zbI_s]; exact hk
theorem bz185 {σ0 τ : zM} {f p : Int} {a : Nat} {x y : Int32} {k : Int32 → zM → Option zR} (h : bR σ0 τ f p) (hk : VR σ0 (k (Int32.ofInt 0) τ) (er f p)) (ha : okw a := by decide) : VR σ0 (zbI (zcall 185 [.ref 287, .ref a, .int x, .int y] τ) k) (er f p) := by
  rw [e185 h.n ha, zbI_s]; exact hk
theorem bz187 {σ0 τ : zM} {f p : Int} {k : Int32 → zM → Option zR} (h : bR σ0 τ f p) (hk : VR σ0 (k (Int32.ofInt 0) τ) (er f p)) : VR σ0 (zbI (zcall 187 [.ref 287] τ) k) (er f p) := by
  rw [e187 h.n, zbI_s]; exact hk
theorem bR.w {σ0 τ : zM} {f p : Int} (h : bR σ0 τ f p) {j : Nat} (hj : j < 220) (v : Int32) : bR σ0 (zsI τ 293 j v) f p := by
  obtain ⟨x, -, -, rfl⟩ := mm_ex v
  exact ⟨⟨(mm_ne (by decide)).trans h.1.1, h.1.2.1, (mm_ne (by decide)).trans h.1.2.2⟩, h.2.w hj x⟩
theorem za_lt {x : Int32} (h : zarr 293 100 x = true) : x.toNatClampNeg < 220 := by
  unfold zarr at h
  rw [zs_293] at h
  simp only [Bool.and_eq_true, decide_eq_true_eq] at h
  exact h.2.2
theorem bzcw {σ0 τ : zM} {f p : Int} {x v : Int32} {k : zM → Option zR} (h : bR σ0 τ f p) (hz : zarr 293 100 x = true) (hk : ∀ υ, bR σ0 υ f p → VR σ0 (k υ) (er f p)) : VR σ0 (cond (zarr 293 100 x) (zlet (zsI τ 293 x.toNatClampNeg v) k) none) (er f p) := by
  rw [hz]
  exact hk _ (h.w (za_lt hz) v)
theorem bzc {σ0 : zM} {f p : Int} {x : Int32} {A : Option zR} (hz : zarr 293 100 x = true) (hk : VR σ0 A (er f p)) : VR σ0 (cond (zarr 293 100 x) A none) (er f p) := by
  rw [hz]
  exact hk
theorem bzt {σ0 : zM} {R : rdZ} {A B : Option zR} (hk : VR σ0 A R) : VR σ0 (if Int32.ofInt 0 = 0 then A else B) R := zwp_t rfl hk
theorem bzf {σ0 : zM} {R : rdZ} {A B : Option zR} (hk : VR σ0 B R) : VR σ0 (if ¬ Int32.ofInt 0 = 0 then A else B) R := zwp_f (fun p => p rfl) hk
theorem bzi {σ0 : zM} {c : Prop} [Decidable c] {R : rdZ} {A B : Option zR} (h1 : VR σ0 A R) (h2 : VR σ0 B R) : VR σ0 (if c then A else B) R := by
  split
  · exact h1
  · exact h2
/-! all well -/
theorem gR.bad {σ0 σ : zM} {T : Int → Int} {sz : Int} {s : tk} {V : Int → Int} (h : gR σ T sz s V) (hf : rrF σ0 σ) {x : Int} (x0 : x ≠ 0) (x1 : -1000 ≤ x) (x2 : x ≤ 1000) : ∃ τ, zcall 180 [.ref 287, .int (Int32.ofInt x)] σ = some (none, τ) ∧ bR σ0 τ x s.2.1 := by
  have hs := h.1.1
  obtain ⟨o1, o2, o3, o4, o5⟩ := h.2.2.2.2.1
  refine ⟨zw (zw σ 287 12 x) 287 13 s.2.1, ?_, ⟨?_, x0, mm_at rfl rfl (by omega) (by omega)⟩, (hf.1.zw 287 _ _ (.inl rfl)).zw 287 _ _ (.inl rfl), fun k hk => ?_, fun j hj => ?_⟩
  · have e9 : zI (zsI σ 287 12 (Int32.ofInt x)) 287 9 = Int32.ofInt s.2.1 := by
      rw [mm_r, mm_w, mm_nj (by decide), h.2.2.2.1.2.1]
    refine zcc_180 (ze_180_0 _ _ _ ?_)
    rw [g179 h.2.2.1.1, zbI_s, if_pos (by decide), zlet_s, zlet_s, e9]
    rfl
  · rw [mm_nj (by decide), mm_at rfl rfl (by omega) (by omega)]
  · rw [mm_nj (by omega), mm_nj (by omega)]
    exact hf.2.1 k hk
  · rw [mm_ne (by decide), mm_ne (by decide)]
    exact hf.2.2 j hj
theorem gR.scan {σ : zM} {T : Int → Int} {sz : Int} {s : tk} {V : Int → Int} (h : gR σ T sz s V) : zwp (zcall 178 [.ref 287] σ) (fun w τ => w = none ∧ srF σ τ ∧ gR τ T sz (nxt T sz s) V) := by
  obtain ⟨h1, h2, h3, h4, h5', h6⟩ := h
  have hn := nxt_ok (T := T) h5'
  obtain ⟨o1, o2, o3, o4, o5⟩ := h5'
  refine zwp_mono (sp_178 (v := 0) h1 h2 h4.2.2.1 (by omega) o4) ?_
  rintro w τ ⟨rfl, hf, ht⟩
  exact ⟨rfl, hf, hf.T h1, (hf.2 7 (by omega)).trans h2, ⟨(hf.2 12 (by omega)).trans h3.1, (hf.2 13 (by omega)).trans h3.2⟩, ht, hn.1, (hf.1.wv 293 (by decide)).trans h6⟩
theorem lp_181 {σ : zM} {T : Int → Int} {sz : Int} {s : tk} {V : Int → Int} {a : Nat} (h : gR σ T sz s V) (ha : okw a) (hl : s.2.1 + (wrd a).length ≤ sz) : ∀ (k j : Nat), j + k = (wrd a).length → (∀ i : Nat, i < j → T (s.2.1 + i) = ((wrd a).getD i 0).toInt) → ∃ b : Int, (b = 1 ∧ (∀ i : Nat, i < (wrd a).length → T (s.2.1 + i) = ((wrd a).getD i 0).toInt) ∨ b = 0 ∧ ¬ (∀ i : Nat, i < (wrd a).length → T (s.2.1 + i) = ((wrd a).getD i 0).toInt)) ∧ zev 181 39 [some (.ref 287), some (.ref a), some (.int (Int32.ofInt 1)), some (.int (Int32.ofInt j))] [] σ = some (some (.int (Int32.ofInt b)), σ)
  | 0, j, e, hj => by
    have hw := wlen ha
    have ew : zstr.getD (a - 1000000) [] = wrd a := rfl
    refine ⟨1, .inl ⟨rfl, fun i hi => hj i (by omega)⟩, ?_⟩
    refine ze_181_39 _ _ _ _ _ ?_
    rw [ew, c1a ha, cond_t, nI_to, if_pos (by rw [mm_le (by omega) (by omega) (by omega) (by omega)]; omega), if_pos (by decide)]
  | k + 1, j, e, hj => by
    have hw := wlen ha
    have ew : zstr.getD (a - 1000000) [] = wrd a := rfl
    obtain ⟨h1, h2, h3, h4, ⟨o1, o2, o3, o4, o5⟩, h6⟩ := h
    have h : gR σ T sz s V := ⟨h1, h2, h3, h4, ⟨o1, o2, o3, o4, o5⟩, h6⟩
    have hs := h1.1
    obtain ⟨t1, t2, t3⟩ := h1.2 (s.2.1 + j) (by omega) (by omega)
    have bj : -2147483648 ≤ (j : Int) ∧ (j : Int) < 2147483648 := ⟨by omega, by omega⟩
    have c2 : (true && decide (0 ≤ Int32.ofInt (j : Int)) && decide ((Int32.ofInt (j : Int)).toNatClampNeg < (wrd a).length)) = true := by
      rw [decide_eq_true (by rw [mm_z, mm_le (by omega) (by omega) (by omega) (by omega)]; omega), decide_eq_true (by rw [mm_cl (by omega) (by omega), Int.toNat_natCast]; omega)]
      rfl
    have hc : zI σ 291 (s.2.1 + j).toNat = Int32.ofInt (T (s.2.1 + j)) := by rw [mm_r, t1]
    have hz : zarr 291 101 (Int32.ofInt (s.2.1 + j)) = true := za_291 (by omega) (by omega)
    have bc : -2147483648 ≤ s.2.1 + (j : Int) ∧ s.2.1 + (j : Int) < 2147483648 := ⟨by omega, by omega⟩
    have hlt : ¬ Int32.ofInt ((wrd a).length : Int) ≤ Int32.ofInt (j : Int) := by
      rw [mm_le (by omega) (by omega) (by omega) (by omega)]
      omega
    by_cases q : T (s.2.1 + j) = ((wrd a).getD j 0).toInt
    · obtain ⟨b, hb, ih⟩ := lp_181 h ha hl k (j + 1) (by omega) (fun i hi => by
        by_cases z : i = j
        · rw [z]
          exact q
        · exact hj i (by omega))
      refine ⟨b, hb, ?_⟩
      refine ze_181_39 _ _ _ _ _ ?_
      rw [ew, c1a ha, cond_t, nI_to, if_neg hlt, if_neg (by decide), mm_r σ 287 9, h4.2.1, mm_add, hz, cond_t, c2, cond_t, mm_cl bc.1 bc.2, hc, if_neg (fun p => p (by
        rw [← Int32.toInt_inj, mm_to (Int.le_trans (by decide) t2) (Int.lt_of_lt_of_le t3 (by decide)), mm_cl bj.1 bj.2, Int.toNat_natCast]
        exact q)), mm_add]
      exact ih
    · refine ⟨0, .inr ⟨rfl, fun p => q (p j (by omega))⟩, ?_⟩
      refine ze_181_39 _ _ _ _ _ ?_
      rw [ew, c1a ha, cond_t, nI_to, if_neg hlt, if_neg (by decide), mm_r σ 287 9, h4.2.1, mm_add, hz, cond_t, c2, cond_t, mm_cl bc.1 bc.2, hc, if_pos (by
        rw [← Int32.toInt_inj, mm_to (Int.le_trans (by decide) t2) (Int.lt_of_lt_of_le t3 (by decide)), mm_cl bj.1 bj.2, Int.toNat_natCast]
        exact q), mm_add]
      refine ze_181_39 _ _ _ _ _ ?_
      rw [ew, c1a ha, cond_t, nI_to]
      by_cases z : Int32.ofInt ((wrd a).length : Int) ≤ Int32.ofInt ((j : Int) + 1)
      · rw [if_pos z, if_pos (by decide)]
      · rw [if_neg z, if_pos (by decide), if_pos (by decide)]
theorem sp_181 {σ : zM} {T : Int → Int} {sz : Int} {s : tk} {V : Int → Int} {a : Nat} (h : gR σ T sz s V) (ha : okw a) : ∃ b : Int, (b = 1 ∧ isW T a s ∨ b = 0 ∧ ¬ isW T a s) ∧ zcall 181 [.ref 287, .ref a] σ = some (some (.int (Int32.ofInt b)), σ) := by
  have hw := wlen ha
  have ew : zstr.getD (a - 1000000) [] = wrd a := rfl
  obtain ⟨h1, h2, h3, h4, ⟨o1, o2, o3, o4, o5⟩, h6⟩ := h
  have h : gR σ T sz s V := ⟨h1, h2, h3, h4, ⟨o1, o2, o3, o4, o5⟩, h6⟩
  have hs := h1.1
  by_cases q : s.1 = 1
  · by_cases q2 : s.2.2.1 - s.2.1 = (wrd a).length
    · obtain ⟨b, hb, e⟩ := lp_181 h ha (by omega) (wrd a).length 0 (by omega) (fun i hi => absurd hi (by omega))
      refine ⟨b, ?_, ?_⟩
      · rcases hb with ⟨b1, b2⟩ | ⟨b1, b2⟩
        · exact .inl ⟨b1, q, q2, b2⟩
        · exact .inr ⟨b1, fun p => b2 p.2.2⟩
      · refine zcc_181 (ze_181_0 _ _ _ ?_)
        rw [g179 h3.1, zbI_s, if_neg (by decide), if_neg (by rw [mm_r, h4.1, q]; exact fun p => p rfl), ew, c1a ha, cond_t, nI_to, mm_r σ 287 8, mm_r σ 287 9, h4.2.2.1, h4.2.1, mm_sub, if_neg (by rw [q2]; exact fun p => p rfl)]
        exact e
    · refine ⟨0, .inr ⟨rfl, fun p => q2 p.2.1⟩, ?_⟩
      refine zcc_181 (ze_181_0 _ _ _ ?_)
      rw [g179 h3.1, zbI_s, if_neg (by decide), if_neg (by rw [mm_r, h4.1, q]; exact fun p => p rfl), ew, c1a ha, cond_t, nI_to, mm_r σ 287 8, mm_r σ 287 9, h4.2.2.1, h4.2.1, mm_sub, if_pos (by rw [mm_eq (by omega) (by omega) (by omega) (by omega)]; exact q2)]
      exact lp_181_0 ha
  · refine ⟨0, .inr ⟨rfl, fun p => q p.1⟩, ?_⟩
    refine zcc_181 (ze_181_0 _ _ _ ?_)
    rw [g179 h3.1, zbI_s, if_neg (by decide), if_pos (by rw [mm_r, h4.1, mm_eq (by omega) (by omega) (by decide) (by decide)]; exact q)]
    exact lp_181_0 ha
/-- a word taken, or not -/
theorem o182 {σ : zM} {T : Int → Int} {sz : Int} {s : tk} {V : Int → Int} {a : Nat} (h : gR σ T sz s V) (ha : okw a) : zwp (zcall 182 [.ref 287, .ref a] σ) (fun v τ => isW T a s ∧ v = some (.int (Int32.ofInt 1)) ∧ srF σ τ ∧ gR τ T sz (nxt T sz s) V ∨ ¬ isW T a s ∧ v = some (.int (Int32.ofInt 0)) ∧ τ = σ) := by
  obtain ⟨b, hb, e⟩ := sp_181 h ha
  refine zwp_of (fun r h => zcc_182 (ze_182_0 _ _ r h)) ?_
  rw [e, zbI_s]
  rcases hb with ⟨rfl, w⟩ | ⟨rfl, w⟩
  · refine zwp_f (by decide) ?_
    refine zwp_V _ h.scan ?_
    rintro τ ⟨g1, g2⟩
    refine zwp_t (by decide) (zwp_ret (.inl ⟨w, rfl, g1, g2⟩))
  · refine zwp_t (by decide) (zwp_t (by decide) (zwp_ret (.inr ⟨w, rfl, rfl⟩)))
/-- a word is needed -/
theorem v183 {σ0 σ : zM} {T : Int → Int} {sz : Int} {s : tk} {V : Int → Int} {a : Nat} {k : zM → Option zR} {K : tk → rdZ} (h : gR σ T sz s V) (ha : okw a) (hf : rrF σ0 σ) (hok : ∀ τ, gR τ T sz (nxt T sz s) V → rrF σ0 τ → VR σ0 (k τ) (K (nxt T sz s))) (hno : ∀ τ, bR σ0 τ 1 s.2.1 → VR σ0 (k τ) (er 1 s.2.1)) : VR σ0 (zbV (zcall 183 [.ref 287, .ref a] σ) k) (wd T sz a s K) := by
  refine zwp_V (fun τ => isW T a s ∧ srF σ τ ∧ gR τ T sz (nxt T sz s) V ∨ ¬ isW T a s ∧ bR σ0 τ 1 s.2.1) ?_ ?_
  · refine zwp_of (fun r h => zcc_183 (ze_183_0 _ _ r h)) ?_
    refine zwp_IC (o182 h ha) ?_
    rintro v τ (⟨w, rfl, g1, g2⟩ | ⟨w, rfl, rfl⟩)
    · exact ⟨_, rfl, zwp_t (by decide) (zwp_ret ⟨rfl, .inl ⟨w, g1, g2⟩⟩)⟩
    · obtain ⟨υ, e, hb⟩ := h.bad hf (x := 1) (by decide) (by decide) (by decide)
      refine ⟨_, rfl, zwp_f (by decide) ?_⟩
      rw [e, zbV_s]
      exact zwp_ret ⟨rfl, .inr ⟨w, hb⟩⟩
  · rintro τ (⟨w, g1, g2⟩ | ⟨w, hb⟩)
    · rw [wd_y w]
      exact hok τ g2 (hf.tr g1.R)
    · rw [wd_n w]
      exact hno τ hb
/-- a number is needed -/
theorem v184 {σ0 σ : zM} {T : Int → Int} {sz lo hi : Int} {s : tk} {V : Int → Int} {k : Int32 → zM → Option zR} {K : Int → tk → rdZ} (h : gR σ T sz s V) (l0 : 0 ≤ lo) (l1 : lo ≤ 1000) (i0 : -1 ≤ hi) (i1 : hi ≤ 1000) (hf : rrF σ0 σ) (hok : ∀ τ, lo ≤ s.2.2.2 → s.2.2.2 ≤ hi → gR τ T sz (nxt T sz s) V → rrF σ0 τ → VR σ0 (k (Int32.ofInt s.2.2.2) τ) (K s.2.2.2 (nxt T sz s))) (hno : ∀ τ f, bR σ0 τ f s.2.1 → VR σ0 (k (Int32.ofInt 0) τ) (er f s.2.1)) : VR σ0 (zbI (zcall 184 [.ref 287, .int (Int32.ofInt lo), .int (Int32.ofInt hi)] σ) k) (nm T sz lo hi s K) := by
  have hs := h.1.1
  obtain ⟨o1, o2, o3, o4, o5⟩ := h.2.2.2.2.1
  obtain ⟨h4, h41, h42, h43⟩ := h.2.2.2.1
  have h3 := h.2.2.1.1
  have m5 := mi5_rng o5
  unfold nm
  by_cases q : s.1 = 2
  · rw [if_pos q]
    have h43 := h43 q
    have s163 : zcall 163 [.long ((zI σ 287 11).toInt64), .long ((Int32.ofInt lo).toInt64), .long ((Int32.ofInt hi).toInt64)] σ = some (some (.int (Int32.ofInt (if lo ≤ mi5 s.2.2.2 ∧ mi5 s.2.2.2 ≤ hi then 1 else 0))), σ) := by
      rw [mm_r σ 287 11, h43, mm_i2l (by omega) (by omega), mm_i2l (by omega) (by omega), mm_i2l (by omega) (by omega), sp_163 (by omega) (by omega) (by omega) (by omega) (by omega) (by omega)]
    have em : (lo ≤ mi5 s.2.2.2 ∧ mi5 s.2.2.2 ≤ hi) ↔ (lo ≤ s.2.2.2 ∧ s.2.2.2 ≤ hi) := by
      unfold mi5
      split <;> omega
    simp only [em] at s163
    have h184 : ∀ {Q : Option Value → zM → Prop}, zwp (zev 184 20 [some (.ref 287), some (.int (Int32.ofInt lo)), some (.int (Int32.ofInt hi)), none] [] σ) Q → zwp (zcall 184 [.ref 287, .int (Int32.ofInt lo), .int (Int32.ofInt hi)] σ) Q := by
      intro Q hq
      refine zwp_of (fun r h => zcc_184 (ze_184_0 _ _ _ r h)) ?_
      rw [g179 h3, zbI_s]
      refine zwp_f (by decide) ?_
      refine zwp_t (by rw [mm_r, h4, q]) ?_
      exact hq
    by_cases q2 : lo ≤ s.2.2.2 ∧ s.2.2.2 ≤ hi
    · rw [if_pos q2]
      have e5 : mi5 s.2.2.2 = s.2.2.2 := if_pos (by omega)
      refine zwp_IE (E := s.2.2.2) (P := fun τ => srF σ τ ∧ gR τ T sz (nxt T sz s) V) ?_ (fun τ g => hok τ q2.1 q2.2 g.2 (hf.tr g.1.R))
      refine h184 ?_
      refine zwp_of (fun r h => ze_184_20 _ _ _ r h) ?_
      rw [g179 h3, zbI_s]
      refine zwp_f (by decide) ?_
      rw [s163, zbI_s, if_pos q2]
      refine zwp_t (by decide) ?_
      rw [g179 h3, zbI_s]
      refine zwp_t (by decide) ?_
      refine zwp_V _ h.scan ?_
      intro τ g
      rw [mm_r σ 287 11, h43, e5]
      exact zwp_ret ⟨rfl, g⟩
    · rw [if_neg q2]
      obtain ⟨υ, e, hb⟩ := h.bad hf (x := 2) (by decide) (by decide) (by decide)
      refine zwp_IE (E := 0) (P := fun τ => τ = υ) ?_ (fun τ g => by
        rw [g]
        exact hno υ 2 hb)
      refine h184 ?_
      refine zwp_of (fun r h => ze_184_20 _ _ _ r h) ?_
      rw [g179 h3, zbI_s]
      refine zwp_f (by decide) ?_
      rw [s163, zbI_s, if_neg q2]
      refine zwp_f (by decide) ?_
      rw [e, zbV_s, e179 hb.n, zbI_s]
      exact zwp_f (by decide) (zwp_ret ⟨rfl, rfl⟩)
  · rw [if_neg q]
    obtain ⟨υ, e, hb⟩ := h.bad hf (x := 1) (by decide) (by decide) (by decide)
    refine zwp_IE (E := 0) (P := fun τ => τ = υ) ?_ (fun τ g => by
      rw [g]
      exact hno υ 1 hb)
    refine zwp_of (fun r h => zcc_184 (ze_184_0 _ _ _ r h)) ?_
    rw [g179 h3, zbI_s]
    refine zwp_f (by decide) ?_
    refine zwp_f (by rw [mm_r, h4, mm_eq (by omega) (by omega) (by decide) (by decide)]; exact q) ?_
    rw [e, zbV_s]
    refine zwp_of (fun r h => ze_184_20 _ _ _ r h) ?_
    rw [e179 hb.n, zbI_s]
    refine zwp_t (by decide) ?_
    rw [e179 hb.n, zbI_s]
    exact zwp_f (by decide) (zwp_ret ⟨rfl, rfl⟩)
theorem v185 {σ0 σ : zM} {T : Int → Int} {sz lo hi : Int} {s : tk} {V : Int → Int} {a : Nat} {k : Int32 → zM → Option zR} {K : Int → tk → rdZ} (h : gR σ T sz s V) (ha : okw a) (l0 : 0 ≤ lo) (l1 : lo ≤ 1000) (i0 : -1 ≤ hi) (i1 : hi ≤ 1000) (hf : rrF σ0 σ) (hok : ∀ τ, lo ≤ (nxt T sz s).2.2.2 → (nxt T sz s).2.2.2 ≤ hi → gR τ T sz (nxt T sz (nxt T sz s)) V → rrF σ0 τ → VR σ0 (k (Int32.ofInt (nxt T sz s).2.2.2) τ) (K (nxt T sz s).2.2.2 (nxt T sz (nxt T sz s)))) (hno : ∀ τ f p, bR σ0 τ f p → VR σ0 (k (Int32.ofInt 0) τ) (er f p)) : VR σ0 (zbI (zcall 185 [.ref 287, .ref a, .int (Int32.ofInt lo), .int (Int32.ofInt hi)] σ) k) (wd T sz a s fun s => nm T sz lo hi s K) := by
  have hz : VR σ0 (zbV (zcall 183 [.ref 287, .ref a] σ) (fun τ1 => zbI (zcall 184 [.ref 287, .int (Int32.ofInt lo), .int (Int32.ofInt hi)] τ1) k)) (wd T sz a s fun s => nm T sz lo hi s K) := v183 h ha hf (fun τ g f => v184 g l0 l1 i0 i1 f (fun τ a b g f => hok τ a b g f) (fun τ f hb => hno τ f _ hb)) (fun τ hb => by
    rw [e184 hb.n, zbI_s]
    exact hno τ 1 _ hb)
  obtain ⟨w, τ, h1, h2⟩ := hz
  refine ⟨w, τ, ?_, h2⟩
  cases h3 : zcall 183 [.ref 287, .ref a] σ with
  | none => rw [h3] at h1; cases h1
  | some r =>
    obtain ⟨v, τ1⟩ := r
    cases v with
    | some v => rw [h3] at h1; cases h1
    | none =>
      rw [h3, zbV_s] at h1
      cases h4 : zcall 184 [.ref 287, .int (Int32.ofInt lo), .int (Int32.ofInt hi)] τ1 with
      | none => rw [h4] at h1; cases h1
      | some r =>
        obtain ⟨v, τ2⟩ := r
        rcases v with _ | v
        · rw [h4] at h1; cases h1
        · cases v with
          | int x =>
            rw [h4, zbI_s] at h1
            have e5 : zcall 185 [.ref 287, .ref a, .int (Int32.ofInt lo), .int (Int32.ofInt hi)] σ = some (some (.int x), τ2) := by
              refine zcc_185 (ze_185_0 _ _ _ _ _ ?_)
              rw [h3, zbV_s, h4, zbI_s]
            rw [e5, zbI_s]
            exact h1
          | _ => rw [h4] at h1; cases h1
theorem rdI {σ : zM} {V : Int → Int} (h : wv σ 293 = V) {n : Int} (n0 : 0 ≤ n) (n1 : n < 220) : zI σ 293 (Int32.ofInt n).toNatClampNeg = Int32.ofInt (V n) := by
  rw [mm_cl (by omega) (by omega), mm_r, ← h]
  rfl
theorem v187 {σ0 σ : zM} {T : Int → Int} {sz : Int} {s : tk} {V : Int → Int} {k : Int32 → zM → Option zR} {K : Int → tk → rdZ} (h : gR σ T sz s V) (v0 : 0 ≤ V 0) (v1 : V 0 ≤ 8) (hf : rrF σ0 σ) (hok : ∀ τ, 0 ≤ s.2.2.2 → s.2.2.2 ≤ V 0 - 1 → gR τ T sz (nxt T sz s) V → rrF σ0 τ → VR σ0 (k (Int32.ofInt s.2.2.2) τ) (K s.2.2.2 (nxt T sz s))) (hno : ∀ τ f, bR σ0 τ f s.2.1 → VR σ0 (k (Int32.ofInt 0) τ) (er f s.2.1)) : VR σ0 (zbI (zcall 187 [.ref 287] σ) k) (nm T sz 0 (V 0 - 1) s K) := by
  refine zbI_thru (o' := zcall 184 [.ref 287, .int (Int32.ofInt 0), .int (Int32.ofInt (V 0 - 1))] σ) (fun v τ e => ?_) (v184 h (by decide) (by decide) (by omega) (by omega) hf hok hno)
  refine zcc_187 (ze_187_0 _ _ ?_)
  rw [za_293 (by decide) (by decide), cond_t, rdI h.2.2.2.2.2 (by decide) (by decide), mm_sub, e, zbI_s]
/-- a write into the fresh realm -/
theorem vw {σ0 σ : zM} {T : Int → Int} {sz j v : Int} {s : tk} {V : Int → Int} {k : zM → Option zR} {R : rdZ} (h : gR σ T sz s V) (hf : rrF σ0 σ) (j0 : 0 ≤ j) (j1 : j < 220) (v0 : -2147483648 ≤ v) (v1 : v < 2147483648) (hk : ∀ τ, gR τ T sz s (wU V j v) → rrF σ0 τ → VR σ0 (k τ) R) : VR σ0 (cond (zarr 293 100 (Int32.ofInt j)) (zlet (zsI σ 293 (Int32.ofInt j).toNatClampNeg (Int32.ofInt v)) k) none) R := by
  rw [za_293 j0 j1, mm_cl (by omega) (by omega)]
  have n7 : ∀ k, zN (zw σ 293 j.toNat v) 287 k = zN σ 287 k := fun k => mm_ne (by decide)
  refine hk (zw σ 293 j.toNat v) ⟨h.1.fr fun k => mm_ne (by decide), (n7 7).trans h.2.1, ⟨(n7 12).trans h.2.2.1.1, (n7 13).trans h.2.2.1.2⟩, ⟨(n7 10).trans h.2.2.2.1.1, (n7 9).trans h.2.2.2.1.2.1, (n7 8).trans h.2.2.2.1.2.2.1, fun p => (n7 11).trans (h.2.2.2.1.2.2.2 p)⟩, h.2.2.2.2.1, ?_⟩ (hf.w (by omega) v)
  rw [wv_U v0 v1, h.2.2.2.2.2]
theorem VR_ok {σ0 τ : zM} {T : Int → Int} {sz : Int} {s : tk} {V : Int → Int} (h : gR τ T sz s V) (hf : rrF σ0 τ) : VR σ0 (some (none, τ)) (okR s V) := zwp_ret ⟨rfl, hf, fun p => absurd rfl p, fun _ => ⟨h.2.2.1, h.2.2.2.1, h.2.2.2.2.2⟩⟩
