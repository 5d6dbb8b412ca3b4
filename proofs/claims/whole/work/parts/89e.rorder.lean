/-! THE TEXT: the reference reads an order -/
def rviR (T : Int → Int) (sz w0 : Int) : Nat → Int → (Int → Int) → tk → (Int → (Int → Int) → tk → rdZ) → rdZ
  | 0, _, _, s, _ => er 1 s.2.1
  | k + 1, i, vs, s, K => nm T sz 0 (w0 - 1) s fun t s' => if s'.1 = 2 then rviR T sz w0 k (i + 1) (vU vs i t) s' K else K (i + 1) (vU vs i t) s'
def uVs (V : Int → Int) (p : Int) (vs : Int → Int) : Int → Int := fun j => if p + 8 ≤ j ∧ j < p + 11 then vs (j - (p + 8)) else V j
theorem uVs_U {V : Int → Int} {p i t : Int} {vs : Int → Int} (p0 : 80 ≤ p) (i0 : 0 ≤ i) (i1 : i < 3) : wU (uVs V p vs) (p + 8 + i) t = uVs V p (vU vs i t) := by
  funext j
  unfold uVs vU
  by_cases q : j = p + 8 + i
  · rw [wU_at (by omega), if_pos (by omega), if_pos (by omega)]
  · rw [wU_ne (by omega)]
    by_cases q2 : p + 8 ≤ j ∧ j < p + 11
    · rw [if_pos q2, if_pos q2, if_neg (by omega)]
    · rw [if_neg q2, if_neg q2]
theorem o184 {σ0 σ : zM} {T : Int → Int} {sz lo hi : Int} {s : tk} {V : Int → Int} (h : gR σ T sz s V) (l0 : 0 ≤ lo) (l1 : lo ≤ 1000) (i0 : -1 ≤ hi) (i1 : hi ≤ 1000) (hf : rrF σ0 σ) : zwp (zcall 184 [.ref 287, .int (Int32.ofInt lo), .int (Int32.ofInt hi)] σ) (fun v τ => v = some (.int (Int32.ofInt s.2.2.2)) ∧ s.1 = 2 ∧ lo ≤ s.2.2.2 ∧ s.2.2.2 ≤ hi ∧ gR τ T sz (nxt T sz s) V ∧ rrF σ0 τ ∨ v = some (.int (Int32.ofInt 0)) ∧ ∃ f, (∀ K, nm T sz lo hi s K = er f s.2.1) ∧ bR σ0 τ f s.2.1) := by
  obtain ⟨x, hx, e⟩ : ∃ x, (∀ K, nm T sz lo hi s K = x K) ∧ ∀ K, x K = nm T sz lo hi s K := ⟨fun K => nm T sz lo hi s K, fun _ => rfl, fun _ => rfl⟩
  have hs := h.1.1
  obtain ⟨o1, o2, o3, o4, o5⟩ := h.2.2.2.2.1
  obtain ⟨h4, h41, h42, h43⟩ := h.2.2.2.1
  have h3 := h.2.2.1.1
  have m5 := mi5_rng o5
  by_cases q : s.1 = 2
  · have h43 := h43 q
    have s163 : zcall 163 [.long ((zI σ 287 11).toInt64), .long ((Int32.ofInt lo).toInt64), .long ((Int32.ofInt hi).toInt64)] σ = some (some (.int (Int32.ofInt (if lo ≤ mi5 s.2.2.2 ∧ mi5 s.2.2.2 ≤ hi then 1 else 0))), σ) := by
      rw [mm_r σ 287 11, h43, mm_i2l (by omega) (by omega), mm_i2l (by omega) (by omega), mm_i2l (by omega) (by omega), sp_163 (by omega) (by omega) (by omega) (by omega) (by omega) (by omega)]
    have em : (lo ≤ mi5 s.2.2.2 ∧ mi5 s.2.2.2 ≤ hi) ↔ (lo ≤ s.2.2.2 ∧ s.2.2.2 ≤ hi) := by
      unfold mi5
      split <;> omega
    simp only [em] at s163
    have h184 : ∀ {Q : Option Value → zM → Prop}, zwp (zev 184 20 [some (.ref 287), some (.int (Int32.ofInt lo)), some (.int (Int32.ofInt hi)), none] [] σ) Q → zwp (zcall 184 [.ref 287, .int (Int32.ofInt lo), .int (Int32.ofInt hi)] σ) Q := by
      intro Q hq
      refine zwp_of (fun r h => zcc_184 (ze_184_0 _ _ _ r h)) ?_
      rw [g179 h3, zbI_s]
      refine zwp_f (by decide) ?_
      refine zwp_t (by rw [mm_r, h4, q]) ?_
      exact hq
    by_cases q2 : lo ≤ s.2.2.2 ∧ s.2.2.2 ≤ hi
    · have e5 : mi5 s.2.2.2 = s.2.2.2 := if_pos (by omega)
      refine h184 ?_
      refine zwp_of (fun r h => ze_184_20 _ _ _ r h) ?_
      rw [g179 h3, zbI_s]
      refine zwp_f (by decide) ?_
      rw [s163, zbI_s, if_pos q2]
      refine zwp_t (by decide) ?_
      rw [g179 h3, zbI_s]
      refine zwp_t (by decide) ?_
      refine zwp_V _ h.scan ?_
      intro τ g
      rw [mm_r σ 287 11, h43, e5]
      exact zwp_ret (.inl ⟨rfl, q, q2.1, q2.2, g.2, hf.tr g.1.R⟩)
    · obtain ⟨υ, e, hb⟩ := h.bad hf (x := 2) (by decide) (by decide) (by decide)
      refine h184 ?_
      refine zwp_of (fun r h => ze_184_20 _ _ _ r h) ?_
      rw [g179 h3, zbI_s]
      refine zwp_f (by decide) ?_
      rw [s163, zbI_s, if_neg q2]
      refine zwp_f (by decide) ?_
      rw [e, zbV_s, e179 hb.n, zbI_s]
      refine zwp_f (by decide) (zwp_ret (.inr ⟨rfl, 2, fun K => ?_, hb⟩))
      unfold nm
      rw [if_pos q, if_neg q2]
  · obtain ⟨υ, e, hb⟩ := h.bad hf (x := 1) (by decide) (by decide) (by decide)
    refine zwp_of (fun r h => zcc_184 (ze_184_0 _ _ _ r h)) ?_
    rw [g179 h3, zbI_s]
    refine zwp_f (by decide) ?_
    refine zwp_f (by rw [mm_r, h4, mm_eq (by omega) (by omega) (by decide) (by decide)]; exact q) ?_
    rw [e, zbV_s]
    refine zwp_of (fun r h => ze_184_20 _ _ _ r h) ?_
    rw [e179 hb.n, zbI_s]
    refine zwp_t (by decide) ?_
    rw [e179 hb.n, zbI_s]
    refine zwp_f (by decide) (zwp_ret (.inr ⟨rfl, 1, fun K => ?_, hb⟩))
    unfold nm
    rw [if_neg q]
theorem o187 {σ0 σ : zM} {T : Int → Int} {sz : Int} {s : tk} {V : Int → Int} (h : gR σ T sz s V) (v0 : 0 ≤ V 0) (v1 : V 0 ≤ 8) (hf : rrF σ0 σ) : zwp (zcall 187 [.ref 287] σ) (fun v τ => v = some (.int (Int32.ofInt s.2.2.2)) ∧ s.1 = 2 ∧ 0 ≤ s.2.2.2 ∧ s.2.2.2 ≤ V 0 - 1 ∧ gR τ T sz (nxt T sz s) V ∧ rrF σ0 τ ∨ v = some (.int (Int32.ofInt 0)) ∧ ∃ f, (∀ K, nm T sz 0 (V 0 - 1) s K = er f s.2.1) ∧ bR σ0 τ f s.2.1) := by
  refine zwp_of (fun r h => zcc_187 (ze_187_0 _ r h)) ?_
  refine zwp_cd (za_293 (by decide) (by decide)) ?_
  rw [rdI h.2.2.2.2.2 (by decide) (by decide), mm_sub]
  refine zwp_IC (o184 h (by decide) (by decide) (by omega) (by omega) hf) ?_
  rintro v τ (⟨rfl, g⟩ | ⟨rfl, g⟩)
  · exact ⟨_, rfl, zwp_ret (.inl ⟨rfl, g⟩)⟩
  · exact ⟨_, rfl, zwp_ret (.inr ⟨rfl, g⟩)⟩
def oVia (σ0 τ : zM) (T : Int → Int) (sz p : Int) (V : Int → Int) (R : (Int → (Int → Int) → tk → rdZ) → rdZ) : Prop := (∃ (nv : Int) (vs' : Int → Int) (s' : tk), (∀ K, R K = K nv vs' s') ∧ (0 ≤ nv ∧ nv ≤ 3) ∧ gR τ T sz s' (wU (uVs V p vs') (p + 7) nv) ∧ rrF σ0 τ) ∨ ∃ f q, (∀ K, R K = er f q) ∧ bR σ0 τ f q
theorem gR.wr {σ : zM} {T : Int → Int} {sz j v : Int} {s : tk} {V : Int → Int} (h : gR σ T sz s V) (j0 : 0 ≤ j) (j1 : j < 220) (v0 : -2147483648 ≤ v) (v1 : v < 2147483648) : gR (zw σ 293 j.toNat v) T sz s (wU V j v) := by
  have n7 : ∀ k, zN (zw σ 293 j.toNat v) 287 k = zN σ 287 k := fun k => mm_ne (by decide)
  refine ⟨h.1.fr fun k => mm_ne (by decide), (n7 7).trans h.2.1, ⟨(n7 12).trans h.2.2.1.1, (n7 13).trans h.2.2.1.2⟩, ⟨(n7 10).trans h.2.2.2.1.1, (n7 9).trans h.2.2.2.1.2.1, (n7 8).trans h.2.2.2.1.2.2.1, fun p => (n7 11).trans (h.2.2.2.1.2.2.2 p)⟩, h.2.2.2.2.1, ?_⟩
  rw [wv_U v0 v1, h.2.2.2.2.2]
theorem lp_192 {σ0 : zM} {T : Int → Int} {sz p : Int} {V : Int → Int} (v0 : 0 ≤ V 0) (v1 : V 0 ≤ 8) (p0 : 80 ≤ p) (p1 : p ≤ 206) : ∀ (k i : Nat) (s : tk) (vs : Int → Int) (σ : zM), i + k = 3 → gR σ T sz s (uVs V p vs) → rrF σ0 σ → zwp (zev 192 2 [some (.ref 287), some (.int (Int32.ofInt p)), some (.int (Int32.ofInt i)), none] [] σ) (fun v τ => v = none ∧ oVia σ0 τ T sz p V (rviR T sz (V 0) k i vs s))
  | 0, i, s, vs, σ, e, h, hf => by
    have i3 : i = 3 := by omega
    subst i3
    refine zwp_of (fun r h => ze_192_2 _ _ _ r h) ?_
    refine zwp_f (fun p => p rfl) ?_
    obtain ⟨υ, e, hb⟩ := h.bad hf (x := 1) (by decide) (by decide) (by decide)
    rw [e, zbV_s, e187 hb.n, zbI_s, e179 hb.n, zbI_s]
    exact zwp_f (by decide) (zwp_ret ⟨rfl, .inr ⟨1, s.2.1, fun K => rfl, hb⟩⟩)
  | k + 1, i, s, vs, σ, e, h, hf => by
    have u0 : uVs V p vs 0 = V 0 := if_neg (by omega)
    refine zwp_of (fun r h => ze_192_2 _ _ _ r h) ?_
    refine zwp_t (by rw [mm_eq (by omega) (by omega) (by omega) (by omega)]; omega) ?_
    refine zwp_IC (o187 h (by omega) (by omega) hf) ?_
    rintro v τ (⟨rfl, q, t0, t1, g, f⟩ | ⟨rfl, f, hE, hb⟩)
    · refine ⟨_, rfl, ?_⟩
      have en : ∀ K, rviR T sz (V 0) (k + 1) i vs s K = if (nxt T sz s).1 = 2 then rviR T sz (V 0) k ((i : Int) + 1) (vU vs i s.2.2.2) (nxt T sz s) K else K ((i : Int) + 1) (vU vs i s.2.2.2) (nxt T sz s) := fun K => by
        rw [rviR, nm_y q t0 (by omega)]
      generalize s.2.2.2 = t at t0 t1 en ⊢
      rw [g179 g.2.2.1.1, zbI_s]
      refine zwp_t (by decide) ?_
      simp only [mm_add]
      have hw : ∀ {Q : Option Value → zM → Prop} {k : zM → Option zR}, (∀ τ', gR τ' T sz (nxt T sz s) (uVs V p (vU vs i t)) → rrF σ0 τ' → zwp (k τ') Q) → zwp (cond (zarr 293 100 (Int32.ofInt (p + 8 + i))) (zlet (zsI τ 293 (Int32.ofInt (p + 8 + i)).toNatClampNeg (Int32.ofInt t)) k) none) Q := by
        intro Q k hk
        rw [za_293 (by omega) (by omega), mm_cl (by omega) (by omega)]
        have g' := gR.wr (j := p + 8 + i) (v := t) g (by omega) (by omega) (by omega) (by omega)
        rw [uVs_U p0 (by omega) (by omega)] at g'
        exact hk _ g' (f.w (by omega) t)
      refine hw fun τ1 g1 f1 => ?_
      by_cases z : (nxt T sz s).1 = 2
      · refine zwp_t ((r10 g1 (by decide) (by decide)).mpr z) ?_
        refine zwp_mono (lp_192 v0 v1 p0 p1 k (i + 1) (nxt T sz s) (vU vs i t) τ1 (by omega) g1 f1) ?_
        rintro v ω ⟨rfl, hv⟩
        refine ⟨rfl, ?_⟩
        rcases hv with ⟨nv, vs', s', c1, c2⟩ | ⟨f, q, c1, c2⟩
        · exact .inl ⟨nv, vs', s', fun K => by rw [en, if_pos z]; exact c1 K, c2⟩
        · exact .inr ⟨f, q, fun K => by rw [en, if_pos z]; exact c1 K, c2⟩
      · refine zwp_f (fun p => z ((r10 g1 (by decide) (by decide)).mp p)) ?_
        rw [za_293 (by omega) (by omega), mm_cl (by omega) (by omega)]
        have g' := gR.wr (j := p + 7) (v := (i : Int) + 1) g1 (by omega) (by omega) (by omega) (by omega)
        exact zwp_ret ⟨rfl, .inl ⟨(i : Int) + 1, vU vs i t, nxt T sz s, fun K => by rw [en, if_neg z], ⟨by omega, by omega⟩, g', f1.w (by omega) _⟩⟩
    · refine ⟨_, rfl, ?_⟩
      rw [e179 hb.n, zbI_s]
      refine zwp_f (by decide) (zwp_ret ⟨rfl, .inr ⟨f, s.2.1, fun K => ?_, hb⟩⟩)
      rw [rviR, ← u0]
      exact hE _
theorem sp_192 {σ0 σ : zM} {T : Int → Int} {sz p : Int} {s : tk} {V vs : Int → Int} (v0 : 0 ≤ V 0) (v1 : V 0 ≤ 8) (p0 : 80 ≤ p) (p1 : p ≤ 206) (h : gR σ T sz s (uVs V p vs)) (hf : rrF σ0 σ) : zwp (zcall 192 [.ref 287, .int (Int32.ofInt p)] σ) (fun v τ => v = none ∧ oVia σ0 τ T sz p V (rviR T sz (V 0) 3 0 vs s)) := by
  refine zwp_of (fun r h => zcc_192 (ze_192_0 _ _ r h)) ?_
  exact lp_192 v0 v1 p0 p1 3 0 s vs σ rfl h hf
/-! the order -/
theorem oEnd {V V1 : Int → Int} {p r g x u f t h nv : Int} {vs : Int → Int} (h50 : 0 ≤ V 5) (hp : p = 80 + 14 * V 5) (hV : ∀ i, V1 i = if i = p then r else if i = p + 1 then g else if i = p + 2 then x else if i = p + 3 then u else if i = p + 4 then f else V i) : wU (wU (uVs (wU (wU (wU (wU V1 (p + 5) t) (p + 6) h) (p + 7) 0) (p + 11) (-1)) p vs) (p + 7) nv) 5 (V 5 + 1) = uOr V (fO V r g x u f t h nv vs) := by
  funext i
  by_cases q : i = 5
  · rw [wU_at (by omega)]
    exact (if_pos q).symm
  · rw [wU_ne (by omega)]
    unfold uOr
    rw [if_neg q]
    by_cases q1 : 80 + 14 * V 5 ≤ i ∧ i < 80 + 14 * V 5 + 14
    · rw [if_pos q1]
      obtain ⟨k, hk⟩ : ∃ k, k = i - (80 + 14 * V 5) := ⟨_, rfl⟩
      have ei : i = p + k := by omega
      rw [← hk]
      unfold fO
      by_cases k7 : k = 7
      · rw [wU_at (by omega), if_neg (by omega), if_neg (by omega), if_neg (by omega), if_neg (by omega), if_neg (by omega), if_neg (by omega), if_neg (by omega), if_pos k7]
      · rw [wU_ne (by omega)]
        unfold uVs
        by_cases k8 : p + 8 ≤ i ∧ i < p + 11
        · rw [if_pos k8, if_neg (by omega), if_neg (by omega), if_neg (by omega), if_neg (by omega), if_neg (by omega), if_neg (by omega), if_neg (by omega), if_neg k7, if_pos (by omega)]
          exact congrArg vs (by omega)
        · rw [if_neg k8]
          by_cases k11 : k = 11
          · rw [wU_at (by omega), if_neg (by omega), if_neg (by omega), if_neg (by omega), if_neg (by omega), if_neg (by omega), if_neg (by omega), if_neg (by omega), if_neg k7, if_neg (by omega), if_pos k11]
          · rw [wU_ne (by omega), wU_ne (by omega)]
            by_cases k6 : k = 6
            · rw [wU_at (by omega), if_neg (by omega), if_neg (by omega), if_neg (by omega), if_neg (by omega), if_neg (by omega), if_neg (by omega), if_pos k6]
            · rw [wU_ne (by omega)]
              by_cases k5 : k = 5
              · rw [wU_at (by omega), if_neg (by omega), if_neg (by omega), if_neg (by omega), if_neg (by omega), if_neg (by omega), if_pos k5]
              · rw [wU_ne (by omega), hV]
                by_cases k0 : k = 0
                · rw [if_pos (by omega), if_pos k0]
                · rw [if_neg (by omega), if_neg k0]
                  by_cases k1 : k = 1
                  · rw [if_pos (by omega), if_pos k1]
                  · rw [if_neg (by omega), if_neg k1]
                    by_cases k2 : k = 2
                    · rw [if_pos (by omega), if_pos k2]
                    · rw [if_neg (by omega), if_neg k2]
                      by_cases k3 : k = 3
                      · rw [if_pos (by omega), if_pos k3]
                      · rw [if_neg (by omega), if_neg k3]
                        by_cases k4 : k = 4
                        · rw [if_pos (by omega), if_pos k4]
                        · rw [if_neg (by omega), if_neg k4, if_neg k5, if_neg k6, if_neg k7, if_neg (by omega), if_neg k11]
                          exact congrArg V (by omega)
    · rw [if_neg q1, wU_ne (by omega)]
      unfold uVs
      rw [if_neg (by omega), wU_ne (by omega), wU_ne (by omega), wU_ne (by omega), wU_ne (by omega), hV, if_neg (by omega), if_neg (by omega), if_neg (by omega), if_neg (by omega), if_neg (by omega)]
theorem b193 {σ0 τ : zM} {f q p : Int} (hb : bR σ0 τ f q) (p0 : 80 ≤ p) (p1 : p ≤ 206) : VR σ0 (zev 193 195 [some (.ref 287), some (.int (Int32.ofInt p)), none, none] [] τ) (er f q) := by
  refine zwp_of (fun r h => ze_193_195 _ _ r h) ?_
  show VR σ0 _ (er f q)
  (repeat' (with_reducible first | exact bze (by assumption) | refine bz179 (by assumption) ?_ | refine bz180 (by assumption) ?_ | refine bz181 (by assumption) ?_ | refine bz182 (by assumption) ?_ | refine bz183 (by assumption) ?_ | refine bz184 (by assumption) ?_ | refine bz185 (by assumption) ?_ | refine bz187 (by assumption) ?_ | refine bzcw (by assumption) (by first | exact za_293 (by decide) (by decide) | (rw [mm_add]; exact za_293 (by omega) (by omega)) | exact za_293 (by omega) (by omega)) (fun _ _ => ?_) | refine bzc (by first | exact za_293 (by decide) (by decide) | (rw [mm_add]; exact za_293 (by omega) (by omega)) | exact za_293 (by omega) (by omega)) ?_ | refine bzt ?_ | refine bzf ?_ | refine bzi ?_ ?_))
theorem b193a {σ0 τ : zM} {f q p : Int} (hb : bR σ0 τ f q) (p0 : 80 ≤ p) (p1 : p ≤ 206) : VR σ0 (zev 193 69 [some (.ref 287), some (.int (Int32.ofInt p)), some (.int (Int32.ofInt 0)), none] [] τ) (er f q) := by
  refine zwp_of (fun r h => ze_193_69 _ _ _ r h) ?_
  show VR σ0 _ (er f q)
  (repeat' (with_reducible first | exact bze (by assumption) | exact b193 (by assumption) (by assumption) (by assumption) | refine bz179 (by assumption) ?_ | refine bz180 (by assumption) ?_ | refine bz181 (by assumption) ?_ | refine bz182 (by assumption) ?_ | refine bz183 (by assumption) ?_ | refine bz184 (by assumption) ?_ | refine bz185 (by assumption) ?_ | refine bz187 (by assumption) ?_ | refine bzcw (by assumption) (by first | exact za_293 (by decide) (by decide) | (rw [mm_add]; exact za_293 (by omega) (by omega)) | exact za_293 (by omega) (by omega)) (fun _ _ => ?_) | refine bzc (by first | exact za_293 (by decide) (by decide) | (rw [mm_add]; exact za_293 (by omega) (by omega)) | exact za_293 (by omega) (by omega)) ?_ | refine bzt ?_ | refine bzf ?_ | refine bzi ?_ ?_))
theorem vU_0 {V V1 : Int → Int} {p r g x u f t h : Int} (h50 : 0 ≤ V 5) (hp : p = 80 + 14 * V 5) (hV : ∀ i, V1 i = if i = p then r else if i = p + 1 then g else if i = p + 2 then x else if i = p + 3 then u else if i = p + 4 then f else V i) : uVs (wU (wU (wU (wU V1 (p + 5) t) (p + 6) h) (p + 7) 0) (p + 11) (-1)) p (vs0 V) = wU (wU (wU (wU V1 (p + 5) t) (p + 6) h) (p + 7) 0) (p + 11) (-1) := by
  funext i
  unfold uVs
  by_cases k8 : p + 8 ≤ i ∧ i < p + 11
  · rw [if_pos k8, wU_ne (by omega), wU_ne (by omega), wU_ne (by omega), wU_ne (by omega), hV, if_neg (by omega), if_neg (by omega), if_neg (by omega), if_neg (by omega), if_neg (by omega)]
    exact congrArg V (by omega)
  · rw [if_neg k8]
theorem t195 {σ0 σ : zM} {T : Int → Int} {sz : Int} {s : tk} {V V1 : Int → Int} (hf : rrF σ0 σ) (hW : WOK V) (h5 : V 5 < 10) {p r g x u f : Int} (h : gR σ T sz s V1) (hp : p = 80 + 14 * V 5) (hV : ∀ i, V1 i = if i = p then r else if i = p + 1 then g else if i = p + 2 then x else if i = p + 3 then u else if i = p + 4 then f else V i) : VR σ0 (zev 193 195 [some (.ref 287), some (.int (Int32.ofInt p)), none, none] [] σ) (nm T sz 0 (V 0 - 1) s fun t s => wd T sz 1000013 s fun s => nm T sz 0 (V 1 - 1) s fun h s => wif T sz 1000016 s (fun s => rviR T sz (V 0) 3 0 (vs0 V) s fun nv vs s => okR s (uOr V (fO V r g x u f t h nv vs))) (okR s (uOr V (fO V r g x u f t h 0 (vs0 V))))) := by
  have h8 := hW.1.1.2.1
  have h80 := hW.1.1.1
  have h1 := hW.1.2.1
  have h9 := hW.1.2.2.1
  have h50 := hW.2.2.1.2.2.1
  have p0 : 80 ≤ p := by omega
  have p1 : p ≤ 206 := by omega
  have e0 : V1 0 = V 0 := by rw [hV, if_neg (by omega), if_neg (by omega), if_neg (by omega), if_neg (by omega), if_neg (by omega)]
  have e1 : V1 1 = V 1 := by rw [hV, if_neg (by omega), if_neg (by omega), if_neg (by omega), if_neg (by omega), if_neg (by omega)]
  have e5 : V1 5 = V 5 := by rw [hV, if_neg (by omega), if_neg (by omega), if_neg (by omega), if_neg (by omega), if_neg (by omega)]
  refine zwp_of (fun r h => ze_193_195 _ _ r h) ?_
  rw [← e0]
  refine v187 h (by omega) (by omega) hf (fun τ1 t0 t1 g1 f1 => ?_) (fun τ f hb => by (repeat' (with_reducible first | exact bze (by assumption) | refine bz179 (by assumption) ?_ | refine bz180 (by assumption) ?_ | refine bz181 (by assumption) ?_ | refine bz182 (by assumption) ?_ | refine bz183 (by assumption) ?_ | refine bz184 (by assumption) ?_ | refine bz185 (by assumption) ?_ | refine bz187 (by assumption) ?_ | refine bzcw (by assumption) (by first | exact za_293 (by decide) (by decide) | (rw [mm_add]; exact za_293 (by omega) (by omega)) | exact za_293 (by omega) (by omega)) (fun _ _ => ?_) | refine bzc (by first | exact za_293 (by decide) (by decide) | (rw [mm_add]; exact za_293 (by omega) (by omega)) | exact za_293 (by omega) (by omega)) ?_ | refine bzt ?_ | refine bzf ?_ | refine bzi ?_ ?_)))
  rw [e0]
  generalize s.2.2.2 = t at t0 t1 ⊢
  simp only [mm_add]
  refine vw g1 f1 (by omega) (by omega) (by omega) (by omega) (fun τ2 g2 f2 => ?_)
  refine zwp_cd (za_293 (by decide) (by decide)) ?_
  rw [rdI g2.2.2.2.2.2 (by decide) (by decide), wU_ne (by omega), e1, mm_sub]
  refine v185 g2 (by decide) (by decide) (by decide) (by omega) (by omega) f2 (fun τ3 c0 c1 g3 f3 => ?_) (fun τ f p hb => by (repeat' (with_reducible first | exact bze (by assumption) | refine bz179 (by assumption) ?_ | refine bz180 (by assumption) ?_ | refine bz181 (by assumption) ?_ | refine bz182 (by assumption) ?_ | refine bz183 (by assumption) ?_ | refine bz184 (by assumption) ?_ | refine bz185 (by assumption) ?_ | refine bz187 (by assumption) ?_ | refine bzcw (by assumption) (by first | exact za_293 (by decide) (by decide) | (rw [mm_add]; exact za_293 (by omega) (by omega)) | exact za_293 (by omega) (by omega)) (fun _ _ => ?_) | refine bzc (by first | exact za_293 (by decide) (by decide) | (rw [mm_add]; exact za_293 (by omega) (by omega)) | exact za_293 (by omega) (by omega)) ?_ | refine bzt ?_ | refine bzf ?_ | refine bzi ?_ ?_)))
  generalize nxt T sz (nxt T sz (nxt T sz s)) = s3 at g3 ⊢
  generalize (nxt T sz (nxt T sz s)).2.2.2 = c at c0 c1 ⊢
  refine vw g3 f3 (by omega) (by omega) (by omega) (by omega) (fun τ4 g4 f4 => ?_)
  refine vw g4 f4 (by omega) (by omega) (by omega) (by omega) (fun τ5 g5 f5 => ?_)
  refine vw g5 f5 (by omega) (by omega) (by omega) (by omega) (fun τ6 g6 f6 => ?_)
  have ee : ∀ nv vs, wU (wU (uVs (wU (wU (wU (wU V1 (p + 5) t) (p + 6) c) (p + 7) 0) (p + 11) (-1)) p vs) (p + 7) nv) 5 (V 5 + 1) = uOr V (fO V r g x u f t c nv vs) := fun nv vs => oEnd h50 hp hV
  have e00 := vU_0 (t := t) (h := c) h50 hp hV
  have z0 : wU (wU (wU (wU V1 (p + 5) t) (p + 6) c) (p + 7) 0) (p + 11) (-1) 0 = V 0 := by rw [wU_ne (by omega), wU_ne (by omega), wU_ne (by omega), wU_ne (by omega), e0]
  have z5 : wU (wU (wU (wU V1 (p + 5) t) (p + 6) c) (p + 7) 0) (p + 11) (-1) 5 = V 5 := by rw [wU_ne (by omega), wU_ne (by omega), wU_ne (by omega), wU_ne (by omega), e5]
  have z7 : wU (wU (wU (wU (wU V1 (p + 5) t) (p + 6) c) (p + 7) 0) (p + 11) (-1)) (p + 7) 0 = wU (wU (wU (wU V1 (p + 5) t) (p + 6) c) (p + 7) 0) (p + 11) (-1) := by
    funext i
    by_cases q : i = p + 7
    · rw [wU_at (by omega), wU_ne (by omega), wU_at (by omega)]
    · rw [wU_ne (by omega)]
  generalize wU (wU (wU (wU V1 (p + 5) t) (p + 6) c) (p + 7) 0) (p + 11) (-1) = V6 at g6 ee e00 z0 z5 z7 ⊢
  have fin : ∀ {τ : zM} {s' : tk} {nv : Int} {vs : Int → Int}, gR τ T sz s' (wU (uVs V6 p vs) (p + 7) nv) → rrF σ0 τ → VR σ0 (cond (zarr 293 100 (Int32.ofInt (5))) (cond (zarr 293 100 (Int32.ofInt (5))) (zlet (zsI τ 293 (Int32.ofInt (5)).toNatClampNeg ((zI τ 293 (Int32.ofInt (5)).toNatClampNeg) + (Int32.ofInt (1)))) (fun τ10 => some (none, τ10))) none) none) (okR s' (uOr V (fO V r g x u f t c nv vs))) := by
    intro τ s' nv vs gg ff
    have y5 : wU (uVs V6 p vs) (p + 7) nv 5 = V 5 := by
      rw [wU_ne (by omega)]
      unfold uVs
      rw [if_neg (by omega), z5]
    refine zwp_cd (za_293 (by decide) (by decide)) ?_
    rw [rdI gg.2.2.2.2.2 (by decide) (by decide), y5, mm_add]
    refine vw gg ff (by omega) (by omega) (by omega) (by omega) (fun τ7 g7 f7 => ?_)
    rw [ee] at g7
    exact VR_ok g7 f7
  refine zwp_IC (o182 (a := 1000016) g6 (by decide)) ?_
  rintro v τ7 (⟨w, rfl, sf, g7⟩ | ⟨w, rfl, rfl⟩)
  · refine ⟨_, rfl, zwp_f (by decide) ?_⟩
    rw [wif_y w]
    rw [← e00] at g7
    refine zwp_V _ (sp_192 (σ0 := σ0) (by omega) (by omega) p0 p1 g7 (f6.tr sf.R)) ?_
    rintro τ8 (⟨nv, vs', s', c1, c2, c3, c4⟩ | ⟨f', q', c1, hb⟩)
    · rw [z0] at c1
      rw [c1]
      exact fin c3 c4
    · rw [z0] at c1
      rw [c1]
      show VR σ0 _ (er f' q')
      (repeat' (with_reducible first | exact bze (by assumption) | refine bz179 (by assumption) ?_ | refine bz180 (by assumption) ?_ | refine bz181 (by assumption) ?_ | refine bz182 (by assumption) ?_ | refine bz183 (by assumption) ?_ | refine bz184 (by assumption) ?_ | refine bz185 (by assumption) ?_ | refine bz187 (by assumption) ?_ | refine bzcw (by assumption) (by first | exact za_293 (by decide) (by decide) | (rw [mm_add]; exact za_293 (by omega) (by omega)) | exact za_293 (by omega) (by omega)) (fun _ _ => ?_) | refine bzc (by first | exact za_293 (by decide) (by decide) | (rw [mm_add]; exact za_293 (by omega) (by omega)) | exact za_293 (by omega) (by omega)) ?_ | refine bzt ?_ | refine bzf ?_ | refine bzi ?_ ?_))
  · refine ⟨_, rfl, zwp_t (by decide) ?_⟩
    rw [wif_n w]
    refine fin (nv := 0) (vs := vs0 V) ?_ f6
    rw [e00, z7]
    exact g6
theorem b193f {σ0 σ : zM} {f q p : Int} (hb : bR σ0 σ f q) (p0 : 80 ≤ p) (p1 : p ≤ 206) : VR σ0 (cond (zarr 293 100 (Int32.ofInt (0))) (zbI (zcall 185 [.ref 287, .ref 1000009, .int (Int32.ofInt (0)), .int ((zI σ 293 (Int32.ofInt (0)).toNatClampNeg) - (Int32.ofInt (1)))] σ) (fun v50 τ50 => cond (zarr 293 100 ((Int32.ofInt p) + (Int32.ofInt (4)))) (zlet (zsI τ50 293 ((Int32.ofInt p) + (Int32.ofInt (4))).toNatClampNeg v50) (fun τ51 => zbV (zcall 183 [.ref 287, .ref 1000008] τ51) (fun τ52 => zbI (zcall 179 [.ref 287] τ52) (fun v53 τ53 => if v53 = 0 then zev 193 195 [some (.ref 287), some (.int (Int32.ofInt p)), none, none] [] τ53 else if ¬ (zI τ53 287 10) = (Int32.ofInt (2)) then zev 193 195 [some (.ref 287), some (.int (Int32.ofInt p)), none, none] [] τ53 else cond (zarr 293 100 ((Int32.ofInt p) + (Int32.ofInt (4)))) (if ¬ (zI τ53 287 11) = (zI τ53 293 ((Int32.ofInt p) + (Int32.ofInt (4))).toNatClampNeg) then zev 193 195 [some (.ref 287), some (.int (Int32.ofInt p)), none, none] [] τ53 else zbV (zcall 180 [.ref 287, .int (Int32.ofInt (2))] τ53) (fun τ54 => zev 193 195 [some (.ref 287), some (.int (Int32.ofInt p)), none, none] [] τ54)) none)))) none)) none) (er f q) := by
  (repeat' (with_reducible first | exact bze (by assumption) | exact b193 (by assumption) (by assumption) (by assumption) | refine bz179 (by assumption) ?_ | refine bz180 (by assumption) ?_ | refine bz181 (by assumption) ?_ | refine bz182 (by assumption) ?_ | refine bz183 (by assumption) ?_ | refine bz184 (by assumption) ?_ | refine bz185 (by assumption) ?_ | refine bz187 (by assumption) ?_ | refine bzcw (by assumption) (by first | exact za_293 (by decide) (by decide) | (rw [mm_add]; exact za_293 (by omega) (by omega)) | exact za_293 (by omega) (by omega)) (fun _ _ => ?_) | refine bzc (by first | exact za_293 (by decide) (by decide) | (rw [mm_add]; exact za_293 (by omega) (by omega)) | exact za_293 (by omega) (by omega)) ?_ | refine bzt ?_ | refine bzf ?_ | refine bzi ?_ ?_))
theorem t193f {σ0 σ : zM} {T : Int → Int} {sz : Int} {s : tk} {V V1 : Int → Int} (hf : rrF σ0 σ) (hW : WOK V) (h5 : V 5 < 10) {p r g x u : Int} (h : gR σ T sz s V1) (hp : p = 80 + 14 * V 5) (hV : ∀ i, V1 i = if i = p then r else if i = p + 1 then g else if i = p + 2 then x else if i = p + 3 then u else V i) : VR σ0 (cond (zarr 293 100 (Int32.ofInt (0))) (zbI (zcall 185 [.ref 287, .ref 1000009, .int (Int32.ofInt (0)), .int ((zI σ 293 (Int32.ofInt (0)).toNatClampNeg) - (Int32.ofInt (1)))] σ) (fun v50 τ50 => cond (zarr 293 100 ((Int32.ofInt p) + (Int32.ofInt (4)))) (zlet (zsI τ50 293 ((Int32.ofInt p) + (Int32.ofInt (4))).toNatClampNeg v50) (fun τ51 => zbV (zcall 183 [.ref 287, .ref 1000008] τ51) (fun τ52 => zbI (zcall 179 [.ref 287] τ52) (fun v53 τ53 => if v53 = 0 then zev 193 195 [some (.ref 287), some (.int (Int32.ofInt p)), none, none] [] τ53 else if ¬ (zI τ53 287 10) = (Int32.ofInt (2)) then zev 193 195 [some (.ref 287), some (.int (Int32.ofInt p)), none, none] [] τ53 else cond (zarr 293 100 ((Int32.ofInt p) + (Int32.ofInt (4)))) (if ¬ (zI τ53 287 11) = (zI τ53 293 ((Int32.ofInt p) + (Int32.ofInt (4))).toNatClampNeg) then zev 193 195 [some (.ref 287), some (.int (Int32.ofInt p)), none, none] [] τ53 else zbV (zcall 180 [.ref 287, .int (Int32.ofInt (2))] τ53) (fun τ54 => zev 193 195 [some (.ref 287), some (.int (Int32.ofInt p)), none, none] [] τ54)) none)))) none)) none) (wd T sz 1000009 s fun s => nm T sz 0 (V 0 - 1) s fun f s => wd T sz 1000008 s fun s1 => nm T sz 0 (V 0 - 1) s1 fun t s => if f = t then er 2 s1.2.1 else wd T sz 1000013 s fun s => nm T sz 0 (V 1 - 1) s fun h s => wif T sz 1000016 s (fun s => rviR T sz (V 0) 3 0 (vs0 V) s fun nv vs s => okR s (uOr V (fO V r g x u f t h nv vs))) (okR s (uOr V (fO V r g x u f t h 0 (vs0 V))))) := by
  have h8 := hW.1.1.2.1
  have h80 := hW.1.1.1
  have h50 := hW.2.2.1.2.2.1
  have p0 : 80 ≤ p := by omega
  have p1 : p ≤ 206 := by omega
  have e0 : V1 0 = V 0 := by rw [hV, if_neg (by omega), if_neg (by omega), if_neg (by omega), if_neg (by omega)]
  refine zwp_cd (za_293 (by decide) (by decide)) ?_
  rw [rdI h.2.2.2.2.2 (by decide) (by decide), e0, mm_sub]
  refine v185 h (by decide) (by decide) (by decide) (by omega) (by omega) hf (fun τ3 c0 c1 g3 f3 => ?_) (fun τ f p hb => by (repeat' (with_reducible first | exact bze (by assumption) | exact b193 (by assumption) (by assumption) (by assumption) | refine bz179 (by assumption) ?_ | refine bz180 (by assumption) ?_ | refine bz181 (by assumption) ?_ | refine bz182 (by assumption) ?_ | refine bz183 (by assumption) ?_ | refine bz184 (by assumption) ?_ | refine bz185 (by assumption) ?_ | refine bz187 (by assumption) ?_ | refine bzcw (by assumption) (by first | exact za_293 (by decide) (by decide) | (rw [mm_add]; exact za_293 (by omega) (by omega)) | exact za_293 (by omega) (by omega)) (fun _ _ => ?_) | refine bzc (by first | exact za_293 (by decide) (by decide) | (rw [mm_add]; exact za_293 (by omega) (by omega)) | exact za_293 (by omega) (by omega)) ?_ | refine bzt ?_ | refine bzf ?_ | refine bzi ?_ ?_)))
  generalize (nxt T sz s).2.2.2 = c at c0 c1 ⊢
  generalize nxt T sz (nxt T sz s) = s3 at g3 ⊢
  simp only [mm_add]
  refine vw g3 f3 (by omega) (by omega) (by omega) (by omega) (fun τ4 g4 f4 => ?_)
  refine v183 g4 (by decide) f4 (fun τ5 g5 f5 => ?_) (fun τ hb => by (repeat' (with_reducible first | exact bze (by assumption) | exact b193 (by assumption) (by assumption) (by assumption) | refine bz179 (by assumption) ?_ | refine bz180 (by assumption) ?_ | refine bz181 (by assumption) ?_ | refine bz182 (by assumption) ?_ | refine bz183 (by assumption) ?_ | refine bz184 (by assumption) ?_ | refine bz185 (by assumption) ?_ | refine bz187 (by assumption) ?_ | refine bzcw (by assumption) (by first | exact za_293 (by decide) (by decide) | (rw [mm_add]; exact za_293 (by omega) (by omega)) | exact za_293 (by omega) (by omega)) (fun _ _ => ?_) | refine bzc (by first | exact za_293 (by decide) (by decide) | (rw [mm_add]; exact za_293 (by omega) (by omega)) | exact za_293 (by omega) (by omega)) ?_ | refine bzt ?_ | refine bzf ?_ | refine bzi ?_ ?_)))
  generalize nxt T sz s3 = s1 at g5 ⊢
  rw [g179 g5.2.2.1.1, zbI_s]
  refine zwp_f (by decide) ?_
  have hV2 : ∀ i, wU V1 (p + 4) c i = if i = p then r else if i = p + 1 then g else if i = p + 2 then x else if i = p + 3 then u else if i = p + 4 then c else V i := by
    intro i
    rw [wU_i (by omega), hV]
    by_cases q4 : i = p + 4
    · rw [if_pos q4, if_neg (by omega), if_neg (by omega), if_neg (by omega), if_neg (by omega), if_pos q4]
    · rw [if_neg q4, if_neg q4]
  have ec : ∀ {K' : Int → tk → rdZ}, ¬ (s1.1 = 2 ∧ s1.2.2.2 = c) → (nm T sz 0 (V 0 - 1) s1 fun t s => if c = t then er 2 s1.2.1 else K' t s) = nm T sz 0 (V 0 - 1) s1 K' := fun hq => nm_c (fun q q1 q2 => if_neg (fun z => hq ⟨q, z.symm⟩))
  by_cases q : s1.1 = 2
  · refine zwp_f (by rw [r10 g5 (by decide) (by decide)]; exact fun p => p q) ?_
    refine zwp_cd (za_293 (by omega) (by omega)) ?_
    obtain ⟨o1, o2, o3, o4, o5⟩ := g5.2.2.2.2.1
    have m5 := mi5_rng o5
    rw [rdI g5.2.2.2.2.2 (n := p + 4) (by omega) (by omega), wU_at rfl, mm_r τ5 287 11, g5.2.2.2.1.2.2.2 q]
    have em : mi5 s1.2.2.2 = c ↔ s1.2.2.2 = c := by
      unfold mi5
      split <;> omega
    by_cases q2 : s1.2.2.2 = c
    · refine zwp_f (by rw [mm_eq (by omega) (by omega) (by omega) (by omega)]; exact fun p => p (em.mpr q2)) ?_
      obtain ⟨υ, e, hb⟩ := g5.bad f5 (x := 2) (by decide) (by decide) (by decide)
      rw [nm_y q (by omega) (by omega), if_pos q2.symm, e, zbV_s]
      exact b193 hb p0 p1
    · refine zwp_t (by rw [mm_eq (by omega) (by omega) (by omega) (by omega)]; exact fun p => q2 (em.mp p)) ?_
      rw [ec fun p => q2 p.2]
      exact t195 f5 hW h5 g5 hp hV2
  · refine zwp_t (by rw [r10 g5 (by decide) (by decide)]; exact q) ?_
    rw [ec fun p => q p.1]
    exact t195 f5 hW h5 g5 hp hV2
/-- the order's line after its word -/
noncomputable def rOrdR (T : Int → Int) (sz : Int) (s : tk) (V : Int → Int) : rdZ := wd T sz 1000003 s fun s => nm T sz 0 (V 4 - 1) s fun r s => wd T sz 1000012 s fun s => nm T sz 0 2 s fun g s => rMean T sz (V 5) s fun x u s => wd T sz 1000009 s fun s => nm T sz 0 (V 0 - 1) s fun f s => wd T sz 1000008 s fun s1 => nm T sz 0 (V 0 - 1) s1 fun t s => if f = t then er 2 s1.2.1 else wd T sz 1000013 s fun s => nm T sz 0 (V 1 - 1) s fun h s => wif T sz 1000016 s (fun s => rviR T sz (V 0) 3 0 (vs0 V) s fun nv vs s => okR s (uOr V (fO V r g x u f t h nv vs))) (okR s (uOr V (fO V r g x u f t h 0 (vs0 V))))
theorem vl_193 {σ0 σ : zM} {T : Int → Int} {sz : Int} {s : tk} {V : Int → Int} (h : gR σ T sz s V) (hf : rrF σ0 σ) (hW : WOK V) (h5 : V 5 < 10) : VR σ0 (zcall 193 [.ref 287] σ) (rOrdR T sz s V) := by
  have h4 := hW.2.2.1
  have h50 := hW.2.2.1.2.2.1
  unfold rOrdR
  refine zwp_of (fun r h => zcc_193 (ze_193_0 _ r h)) ?_
  refine zwp_cd (za_293 (by decide) (by decide)) ?_
  refine zwp_cd (za_293 (by decide) (by decide)) ?_
  rw [rdI h.2.2.2.2.2 (n := 4) (by decide) (by decide), rdI h.2.2.2.2.2 (n := 5) (by decide) (by decide), mm_sub, mm_mul, mm_add]
  obtain ⟨p, hp⟩ : ∃ p, p = 80 + 14 * V 5 := ⟨_, rfl⟩
  rw [← hp]
  have p0 : 80 ≤ p := by omega
  have p1 : p ≤ 206 := by omega
  simp only [mm_add, Int.add_zero]
  refine v185 h (by decide) (by decide) (by decide) (by omega) (by omega) hf (fun τ1 r0 r1 g1 f1 => ?_) (fun τ f p hb => by (repeat' (with_reducible first | exact bze (by assumption) | exact b193 (by assumption) (by assumption) (by assumption) | refine bz179 (by assumption) ?_ | refine bz180 (by assumption) ?_ | refine bz181 (by assumption) ?_ | refine bz182 (by assumption) ?_ | refine bz183 (by assumption) ?_ | refine bz184 (by assumption) ?_ | refine bz185 (by assumption) ?_ | refine bz187 (by assumption) ?_ | refine bzcw (by assumption) (by first | exact za_293 (by decide) (by decide) | (rw [mm_add]; exact za_293 (by omega) (by omega)) | exact za_293 (by omega) (by omega)) (fun _ _ => ?_) | refine bzc (by first | exact za_293 (by decide) (by decide) | (rw [mm_add]; exact za_293 (by omega) (by omega)) | exact za_293 (by omega) (by omega)) ?_ | refine bzt ?_ | refine bzf ?_ | refine bzi ?_ ?_)) <;> exact b193a (by assumption) (by assumption) (by assumption))
  generalize (nxt T sz s).2.2.2 = r at r0 r1 ⊢
  generalize nxt T sz (nxt T sz s) = s1 at g1 ⊢
  refine vw g1 f1 (by omega) (by omega) (by omega) (by omega) (fun τ2 g2 f2 => ?_)
  refine v185 g2 (by decide) (by decide) (by decide) (by omega) (by omega) f2 (fun τ3 d0 d1 g3 f3 => ?_) (fun τ f p hb => by (repeat' (with_reducible first | exact bze (by assumption) | exact b193 (by assumption) (by assumption) (by assumption) | refine bz179 (by assumption) ?_ | refine bz180 (by assumption) ?_ | refine bz181 (by assumption) ?_ | refine bz182 (by assumption) ?_ | refine bz183 (by assumption) ?_ | refine bz184 (by assumption) ?_ | refine bz185 (by assumption) ?_ | refine bz187 (by assumption) ?_ | refine bzcw (by assumption) (by first | exact za_293 (by decide) (by decide) | (rw [mm_add]; exact za_293 (by omega) (by omega)) | exact za_293 (by omega) (by omega)) (fun _ _ => ?_) | refine bzc (by first | exact za_293 (by decide) (by decide) | (rw [mm_add]; exact za_293 (by omega) (by omega)) | exact za_293 (by omega) (by omega)) ?_ | refine bzt ?_ | refine bzf ?_ | refine bzi ?_ ?_)) <;> exact b193a (by assumption) (by assumption) (by assumption))
  generalize (nxt T sz s1).2.2.2 = d at d0 d1 ⊢
  generalize nxt T sz (nxt T sz s1) = s2 at g3 ⊢
  refine vw g3 f3 (by omega) (by omega) (by omega) (by omega) (fun τ4 g4 f4 => ?_)
  have hV : ∀ x u i, wU (wU (wU (wU V p r) (p + 1) d) (p + 2) x) (p + 3) u i = if i = p then r else if i = p + 1 then d else if i = p + 2 then x else if i = p + 3 then u else V i := by
    intro x u i
    rw [wU_i (by omega), wU_i (by omega), wU_i (by omega), wU_i (by omega)]
    by_cases q0 : i = p
    · rw [if_neg (by omega), if_neg (by omega), if_neg (by omega), if_pos q0, if_pos q0]
    · rw [if_neg q0, if_neg q0]
      by_cases q1 : i = p + 1
      · rw [if_neg (by omega), if_neg (by omega), if_pos q1, if_pos q1]
      · rw [if_neg q1, if_neg q1]
        by_cases q2 : i = p + 2
        · rw [if_neg (by omega), if_pos q2, if_pos q2]
        · rw [if_neg q2, if_neg q2]
  have e5 : wU (wU V p r) (p + 1) d 5 = V 5 := by rw [wU_ne (by omega), wU_ne (by omega)]
  refine zwp_IC (o182 (a := 1000014) g4 (by decide)) ?_
  rintro v τ5 (⟨w, rfl, sf, g5⟩ | ⟨w, rfl, rfl⟩)
  · refine ⟨_, rfl, zwp_t (by decide) ?_⟩
    have f5 := f4.tr sf.R
    unfold rMean
    rw [wif_y w]
    refine zwp_of (fun r h => ze_193_69 _ _ _ r h) ?_
    refine zwp_f (by decide) ?_
    refine zwp_cd (za_293 (by decide) (by decide)) ?_
    rw [rdI g5.2.2.2.2.2 (by decide) (by decide), e5, mm_sub]
    refine v184 g5 (by decide) (by decide) (by omega) (by omega) f5 (fun τ6 u0 u1 g6 f6 => ?_) (fun τ f hb => by (repeat' (with_reducible first | exact bze (by assumption) | exact b193 (by assumption) (by assumption) (by assumption) | refine bz179 (by assumption) ?_ | refine bz180 (by assumption) ?_ | refine bz181 (by assumption) ?_ | refine bz182 (by assumption) ?_ | refine bz183 (by assumption) ?_ | refine bz184 (by assumption) ?_ | refine bz185 (by assumption) ?_ | refine bz187 (by assumption) ?_ | refine bzcw (by assumption) (by first | exact za_293 (by decide) (by decide) | (rw [mm_add]; exact za_293 (by omega) (by omega)) | exact za_293 (by omega) (by omega)) (fun _ _ => ?_) | refine bzc (by first | exact za_293 (by decide) (by decide) | (rw [mm_add]; exact za_293 (by omega) (by omega)) | exact za_293 (by omega) (by omega)) ?_ | refine bzt ?_ | refine bzf ?_ | refine bzi ?_ ?_)))
    generalize (nxt T sz s2).2.2.2 = u at u0 u1 ⊢
    refine zwp_f (by decide) ?_
    simp only [mm_add]
    refine vw g6 f6 (by omega) (by omega) (by omega) (by omega) (fun τ7 g7 f7 => ?_)
    refine zwp_f (by decide) ?_
    refine vw g7 f7 (by omega) (by omega) (by omega) (by omega) (fun τ8 g8 f8 => ?_)
    simp only [← mm_add]
    exact t193f f8 hW h5 g8 hp (hV (-1) u)
  · refine ⟨_, rfl, zwp_f (by decide) ?_⟩
    unfold rMean
    rw [wif_n w]
    refine v183 g4 (by decide) f4 (fun τ5 g5 f5 => ?_) (fun τ hb => b193a hb p0 p1)
    refine zwp_of (fun r h => ze_193_69 _ _ _ r h) ?_
    refine zwp_t (by decide) ?_
    refine v184 g5 (by decide) (by decide) (by omega) (by omega) f5 (fun τ6 u0 u1 g6 f6 => ?_) (fun τ f hb => by (repeat' (with_reducible first | exact bze (by assumption) | exact b193 (by assumption) (by assumption) (by assumption) | refine bz179 (by assumption) ?_ | refine bz180 (by assumption) ?_ | refine bz181 (by assumption) ?_ | refine bz182 (by assumption) ?_ | refine bz183 (by assumption) ?_ | refine bz184 (by assumption) ?_ | refine bz185 (by assumption) ?_ | refine bz187 (by assumption) ?_ | refine bzcw (by assumption) (by first | exact za_293 (by decide) (by decide) | (rw [mm_add]; exact za_293 (by omega) (by omega)) | exact za_293 (by omega) (by omega)) (fun _ _ => ?_) | refine bzc (by first | exact za_293 (by decide) (by decide) | (rw [mm_add]; exact za_293 (by omega) (by omega)) | exact za_293 (by omega) (by omega)) ?_ | refine bzt ?_ | refine bzf ?_ | refine bzi ?_ ?_)))
    generalize (nxt T sz s2).2.2.2 = u at u0 u1 ⊢
    refine zwp_t (by decide) ?_
    simp only [mm_add]
    refine vw g6 f6 (by omega) (by omega) (by omega) (by omega) (fun τ7 g7 f7 => ?_)
    refine zwp_t (by decide) ?_
    refine vw g7 f7 (by omega) (by omega) (by omega) (by omega) (fun τ8 g8 f8 => ?_)
    simp only [← mm_add]
    exact t193f f8 hW h5 g8 hp (hV u (-1))
