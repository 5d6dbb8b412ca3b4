/-! THE TEXT: the reference reads a line, and all -/
/-- the same reading, but that a fault the line's end would find may be found before -/
def RX (r r' : rdZ) : Prop := r' = r ∨ r.1 = 0 ∧ r.2.2.1.1 = 2 ∧ r' = er 1 r.2.2.1.2.1
theorem RX.rf {r : rdZ} : RX r r := .inl rfl
theorem xw {T : Int → Int} {sz : Int} {a : Nat} {s : tk} {K K' : tk → rdZ} (hk : ∀ s, RX (K s) (K' s)) : RX (wd T sz a s K) (wd T sz a s K') := by
  by_cases q : isW T a s
  · rw [wd_y q, wd_y q]
    exact hk _
  · rw [wd_n q, wd_n q]
    exact .rf
theorem xn {T : Int → Int} {sz lo hi : Int} {s : tk} {K K' : Int → tk → rdZ} (hk : ∀ v s, RX (K v s) (K' v s)) : RX (nm T sz lo hi s K) (nm T sz lo hi s K') := by
  unfold nm
  by_cases q : s.1 = 2
  · rw [if_pos q, if_pos q]
    by_cases q2 : lo ≤ s.2.2.2 ∧ s.2.2.2 ≤ hi
    · rw [if_pos q2, if_pos q2]
      exact hk _ _
    · rw [if_neg q2, if_neg q2]
      exact .rf
  · rw [if_neg q, if_neg q]
    exact .rf
theorem xi {c : Prop} [Decidable c] {A B A' B' : rdZ} (h1 : RX A A') (h2 : RX B B') : RX (if c then A else B) (if c then A' else B') := by
  by_cases q : c
  · rw [if_pos q, if_pos q]
    exact h1
  · rw [if_neg q, if_neg q]
    exact h2
theorem xwif {T : Int → Int} {sz : Int} {a : Nat} {s : tk} {K K' : tk → rdZ} {R R' : rdZ} (hk : ∀ s, RX (K s) (K' s)) (hr : RX R R') : RX (wif T sz a s K R) (wif T sz a s K' R') := by
  by_cases q : isW T a s
  · rw [wif_y q, wif_y q]
    exact hk _
  · rw [wif_n q, wif_n q]
    exact hr
theorem xsel {T : Int → Int} {a : Nat} {s : tk} {A B A' B' : rdZ} (h1 : RX A A') (h2 : RX B B') : RX (sel T a s A B) (sel T a s A' B') := by
  by_cases q : isW T a s
  · rw [sel_y q, sel_y q]
    exact h1
  · rw [sel_n q, sel_n q]
    exact h2
theorem xvia {T : Int → Int} {sz w0 : Int} {G : Int → (Int → Int) → Int → Int} : ∀ (k : Nat) (i : Int) (vs : Int → Int) (s : tk), (k ≠ 0 ∨ s.1 = 2) → RX (rvia T sz w0 k i vs s fun nv vs s => okR s (G nv vs)) (rviR T sz w0 k i vs s fun nv vs s => okR s (G nv vs))
  | 0, i, vs, s, h => .inr ⟨rfl, h.resolve_left (fun p => p rfl), rfl⟩
  | k + 1, i, vs, s, h => by
    refine xn fun v s => ?_
    by_cases q : s.1 = 2
    · rw [if_pos q, if_pos q]
      exact xvia k _ _ _ (.inr q)
    · rw [if_neg q, if_neg q]
      exact .rf
theorem xOrd {T : Int → Int} {sz : Int} {s : tk} {V : Int → Int} : RX (rOrder T sz s V) (if 10 ≤ V 5 then er 3 s.2.1 else rOrdR T sz (nxt T sz s) V) := by
  refine xi .rf ?_
  have hr : ∀ (K K' : Int → Int → tk → rdZ) (s : tk), (∀ x u s, RX (K x u s) (K' x u s)) → RX (rMean T sz (V 5) s K) (rMean T sz (V 5) s K') := fun K K' s hk => xwif (fun s => xn fun v s => hk _ _ _) (xw fun s => xn fun v s => hk _ _ _)
  exact xw fun s => xn fun r s => xw fun s => xn fun g s => hr _ _ _ fun x u s => xw fun s => xn fun f s => xw fun s => xn fun t s => xi .rf (xw fun s => xn fun h s => xwif (fun s => xvia 3 0 _ s (.inl (by decide))) .rf)
/-- the end of a line -/
def lend (T : Int → Int) (sz : Int) (r : rdZ) : rdZ := if r.1 ≠ 0 then r else if r.2.2.1.1 = 3 then okR (nxt T sz r.2.2.1) (wU r.2.2.2 6 (r.2.2.2 6 + 1)) else er 1 r.2.2.1.2.1
theorem rLine_e {T : Int → Int} {sz : Int} {s : tk} {W : Int → Int} : rLine T sz s W = lend T sz (rBody T sz s W) := rfl
theorem lend_er {T : Int → Int} {sz f p : Int} (hf : f ≠ 0) : lend T sz (er f p) = er f p := if_pos hf
theorem lend_x {T : Int → Int} {sz : Int} {r r' : rdZ} (h : RX r r') : lend T sz r' = lend T sz r := by
  rcases h with rfl | ⟨h1, h2, rfl⟩
  · rfl
  · rw [lend_er (by decide)]
    unfold lend
    rw [if_neg (fun p => p h1), if_neg (by omega)]
theorem lend_w {T : Int → Int} {sz : Int} {a : Nat} {s : tk} {K : tk → rdZ} : lend T sz (wd T sz a s K) = wd T sz a s fun s => lend T sz (K s) := by
  by_cases q : isW T a s
  · rw [wd_y q, wd_y q]
  · rw [wd_n q, wd_n q, lend_er (by decide)]
theorem lend_n {T : Int → Int} {sz lo hi : Int} {s : tk} {K : Int → tk → rdZ} : lend T sz (nm T sz lo hi s K) = nm T sz lo hi s fun v s => lend T sz (K v s) := by
  unfold nm
  by_cases q : s.1 = 2
  · rw [if_pos q, if_pos q]
    by_cases q2 : lo ≤ s.2.2.2 ∧ s.2.2.2 ≤ hi
    · rw [if_pos q2, if_pos q2]
    · rw [if_neg q2, if_neg q2, lend_er (by decide)]
  · rw [if_neg q, if_neg q, lend_er (by decide)]
noncomputable def rSix (T : Int → Int) (sz : Int) (s : tk) (W : Int → Int) : rdZ := sel T 1000000 s (er 1 s.2.1) (sel T 1000001 s (rRoad T sz s W) (sel T 1000002 s (rFlood T sz s W) (sel T 1000003 s (rRider T sz s W) (sel T 1000004 s (if 10 ≤ W 5 then er 3 s.2.1 else rOrdR T sz (nxt T sz s) W) (sel T 1000005 s (rWish T sz s W) (rSeal T sz s W))))))
theorem xSix {T : Int → Int} {sz : Int} {s : tk} {W : Int → Int} (h6 : W 6 ≠ 0) : RX (rBody T sz s W) (rSix T sz s W) := by
  unfold rBody
  rw [if_neg h6]
  exact xsel .rf (xsel .rf (xsel .rf (xsel .rf (xsel xOrd .rf))))
/-! which word -/
theorem is_y {σ : zM} {T : Int → Int} {sz : Int} {s : tk} {V : Int → Int} {a : Nat} (h : gR σ T sz s V) (w : isW T a s) (ha : okw a := by decide) : zcall 181 [.ref 287, .ref a] σ = some (some (.int (Int32.ofInt 1)), σ) := by
  obtain ⟨b, ⟨rfl, _⟩ | ⟨_, n⟩, e⟩ := sp_181 h ha
  · exact e
  · exact absurd w n
theorem is_n {σ : zM} {T : Int → Int} {sz : Int} {s : tk} {V : Int → Int} {a : Nat} (h : gR σ T sz s V) (w : ¬ isW T a s) (ha : okw a := by decide) : zcall 181 [.ref 287, .ref a] σ = some (some (.int (Int32.ofInt 0)), σ) := by
  obtain ⟨b, ⟨_, n⟩ | ⟨rfl, _⟩, e⟩ := sp_181 h ha
  · exact absurd n w
  · exact e
theorem tk_n {σ : zM} {T : Int → Int} {sz : Int} {s : tk} {V : Int → Int} {a : Nat} (h : gR σ T sz s V) (w : ¬ isW T a s) (ha : okw a := by decide) : zcall 182 [.ref 287, .ref a] σ = some (some (.int (Int32.ofInt 0)), σ) := by
  refine zcc_182 (ze_182_0 _ _ _ ?_)
  rw [is_n h w ha, zbI_s, if_pos (by decide), if_pos (by decide)]
theorem tk_y {σ : zM} {T : Int → Int} {sz : Int} {s : tk} {V : Int → Int} {a : Nat} (h : gR σ T sz s V) (w : isW T a s) (ha : okw a := by decide) : zwp (zcall 182 [.ref 287, .ref a] σ) (fun v τ => v = some (.int (Int32.ofInt 1)) ∧ srF σ τ ∧ gR τ T sz (nxt T sz s) V) := by
  refine zwp_mono (o182 h ha) ?_
  rintro v τ (⟨_, e, g⟩ | ⟨n, _⟩)
  · exact ⟨e, g⟩
  · exact absurd w n
theorem VR_th {σ0 : zM} {o : Option zR} {r : rdZ} (h : VR σ0 o r) : VR σ0 (zbV o fun τ => some (none, τ)) r := zwp_V _ h fun τ g => zwp_ret ⟨rfl, g⟩
theorem b154 {σ0 τ : zM} {f p : Int} (hb : bR σ0 τ f p) : VR σ0 (zev 195 154 [some (.ref 287), none] [] τ) (er f p) := by
  refine zwp_of (fun r h => ze_195_154 _ r h) ?_
  show VR σ0 _ (er f p)
  (repeat' (with_reducible first | exact bze (by assumption) | refine bz179 (by assumption) ?_ | refine bz180 (by assumption) ?_ | refine bz181 (by assumption) ?_ | refine bz182 (by assumption) ?_ | refine bz183 (by assumption) ?_ | refine bz184 (by assumption) ?_ | refine bz185 (by assumption) ?_ | refine bz187 (by assumption) ?_ | refine bzcw (by assumption) (by first | exact za_293 (by decide) (by decide) | (rw [mm_add]; exact za_293 (by omega) (by omega)) | exact za_293 (by omega) (by omega)) (fun _ _ => ?_) | refine bzc (by first | exact za_293 (by decide) (by decide) | (rw [mm_add]; exact za_293 (by omega) (by omega)) | exact za_293 (by omega) (by omega)) ?_ | refine bzt ?_ | refine bzf ?_ | refine bzi ?_ ?_))
theorem b109 {σ0 τ : zM} {f p : Int} (hb : bR σ0 τ f p) : VR σ0 (zev 195 109 [some (.ref 287), none] [] τ) (er f p) := by
  refine zwp_of (fun r h => ze_195_109 _ r h) ?_
  show VR σ0 _ (er f p)
  (repeat' (with_reducible first | exact bze (by assumption) | refine bz179 (by assumption) ?_ | refine bz180 (by assumption) ?_ | refine bz181 (by assumption) ?_ | refine bz182 (by assumption) ?_ | refine bz183 (by assumption) ?_ | refine bz184 (by assumption) ?_ | refine bz185 (by assumption) ?_ | refine bz187 (by assumption) ?_ | refine bzcw (by assumption) (by first | exact za_293 (by decide) (by decide) | (rw [mm_add]; exact za_293 (by omega) (by omega)) | exact za_293 (by omega) (by omega)) (fun _ _ => ?_) | refine bzc (by first | exact za_293 (by decide) (by decide) | (rw [mm_add]; exact za_293 (by omega) (by omega)) | exact za_293 (by omega) (by omega)) ?_ | refine bzt ?_ | refine bzf ?_ | refine bzi ?_ ?_)) <;> exact b154 (by assumption)
theorem b89 {σ0 τ : zM} {f p : Int} (hb : bR σ0 τ f p) : VR σ0 (zev 195 89 [some (.ref 287), none] [] τ) (er f p) := by
  refine zwp_of (fun r h => ze_195_89 _ r h) ?_
  show VR σ0 _ (er f p)
  (repeat' (with_reducible first | exact bze (by assumption) | refine bz179 (by assumption) ?_ | refine bz180 (by assumption) ?_ | refine bz181 (by assumption) ?_ | refine bz182 (by assumption) ?_ | refine bz183 (by assumption) ?_ | refine bz184 (by assumption) ?_ | refine bz185 (by assumption) ?_ | refine bz187 (by assumption) ?_ | refine bzcw (by assumption) (by first | exact za_293 (by decide) (by decide) | (rw [mm_add]; exact za_293 (by omega) (by omega)) | exact za_293 (by omega) (by omega)) (fun _ _ => ?_) | refine bzc (by first | exact za_293 (by decide) (by decide) | (rw [mm_add]; exact za_293 (by omega) (by omega)) | exact za_293 (by omega) (by omega)) ?_ | refine bzt ?_ | refine bzf ?_ | refine bzi ?_ ?_)) <;> exact b109 (by assumption)
theorem b69 {σ0 τ : zM} {f p : Int} (hb : bR σ0 τ f p) : VR σ0 (zev 195 69 [some (.ref 287), none] [] τ) (er f p) := by
  refine zwp_of (fun r h => ze_195_69 _ r h) ?_
  show VR σ0 _ (er f p)
  (repeat' (with_reducible first | exact bze (by assumption) | refine bz179 (by assumption) ?_ | refine bz180 (by assumption) ?_ | refine bz181 (by assumption) ?_ | refine bz182 (by assumption) ?_ | refine bz183 (by assumption) ?_ | refine bz184 (by assumption) ?_ | refine bz185 (by assumption) ?_ | refine bz187 (by assumption) ?_ | refine bzcw (by assumption) (by first | exact za_293 (by decide) (by decide) | (rw [mm_add]; exact za_293 (by omega) (by omega)) | exact za_293 (by omega) (by omega)) (fun _ _ => ?_) | refine bzc (by first | exact za_293 (by decide) (by decide) | (rw [mm_add]; exact za_293 (by omega) (by omega)) | exact za_293 (by omega) (by omega)) ?_ | refine bzt ?_ | refine bzf ?_ | refine bzi ?_ ?_)) <;> exact b89 (by assumption)
theorem s54 {σ : zM} {Q : Option Value → zM → Prop} (g : zwp (zev 195 69 [some (.ref 287), none] [] σ) Q) : zwp (zev 195 54 [some (.ref 287), none] [] σ) Q := by
  refine zwp_of (fun r h => ze_195_54 _ r h) ?_
  exact zwp_t (by decide) g
theorem s69 {σ : zM} {T : Int → Int} {sz : Int} {s : tk} {V : Int → Int} (h : gR σ T sz s V) (hW : WOK V) (hq : isW T 1000001 s → V 2 ≠ 12) {Q : Option Value → zM → Prop} (g : zwp (zev 195 89 [some (.ref 287), none] [] σ) Q) : zwp (zev 195 69 [some (.ref 287), none] [] σ) Q := by
  have h20 := hW.1.1.2.2.1
  have h2 := hW.1.1.2.2.2.1
  refine zwp_of (fun r h => ze_195_69 _ r h) ?_
  by_cases w : isW T 1000001 s
  · rw [is_y h w, zbI_s]
    have := hq w
    refine zwp_f (by decide) (zwp_cd (za_293 (by decide) (by decide)) ?_)
    rw [rdI h.2.2.2.2.2 (by decide) (by decide)]
    exact zwp_f (by rw [mm_eq (by omega) (by omega) (by omega) (by omega)]; exact this) g
  · rw [is_n h w, zbI_s]
    exact zwp_t (by decide) g
theorem s89 {σ : zM} {T : Int → Int} {sz : Int} {s : tk} {V : Int → Int} (h : gR σ T sz s V) (hW : WOK V) (hq : isW T 1000002 s → V 3 ≠ 8) {Q : Option Value → zM → Prop} (g : zwp (zev 195 109 [some (.ref 287), none] [] σ) Q) : zwp (zev 195 89 [some (.ref 287), none] [] σ) Q := by
  have h20 := hW.1.2.2.2.1
  have h2 := hW.1.2.2.2.2
  refine zwp_of (fun r h => ze_195_89 _ r h) ?_
  by_cases w : isW T 1000002 s
  · rw [is_y h w, zbI_s]
    have := hq w
    refine zwp_f (by decide) (zwp_cd (za_293 (by decide) (by decide)) ?_)
    rw [rdI h.2.2.2.2.2 (by decide) (by decide)]
    exact zwp_f (by rw [mm_eq (by omega) (by omega) (by omega) (by omega)]; exact this) g
  · rw [is_n h w, zbI_s]
    exact zwp_t (by decide) g
theorem s109 {σ : zM} {T : Int → Int} {sz : Int} {s : tk} {V : Int → Int} (h : gR σ T sz s V) (hW : WOK V) (hq : isW T 1000003 s → V 4 ≠ 6) (hq4 : isW T 1000004 s → V 5 ≠ 10) {Q : Option Value → zM → Prop} (g : zwp (zev 195 154 [some (.ref 287), none] [] σ) Q) : zwp (zev 195 109 [some (.ref 287), none] [] σ) Q := by
  have h5 := hW.2.2.1
  refine zwp_of (fun r h => ze_195_109 _ r h) ?_
  by_cases w : isW T 1000003 s
  · have n4 : ¬ isW T 1000004 s := fun p => absurd (isW_x w p) (by decide)
    rw [is_y h w, zbI_s]
    have := hq w
    refine zwp_f (by decide) (zwp_cd (za_293 (by decide) (by decide)) ?_)
    rw [rdI h.2.2.2.2.2 (by decide) (by decide), is_n h n4, zbI_s]
    exact zwp_f (by rw [mm_eq (by omega) (by omega) (by omega) (by omega)]; exact this) (zwp_t (by decide) g)
  · rw [is_n h w, zbI_s]
    refine zwp_t (by decide) ?_
    by_cases w4 : isW T 1000004 s
    · rw [is_y h w4, zbI_s]
      have := hq4 w4
      refine zwp_f (by decide) (zwp_cd (za_293 (by decide) (by decide)) ?_)
      rw [rdI h.2.2.2.2.2 (by decide) (by decide)]
      exact zwp_t (by rw [mm_eq (by omega) (by omega) (by omega) (by omega)]; exact this) g
    · rw [is_n h w4, zbI_s]
      exact zwp_t (by decide) g
theorem b3 {σ0 σ : zM} {T : Int → Int} {sz : Int} {s : tk} {V : Int → Int} (h : gR σ T sz s V) (hf : rrF σ0 σ) {k : zM → Option zR} (hk : ∀ τ, bR σ0 τ 3 s.2.1 → VR σ0 (k τ) (er 3 s.2.1)) : VR σ0 (zbV (zcall 180 [.ref 287, .int (Int32.ofInt 3)] σ) k) (er 3 s.2.1) := by
  obtain ⟨υ, e, hb⟩ := h.bad hf (x := 3) (by decide) (by decide) (by decide)
  rw [e, zbV_s]
  exact hk _ hb
theorem s0y {σ : zM} {T : Int → Int} {sz : Int} {s : tk} {V : Int → Int} (h : gR σ T sz s V) (hq : isW T 1000001 s ∨ isW T 1000002 s ∨ isW T 1000003 s ∨ isW T 1000004 s ∨ isW T 1000005 s ∨ isW T 1000018 s) {Q : Option Value → zM → Prop} (g : zwp (zev 195 69 [some (.ref 287), none] [] σ) Q) : zwp (zcall 195 [.ref 287] σ) Q := by
  have g := s54 g
  refine zwp_of (fun r h => zcc_195 (ze_195_0 _ r h)) ?_
  by_cases w1 : isW T 1000001 s
  · rw [is_y h w1, zbI_s]
    exact zwp_t (by decide) g
  · rw [is_n h w1, zbI_s]
    refine zwp_f (by decide) ?_
    by_cases w2 : isW T 1000002 s
    · rw [is_y h w2, zbI_s]
      exact zwp_t (by decide) g
    · rw [is_n h w2, zbI_s]
      refine zwp_f (by decide) ?_
      by_cases w3 : isW T 1000003 s
      · rw [is_y h w3, zbI_s]
        exact zwp_t (by decide) g
      · rw [is_n h w3, zbI_s]
        refine zwp_f (by decide) ?_
        by_cases w4 : isW T 1000004 s
        · rw [is_y h w4, zbI_s]
          exact zwp_t (by decide) g
        · rw [is_n h w4, zbI_s]
          refine zwp_f (by decide) ?_
          by_cases w5 : isW T 1000005 s
          · rw [is_y h w5, zbI_s]
            exact zwp_t (by decide) g
          · rw [is_n h w5, zbI_s]
            refine zwp_f (by decide) ?_
            have w6 : isW T 1000018 s := ((((hq.resolve_left w1).resolve_left w2).resolve_left w3).resolve_left w4).resolve_left w5
            rw [is_y h w6, zbI_s]
            exact zwp_f (by decide) g
theorem s0n {σ0 σ : zM} {T : Int → Int} {sz : Int} {s : tk} {V : Int → Int} (h : gR σ T sz s V) (hf : rrF σ0 σ) (w1 : ¬ isW T 1000001 s) (w2 : ¬ isW T 1000002 s) (w3 : ¬ isW T 1000003 s) (w4 : ¬ isW T 1000004 s) (w5 : ¬ isW T 1000005 s) (w6 : ¬ isW T 1000018 s) : VR σ0 (zcall 195 [.ref 287] σ) (er 1 s.2.1) := by
  refine zwp_of (fun r h => zcc_195 (ze_195_0 _ r h)) ?_
  rw [is_n h w1, zbI_s]
  refine zwp_f (by decide) ?_
  rw [is_n h w2, zbI_s]
  refine zwp_f (by decide) ?_
  rw [is_n h w3, zbI_s]
  refine zwp_f (by decide) ?_
  rw [is_n h w4, zbI_s]
  refine zwp_f (by decide) ?_
  rw [is_n h w5, zbI_s]
  refine zwp_f (by decide) ?_
  rw [is_n h w6, zbI_s]
  refine zwp_t (by decide) (zwp_f (by decide) ?_)
  obtain ⟨υ, e, hb⟩ := h.bad hf (x := 1) (by decide) (by decide) (by decide)
  rw [e, zbV_s]
  exact b69 hb
theorem vl_195 {σ0 σ : zM} {T : Int → Int} {sz : Int} {s : tk} {V : Int → Int} (h : gR σ T sz s V) (hf : rrF σ0 σ) (hW : WOK V) : VR σ0 (zcall 195 [.ref 287] σ) (rSix T sz s V) := by
  have h5 := hW.2.2.1
  have h2 := hW.1.1.2.2.2.1
  have h38 := hW.1.2.2.2.2
  have h20 := hW.1.1.2.2.1
  have h30 := hW.1.2.2.2.1
  unfold rSix
  by_cases w0 : isW T 1000000 s
  · rw [sel_y w0]
    exact s0n h hf (fun p => absurd (isW_x w0 p) (by decide)) (fun p => absurd (isW_x w0 p) (by decide)) (fun p => absurd (isW_x w0 p) (by decide)) (fun p => absurd (isW_x w0 p) (by decide)) (fun p => absurd (isW_x w0 p) (by decide)) (fun p => absurd (isW_x w0 p) (by decide))
  rw [sel_n w0]
  by_cases w1 : isW T 1000001 s
  · rw [sel_y w1]
    have n2 : ¬ isW T 1000002 s := fun p => absurd (isW_x w1 p) (by decide)
    have n3 : ¬ isW T 1000003 s := fun p => absurd (isW_x w1 p) (by decide)
    have n4 : ¬ isW T 1000004 s := fun p => absurd (isW_x w1 p) (by decide)
    refine s0y h (.inl w1) ?_
    unfold rRoad
    by_cases q : 12 ≤ V 2
    · rw [if_pos q]
      refine zwp_of (fun r h => ze_195_69 _ r h) ?_
      rw [is_y h w1, zbI_s]
      refine zwp_f (by decide) (zwp_cd (za_293 (by decide) (by decide)) ?_)
      rw [rdI h.2.2.2.2.2 (by decide) (by decide)]
      exact zwp_t (by rw [show V 2 = 12 by omega]) (b3 h hf fun τ hb => b154 hb)
    · rw [if_neg q]
      refine s69 h hW (fun _ => by omega) (s89 h hW (fun p => absurd p n2) (s109 h hW (fun p => absurd p n3) (fun p => absurd p n4) ?_))
      refine zwp_of (fun r h => ze_195_154 _ r h) ?_
      rw [g179 h.2.2.1.1, zbI_s]
      refine zwp_t (by decide) (zwp_IE (tk_y h w1) ?_)
      rintro τ ⟨sf, g⟩
      exact zwp_f (by decide) (VR_th (vl_189 g (hf.tr sf.R) hW (by omega)))
  rw [sel_n w1]
  by_cases w2 : isW T 1000002 s
  · rw [sel_y w2]
    have n3 : ¬ isW T 1000003 s := fun p => absurd (isW_x w2 p) (by decide)
    have n4 : ¬ isW T 1000004 s := fun p => absurd (isW_x w2 p) (by decide)
    refine s0y h (.inr (.inl w2)) (s69 h hW (fun p => absurd p w1) ?_)
    unfold rFlood
    by_cases q : 8 ≤ V 3
    · rw [if_pos q]
      refine zwp_of (fun r h => ze_195_89 _ r h) ?_
      rw [is_y h w2, zbI_s]
      refine zwp_f (by decide) (zwp_cd (za_293 (by decide) (by decide)) ?_)
      rw [rdI h.2.2.2.2.2 (by decide) (by decide)]
      exact zwp_t (by rw [show V 3 = 8 by omega]) (b3 h hf fun τ hb => b154 hb)
    · rw [if_neg q]
      refine s89 h hW (fun _ => by omega) (s109 h hW (fun p => absurd p n3) (fun p => absurd p n4) ?_)
      refine zwp_of (fun r h => ze_195_154 _ r h) ?_
      rw [g179 h.2.2.1.1, zbI_s]
      refine zwp_t (by decide) ?_
      rw [tk_n h w1, zbI_s]
      refine zwp_t (by decide) (zwp_IE (tk_y h w2) ?_)
      rintro τ ⟨sf, g⟩
      exact zwp_f (by decide) (VR_th (vl_190 g (hf.tr sf.R) hW (by omega)))
  rw [sel_n w2]
  by_cases w3 : isW T 1000003 s
  · rw [sel_y w3]
    have n4 : ¬ isW T 1000004 s := fun p => absurd (isW_x w3 p) (by decide)
    refine s0y h (.inr (.inr (.inl w3))) (s69 h hW (fun p => absurd p w1) (s89 h hW (fun p => absurd p w2) ?_))
    unfold rRider
    by_cases q : 6 ≤ V 4
    · rw [if_pos q]
      refine zwp_of (fun r h => ze_195_109 _ r h) ?_
      rw [is_y h w3, zbI_s]
      refine zwp_f (by decide) (zwp_cd (za_293 (by decide) (by decide)) ?_)
      rw [rdI h.2.2.2.2.2 (by decide) (by decide)]
      exact zwp_t (by rw [show V 4 = 6 by omega]) (b3 h hf fun τ hb => b154 hb)
    · rw [if_neg q]
      refine s109 h hW (fun _ => by omega) (fun p => absurd p n4) ?_
      refine zwp_of (fun r h => ze_195_154 _ r h) ?_
      rw [g179 h.2.2.1.1, zbI_s]
      refine zwp_t (by decide) ?_
      rw [tk_n h w1, zbI_s]
      refine zwp_t (by decide) ?_
      rw [tk_n h w2, zbI_s]
      refine zwp_t (by decide) (zwp_IE (tk_y h w3) ?_)
      rintro τ ⟨sf, g⟩
      exact zwp_f (by decide) (VR_th (vl_191 g (hf.tr sf.R) hW (by omega)))
  rw [sel_n w3]
  by_cases w4 : isW T 1000004 s
  · rw [sel_y w4]
    refine s0y h (.inr (.inr (.inr (.inl w4)))) (s69 h hW (fun p => absurd p w1) (s89 h hW (fun p => absurd p w2) ?_))
    by_cases q : 10 ≤ V 5
    · rw [if_pos q]
      refine zwp_of (fun r h => ze_195_109 _ r h) ?_
      rw [is_n h w3, zbI_s]
      refine zwp_t (by decide) ?_
      rw [is_y h w4, zbI_s]
      refine zwp_f (by decide) (zwp_cd (za_293 (by decide) (by decide)) ?_)
      rw [rdI h.2.2.2.2.2 (by decide) (by decide)]
      exact zwp_f (fun p => p (by rw [show V 5 = 10 by omega])) (b3 h hf fun τ hb => b154 hb)
    · rw [if_neg q]
      refine s109 h hW (fun p => absurd p w3) (fun _ => by omega) ?_
      refine zwp_of (fun r h => ze_195_154 _ r h) ?_
      rw [g179 h.2.2.1.1, zbI_s]
      refine zwp_t (by decide) ?_
      rw [tk_n h w1, zbI_s]
      refine zwp_t (by decide) ?_
      rw [tk_n h w2, zbI_s]
      refine zwp_t (by decide) ?_
      rw [tk_n h w3, zbI_s]
      refine zwp_t (by decide) (zwp_IE (tk_y h w4) ?_)
      rintro τ ⟨sf, g⟩
      exact zwp_f (by decide) (VR_th (vl_193 g (hf.tr sf.R) hW (by omega)))
  rw [sel_n w4]
  have go : (isW T 1000005 s ∨ isW T 1000018 s) → ∀ {Q : Option Value → zM → Prop}, zwp (zev 195 154 [some (.ref 287), none] [] σ) Q → zwp (zcall 195 [.ref 287] σ) Q := fun hq Q g => s0y h (.inr (.inr (.inr (.inr hq)))) (s69 h hW (fun p => absurd p w1) (s89 h hW (fun p => absurd p w2) (s109 h hW (fun p => absurd p w3) (fun p => absurd p w4) g)))
  by_cases w5 : isW T 1000005 s
  · rw [sel_y w5]
    refine go (.inl w5) ?_
    unfold rWish
    rw [wd_y w5]
    refine zwp_of (fun r h => ze_195_154 _ r h) ?_
    rw [g179 h.2.2.1.1, zbI_s]
    refine zwp_t (by decide) ?_
    rw [tk_n h w1, zbI_s]
    refine zwp_t (by decide) ?_
    rw [tk_n h w2, zbI_s]
    refine zwp_t (by decide) ?_
    rw [tk_n h w3, zbI_s]
    refine zwp_t (by decide) ?_
    rw [tk_n h w4, zbI_s]
    refine zwp_t (by decide) (zwp_IE (tk_y h w5) ?_)
    rintro τ ⟨sf, g⟩
    exact zwp_f (by decide) (VR_th (vl_194 g (hf.tr sf.R) hW))
  rw [sel_n w5]
  unfold rSeal
  by_cases w6 : isW T 1000018 s
  · rw [wd_y w6]
    refine go (.inr w6) ?_
    refine zwp_of (fun r h => ze_195_154 _ r h) ?_
    rw [g179 h.2.2.1.1, zbI_s]
    refine zwp_t (by decide) ?_
    rw [tk_n h w1, zbI_s]
    refine zwp_t (by decide) ?_
    rw [tk_n h w2, zbI_s]
    refine zwp_t (by decide) ?_
    rw [tk_n h w3, zbI_s]
    refine zwp_t (by decide) ?_
    rw [tk_n h w4, zbI_s]
    refine zwp_t (by decide) ?_
    rw [tk_n h w5, zbI_s]
    refine zwp_t (by decide) (zwp_V _ h.scan ?_)
    rintro τ ⟨sf, g⟩
    refine v184 g (by decide) (by decide) (by decide) (by decide) (hf.tr sf.R) (fun τ1 n0 n1 g1 f1 => ?_) (fun τ f hb => by (repeat' (with_reducible first | exact bze (by assumption) | refine bz179 (by assumption) ?_ | refine bz180 (by assumption) ?_ | refine bz181 (by assumption) ?_ | refine bz182 (by assumption) ?_ | refine bz183 (by assumption) ?_ | refine bz184 (by assumption) ?_ | refine bz185 (by assumption) ?_ | refine bz187 (by assumption) ?_ | refine bzcw (by assumption) (by first | exact za_293 (by decide) (by decide) | (rw [mm_add]; exact za_293 (by omega) (by omega)) | exact za_293 (by omega) (by omega)) (fun _ _ => ?_) | refine bzc (by first | exact za_293 (by decide) (by decide) | (rw [mm_add]; exact za_293 (by omega) (by omega)) | exact za_293 (by omega) (by omega)) ?_ | refine bzt ?_ | refine bzf ?_ | refine bzi ?_ ?_)))
    exact vw g1 f1 (by decide) (by decide) (by omega) (by omega) (fun τ6 g6 f6 => VR_ok g6 f6)
  · rw [wd_n w6]
    exact s0n h hf w1 w2 w3 w4 w5 w6
/-! the end of a line -/
theorem e62b {σ0 τ : zM} {f p : Int} (hb : bR σ0 τ f p) : VR σ0 (zev 196 62 [some (.ref 287)] [] τ) (er f p) := by
  refine zwp_of (fun r h => ze_196_62 _ r h) ?_
  show VR σ0 _ (er f p)
  (repeat' (with_reducible first | exact bze (by assumption) | refine bz179 (by assumption) ?_ | refine bz180 (by assumption) ?_ | refine bz181 (by assumption) ?_ | refine bz182 (by assumption) ?_ | refine bz183 (by assumption) ?_ | refine bz184 (by assumption) ?_ | refine bz185 (by assumption) ?_ | refine bz187 (by assumption) ?_ | refine bzcw (by assumption) (by first | exact za_293 (by decide) (by decide) | (rw [mm_add]; exact za_293 (by omega) (by omega)) | exact za_293 (by omega) (by omega)) (fun _ _ => ?_) | refine bzc (by first | exact za_293 (by decide) (by decide) | (rw [mm_add]; exact za_293 (by omega) (by omega)) | exact za_293 (by omega) (by omega)) ?_ | refine bzt ?_ | refine bzf ?_ | refine bzi ?_ ?_))
theorem e62 {σ0 τ : zM} {T : Int → Int} {sz : Int} {s : tk} {V : Int → Int} (h : gR τ T sz s V) (hf : rrF σ0 τ) (h60 : 0 ≤ V 6) (h6 : V 6 < 2000) : VR σ0 (zev 196 62 [some (.ref 287)] [] τ) (lend T sz (okR s V)) := by
  have el : lend T sz (okR s V) = if s.1 = 3 then okR (nxt T sz s) (wU V 6 (V 6 + 1)) else er 1 s.2.1 := if_neg (fun p => p rfl)
  rw [el]
  refine zwp_of (fun r h => ze_196_62 _ r h) ?_
  rw [g179 h.2.2.1.1, zbI_s]
  refine zwp_f (by decide) ?_
  by_cases q : s.1 = 3
  · rw [if_pos q]
    refine zwp_t ((r10 h (by decide) (by decide)).mpr q) ?_
    rw [g179 h.2.2.1.1, zbI_s]
    refine zwp_f (by decide) (zwp_V _ h.scan ?_)
    rintro υ ⟨sf, g⟩
    refine zwp_cd (za_293 (by decide) (by decide)) ?_
    rw [rdI g.2.2.2.2.2 (by decide) (by decide), mm_add]
    exact vw g (hf.tr sf.R) (by decide) (by decide) (by omega) (by omega) (fun τ6 g6 f6 => VR_ok g6 f6)
  · rw [if_neg q]
    refine zwp_f (fun p => q ((r10 h (by decide) (by decide)).mp p)) ?_
    obtain ⟨υ, e, hb⟩ := h.bad hf (x := 1) (by decide) (by decide) (by decide)
    rw [e, zbV_s]
    show VR σ0 _ (er 1 s.2.1)
    (repeat' (with_reducible first | exact bze (by assumption) | refine bz179 (by assumption) ?_ | refine bz180 (by assumption) ?_ | refine bz181 (by assumption) ?_ | refine bz182 (by assumption) ?_ | refine bz183 (by assumption) ?_ | refine bz184 (by assumption) ?_ | refine bz185 (by assumption) ?_ | refine bz187 (by assumption) ?_ | refine bzcw (by assumption) (by first | exact za_293 (by decide) (by decide) | (rw [mm_add]; exact za_293 (by omega) (by omega)) | exact za_293 (by omega) (by omega)) (fun _ _ => ?_) | refine bzc (by first | exact za_293 (by decide) (by decide) | (rw [mm_add]; exact za_293 (by omega) (by omega)) | exact za_293 (by omega) (by omega)) ?_ | refine bzt ?_ | refine bzf ?_ | refine bzi ?_ ?_))
theorem VR_er {σ0 : zM} {o : Option zR} {r : rdZ} {f p : Int} (h : VR σ0 o (er f p)) (hf : f ≠ 0) (h1 : r.1 = f) (h2 : r.2.1 = p) : VR σ0 o r := by
  refine zwp_mono h ?_
  rintro v τ ⟨rfl, g1, g2, g3⟩
  refine ⟨rfl, g1, fun _ => ?_, fun z => absurd (h1.symm.trans z) hf⟩
  rw [h1, h2]
  exact g2 hf
theorem PV.g {σ τ : zM} {T : Int → Int} {sz : Int} {s : tk} {V : Int → Int} {r : rdZ} (h : gR σ T sz s V) (hP : PV σ r τ) (hr : r.1 = 0) (ho : tkO sz r.2.2.1) : gR τ T sz r.2.2.1 r.2.2.2 := by
  obtain ⟨p1, p2, p3⟩ := hP
  obtain ⟨c1, c2, c3⟩ := p3 hr
  exact ⟨h.1.fr (p1.1.1 291 (by decide)), (p1.2.1 7 (by omega)).trans h.2.1, c1, c2, ho, c3⟩
theorem vl_196 {σ0 σ : zM} {T : Int → Int} {sz : Int} {s : tk} {V : Int → Int} (h : gR σ T sz s V) (hf : rrF σ0 σ) (hW : WOK V) (hz : V 6 = 0 → ∀ i, V i = 0) (h6 : V 6 < 2000) : VR σ0 (zcall 196 [.ref 287] σ) (rLine T sz s V) := by
  have h5 := hW.2.2.1
  rw [rLine_e]
  refine zwp_of (fun r h => zcc_196 (ze_196_0 _ r h)) ?_
  refine zwp_cd (za_293 (by decide) (by decide)) ?_
  rw [rdI h.2.2.2.2.2 (by decide) (by decide)]
  by_cases q : V 6 = 0
  · refine zwp_f (by rw [q]; exact fun p => p rfl) ?_
    have eb : rBody T sz s V = rRealm T sz s V := if_pos q
    rw [eb]
    unfold rRealm
    simp only [lend_w, lend_n]
    refine v183 h (by decide) hf (fun τ1 g1 f1 => ?_) (fun τ hb => by (repeat' (with_reducible first | exact bze (by assumption) | refine bz179 (by assumption) ?_ | refine bz180 (by assumption) ?_ | refine bz181 (by assumption) ?_ | refine bz182 (by assumption) ?_ | refine bz183 (by assumption) ?_ | refine bz184 (by assumption) ?_ | refine bz185 (by assumption) ?_ | refine bz187 (by assumption) ?_ | refine bzcw (by assumption) (by first | exact za_293 (by decide) (by decide) | (rw [mm_add]; exact za_293 (by omega) (by omega)) | exact za_293 (by omega) (by omega)) (fun _ _ => ?_) | refine bzc (by first | exact za_293 (by decide) (by decide) | (rw [mm_add]; exact za_293 (by omega) (by omega)) | exact za_293 (by omega) (by omega)) ?_ | refine bzt ?_ | refine bzf ?_ | refine bzi ?_ ?_)) <;> exact e62b (by assumption))
    refine v185 g1 (by decide) (by decide) (by decide) (by decide) (by decide) f1 (fun τ2 a0 a1 g2 f2 => ?_) (fun τ f p hb => by (repeat' (with_reducible first | exact bze (by assumption) | refine bz179 (by assumption) ?_ | refine bz180 (by assumption) ?_ | refine bz181 (by assumption) ?_ | refine bz182 (by assumption) ?_ | refine bz183 (by assumption) ?_ | refine bz184 (by assumption) ?_ | refine bz185 (by assumption) ?_ | refine bz187 (by assumption) ?_ | refine bzcw (by assumption) (by first | exact za_293 (by decide) (by decide) | (rw [mm_add]; exact za_293 (by omega) (by omega)) | exact za_293 (by omega) (by omega)) (fun _ _ => ?_) | refine bzc (by first | exact za_293 (by decide) (by decide) | (rw [mm_add]; exact za_293 (by omega) (by omega)) | exact za_293 (by omega) (by omega)) ?_ | refine bzt ?_ | refine bzf ?_ | refine bzi ?_ ?_)) <;> exact e62b (by assumption))
    generalize (nxt T sz (nxt T sz s)).2.2.2 = a at a0 a1 ⊢
    refine vw g2 f2 (by decide) (by decide) (by omega) (by omega) (fun τ3 g3 f3 => ?_)
    refine v185 g3 (by decide) (by decide) (by decide) (by decide) (by decide) f3 (fun τ4 b0 b1 g4 f4 => ?_) (fun τ f p hb => by (repeat' (with_reducible first | exact bze (by assumption) | refine bz179 (by assumption) ?_ | refine bz180 (by assumption) ?_ | refine bz181 (by assumption) ?_ | refine bz182 (by assumption) ?_ | refine bz183 (by assumption) ?_ | refine bz184 (by assumption) ?_ | refine bz185 (by assumption) ?_ | refine bz187 (by assumption) ?_ | refine bzcw (by assumption) (by first | exact za_293 (by decide) (by decide) | (rw [mm_add]; exact za_293 (by omega) (by omega)) | exact za_293 (by omega) (by omega)) (fun _ _ => ?_) | refine bzc (by first | exact za_293 (by decide) (by decide) | (rw [mm_add]; exact za_293 (by omega) (by omega)) | exact za_293 (by omega) (by omega)) ?_ | refine bzt ?_ | refine bzf ?_ | refine bzi ?_ ?_)) <;> exact e62b (by assumption))
    generalize (nxt T sz (nxt T sz (nxt T sz (nxt T sz s)))).2.2.2 = b at b0 b1 ⊢
    refine vw g4 f4 (by decide) (by decide) (by omega) (by omega) (fun τ5 g5 f5 => ?_)
    refine vw g5 f5 (by decide) (by decide) (by decide) (by decide) (fun τ6 g6 f6 => ?_)
    have e6 : uHd V a b 6 = V 6 := by rw [uHd_i, if_neg (by decide), if_neg (by decide), if_neg (by decide)]
    exact e62 g6 f6 (by show 0 ≤ uHd V a b 6; omega) (by show uHd V a b 6 < 2000; omega)
  · refine zwp_t (by rw [mm_z, mm_eq (by omega) (by omega) (by omega) (by omega)]; exact q) ?_
    have hx := xSix (T := T) (sz := sz) (s := s) q
    rw [← lend_x hx]
    have hb := rBody_ok (T := T) h.2.2.2.2.1 hW hz
    refine zwp_V _ (vl_195 h rrF.rf hW) ?_
    intro τ hP
    by_cases z : (rSix T sz s V).1 = 0
    · have ez : rSix T sz s V = rBody T sz s V := by
        rcases hx with e | ⟨_, _, e⟩
        · exact e
        · rw [e] at z
          exact absurd z (by show ¬ (1 : Int) = 0; decide)
      rw [ez] at hP z ⊢
      obtain ⟨b1, b2, b3⟩ := hb z
      have g := hP.g h z b1.1
      have el : lend T sz (rBody T sz s V) = lend T sz (okR (rBody T sz s V).2.2.1 (rBody T sz s V).2.2.2) := by
        unfold lend
        rw [if_neg (fun p => p z)]
        exact (if_neg (fun p => p rfl)).symm
      rw [el]
      exact e62 g (hf.tr hP.1) (by omega) (by omega)
    · have e2 := hP.2.1 z
      have el : lend T sz (rSix T sz s V) = rSix T sz s V := if_pos z
      rw [el]
      exact VR_er (e62b ⟨⟨e2.1, z, e2.2⟩, hf.tr hP.1⟩) z rfl rfl
/-! all lines -/
theorem lp_19754 {σ0 : zM} {T : Int → Int} {sz : Int} {Q : Option Value → zM → Prop} : ∀ (k n : Nat) (s : tk) (W : Int → Int) (σ : zM), (n : Int) + k = sz → gR σ T sz s W → rrF σ0 σ → WOK W → (W 6 = 0 → ∀ i, W i = 0) → W 6 = n → (s.1 ≠ 0 → (n : Int) < s.2.2.1) → (∀ τ s' W', rAll T sz k s W = okR s' W' → WOK W' → gR τ T sz s' W' → rrF σ0 τ → zwp (zev 197 87 [some (.ref 287), some (.int (Int32.ofInt 0))] [] τ) Q) → (∀ τ, bR σ0 τ (rAll T sz k s W).1 (rAll T sz k s W).2.1 → zwp (some (some (.int (Int32.ofInt (-4))), τ)) Q) → zwp (zev 197 54 [some (.ref 287), none] [] σ) Q
  | k, n, s, W, σ, e, h, hf, hW, hz, h6, hst, hok, hno => by
    have hs := h.1.1
    have h5 := hW.2.2.1
    obtain ⟨o1, o2, o3, o4, o5⟩ := h.2.2.2.2.1
    have hend : s.1 = 0 → rAll T sz k s W = okR s W := fun z => by
      cases k with
      | zero => rfl
      | succ k => rw [rAll, if_pos z]
    refine zwp_of (fun r h => ze_197_54 _ r h) ?_
    rw [g179 h.2.2.1.1, zbI_s]
    refine zwp_f (by decide) ?_
    by_cases z : s.1 = 0
    · refine zwp_t ((r10 h (by decide) (by decide)).mpr z) ?_
      rw [g179 h.2.2.1.1, zbI_s]
      exact zwp_t (by decide) (hok σ s W (hend z) hW h hf)
    · refine zwp_f (fun p => z ((r10 h (by decide) (by decide)).mp p)) ?_
      have hst := hst z
      cases k with
      | zero => omega
      | succ k =>
        refine zwp_V _ (vl_196 h rrF.rf hW hz (by omega)) ?_
        intro τ hP
        have er1 : rAll T sz (k + 1) s W = if (rLine T sz s W).1 = 0 then rAll T sz k (rLine T sz s W).2.2.1 (rLine T sz s W).2.2.2 else rLine T sz s W := by rw [rAll, if_neg z]
        rw [er1] at hok hno
        by_cases q2 : (rLine T sz s W).1 = 0
        · rw [if_pos q2] at hok hno
          obtain ⟨b1, b2, b3, b4⟩ := rLine_ok h.2.2.2.2.1 (by omega) hW hz (.inl (by omega)) z q2
          exact lp_19754 k (n + 1) _ _ τ (by omega) (hP.g h q2 b1) (hf.tr hP.1) b2 (fun p => by omega) (by omega) (fun p => by have := b4 p; omega) hok hno
        · rw [if_neg q2] at hok hno
          have e2 := hP.2.1 q2
          have hb : bR σ0 τ (rLine T sz s W).1 (rLine T sz s W).2.1 := ⟨⟨e2.1, q2, e2.2⟩, hf.tr hP.1⟩
          refine zwp_of (fun r h => ze_197_54 _ r h) ?_
          rw [e179 hb.n, zbI_s]
          refine zwp_t (by decide) ?_
          rw [e179 hb.n, zbI_s]
          exact zwp_f (by decide) (hno τ hb)
/-- copying the realm read -/
theorem lp_19787 {V : Int → Int} : ∀ (k j : Nat) (σ : zM), j + k = 220 → wv σ 293 = V → (∀ i : Nat, i < j → zN σ 288 i = V i) → zwp (zev 197 87 [some (.ref 287), some (.int (Int32.ofInt j))] [] σ) (fun v τ => v = some (.int (Int32.ofInt (V 6))) ∧ mf (fun b => b = 288) σ τ ∧ (∀ i : Nat, i < 220 → zN τ 288 i = V i) ∧ ∀ i, 220 ≤ i → zN τ 288 i = zN σ 288 i)
  | 0, j, σ, e, hV, hj => by
    refine zwp_of (fun r h => ze_197_87 _ _ r h) ?_
    refine zwp_t (by rw [mm_le (by omega) (by omega) (by omega) (by omega)]; omega) (zwp_cd (za_288 (by decide) (by decide)) ?_)
    have e6 := hj 6 (by omega)
    rw [mm_cl (by decide) (by decide), mm_r σ 288]
    refine zwp_ret ⟨?_, mf.rf, fun i hi => hj i (by omega), fun _ _ => rfl⟩
    rw [show (6 : Int).toNat = 6 from rfl, e6]
    rfl
  | k + 1, j, σ, e, hV, hj => by
    refine zwp_of (fun r h => ze_197_87 _ _ r h) ?_
    refine zwp_f (by rw [mm_le (by omega) (by omega) (by omega) (by omega)]; omega) (zwp_cd (za_293 (by omega) (by omega)) (zwp_cd (za_288 (by omega) (by omega)) ?_))
    rw [rdI hV (by omega) (by omega), mm_cl (by omega) (by omega), mm_add, Int.toNat_natCast]
    have b0 : -2147483648 ≤ V j := by
      rw [← hV]
      exact mm_lo σ 293 _
    have b1 : V j < 2147483648 := by
      rw [← hV]
      exact mm_hi σ 293 _
    refine zwp_let ?_
    refine zwp_mono (lp_19787 (V := V) k (j + 1) (zw σ 288 j (V j)) (by omega) ?_ fun i hi => ?_) ?_
    · rw [← hV]
      funext i
      exact mm_ne (by decide)
    · by_cases q : i = j
      · rw [q, mm_at rfl rfl b0 b1]
      · rw [mm_nj q]
        exact hj i (by omega)
    · rintro v τ ⟨h1, h2, h3, h4⟩
      refine ⟨h1, ((mf.rf (S := fun b => b = 288)).zw 288 _ _ rfl).tr h2, h3, fun i hi => ?_⟩
      rw [h4 i hi, mm_nj (by omega)]
/-- clearing the realm -/
theorem lp_19730 {Q : Option Value → zM → Prop} : ∀ (k j : Nat) (σ : zM), j + k = 220 → (∀ i, i < j → zN σ 293 i = 0) → (∀ τ, mf (fun b => b = 293) σ τ → (∀ i, i < 220 → zN τ 293 i = 0) → (∀ i, 220 ≤ i → zN τ 293 i = zN σ 293 i) → zwp (zbV (zcall 178 [.ref 287] τ) (fun τ2 => zev 197 54 [some (.ref 287), none] [] τ2)) Q) → zwp (zev 197 30 [some (.ref 287), some (.int (Int32.ofInt j))] [] σ) Q
  | 0, j, σ, e, hj, hk => by
    refine zwp_of (fun r h => ze_197_30 _ _ r h) ?_
    exact zwp_t (by rw [mm_le (by omega) (by omega) (by omega) (by omega)]; omega) (hk σ mf.rf (fun i hi => hj i (by omega)) (fun _ _ => rfl))
  | k + 1, j, σ, e, hj, hk => by
    refine zwp_of (fun r h => ze_197_30 _ _ r h) ?_
    refine zwp_f (by rw [mm_le (by omega) (by omega) (by omega) (by omega)]; omega) (zwp_cd (za_293 (by omega) (by omega)) ?_)
    rw [mm_cl (by omega) (by omega), mm_add, Int.toNat_natCast]
    refine zwp_let ?_
    refine lp_19730 k (j + 1) (zw σ 293 j 0) (by omega) (fun i hi => ?_) fun τ h1 h2 h3 => ?_
    · by_cases q : i = j
      · rw [q, mm_at rfl rfl (by decide) (by decide)]
      · rw [mm_nj q]
        exact hj i (by omega)
    · refine hk τ (((mf.rf (S := fun b => b = 293)).zw 293 _ _ rfl).tr h1) h2 fun i hi => ?_
      rw [h3 i hi, mm_nj (by omega)]
noncomputable def rE (T : Int → Int) (sz : Int) : Int := if (rTxt T sz).1 = 0 then (rTxt T sz).2.2.2 6 else -4
theorem sp_197 {σ : zM} {T : Int → Int} {sz : Int} (hT : tpC σ 291 T sz) (h5 : zN σ 287 5 = sz) (z3 : ∀ j, 220 ≤ j → zN σ 293 j = 0) (z8 : ∀ j, 220 ≤ j → zN σ 288 j = 0) : zwp (zcall 197 [.ref 287] σ) (fun v τ => v = some (.int (Int32.ofInt (rE T sz))) ∧ mf (fun b => b = 287 ∨ b = 288 ∨ b = 293) σ τ ∧ (∀ k, k < 5 ∨ k = 6 ∨ 14 ≤ k → zN τ 287 k = zN σ 287 k) ∧ zN τ 287 5 = 0 ∧ (∀ j, 220 ≤ j → zN τ 293 j = 0) ∧ (∀ j, 220 ≤ j → zN τ 288 j = 0) ∧ ((rTxt T sz).1 ≠ 0 → zN τ 287 12 = (rTxt T sz).1 ∧ zN τ 287 13 = (rTxt T sz).2.1 ∧ ∀ k, zN τ 288 k = zN σ 288 k) ∧ ((rTxt T sz).1 = 0 → zN τ 287 12 = 0 ∧ zN τ 287 13 = -1 ∧ wv τ 288 = (rTxt T sz).2.2.2)) := by
  have hs := hT.1
  refine zwp_of (fun r h => zcc_197 (ze_197_0 _ r h)) ?_
  rw [mm_r σ 287 5, h5]
  refine zwp_letE (τ' := zw σ 287 7 sz) (by simp (disch := first | assumption | exact isR33 | exact isT104 | exact isF99 | exact isF101 | exact isR3 | omega | (refine isTk ?_; omega) | (refine isOk isR33 ?_; omega) | (refine isOk ?_ ?_; assumption; omega)) only [mm_r, mm_rl, mm_add, mm_sub, mm_mul, mm_addJ, mm_mulJ, mm_lt, mm_le, mm_eq, mm_z, mm_cl, mm_w, mm_wl, mm_ite, mm_i2l, mm_l2i, mm_ltJ, mm_leJ, mm_eqJ, mm_clt, mm_cle, mm_cgt, mm_cge, mm_ceq, mm_b, mm_nb, mm_nb0, mm_nb1, mm_vb0, mm_vb1, mm_vbc, mm_vy0, mm_vy1, mm_at, mm_ne, mm_nj, mm_Lw, mm_Nw, mm_atJ, mm_neJ, mm_njJ, zbI_s, zbV_s, zbJ_s, cond_t, Bool.true_and, Bool.and_true, if_true, if_false, not_true, not_false_iff, Classical.not_not, zel_r, zel_42, zel_12, zel_71, zel_80, zel_89, zel_110, zel_188, zel_103, zel_195, zr_o, zr_1, zr_2, zr_3, zr_4, zr_5, zr_6, zr_7, zr_8, zr_9, zq_o, zq_v, zt_o, zt_1, zt_2, zt_3, zt_4, zt_5, zf_o, zf_1, za_w1, za_w2, za_w3, za_cm, za_sl, Int.toNat_natCast, Int.toNat_natCast_add_one, mm_t0, mm_t1, mm_t2, mm_t3, mm_t4, mm_t5, mm_t6, mm_t7, mm_t8, mm_t9, mm_t10, mm_t11, mm_t12, mm_t13, za_1, za_64, za_65, za_66, za_67, za_68, za_71, za_80, za_89, za_98, za_103, za_110, za_121, za_122, za_123, za_124, za_125, za_126, za_188, za_193, za_194, za_195, za_286, za_288, za_289, za_290, za_291, za_292, za_293, za_294, za_295, za_296, za_297, za_298, za_299, za_300, za_301, za_302, za_303, za_304, za_305, za_306, za_307, za_308, za_309, za_310, za_311, za_312]) ?_
  refine zwp_letE (τ' := zw (zw σ 287 7 sz) 287 5 0) (by simp (disch := first | assumption | exact isR33 | exact isT104 | exact isF99 | exact isF101 | exact isR3 | omega | (refine isTk ?_; omega) | (refine isOk isR33 ?_; omega) | (refine isOk ?_ ?_; assumption; omega)) only [mm_r, mm_rl, mm_add, mm_sub, mm_mul, mm_addJ, mm_mulJ, mm_lt, mm_le, mm_eq, mm_z, mm_cl, mm_w, mm_wl, mm_ite, mm_i2l, mm_l2i, mm_ltJ, mm_leJ, mm_eqJ, mm_clt, mm_cle, mm_cgt, mm_cge, mm_ceq, mm_b, mm_nb, mm_nb0, mm_nb1, mm_vb0, mm_vb1, mm_vbc, mm_vy0, mm_vy1, mm_at, mm_ne, mm_nj, mm_Lw, mm_Nw, mm_atJ, mm_neJ, mm_njJ, zbI_s, zbV_s, zbJ_s, cond_t, Bool.true_and, Bool.and_true, if_true, if_false, not_true, not_false_iff, Classical.not_not, zel_r, zel_42, zel_12, zel_71, zel_80, zel_89, zel_110, zel_188, zel_103, zel_195, zr_o, zr_1, zr_2, zr_3, zr_4, zr_5, zr_6, zr_7, zr_8, zr_9, zq_o, zq_v, zt_o, zt_1, zt_2, zt_3, zt_4, zt_5, zf_o, zf_1, za_w1, za_w2, za_w3, za_cm, za_sl, Int.toNat_natCast, Int.toNat_natCast_add_one, mm_t0, mm_t1, mm_t2, mm_t3, mm_t4, mm_t5, mm_t6, mm_t7, mm_t8, mm_t9, mm_t10, mm_t11, mm_t12, mm_t13, za_1, za_64, za_65, za_66, za_67, za_68, za_71, za_80, za_89, za_98, za_103, za_110, za_121, za_122, za_123, za_124, za_125, za_126, za_188, za_193, za_194, za_195, za_286, za_288, za_289, za_290, za_291, za_292, za_293, za_294, za_295, za_296, za_297, za_298, za_299, za_300, za_301, za_302, za_303, za_304, za_305, za_306, za_307, za_308, za_309, za_310, za_311, za_312]) ?_
  refine zwp_letE (τ' := zw (zw (zw σ 287 7 sz) 287 5 0) 287 8 0) (by simp (disch := first | assumption | exact isR33 | exact isT104 | exact isF99 | exact isF101 | exact isR3 | omega | (refine isTk ?_; omega) | (refine isOk isR33 ?_; omega) | (refine isOk ?_ ?_; assumption; omega)) only [mm_r, mm_rl, mm_add, mm_sub, mm_mul, mm_addJ, mm_mulJ, mm_lt, mm_le, mm_eq, mm_z, mm_cl, mm_w, mm_wl, mm_ite, mm_i2l, mm_l2i, mm_ltJ, mm_leJ, mm_eqJ, mm_clt, mm_cle, mm_cgt, mm_cge, mm_ceq, mm_b, mm_nb, mm_nb0, mm_nb1, mm_vb0, mm_vb1, mm_vbc, mm_vy0, mm_vy1, mm_at, mm_ne, mm_nj, mm_Lw, mm_Nw, mm_atJ, mm_neJ, mm_njJ, zbI_s, zbV_s, zbJ_s, cond_t, Bool.true_and, Bool.and_true, if_true, if_false, not_true, not_false_iff, Classical.not_not, zel_r, zel_42, zel_12, zel_71, zel_80, zel_89, zel_110, zel_188, zel_103, zel_195, zr_o, zr_1, zr_2, zr_3, zr_4, zr_5, zr_6, zr_7, zr_8, zr_9, zq_o, zq_v, zt_o, zt_1, zt_2, zt_3, zt_4, zt_5, zf_o, zf_1, za_w1, za_w2, za_w3, za_cm, za_sl, Int.toNat_natCast, Int.toNat_natCast_add_one, mm_t0, mm_t1, mm_t2, mm_t3, mm_t4, mm_t5, mm_t6, mm_t7, mm_t8, mm_t9, mm_t10, mm_t11, mm_t12, mm_t13, za_1, za_64, za_65, za_66, za_67, za_68, za_71, za_80, za_89, za_98, za_103, za_110, za_121, za_122, za_123, za_124, za_125, za_126, za_188, za_193, za_194, za_195, za_286, za_288, za_289, za_290, za_291, za_292, za_293, za_294, za_295, za_296, za_297, za_298, za_299, za_300, za_301, za_302, za_303, za_304, za_305, za_306, za_307, za_308, za_309, za_310, za_311, za_312]) ?_
  refine zwp_letE (τ' := zw (zw (zw (zw σ 287 7 sz) 287 5 0) 287 8 0) 287 12 0) (by simp (disch := first | assumption | exact isR33 | exact isT104 | exact isF99 | exact isF101 | exact isR3 | omega | (refine isTk ?_; omega) | (refine isOk isR33 ?_; omega) | (refine isOk ?_ ?_; assumption; omega)) only [mm_r, mm_rl, mm_add, mm_sub, mm_mul, mm_addJ, mm_mulJ, mm_lt, mm_le, mm_eq, mm_z, mm_cl, mm_w, mm_wl, mm_ite, mm_i2l, mm_l2i, mm_ltJ, mm_leJ, mm_eqJ, mm_clt, mm_cle, mm_cgt, mm_cge, mm_ceq, mm_b, mm_nb, mm_nb0, mm_nb1, mm_vb0, mm_vb1, mm_vbc, mm_vy0, mm_vy1, mm_at, mm_ne, mm_nj, mm_Lw, mm_Nw, mm_atJ, mm_neJ, mm_njJ, zbI_s, zbV_s, zbJ_s, cond_t, Bool.true_and, Bool.and_true, if_true, if_false, not_true, not_false_iff, Classical.not_not, zel_r, zel_42, zel_12, zel_71, zel_80, zel_89, zel_110, zel_188, zel_103, zel_195, zr_o, zr_1, zr_2, zr_3, zr_4, zr_5, zr_6, zr_7, zr_8, zr_9, zq_o, zq_v, zt_o, zt_1, zt_2, zt_3, zt_4, zt_5, zf_o, zf_1, za_w1, za_w2, za_w3, za_cm, za_sl, Int.toNat_natCast, Int.toNat_natCast_add_one, mm_t0, mm_t1, mm_t2, mm_t3, mm_t4, mm_t5, mm_t6, mm_t7, mm_t8, mm_t9, mm_t10, mm_t11, mm_t12, mm_t13, za_1, za_64, za_65, za_66, za_67, za_68, za_71, za_80, za_89, za_98, za_103, za_110, za_121, za_122, za_123, za_124, za_125, za_126, za_188, za_193, za_194, za_195, za_286, za_288, za_289, za_290, za_291, za_292, za_293, za_294, za_295, za_296, za_297, za_298, za_299, za_300, za_301, za_302, za_303, za_304, za_305, za_306, za_307, za_308, za_309, za_310, za_311, za_312]) ?_
  refine zwp_letE (τ' := zw (zw (zw (zw (zw σ 287 7 sz) 287 5 0) 287 8 0) 287 12 0) 287 13 (-1)) (by simp (disch := first | assumption | exact isR33 | exact isT104 | exact isF99 | exact isF101 | exact isR3 | omega | (refine isTk ?_; omega) | (refine isOk isR33 ?_; omega) | (refine isOk ?_ ?_; assumption; omega)) only [mm_r, mm_rl, mm_add, mm_sub, mm_mul, mm_addJ, mm_mulJ, mm_lt, mm_le, mm_eq, mm_z, mm_cl, mm_w, mm_wl, mm_ite, mm_i2l, mm_l2i, mm_ltJ, mm_leJ, mm_eqJ, mm_clt, mm_cle, mm_cgt, mm_cge, mm_ceq, mm_b, mm_nb, mm_nb0, mm_nb1, mm_vb0, mm_vb1, mm_vbc, mm_vy0, mm_vy1, mm_at, mm_ne, mm_nj, mm_Lw, mm_Nw, mm_atJ, mm_neJ, mm_njJ, zbI_s, zbV_s, zbJ_s, cond_t, Bool.true_and, Bool.and_true, if_true, if_false, not_true, not_false_iff, Classical.not_not, zel_r, zel_42, zel_12, zel_71, zel_80, zel_89, zel_110, zel_188, zel_103, zel_195, zr_o, zr_1, zr_2, zr_3, zr_4, zr_5, zr_6, zr_7, zr_8, zr_9, zq_o, zq_v, zt_o, zt_1, zt_2, zt_3, zt_4, zt_5, zf_o, zf_1, za_w1, za_w2, za_w3, za_cm, za_sl, Int.toNat_natCast, Int.toNat_natCast_add_one, mm_t0, mm_t1, mm_t2, mm_t3, mm_t4, mm_t5, mm_t6, mm_t7, mm_t8, mm_t9, mm_t10, mm_t11, mm_t12, mm_t13, za_1, za_64, za_65, za_66, za_67, za_68, za_71, za_80, za_89, za_98, za_103, za_110, za_121, za_122, za_123, za_124, za_125, za_126, za_188, za_193, za_194, za_195, za_286, za_288, za_289, za_290, za_291, za_292, za_293, za_294, za_295, za_296, za_297, za_298, za_299, za_300, za_301, za_302, za_303, za_304, za_305, za_306, za_307, za_308, za_309, za_310, za_311, za_312]) ?_
  have f0 : mf (fun b => b = 287) σ (zw (zw (zw (zw (zw σ 287 7 sz) 287 5 0) 287 8 0) 287 12 0) 287 13 (-1)) := (((((mf.rf (S := fun b => b = 287)).zw 287 _ _ rfl).zw 287 _ _ rfl).zw 287 _ _ rfl).zw 287 _ _ rfl).zw 287 _ _ rfl
  have y7 : zN (zw (zw (zw (zw (zw σ 287 7 sz) 287 5 0) 287 8 0) 287 12 0) 287 13 (-1)) 287 7 = sz := by rw [mm_nj (by decide), mm_nj (by decide), mm_nj (by decide), mm_nj (by decide), mm_at rfl rfl (by omega) (by omega)]
  have y5 : zN (zw (zw (zw (zw (zw σ 287 7 sz) 287 5 0) 287 8 0) 287 12 0) 287 13 (-1)) 287 5 = 0 := by rw [mm_nj (by decide), mm_nj (by decide), mm_nj (by decide), mm_at rfl rfl (by decide) (by decide)]
  have y8 : zN (zw (zw (zw (zw (zw σ 287 7 sz) 287 5 0) 287 8 0) 287 12 0) 287 13 (-1)) 287 8 = 0 := by rw [mm_nj (by decide), mm_nj (by decide), mm_at rfl rfl (by decide) (by decide)]
  have y12 : zN (zw (zw (zw (zw (zw σ 287 7 sz) 287 5 0) 287 8 0) 287 12 0) 287 13 (-1)) 287 12 = 0 := by rw [mm_nj (by decide), mm_at rfl rfl (by decide) (by decide)]
  have y13 : zN (zw (zw (zw (zw (zw σ 287 7 sz) 287 5 0) 287 8 0) 287 12 0) 287 13 (-1)) 287 13 = -1 := mm_at rfl rfl (by decide) (by decide)
  have yk : ∀ k, k < 5 ∨ k = 6 ∨ 14 ≤ k → zN (zw (zw (zw (zw (zw σ 287 7 sz) 287 5 0) 287 8 0) 287 12 0) 287 13 (-1)) 287 k = zN σ 287 k := fun k hk => by rw [mm_nj (by omega), mm_nj (by omega), mm_nj (by omega), mm_nj (by omega), mm_nj (by omega)]
  generalize zw (zw (zw (zw (zw σ 287 7 sz) 287 5 0) 287 8 0) 287 12 0) 287 13 (-1) = σ1 at f0 y7 y5 y8 y12 y13 yk ⊢
  refine lp_19730 220 0 σ1 rfl (fun i hi => absurd hi (by omega)) fun σ2 f2 w2 k2 => ?_
  have n2 : ∀ k, zN σ2 287 k = zN σ1 287 k := f2.1 287 (by decide)
  have hT2 : tpC σ2 291 T sz := (hT.fr (f0.1 291 (by decide))).fr (f2.1 291 (by decide))
  have z2 : ∀ j, zN σ2 293 j = 0 := fun j => by
    by_cases q : j < 220
    · exact w2 j q
    · rw [k2 j (by omega), f0.1 293 (by decide)]
      exact z3 j (by omega)
  refine zwp_V _ (sp_178 (v := 0) hT2 ((n2 7).trans y7) ((n2 8).trans y8) (by decide) hs.1) ?_
  rintro σ3 ⟨s3, t3⟩
  have r0 := scn_rng (T := T) (sz := sz) (st := 0) (v := 0) (Int.le_refl _) hs.1 (Int.le_refl _)
  have hG : gR σ3 T sz (scn T sz 0 0) W00 := ⟨s3.T hT2, (s3.2 7 (by omega)).trans ((n2 7).trans y7), ⟨(s3.2 12 (by omega)).trans ((n2 12).trans y12), (s3.2 13 (by omega)).trans ((n2 13).trans y13)⟩, t3, ⟨⟨r0.1, r0.2.1⟩, by omega, r0.2.2.2.1, r0.2.2.2.2.1, r0.2.2.2.2.2.1⟩, by
    funext j
    exact (s3.1.1 293 (by decide) _).trans (z2 _)⟩
  have F : ∀ τ, rrF σ3 τ → mf (fun b => b = 287 ∨ b = 288 ∨ b = 293) σ τ ∧ (∀ k, k < 5 ∨ k = 6 ∨ 14 ≤ k → zN τ 287 k = zN σ 287 k) ∧ zN τ 287 5 = 0 ∧ (∀ j, 220 ≤ j → zN τ 293 j = 0) ∧ ∀ k, zN τ 288 k = zN σ 288 k := fun τ h => by
    have fm : mf (fun b => b = 287 ∨ b = 293) σ τ := (((f0.mono (by omega)).tr (f2.mono (by omega))).tr (s3.1.mono (by omega))).tr h.1
    refine ⟨fm.mono (by omega), fun k hk => ?_, ?_, fun j hj => ?_, fm.1 288 (by decide)⟩
    · rw [h.2.1 k (by omega), s3.2 k (by omega), n2, yk k hk]
    · rw [h.2.1 5 (by omega), s3.2 5 (by omega), n2, y5]
    · rw [h.2.2 j hj, s3.1.1 293 (by decide), z2]
  refine lp_19754 (σ0 := σ3) sz.toNat 0 (scn T sz 0 0) W00 σ3 (by omega) hG rrF.rf WOK_0 (fun _ _ => rfl) rfl (fun p => by have := r0.2.2.2.2.2.2 p; omega) ?_ ?_
  · intro τ s' W' er1 hW' g fr
    have er2 : rTxt T sz = okR s' W' := er1
    obtain ⟨F1, F2, F3, F4, F5⟩ := F τ fr
    have hE : rE T sz = W' 6 := by
      unfold rE
      rw [er2]
      exact if_pos rfl
    rw [hE, er2]
    refine zwp_mono (lp_19787 (V := W') 220 0 τ rfl g.2.2.2.2.2 (fun i hi => absurd hi (by omega))) ?_
    rintro v υ ⟨h1, h2, h3, h4⟩
    have n7 : ∀ k, zN υ 287 k = zN τ 287 k := h2.1 287 (by decide)
    refine ⟨h1, F1.tr (h2.mono (by omega)), fun k hk => (n7 k).trans (F2 k hk), (n7 5).trans F3, fun j hj => (h2.1 293 (by decide) j).trans (F4 j hj), fun j hj => (h4 j hj).trans ((F5 j).trans (z8 j hj)), fun p => absurd rfl p, fun _ => ⟨(n7 12).trans g.2.2.1.1, (n7 13).trans g.2.2.1.2, ?_⟩⟩
    funext j
    show zN υ 288 j.toNat = W' j
    have eW : W' j = zN τ 293 j.toNat := by
      rw [← g.2.2.2.2.2]
      rfl
    by_cases q : j.toNat < 220
    · rw [h3 _ q, ← g.2.2.2.2.2]
      show zN τ 293 (j.toNat : Int).toNat = zN τ 293 j.toNat
      rw [Int.toNat_natCast]
    · rw [h4 _ (by omega), F5, z8 _ (by omega), eW, F4 _ (by omega)]
  · intro τ hb
    have hz : (rTxt T sz).1 ≠ 0 := hb.1.2.1
    obtain ⟨F1, F2, F3, F4, F5⟩ := F τ hb.2
    have hE : rE T sz = -4 := if_neg hz
    rw [hE]
    exact zwp_ret ⟨rfl, F1, F2, F3, F4, fun j hj => (F5 j).trans (z8 j hj), fun _ => ⟨hb.1.1, hb.1.2.2, F5⟩, fun p => absurd p hz⟩
