/-! THE TEXT: the reference reads roads, floods, riders, wishes -/
theorem nm_c {T : Int → Int} {sz lo hi : Int} {s : tk} {K K' : Int → tk → rdZ} (h : s.1 = 2 → lo ≤ s.2.2.2 → s.2.2.2 ≤ hi → K s.2.2.2 (nxt T sz s) = K' s.2.2.2 (nxt T sz s)) : nm T sz lo hi s K = nm T sz lo hi s K' := by
  unfold nm
  by_cases q : s.1 = 2
  · rw [if_pos q, if_pos q]
    by_cases q2 : lo ≤ s.2.2.2 ∧ s.2.2.2 ≤ hi
    · rw [if_pos q2, if_pos q2]
      exact h q q2.1 q2.2
    · rw [if_neg q2, if_neg q2]
  · rw [if_neg q, if_neg q]
theorem nm_y {T : Int → Int} {sz lo hi : Int} {s : tk} {K : Int → tk → rdZ} (q : s.1 = 2) (q1 : lo ≤ s.2.2.2) (q2 : s.2.2.2 ≤ hi) : nm T sz lo hi s K = K s.2.2.2 (nxt T sz s) := by
  unfold nm
  rw [if_pos q, if_pos ⟨q1, q2⟩]
theorem g163 {σ : zM} {T : Int → Int} {sz hi : Int} {s : tk} {V : Int → Int} (h : gR σ T sz s V) (q : s.1 = 2) (i0 : -1 ≤ hi) (i1 : hi ≤ 1000) : zcall 163 [.long ((zI σ 287 11).toInt64), .long (Int64.ofInt 0), .long ((Int32.ofInt hi).toInt64)] σ = some (some (.int (Int32.ofInt (if 0 ≤ s.2.2.2 ∧ s.2.2.2 ≤ hi then 1 else 0))), σ) := by
  obtain ⟨o1, o2, o3, o4, o5⟩ := h.2.2.2.2.1
  obtain ⟨h4, h41, h42, h43⟩ := h.2.2.2.1
  have m5 := mi5_rng o5
  rw [mm_r σ 287 11, h43 q, mm_i2l (by omega) (by omega), mm_i2l (by omega) (by omega), sp_163 (by omega) (by omega) (by omega) (by omega) (by omega) (by omega)]
  have em : (0 ≤ mi5 s.2.2.2 ∧ mi5 s.2.2.2 ≤ hi) ↔ (0 ≤ s.2.2.2 ∧ s.2.2.2 ≤ hi) := by
    unfold mi5
    split <;> omega
  simp only [em]
theorem r11 {σ : zM} {T : Int → Int} {sz : Int} {s : tk} {V : Int → Int} (h : gR σ T sz s V) (q : s.1 = 2) (i1 : s.2.2.2 ≤ 1000) : zI σ 287 11 = Int32.ofInt s.2.2.2 := by
  have h43 := h.2.2.2.1.2.2.2 q
  have e5 : mi5 s.2.2.2 = s.2.2.2 := if_pos (by omega)
  rw [mm_r σ 287 11, h43, e5]
theorem r10 {σ : zM} {T : Int → Int} {sz : Int} {s : tk} {V : Int → Int} (h : gR σ T sz s V) {k : Int} (k0 : 0 ≤ k) (k1 : k ≤ 4) : zI σ 287 10 = Int32.ofInt k ↔ s.1 = k := by
  obtain ⟨⟨o0, o1⟩, o2, o3, o4, o5⟩ := h.2.2.2.2.1
  rw [mm_r σ 287 10, h.2.2.2.1.1, mm_eq (by omega) (by omega) (by omega) (by omega)]
theorem g188 {σ : zM} {T : Int → Int} {sz x y : Int} {s : tk} {V : Int → Int} (h : gR σ T sz s V) (hW : WOK V) (x0 : 0 ≤ x) (x1 : x < V 0) (y0 : 0 ≤ y) (y1 : y < V 0) : zcall 188 [.ref 293, .int (Int32.ofInt x), .int (Int32.ofInt y)] σ = some (some (.int (Int32.ofInt (RD V x y))), σ) := by
  have h20 := hW.1.1.2.2.1
  have h2 := hW.1.1.2.2.2.1
  have h8 := hW.1.1.2.1
  have e2 : zN σ 293 2 = V 2 := by
    rw [← h.2.2.2.2.2]
    rfl
  rw [sp_188 (by decide +kernel) (by omega) (by omega) (by omega) (by omega) (by omega) (by omega), h.2.2.2.2.2]
/-! roads -/
theorem b189 {σ0 τ : zM} {f p : Int} {x1 x2 : Int32} (hb : bR σ0 τ f p) : VR σ0 (zev 189 88 [some (.ref 287), some (.int x1), some (.int x2), none, none] [] τ) (er f p) := by
  refine zwp_of (fun r h => ze_189_88 _ _ _ r h) ?_
  show VR σ0 _ (er f p)
  (repeat' (with_reducible first | exact bze (by assumption) | refine bz179 (by assumption) ?_ | refine bz180 (by assumption) ?_ | refine bz181 (by assumption) ?_ | refine bz182 (by assumption) ?_ | refine bz183 (by assumption) ?_ | refine bz184 (by assumption) ?_ | refine bz185 (by assumption) ?_ | refine bz187 (by assumption) ?_ | refine bzcw (by assumption) (by first | exact za_293 (by decide) (by decide) | (rw [mm_add]; exact za_293 (by omega) (by omega)) | exact za_293 (by omega) (by omega)) (fun _ _ => ?_) | refine bzc (by first | exact za_293 (by decide) (by decide) | (rw [mm_add]; exact za_293 (by omega) (by omega)) | exact za_293 (by omega) (by omega)) ?_ | refine bzt ?_ | refine bzf ?_ | refine bzi ?_ ?_))
theorem t189 {σ0 σ : zM} {T : Int → Int} {sz : Int} {s : tk} {V : Int → Int} (h : gR σ T sz s V) (hf : rrF σ0 σ) (hW : WOK V) {a : Int} (n1 : V 2 < 12) (a0 : 0 ≤ a) (a1 : a < V 0) : VR σ0 (zev 189 88 [some (.ref 287), some (.int (Int32.ofInt (8 + 3 * V 2))), some (.int (Int32.ofInt a)), none, none] [] σ) (nm T sz 0 (V 0 - 1) s fun b s => wd T sz 1000007 s fun s => nm T sz 1 20 s fun h s => okR s (uRo V a b h)) := by
  have h20 := hW.1.1.2.2.1
  have h8 := hW.1.1.2.1
  have h80 := hW.1.1.1
  refine zwp_of (fun r h => ze_189_88 _ _ _ r h) ?_
  refine v187 h h80 h8 hf (fun τ1 b0 b1 g1 f1 => ?_) (fun τ f hb => by (repeat' (with_reducible first | exact bze (by assumption) | refine bz179 (by assumption) ?_ | refine bz180 (by assumption) ?_ | refine bz181 (by assumption) ?_ | refine bz182 (by assumption) ?_ | refine bz183 (by assumption) ?_ | refine bz184 (by assumption) ?_ | refine bz185 (by assumption) ?_ | refine bz187 (by assumption) ?_ | refine bzcw (by assumption) (by first | exact za_293 (by decide) (by decide) | (rw [mm_add]; exact za_293 (by omega) (by omega)) | exact za_293 (by omega) (by omega)) (fun _ _ => ?_) | refine bzc (by first | exact za_293 (by decide) (by decide) | (rw [mm_add]; exact za_293 (by omega) (by omega)) | exact za_293 (by omega) (by omega)) ?_ | refine bzt ?_ | refine bzf ?_ | refine bzi ?_ ?_)))
  generalize s.2.2.2 = b at b0 b1 ⊢
  refine v185 g1 (by decide) (by decide) (by decide) (by decide) (by decide) f1 (fun τ2 c0 c1 g2 f2 => ?_) (fun τ f p hb => by (repeat' (with_reducible first | exact bze (by assumption) | refine bz179 (by assumption) ?_ | refine bz180 (by assumption) ?_ | refine bz181 (by assumption) ?_ | refine bz182 (by assumption) ?_ | refine bz183 (by assumption) ?_ | refine bz184 (by assumption) ?_ | refine bz185 (by assumption) ?_ | refine bz187 (by assumption) ?_ | refine bzcw (by assumption) (by first | exact za_293 (by decide) (by decide) | (rw [mm_add]; exact za_293 (by omega) (by omega)) | exact za_293 (by omega) (by omega)) (fun _ _ => ?_) | refine bzc (by first | exact za_293 (by decide) (by decide) | (rw [mm_add]; exact za_293 (by omega) (by omega)) | exact za_293 (by omega) (by omega)) ?_ | refine bzt ?_ | refine bzf ?_ | refine bzi ?_ ?_)))
  generalize (nxt T sz (nxt T sz s)).2.2.2 = c at c0 c1 ⊢
  rw [g179 g2.2.2.1.1, zbI_s]
  refine zwp_t (by decide) ?_
  simp only [mm_add]
  refine vw g2 f2 (by omega) (by omega) (by omega) (by omega) (fun τ3 g3 f3 => ?_)
  refine vw g3 f3 (by omega) (by omega) (by omega) (by omega) (fun τ4 g4 f4 => ?_)
  refine vw g4 f4 (by omega) (by omega) (by omega) (by omega) (fun τ5 g5 f5 => ?_)
  have e2 : wU (wU (wU V (8 + 3 * V 2) a) (8 + 3 * V 2 + 1) b) (8 + 3 * V 2 + 2) c 2 = V 2 := by rw [wU_ne (by omega), wU_ne (by omega), wU_ne (by omega)]
  refine zwp_cd (za_293 (by decide) (by decide)) ?_
  rw [rdI g5.2.2.2.2.2 (by decide) (by decide), e2, mm_add]
  exact vw g5 f5 (by omega) (by omega) (by omega) (by omega) (fun τ6 g6 f6 => VR_ok g6 f6)
theorem vl_189 {σ0 σ : zM} {T : Int → Int} {sz : Int} {s : tk} {V : Int → Int} (h : gR σ T sz s V) (hf : rrF σ0 σ) (hW : WOK V) (n1 : V 2 < 12) : VR σ0 (zcall 189 [.ref 287] σ) (nm T sz 0 (V 0 - 1) s fun a s => wd T sz 1000008 s fun s1 => nm T sz 0 (V 0 - 1) s1 fun b s => if a = b ∨ RD V a b ≠ -1 then er 2 s1.2.1 else wd T sz 1000007 s fun s => nm T sz 1 20 s fun h s => okR s (uRo V a b h)) := by
  have h20 := hW.1.1.2.2.1
  have h2 := hW.1.1.2.2.2.1
  have h8 := hW.1.1.2.1
  have h80 := hW.1.1.1
  refine zwp_of (fun r h => zcc_189 (ze_189_0 _ r h)) ?_
  refine zwp_cd (za_293 (by decide) (by decide)) ?_
  rw [rdI h.2.2.2.2.2 (by decide) (by decide), mm_mul, mm_add]
  refine v187 h h80 h8 hf (fun τ1 a0 a1 g1 f1 => ?_) (fun τ f hb => by (repeat' (with_reducible first | exact bze (by assumption) | refine bz179 (by assumption) ?_ | refine bz180 (by assumption) ?_ | refine bz181 (by assumption) ?_ | refine bz182 (by assumption) ?_ | refine bz183 (by assumption) ?_ | refine bz184 (by assumption) ?_ | refine bz185 (by assumption) ?_ | refine bz187 (by assumption) ?_ | refine bzcw (by assumption) (by first | exact za_293 (by decide) (by decide) | (rw [mm_add]; exact za_293 (by omega) (by omega)) | exact za_293 (by omega) (by omega)) (fun _ _ => ?_) | refine bzc (by first | exact za_293 (by decide) (by decide) | (rw [mm_add]; exact za_293 (by omega) (by omega)) | exact za_293 (by omega) (by omega)) ?_ | refine bzt ?_ | refine bzf ?_ | refine bzi ?_ ?_)) <;> exact b189 (by assumption))
  generalize s.2.2.2 = a at a0 a1 ⊢
  refine v183 g1 (by decide) f1 (fun τ2 g2 f2 => ?_) (fun τ hb => by (repeat' (with_reducible first | exact bze (by assumption) | refine bz179 (by assumption) ?_ | refine bz180 (by assumption) ?_ | refine bz181 (by assumption) ?_ | refine bz182 (by assumption) ?_ | refine bz183 (by assumption) ?_ | refine bz184 (by assumption) ?_ | refine bz185 (by assumption) ?_ | refine bz187 (by assumption) ?_ | refine bzcw (by assumption) (by first | exact za_293 (by decide) (by decide) | (rw [mm_add]; exact za_293 (by omega) (by omega)) | exact za_293 (by omega) (by omega)) (fun _ _ => ?_) | refine bzc (by first | exact za_293 (by decide) (by decide) | (rw [mm_add]; exact za_293 (by omega) (by omega)) | exact za_293 (by omega) (by omega)) ?_ | refine bzt ?_ | refine bzf ?_ | refine bzi ?_ ?_)) <;> exact b189 (by assumption))
  generalize nxt T sz (nxt T sz s) = s1 at g2 ⊢
  rw [g179 g2.2.2.1.1, zbI_s]
  refine zwp_f (by decide) ?_
  have ht : (s1.1 = 2 → 0 ≤ s1.2.2.2 → s1.2.2.2 ≤ V 0 - 1 → ¬ (a = s1.2.2.2 ∨ RD V a s1.2.2.2 ≠ -1)) → VR σ0 (zev 189 88 [some (.ref 287), some (.int (Int32.ofInt (8 + 3 * V 2))), some (.int (Int32.ofInt a)), none, none] [] τ2) (nm T sz 0 (V 0 - 1) s1 fun b s => if a = b ∨ RD V a b ≠ -1 then er 2 s1.2.1 else wd T sz 1000007 s fun s => nm T sz 1 20 s fun h s => okR s (uRo V a b h)) := by
    intro hq
    rw [nm_c (K' := fun b s => wd T sz 1000007 s fun s => nm T sz 1 20 s fun h s => okR s (uRo V a b h)) (fun q q1 q2 => if_neg (hq q q1 q2))]
    exact t189 g2 f2 hW n1 a0 (by omega)
  by_cases q : s1.1 = 2
  · refine zwp_f (by rw [r10 g2 (by decide) (by decide)]; exact fun p => p q) ?_
    refine zwp_cd (za_293 (by decide) (by decide)) ?_
    rw [rdI g2.2.2.2.2.2 (by decide) (by decide), mm_sub, g163 g2 q (by omega) (by omega), zbI_s]
    by_cases q1 : 0 ≤ s1.2.2.2 ∧ s1.2.2.2 ≤ V 0 - 1
    · rw [if_pos q1]
      refine zwp_f (by decide) ?_
      have er2 : a = s1.2.2.2 ∨ RD V a s1.2.2.2 ≠ -1 → VR σ0 (zbV (zcall 180 [.ref 287, .int (Int32.ofInt (2))] τ2) (fun τ7 => zev 189 88 [some (.ref 287), some (.int (Int32.ofInt (8 + 3 * V 2))), some (.int (Int32.ofInt a)), none, none] [] τ7)) (nm T sz 0 (V 0 - 1) s1 fun b s => if a = b ∨ RD V a b ≠ -1 then er 2 s1.2.1 else wd T sz 1000007 s fun s => nm T sz 1 20 s fun h s => okR s (uRo V a b h)) := by
        intro hq
        rw [nm_y q q1.1 q1.2, if_pos hq]
        obtain ⟨υ, e, hb⟩ := g2.bad f2 (x := 2) (by decide) (by decide) (by decide)
        rw [e, zbV_s]
        exact b189 hb
      rw [r11 g2 q (by omega)]
      by_cases q2 : a = s1.2.2.2
      · refine zwp_t (by rw [q2]) ?_
        exact er2 (.inl q2)
      · refine zwp_f (by rw [mm_eq (by omega) (by omega) (by omega) (by omega)]; exact fun p => q2 p.symm) ?_
        rw [g188 g2 hW a0 (by omega) q1.1 (by omega), zbI_s]
        have rr := RD_lt h2 a s1.2.2.2
        by_cases q3 : RD V a s1.2.2.2 = -1
        · refine zwp_t (by rw [q3]) ?_
          exact ht fun _ _ _ p => p.elim q2 (fun p => p q3)
        · refine zwp_f (by rw [mm_eq (by omega) (by omega) (by omega) (by omega)]; exact q3) ?_
          exact er2 (.inr q3)
    · rw [if_neg q1]
      refine zwp_t (by decide) ?_
      exact ht fun _ p1 p2 => absurd ⟨p1, p2⟩ q1
  · refine zwp_t (by rw [r10 g2 (by decide) (by decide)]; exact q) ?_
    exact ht fun p => absurd p q
/-! floods -/
theorem b190 {σ0 σ : zM} {f p : Int} {V : Int → Int} {a : Int} (hb : bR σ0 σ f p) : VR σ0 (zbI (zcall 187 [.ref 287] σ) (fun v43 τ43 => cond (zarr 293 100 (Int32.ofInt (1))) (zbI (zcall 185 [.ref 287, .ref 1000009, .int (Int32.ofInt (0)), .int ((zI τ43 293 (Int32.ofInt (1)).toNatClampNeg) - (Int32.ofInt (1)))] τ43) (fun v44 τ44 => cond (zarr 293 100 (Int32.ofInt (1))) (zbI (zcall 185 [.ref 287, .ref 1000008, .int v44, .int ((zI τ44 293 (Int32.ofInt (1)).toNatClampNeg) - (Int32.ofInt (1)))] τ44) (fun v45 τ45 => zbI (zcall 179 [.ref 287] τ45) (fun v46 τ46 => if ¬ v46 = 0 then zbI (zcall 188 [.ref 293, .int (Int32.ofInt a), .int v43] τ46) (fun v47 τ47 => cond (zarr 293 100 (Int32.ofInt (44 + 3 * V 3))) (zlet (zsI τ47 293 (Int32.ofInt (44 + 3 * V 3)).toNatClampNeg v47) (fun τ48 => cond (zarr 293 100 ((Int32.ofInt (44 + 3 * V 3)) + (Int32.ofInt (1)))) (zlet (zsI τ48 293 ((Int32.ofInt (44 + 3 * V 3)) + (Int32.ofInt (1))).toNatClampNeg v44) (fun τ49 => cond (zarr 293 100 ((Int32.ofInt (44 + 3 * V 3)) + (Int32.ofInt (2)))) (zlet (zsI τ49 293 ((Int32.ofInt (44 + 3 * V 3)) + (Int32.ofInt (2))).toNatClampNeg v45) (fun τ50 => cond (zarr 293 100 (Int32.ofInt (3))) (cond (zarr 293 100 (Int32.ofInt (3))) (zlet (zsI τ50 293 (Int32.ofInt (3)).toNatClampNeg ((zI τ50 293 (Int32.ofInt (3)).toNatClampNeg) + (Int32.ofInt (1)))) (fun τ51 => some (none, τ51))) none) none)) none)) none)) none) else some (none, τ46)))) none)) none)) (er f p) := by
  (repeat' (with_reducible first | exact bze (by assumption) | refine bz179 (by assumption) ?_ | refine bz180 (by assumption) ?_ | refine bz181 (by assumption) ?_ | refine bz182 (by assumption) ?_ | refine bz183 (by assumption) ?_ | refine bz184 (by assumption) ?_ | refine bz185 (by assumption) ?_ | refine bz187 (by assumption) ?_ | refine bzcw (by assumption) (by first | exact za_293 (by decide) (by decide) | (rw [mm_add]; exact za_293 (by omega) (by omega)) | exact za_293 (by omega) (by omega)) (fun _ _ => ?_) | refine bzc (by first | exact za_293 (by decide) (by decide) | (rw [mm_add]; exact za_293 (by omega) (by omega)) | exact za_293 (by omega) (by omega)) ?_ | refine bzt ?_ | refine bzf ?_ | refine bzi ?_ ?_))
theorem t190 {σ0 σ : zM} {T : Int → Int} {sz : Int} {s : tk} {V : Int → Int} (h : gR σ T sz s V) (hf : rrF σ0 σ) (hW : WOK V) {a : Int} (n1 : V 3 < 8) (a0 : 0 ≤ a) (a1 : a < V 0) : VR σ0 (zbI (zcall 187 [.ref 287] σ) (fun v43 τ43 => cond (zarr 293 100 (Int32.ofInt (1))) (zbI (zcall 185 [.ref 287, .ref 1000009, .int (Int32.ofInt (0)), .int ((zI τ43 293 (Int32.ofInt (1)).toNatClampNeg) - (Int32.ofInt (1)))] τ43) (fun v44 τ44 => cond (zarr 293 100 (Int32.ofInt (1))) (zbI (zcall 185 [.ref 287, .ref 1000008, .int v44, .int ((zI τ44 293 (Int32.ofInt (1)).toNatClampNeg) - (Int32.ofInt (1)))] τ44) (fun v45 τ45 => zbI (zcall 179 [.ref 287] τ45) (fun v46 τ46 => if ¬ v46 = 0 then zbI (zcall 188 [.ref 293, .int (Int32.ofInt a), .int v43] τ46) (fun v47 τ47 => cond (zarr 293 100 (Int32.ofInt (44 + 3 * V 3))) (zlet (zsI τ47 293 (Int32.ofInt (44 + 3 * V 3)).toNatClampNeg v47) (fun τ48 => cond (zarr 293 100 ((Int32.ofInt (44 + 3 * V 3)) + (Int32.ofInt (1)))) (zlet (zsI τ48 293 ((Int32.ofInt (44 + 3 * V 3)) + (Int32.ofInt (1))).toNatClampNeg v44) (fun τ49 => cond (zarr 293 100 ((Int32.ofInt (44 + 3 * V 3)) + (Int32.ofInt (2)))) (zlet (zsI τ49 293 ((Int32.ofInt (44 + 3 * V 3)) + (Int32.ofInt (2))).toNatClampNeg v45) (fun τ50 => cond (zarr 293 100 (Int32.ofInt (3))) (cond (zarr 293 100 (Int32.ofInt (3))) (zlet (zsI τ50 293 (Int32.ofInt (3)).toNatClampNeg ((zI τ50 293 (Int32.ofInt (3)).toNatClampNeg) + (Int32.ofInt (1)))) (fun τ51 => some (none, τ51))) none) none)) none)) none)) none) else some (none, τ46)))) none)) none)) (nm T sz 0 (V 0 - 1) s fun b s => wd T sz 1000009 s fun s => nm T sz 0 (V 1 - 1) s fun f s => wd T sz 1000008 s fun s => nm T sz f (V 1 - 1) s fun t s => okR s (uFl V (RD V a b) f t)) := by
  have h20 := hW.1.1.2.2.1
  have h2 := hW.1.1.2.2.2.1
  have h8 := hW.1.1.2.1
  have h80 := hW.1.1.1
  have h1 := hW.1.2.1
  have h9 := hW.1.2.2.1
  have h30 := hW.1.2.2.2.1
  refine v187 h h80 h8 hf (fun τ1 b0 b1 g1 f1 => ?_) (fun τ f hb => by (repeat' (with_reducible first | exact bze (by assumption) | refine bz179 (by assumption) ?_ | refine bz180 (by assumption) ?_ | refine bz181 (by assumption) ?_ | refine bz182 (by assumption) ?_ | refine bz183 (by assumption) ?_ | refine bz184 (by assumption) ?_ | refine bz185 (by assumption) ?_ | refine bz187 (by assumption) ?_ | refine bzcw (by assumption) (by first | exact za_293 (by decide) (by decide) | (rw [mm_add]; exact za_293 (by omega) (by omega)) | exact za_293 (by omega) (by omega)) (fun _ _ => ?_) | refine bzc (by first | exact za_293 (by decide) (by decide) | (rw [mm_add]; exact za_293 (by omega) (by omega)) | exact za_293 (by omega) (by omega)) ?_ | refine bzt ?_ | refine bzf ?_ | refine bzi ?_ ?_)))
  generalize s.2.2.2 = b at b0 b1 ⊢
  refine zwp_cd (za_293 (by decide) (by decide)) ?_
  rw [rdI g1.2.2.2.2.2 (by decide) (by decide), mm_sub]
  refine v185 g1 (by decide) (by decide) (by decide) (by omega) (by omega) f1 (fun τ2 c0 c1 g2 f2 => ?_) (fun τ f p hb => by (repeat' (with_reducible first | exact bze (by assumption) | refine bz179 (by assumption) ?_ | refine bz180 (by assumption) ?_ | refine bz181 (by assumption) ?_ | refine bz182 (by assumption) ?_ | refine bz183 (by assumption) ?_ | refine bz184 (by assumption) ?_ | refine bz185 (by assumption) ?_ | refine bz187 (by assumption) ?_ | refine bzcw (by assumption) (by first | exact za_293 (by decide) (by decide) | (rw [mm_add]; exact za_293 (by omega) (by omega)) | exact za_293 (by omega) (by omega)) (fun _ _ => ?_) | refine bzc (by first | exact za_293 (by decide) (by decide) | (rw [mm_add]; exact za_293 (by omega) (by omega)) | exact za_293 (by omega) (by omega)) ?_ | refine bzt ?_ | refine bzf ?_ | refine bzi ?_ ?_)))
  generalize (nxt T sz (nxt T sz s)).2.2.2 = c at c0 c1 ⊢
  refine zwp_cd (za_293 (by decide) (by decide)) ?_
  rw [rdI g2.2.2.2.2.2 (by decide) (by decide), mm_sub]
  refine v185 g2 (by decide) (by omega) (by omega) (by omega) (by omega) f2 (fun τ3 d0 d1 g3 f3 => ?_) (fun τ f p hb => by (repeat' (with_reducible first | exact bze (by assumption) | refine bz179 (by assumption) ?_ | refine bz180 (by assumption) ?_ | refine bz181 (by assumption) ?_ | refine bz182 (by assumption) ?_ | refine bz183 (by assumption) ?_ | refine bz184 (by assumption) ?_ | refine bz185 (by assumption) ?_ | refine bz187 (by assumption) ?_ | refine bzcw (by assumption) (by first | exact za_293 (by decide) (by decide) | (rw [mm_add]; exact za_293 (by omega) (by omega)) | exact za_293 (by omega) (by omega)) (fun _ _ => ?_) | refine bzc (by first | exact za_293 (by decide) (by decide) | (rw [mm_add]; exact za_293 (by omega) (by omega)) | exact za_293 (by omega) (by omega)) ?_ | refine bzt ?_ | refine bzf ?_ | refine bzi ?_ ?_)))
  generalize (nxt T sz (nxt T sz (nxt T sz (nxt T sz s)))).2.2.2 = d at d0 d1 ⊢
  rw [g179 g3.2.2.1.1, zbI_s]
  refine zwp_t (by decide) ?_
  rw [g188 g3 hW a0 a1 b0 (by omega), zbI_s]
  have rr := RD_lt h2 a b
  simp only [mm_add]
  generalize RD V a b = e at rr ⊢
  refine vw g3 f3 (by omega) (by omega) (by omega) (by omega) (fun τ4 g4 f4 => ?_)
  refine vw g4 f4 (by omega) (by omega) (by omega) (by omega) (fun τ5 g5 f5 => ?_)
  refine vw g5 f5 (by omega) (by omega) (by omega) (by omega) (fun τ6 g6 f6 => ?_)
  have e2 : wU (wU (wU V (44 + 3 * V 3) e) (44 + 3 * V 3 + 1) c) (44 + 3 * V 3 + 2) d 3 = V 3 := by rw [wU_ne (by omega), wU_ne (by omega), wU_ne (by omega)]
  refine zwp_cd (za_293 (by decide) (by decide)) ?_
  rw [rdI g6.2.2.2.2.2 (by decide) (by decide), e2, mm_add]
  exact vw g6 f6 (by omega) (by omega) (by omega) (by omega) (fun τ7 g7 f7 => VR_ok g7 f7)
theorem vl_190 {σ0 σ : zM} {T : Int → Int} {sz : Int} {s : tk} {V : Int → Int} (h : gR σ T sz s V) (hf : rrF σ0 σ) (hW : WOK V) (n1 : V 3 < 8) : VR σ0 (zcall 190 [.ref 287] σ) (nm T sz 0 (V 0 - 1) s fun a s => wd T sz 1000008 s fun s1 => nm T sz 0 (V 0 - 1) s1 fun b s => if RD V a b = -1 then er 2 s1.2.1 else wd T sz 1000009 s fun s => nm T sz 0 (V 1 - 1) s fun f s => wd T sz 1000008 s fun s => nm T sz f (V 1 - 1) s fun t s => okR s (uFl V (RD V a b) f t)) := by
  have h20 := hW.1.1.2.2.1
  have h2 := hW.1.1.2.2.2.1
  have h8 := hW.1.1.2.1
  have h80 := hW.1.1.1
  have h30 := hW.1.2.2.2.1
  refine zwp_of (fun r h => zcc_190 (ze_190_0 _ r h)) ?_
  refine zwp_cd (za_293 (by decide) (by decide)) ?_
  rw [rdI h.2.2.2.2.2 (by decide) (by decide), mm_mul, mm_add]
  refine v187 h h80 h8 hf (fun τ1 a0 a1 g1 f1 => ?_) (fun τ f hb => by (repeat' (with_reducible first | exact bze (by assumption) | refine bz179 (by assumption) ?_ | refine bz180 (by assumption) ?_ | refine bz181 (by assumption) ?_ | refine bz182 (by assumption) ?_ | refine bz183 (by assumption) ?_ | refine bz184 (by assumption) ?_ | refine bz185 (by assumption) ?_ | refine bz187 (by assumption) ?_ | refine bzcw (by assumption) (by first | exact za_293 (by decide) (by decide) | (rw [mm_add]; exact za_293 (by omega) (by omega)) | exact za_293 (by omega) (by omega)) (fun _ _ => ?_) | refine bzc (by first | exact za_293 (by decide) (by decide) | (rw [mm_add]; exact za_293 (by omega) (by omega)) | exact za_293 (by omega) (by omega)) ?_ | refine bzt ?_ | refine bzf ?_ | refine bzi ?_ ?_)))
  generalize s.2.2.2 = a at a0 a1 ⊢
  refine v183 g1 (by decide) f1 (fun τ2 g2 f2 => ?_) (fun τ hb => by (repeat' (with_reducible first | exact bze (by assumption) | refine bz179 (by assumption) ?_ | refine bz180 (by assumption) ?_ | refine bz181 (by assumption) ?_ | refine bz182 (by assumption) ?_ | refine bz183 (by assumption) ?_ | refine bz184 (by assumption) ?_ | refine bz185 (by assumption) ?_ | refine bz187 (by assumption) ?_ | refine bzcw (by assumption) (by first | exact za_293 (by decide) (by decide) | (rw [mm_add]; exact za_293 (by omega) (by omega)) | exact za_293 (by omega) (by omega)) (fun _ _ => ?_) | refine bzc (by first | exact za_293 (by decide) (by decide) | (rw [mm_add]; exact za_293 (by omega) (by omega)) | exact za_293 (by omega) (by omega)) ?_ | refine bzt ?_ | refine bzf ?_ | refine bzi ?_ ?_)))
  generalize nxt T sz (nxt T sz s) = s1 at g2 ⊢
  rw [g179 g2.2.2.1.1, zbI_s]
  refine zwp_f (by decide) ?_
  have ec : (s1.1 = 2 → 0 ≤ s1.2.2.2 → s1.2.2.2 ≤ V 0 - 1 → RD V a s1.2.2.2 ≠ -1) → (nm T sz 0 (V 0 - 1) s1 fun b s => if RD V a b = -1 then er 2 s1.2.1 else wd T sz 1000009 s fun s => nm T sz 0 (V 1 - 1) s fun f s => wd T sz 1000008 s fun s => nm T sz f (V 1 - 1) s fun t s => okR s (uFl V (RD V a b) f t)) = nm T sz 0 (V 0 - 1) s1 fun b s => wd T sz 1000009 s fun s => nm T sz 0 (V 1 - 1) s fun f s => wd T sz 1000008 s fun s => nm T sz f (V 1 - 1) s fun t s => okR s (uFl V (RD V a b) f t) := fun hq => nm_c (fun q q1 q2 => if_neg (hq q q1 q2))
  have a1' : a < V 0 := by omega
  by_cases q : s1.1 = 2
  · refine zwp_f (by rw [r10 g2 (by decide) (by decide)]; exact fun p => p q) ?_
    refine zwp_cd (za_293 (by decide) (by decide)) ?_
    rw [rdI g2.2.2.2.2.2 (by decide) (by decide), mm_sub, g163 g2 q (by omega) (by omega), zbI_s]
    by_cases q1 : 0 ≤ s1.2.2.2 ∧ s1.2.2.2 ≤ V 0 - 1
    · rw [if_pos q1]
      refine zwp_f (by decide) ?_
      rw [r11 g2 q (by omega), g188 g2 hW a0 a1' q1.1 (by omega), zbI_s]
      have rr := RD_lt h2 a s1.2.2.2
      by_cases q3 : RD V a s1.2.2.2 = -1
      · refine zwp_f (by rw [q3]; exact fun p => p rfl) ?_
        rw [nm_y q q1.1 q1.2, if_pos q3]
        obtain ⟨υ, e, hb⟩ := g2.bad f2 (x := 2) (by decide) (by decide) (by decide)
        rw [e, zbV_s]
        exact b190 hb
      · refine zwp_t (by rw [mm_eq (by omega) (by omega) (by omega) (by omega)]; exact q3) ?_
        rw [ec fun _ _ _ => q3]
        exact t190 g2 f2 hW n1 a0 a1'
    · rw [if_neg q1]
      refine zwp_t (by decide) ?_
      rw [ec fun _ p1 p2 => absurd ⟨p1, p2⟩ q1]
      exact t190 g2 f2 hW n1 a0 a1'
  · refine zwp_t (by rw [r10 g2 (by decide) (by decide)]; exact q) ?_
    rw [ec fun p => absurd p q]
    exact t190 g2 f2 hW n1 a0 a1'
/-! riders -/
theorem vl_191 {σ0 σ : zM} {T : Int → Int} {sz : Int} {s : tk} {V : Int → Int} (h : gR σ T sz s V) (hf : rrF σ0 σ) (hW : WOK V) (n1 : V 4 < 6) : VR σ0 (zcall 191 [.ref 287] σ) (wd T sz 1000010 s fun s => nm T sz 1 9 s fun p s => wd T sz 1000011 s fun s => nm T sz 0 20 s fun r s => okR s (uRi V p r)) := by
  have h40 := hW.2.2.1.1
  refine zwp_of (fun r h => zcc_191 (ze_191_0 _ r h)) ?_
  refine zwp_cd (za_293 (by decide) (by decide)) ?_
  rw [rdI h.2.2.2.2.2 (by decide) (by decide), mm_mul, mm_add]
  refine v185 h (by decide) (by decide) (by decide) (by decide) (by decide) hf (fun τ1 a0 a1 g1 f1 => ?_) (fun τ f p hb => by (repeat' (with_reducible first | exact bze (by assumption) | refine bz179 (by assumption) ?_ | refine bz180 (by assumption) ?_ | refine bz181 (by assumption) ?_ | refine bz182 (by assumption) ?_ | refine bz183 (by assumption) ?_ | refine bz184 (by assumption) ?_ | refine bz185 (by assumption) ?_ | refine bz187 (by assumption) ?_ | refine bzcw (by assumption) (by first | exact za_293 (by decide) (by decide) | (rw [mm_add]; exact za_293 (by omega) (by omega)) | exact za_293 (by omega) (by omega)) (fun _ _ => ?_) | refine bzc (by first | exact za_293 (by decide) (by decide) | (rw [mm_add]; exact za_293 (by omega) (by omega)) | exact za_293 (by omega) (by omega)) ?_ | refine bzt ?_ | refine bzf ?_ | refine bzi ?_ ?_)))
  generalize (nxt T sz s).2.2.2 = a at a0 a1 ⊢
  refine vw g1 f1 (by omega) (by omega) (by omega) (by omega) (fun τ2 g2 f2 => ?_)
  refine v185 g2 (by decide) (by decide) (by decide) (by decide) (by decide) f2 (fun τ3 b0 b1 g3 f3 => ?_) (fun τ f p hb => by (repeat' (with_reducible first | exact bze (by assumption) | refine bz179 (by assumption) ?_ | refine bz180 (by assumption) ?_ | refine bz181 (by assumption) ?_ | refine bz182 (by assumption) ?_ | refine bz183 (by assumption) ?_ | refine bz184 (by assumption) ?_ | refine bz185 (by assumption) ?_ | refine bz187 (by assumption) ?_ | refine bzcw (by assumption) (by first | exact za_293 (by decide) (by decide) | (rw [mm_add]; exact za_293 (by omega) (by omega)) | exact za_293 (by omega) (by omega)) (fun _ _ => ?_) | refine bzc (by first | exact za_293 (by decide) (by decide) | (rw [mm_add]; exact za_293 (by omega) (by omega)) | exact za_293 (by omega) (by omega)) ?_ | refine bzt ?_ | refine bzf ?_ | refine bzi ?_ ?_)))
  generalize (nxt T sz (nxt T sz (nxt T sz s))).2.2.2 = b at b0 b1 ⊢
  rw [mm_add]
  refine vw g3 f3 (by omega) (by omega) (by omega) (by omega) (fun τ4 g4 f4 => ?_)
  have e2 : wU (wU V (68 + 2 * V 4) a) (68 + 2 * V 4 + 1) b 4 = V 4 := by rw [wU_ne (by omega), wU_ne (by omega)]
  refine zwp_cd (za_293 (by decide) (by decide)) ?_
  rw [rdI g4.2.2.2.2.2 (by decide) (by decide), e2, mm_add]
  exact vw g4 f4 (by omega) (by omega) (by omega) (by omega) (fun τ5 g5 f5 => VR_ok g5 f5)
/-! wishes -/
theorem b194 {σ0 σ : zM} {f p : Int} (hb : bR σ0 σ f p) : VR σ0 (cond (zarr 293 100 (Int32.ofInt (5))) (zbI (zcall 184 [.ref 287, .int (Int32.ofInt (0)), .int ((zI σ 293 (Int32.ofInt (5)).toNatClampNeg) - (Int32.ofInt (1)))] σ) (fun v36 τ36 => zbI (zcall 185 [.ref 287, .ref 1000015, .int (Int32.ofInt (0)), .int (Int32.ofInt (9))] τ36) (fun v37 τ37 => cond (zarr 293 100 (Int32.ofInt (0))) (zbI (zcall 185 [.ref 287, .ref 1000017, .int (Int32.ofInt (0)), .int ((zI τ37 293 (Int32.ofInt (0)).toNatClampNeg) - (Int32.ofInt (1)))] τ37) (fun v38 τ38 => cond (zarr 293 100 (Int32.ofInt (1))) (zbI (zcall 185 [.ref 287, .ref 1000013, .int (Int32.ofInt (0)), .int ((zI τ38 293 (Int32.ofInt (1)).toNatClampNeg) - (Int32.ofInt (1)))] τ38) (fun v39 τ39 => zbI (zcall 179 [.ref 287] τ39) (fun v40 τ40 => if ¬ v40 = 0 then cond (zarr 293 100 (((Int32.ofInt (80)) + ((Int32.ofInt (14)) * v36)) + (Int32.ofInt (11)))) (zlet (zsI τ40 293 (((Int32.ofInt (80)) + ((Int32.ofInt (14)) * v36)) + (Int32.ofInt (11))).toNatClampNeg v37) (fun τ41 => cond (zarr 293 100 (((Int32.ofInt (80)) + ((Int32.ofInt (14)) * v36)) + (Int32.ofInt (12)))) (zlet (zsI τ41 293 (((Int32.ofInt (80)) + ((Int32.ofInt (14)) * v36)) + (Int32.ofInt (12))).toNatClampNeg v38) (fun τ42 => cond (zarr 293 100 (((Int32.ofInt (80)) + ((Int32.ofInt (14)) * v36)) + (Int32.ofInt (13)))) (zlet (zsI τ42 293 (((Int32.ofInt (80)) + ((Int32.ofInt (14)) * v36)) + (Int32.ofInt (13))).toNatClampNeg v39) (fun τ43 => some (none, τ43))) none)) none)) none else some (none, τ40)))) none)) none))) none) (er f p) := by
  (repeat' (with_reducible first | exact bze (by assumption) | refine bz179 (by assumption) ?_ | refine bz180 (by assumption) ?_ | refine bz181 (by assumption) ?_ | refine bz182 (by assumption) ?_ | refine bz183 (by assumption) ?_ | refine bz184 (by assumption) ?_ | refine bz185 (by assumption) ?_ | refine bz187 (by assumption) ?_ | refine bzcw (by assumption) (by first | exact za_293 (by decide) (by decide) | (rw [mm_add]; exact za_293 (by omega) (by omega)) | exact za_293 (by omega) (by omega)) (fun _ _ => ?_) | refine bzc (by first | exact za_293 (by decide) (by decide) | (rw [mm_add]; exact za_293 (by omega) (by omega)) | exact za_293 (by omega) (by omega)) ?_ | refine bzt ?_ | refine bzf ?_ | refine bzi ?_ ?_))
theorem t194 {σ0 σ : zM} {T : Int → Int} {sz : Int} {s : tk} {V : Int → Int} (h : gR σ T sz s V) (hf : rrF σ0 σ) (hW : WOK V) : VR σ0 (cond (zarr 293 100 (Int32.ofInt (5))) (zbI (zcall 184 [.ref 287, .int (Int32.ofInt (0)), .int ((zI σ 293 (Int32.ofInt (5)).toNatClampNeg) - (Int32.ofInt (1)))] σ) (fun v36 τ36 => zbI (zcall 185 [.ref 287, .ref 1000015, .int (Int32.ofInt (0)), .int (Int32.ofInt (9))] τ36) (fun v37 τ37 => cond (zarr 293 100 (Int32.ofInt (0))) (zbI (zcall 185 [.ref 287, .ref 1000017, .int (Int32.ofInt (0)), .int ((zI τ37 293 (Int32.ofInt (0)).toNatClampNeg) - (Int32.ofInt (1)))] τ37) (fun v38 τ38 => cond (zarr 293 100 (Int32.ofInt (1))) (zbI (zcall 185 [.ref 287, .ref 1000013, .int (Int32.ofInt (0)), .int ((zI τ38 293 (Int32.ofInt (1)).toNatClampNeg) - (Int32.ofInt (1)))] τ38) (fun v39 τ39 => zbI (zcall 179 [.ref 287] τ39) (fun v40 τ40 => if ¬ v40 = 0 then cond (zarr 293 100 (((Int32.ofInt (80)) + ((Int32.ofInt (14)) * v36)) + (Int32.ofInt (11)))) (zlet (zsI τ40 293 (((Int32.ofInt (80)) + ((Int32.ofInt (14)) * v36)) + (Int32.ofInt (11))).toNatClampNeg v37) (fun τ41 => cond (zarr 293 100 (((Int32.ofInt (80)) + ((Int32.ofInt (14)) * v36)) + (Int32.ofInt (12)))) (zlet (zsI τ41 293 (((Int32.ofInt (80)) + ((Int32.ofInt (14)) * v36)) + (Int32.ofInt (12))).toNatClampNeg v38) (fun τ42 => cond (zarr 293 100 (((Int32.ofInt (80)) + ((Int32.ofInt (14)) * v36)) + (Int32.ofInt (13)))) (zlet (zsI τ42 293 (((Int32.ofInt (80)) + ((Int32.ofInt (14)) * v36)) + (Int32.ofInt (13))).toNatClampNeg v39) (fun τ43 => some (none, τ43))) none)) none)) none else some (none, τ40)))) none)) none))) none) (nm T sz 0 (V 5 - 1) s fun n s => wd T sz 1000015 s fun s => nm T sz 0 9 s fun x s => wd T sz 1000017 s fun s => nm T sz 0 (V 0 - 1) s fun t s => wd T sz 1000013 s fun s => nm T sz 0 (V 1 - 1) s fun h s => okR s (uWi V n x t h)) := by
  have h8 := hW.1.1.2.1
  have h80 := hW.1.1.1
  have h1 := hW.1.2.1
  have h9 := hW.1.2.2.1
  have h5 := hW.2.2.1
  refine zwp_cd (za_293 (by decide) (by decide)) ?_
  rw [rdI h.2.2.2.2.2 (by decide) (by decide), mm_sub]
  refine v184 h (by decide) (by decide) (by omega) (by omega) hf (fun τ1 n0 n1 g1 f1 => ?_) (fun τ f hb => by (repeat' (with_reducible first | exact bze (by assumption) | refine bz179 (by assumption) ?_ | refine bz180 (by assumption) ?_ | refine bz181 (by assumption) ?_ | refine bz182 (by assumption) ?_ | refine bz183 (by assumption) ?_ | refine bz184 (by assumption) ?_ | refine bz185 (by assumption) ?_ | refine bz187 (by assumption) ?_ | refine bzcw (by assumption) (by first | exact za_293 (by decide) (by decide) | (rw [mm_add]; exact za_293 (by omega) (by omega)) | exact za_293 (by omega) (by omega)) (fun _ _ => ?_) | refine bzc (by first | exact za_293 (by decide) (by decide) | (rw [mm_add]; exact za_293 (by omega) (by omega)) | exact za_293 (by omega) (by omega)) ?_ | refine bzt ?_ | refine bzf ?_ | refine bzi ?_ ?_)))
  generalize s.2.2.2 = n at n0 n1 ⊢
  refine v185 g1 (by decide) (by decide) (by decide) (by decide) (by decide) f1 (fun τ2 a0 a1 g2 f2 => ?_) (fun τ f p hb => by (repeat' (with_reducible first | exact bze (by assumption) | refine bz179 (by assumption) ?_ | refine bz180 (by assumption) ?_ | refine bz181 (by assumption) ?_ | refine bz182 (by assumption) ?_ | refine bz183 (by assumption) ?_ | refine bz184 (by assumption) ?_ | refine bz185 (by assumption) ?_ | refine bz187 (by assumption) ?_ | refine bzcw (by assumption) (by first | exact za_293 (by decide) (by decide) | (rw [mm_add]; exact za_293 (by omega) (by omega)) | exact za_293 (by omega) (by omega)) (fun _ _ => ?_) | refine bzc (by first | exact za_293 (by decide) (by decide) | (rw [mm_add]; exact za_293 (by omega) (by omega)) | exact za_293 (by omega) (by omega)) ?_ | refine bzt ?_ | refine bzf ?_ | refine bzi ?_ ?_)))
  generalize (nxt T sz (nxt T sz s)).2.2.2 = a at a0 a1 ⊢
  refine zwp_cd (za_293 (by decide) (by decide)) ?_
  rw [rdI g2.2.2.2.2.2 (by decide) (by decide), mm_sub]
  refine v185 g2 (by decide) (by decide) (by decide) (by omega) (by omega) f2 (fun τ3 b0 b1 g3 f3 => ?_) (fun τ f p hb => by (repeat' (with_reducible first | exact bze (by assumption) | refine bz179 (by assumption) ?_ | refine bz180 (by assumption) ?_ | refine bz181 (by assumption) ?_ | refine bz182 (by assumption) ?_ | refine bz183 (by assumption) ?_ | refine bz184 (by assumption) ?_ | refine bz185 (by assumption) ?_ | refine bz187 (by assumption) ?_ | refine bzcw (by assumption) (by first | exact za_293 (by decide) (by decide) | (rw [mm_add]; exact za_293 (by omega) (by omega)) | exact za_293 (by omega) (by omega)) (fun _ _ => ?_) | refine bzc (by first | exact za_293 (by decide) (by decide) | (rw [mm_add]; exact za_293 (by omega) (by omega)) | exact za_293 (by omega) (by omega)) ?_ | refine bzt ?_ | refine bzf ?_ | refine bzi ?_ ?_)))
  generalize (nxt T sz (nxt T sz (nxt T sz (nxt T sz s)))).2.2.2 = b at b0 b1 ⊢
  refine zwp_cd (za_293 (by decide) (by decide)) ?_
  rw [rdI g3.2.2.2.2.2 (by decide) (by decide), mm_sub]
  refine v185 g3 (by decide) (by decide) (by decide) (by omega) (by omega) f3 (fun τ4 c0 c1 g4 f4 => ?_) (fun τ f p hb => by (repeat' (with_reducible first | exact bze (by assumption) | refine bz179 (by assumption) ?_ | refine bz180 (by assumption) ?_ | refine bz181 (by assumption) ?_ | refine bz182 (by assumption) ?_ | refine bz183 (by assumption) ?_ | refine bz184 (by assumption) ?_ | refine bz185 (by assumption) ?_ | refine bz187 (by assumption) ?_ | refine bzcw (by assumption) (by first | exact za_293 (by decide) (by decide) | (rw [mm_add]; exact za_293 (by omega) (by omega)) | exact za_293 (by omega) (by omega)) (fun _ _ => ?_) | refine bzc (by first | exact za_293 (by decide) (by decide) | (rw [mm_add]; exact za_293 (by omega) (by omega)) | exact za_293 (by omega) (by omega)) ?_ | refine bzt ?_ | refine bzf ?_ | refine bzi ?_ ?_)))
  generalize (nxt T sz (nxt T sz (nxt T sz (nxt T sz (nxt T sz (nxt T sz s)))))).2.2.2 = c at c0 c1 ⊢
  rw [g179 g4.2.2.1.1, zbI_s]
  refine zwp_t (by decide) ?_
  simp only [mm_mul, mm_add]
  refine vw g4 f4 (by omega) (by omega) (by omega) (by omega) (fun τ5 g5 f5 => ?_)
  refine vw g5 f5 (by omega) (by omega) (by omega) (by omega) (fun τ6 g6 f6 => ?_)
  exact vw g6 f6 (by omega) (by omega) (by omega) (by omega) (fun τ7 g7 f7 => VR_ok g7 f7)
theorem vl_194 {σ0 σ : zM} {T : Int → Int} {sz : Int} {s : tk} {V : Int → Int} (h : gR σ T sz s V) (hf : rrF σ0 σ) (hW : WOK V) : VR σ0 (zcall 194 [.ref 287] σ) (nm T sz 0 (V 5 - 1) s fun n s' => if oo V n 2 = -1 then er 2 s.2.1 else wd T sz 1000015 s' fun s => nm T sz 0 9 s fun x s => wd T sz 1000017 s fun s => nm T sz 0 (V 0 - 1) s fun t s => wd T sz 1000013 s fun s => nm T sz 0 (V 1 - 1) s fun h s => okR s (uWi V n x t h)) := by
  have h5 := hW.2.2.1
  refine zwp_of (fun r h => zcc_194 (ze_194_0 _ r h)) ?_
  rw [g179 h.2.2.1.1, zbI_s]
  refine zwp_f (by decide) ?_
  have ec : (s.1 = 2 → 0 ≤ s.2.2.2 → s.2.2.2 ≤ V 5 - 1 → oo V s.2.2.2 2 ≠ -1) → (nm T sz 0 (V 5 - 1) s fun n s' => if oo V n 2 = -1 then er 2 s.2.1 else wd T sz 1000015 s' fun s => nm T sz 0 9 s fun x s => wd T sz 1000017 s fun s => nm T sz 0 (V 0 - 1) s fun t s => wd T sz 1000013 s fun s => nm T sz 0 (V 1 - 1) s fun h s => okR s (uWi V n x t h)) = nm T sz 0 (V 5 - 1) s fun n s => wd T sz 1000015 s fun s => nm T sz 0 9 s fun x s => wd T sz 1000017 s fun s => nm T sz 0 (V 0 - 1) s fun t s => wd T sz 1000013 s fun s => nm T sz 0 (V 1 - 1) s fun h s => okR s (uWi V n x t h) := fun hq => nm_c (fun q q1 q2 => if_neg (hq q q1 q2))
  by_cases q : s.1 = 2
  · refine zwp_f (by rw [r10 h (by decide) (by decide)]; exact fun p => p q) ?_
    refine zwp_cd (za_293 (by decide) (by decide)) ?_
    rw [rdI h.2.2.2.2.2 (by decide) (by decide), mm_sub, g163 h q (by omega) (by omega), zbI_s]
    by_cases q1 : 0 ≤ s.2.2.2 ∧ s.2.2.2 ≤ V 5 - 1
    · rw [if_pos q1]
      refine zwp_f (by decide) ?_
      rw [r11 h q (by omega), mm_mul, mm_add, mm_add]
      refine zwp_cd (za_293 (by omega) (by omega)) ?_
      rw [rdI h.2.2.2.2.2 (n := 80 + 14 * s.2.2.2 + 2) (by omega) (by omega)]
      have ho := hW.2.2.2.2 s.2.2.2 q1.1 (by omega)
      have hx : -1 ≤ V (80 + 14 * s.2.2.2 + 2) ∧ V (80 + 14 * s.2.2.2 + 2) ≤ 9 := by
        show -1 ≤ oo V s.2.2.2 2 ∧ oo V s.2.2.2 2 ≤ 9
        unfold wOrd oOk at ho
        omega
      by_cases q3 : oo V s.2.2.2 2 = -1
      · have q4 : V (80 + 14 * s.2.2.2 + 2) = -1 := q3
        refine zwp_f (by rw [q4]; exact fun p => p rfl) ?_
        rw [nm_y q q1.1 q1.2, if_pos q3]
        obtain ⟨υ, e, hb⟩ := h.bad hf (x := 2) (by decide) (by decide) (by decide)
        rw [e, zbV_s]
        exact b194 hb
      · have q4 : V (80 + 14 * s.2.2.2 + 2) ≠ -1 := q3
        refine zwp_t (by rw [mm_eq (by omega) (by omega) (by omega) (by omega)]; exact q4) ?_
        rw [ec fun _ _ _ => q3]
        exact t194 h hf hW
    · rw [if_neg q1]
      refine zwp_t (by decide) ?_
      rw [ec fun _ p1 p2 => absurd ⟨p1, p2⟩ q1]
      exact t194 h hf hW
  · refine zwp_t (by rw [r10 h (by decide) (by decide)]; exact q) ?_
    rw [ec fun p => absurd p q]
    exact t194 h hf hW
