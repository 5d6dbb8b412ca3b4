/-! THE TEXT: the class reads an order -/
theorem q56 {σ0 σ : zM} {T : Int → Int} {sz : Int} {s : tk} {W : Int → Int} {q a : Nat} {L V : Nat → Int} {k : zM → Option zR} {K : tk → rdZ} (h : gQ σ T sz s W q L V) (h5 : W 5 ≤ 10) (hq : 13 ≤ q) (ha : 1000000 ≤ a ∧ a < 1000019) (hf : rdF σ0 σ) (hok : ∀ τ, gQ τ T sz (nxt T sz s) W q L V → rdF σ0 τ → CR σ0 (k τ) (K (nxt T sz s))) (hno : ∀ τ, bdQ σ0 τ 1 s.2.1 → CR σ0 (k τ) (er 1 s.2.1)) : CR σ0 (zbV (zcall 56 [.ref 2, .ref a] σ) k) (wd T sz a s K) := cw h.1 h5 ha hf (fun τ g f sc => hok τ (h.sc g sc.1 hq) f) (fun τ b r => hno τ (b.q r))
theorem q58 {σ0 σ : zM} {T : Int → Int} {sz lo hi : Int} {s : tk} {W : Int → Int} {q : Nat} {L V : Nat → Int} {k : Int32 → zM → Option zR} {K : Int → tk → rdZ} (h : gQ σ T sz s W q L V) (h5 : W 5 ≤ 10) (hq : 13 ≤ q) (l0 : 0 ≤ lo) (l1 : lo ≤ 1000) (i0 : -1 ≤ hi) (i1 : hi ≤ 1000) (hf : rdF σ0 σ) (hok : ∀ τ, lo ≤ s.2.2.2 → s.2.2.2 ≤ hi → gQ τ T sz (nxt T sz s) W q L V → zN τ 2 7 = s.2.1 → rdF σ0 τ → CR σ0 (k (Int32.ofInt s.2.2.2) τ) (K s.2.2.2 (nxt T sz s))) (hno : ∀ τ f, bdQ σ0 τ f s.2.1 → CR σ0 (k (Int32.ofInt (-1)) τ) (er f s.2.1)) : CR σ0 (zbI (zcall 58 [.ref 2, .int (Int32.ofInt lo), .int (Int32.ofInt hi)] σ) k) (nm T sz lo hi s K) := cn h.1 h5 l0 l1 i0 i1 hf (fun τ a b g p f m => hok τ a b (h.sc g m hq) p f) (fun τ f b r _ => hno τ f (b.q r))
theorem q59 {σ0 σ : zM} {T : Int → Int} {sz : Int} {s : tk} {W : Int → Int} {q : Nat} {L V : Nat → Int} {k : Int32 → zM → Option zR} {K : Int → tk → rdZ} (h : gQ σ T sz s W q L V) (hW : WOK W) (hq : 13 ≤ q) (hf : rdF σ0 σ) (hok : ∀ τ, 0 ≤ s.2.2.2 → s.2.2.2 ≤ W 0 - 1 → gQ τ T sz (nxt T sz s) W q L V → zN τ 2 7 = s.2.1 → rdF σ0 τ → CR σ0 (k (Int32.ofInt s.2.2.2) τ) (K s.2.2.2 (nxt T sz s))) (hno : ∀ τ f, bdQ σ0 τ f s.2.1 → CR σ0 (k (Int32.ofInt (-1)) τ) (er f s.2.1)) : CR σ0 (zbI (zcall 59 [.ref 2] σ) k) (nm T sz 0 (W 0 - 1) s K) := c59 h.1 hW hf (fun τ a b g p f m => hok τ a b (h.sc g m hq) p f) (fun τ f b r _ => hno τ f (b.q r))
theorem q60 {σ0 σ : zM} {T : Int → Int} {sz : Int} {s : tk} {W : Int → Int} {q : Nat} {L V : Nat → Int} {k : Int32 → zM → Option zR} {K : Int → tk → rdZ} (h : gQ σ T sz s W q L V) (hW : WOK W) (hq : 13 ≤ q) (hf : rdF σ0 σ) (hok : ∀ τ, 0 ≤ s.2.2.2 → s.2.2.2 ≤ W 1 - 1 → gQ τ T sz (nxt T sz s) W q L V → zN τ 2 7 = s.2.1 → rdF σ0 τ → CR σ0 (k (Int32.ofInt s.2.2.2) τ) (K s.2.2.2 (nxt T sz s))) (hno : ∀ τ f, bdQ σ0 τ f s.2.1 → CR σ0 (k (Int32.ofInt (-1)) τ) (er f s.2.1)) : CR σ0 (zbI (zcall 60 [.ref 2] σ) k) (nm T sz 0 (W 1 - 1) s K) := c60 h.1 hW hf (fun τ a b g p f m => hok τ a b (h.sc g m hq) p f) (fun τ f b r _ => hno τ f (b.q r))
theorem oo_uOr {W F : Int → Int} (h50 : 0 ≤ W 5) {k : Int} (k0 : 0 ≤ k) (k1 : k < 14) : oo (uOr W F) (W 5) k = F k := by
  unfold oo uOr
  rw [if_neg (by omega), if_pos ⟨by omega, by omega⟩, show 80 + 14 * W 5 + k - (80 + 14 * W 5) = k by omega]
theorem uOr_ne {W F : Int → Int} {i : Int} (h5 : i ≠ 5) (h : i < 80 + 14 * W 5 ∨ 80 + 14 * W 5 + 14 ≤ i) : uOr W F i = W i := by
  unfold uOr
  rw [if_neg h5, if_neg (by omega)]
theorem WOK_Or {W : Int → Int} (hW : WOK W) (h5 : W 5 < 10) {r g x u f t h nv : Int} {vs : Int → Int} (r0 : 0 ≤ r) (r1 : r < W 4) (g0 : 0 ≤ g) (g1 : g < 3) (hxu : u = -1 ∧ 0 ≤ x ∧ x ≤ 9 ∨ x = -1 ∧ 0 ≤ u ∧ u < W 5) (f0 : 0 ≤ f) (f1 : f < W 0) (t0 : 0 ≤ t) (t1 : t < W 0) (hft : f ≠ t) (h0 : 0 ≤ h) (h1 : h < W 1) (n0 : 0 ≤ nv) (n1 : nv ≤ 3) (hv : ∀ i, 0 ≤ i → i < nv → 0 ≤ vs i ∧ vs i < W 0) : WOK (uOr W (fO W r g x u f t h nv vs)) := by
  have h5' := hW.2.2.1
  have h9 := hW.1.2.2.1
  have e5 : uOr W (fO W r g x u f t h nv vs) 5 = W 5 + 1 := if_pos rfl
  have e : ∀ i, i < 80 → i ≠ 5 → uOr W (fO W r g x u f t h nv vs) i = W i := fun i i0 i1 => uOr_ne i1 (by omega)
  refine WOK_or hW e (by omega) (fun o o0 o1 => ?_)
  by_cases z : o = W 5
  · subst z
    have k : ∀ k, 0 ≤ k → k < 14 → oo (uOr W (fO W r g x u f t h nv vs)) (W 5) k = fO W r g x u f t h nv vs k := fun k k0 k1 => oo_uOr h5'.2.2.1 k0 k1
    have hp := hW.2.2.2.1 r r0 r1
    have ep : pac (uOr W (fO W r g x u f t h nv vs)) (W 5) = W (68 + 2 * r) := by
      unfold pac
      rw [k 0 (by decide) (by decide)]
      exact e (68 + 2 * r) (by omega) (by omega)
    have er : res (uOr W (fO W r g x u f t h nv vs)) (W 5) = W (68 + 2 * r + 1) := by
      unfold res
      rw [k 0 (by decide) (by decide)]
      exact e (68 + 2 * r + 1) (by omega) (by omega)
    have e0 := e 0 (by decide) (by decide)
    have e1 := e 1 (by decide) (by decide)
    have e4 := e 4 (by decide) (by decide)
    have k0 : oo (uOr W (fO W r g x u f t h nv vs)) (W 5) 0 = r := k 0 (by decide) (by decide)
    have k1 : oo (uOr W (fO W r g x u f t h nv vs)) (W 5) 1 = g := k 1 (by decide) (by decide)
    have k2 : oo (uOr W (fO W r g x u f t h nv vs)) (W 5) 2 = x := k 2 (by decide) (by decide)
    have k3 : oo (uOr W (fO W r g x u f t h nv vs)) (W 5) 3 = u := k 3 (by decide) (by decide)
    have k4 : oo (uOr W (fO W r g x u f t h nv vs)) (W 5) 4 = f := k 4 (by decide) (by decide)
    have k5 : oo (uOr W (fO W r g x u f t h nv vs)) (W 5) 5 = t := k 5 (by decide) (by decide)
    have k6 : oo (uOr W (fO W r g x u f t h nv vs)) (W 5) 6 = h := k 6 (by decide) (by decide)
    have k7 : oo (uOr W (fO W r g x u f t h nv vs)) (W 5) 7 = nv := k 7 (by decide) (by decide)
    have k11 : oo (uOr W (fO W r g x u f t h nv vs)) (W 5) 11 = -1 := k 11 (by decide) (by decide)
    unfold wOrd oOk
    rw [ep, er, e0, e1, e4, k0, k1, k2, k3, k4, k5, k6, k7, k11]
    refine ⟨⟨f0, f1, t0, t1, n0, n1, fun i i0 i1 => ?_, h0, by omega, r0, by omega, hp.1, hp.2.1, hp.2.2.1, hp.2.2.2⟩, h1, g0, g1, by omega, hft, r1, .inl rfl⟩
    rw [k (8 + i) (by omega) (by omega)]
    unfold fO
    rw [if_neg (by omega), if_neg (by omega), if_neg (by omega), if_neg (by omega), if_neg (by omega), if_neg (by omega), if_neg (by omega), if_neg (by omega), if_pos (by omega), show 8 + i - 8 = i by omega]
    exact hv i i0 i1
  · have ho := hW.2.2.2.2 o o0 (by omega)
    exact wOrd_c (fun k k0 k1 => uOr_ne (by omega) (by omega)) (e 0 (by decide) (by decide)) (e 1 (by decide) (by decide)) (by rw [e 4 (by decide) (by decide)]; omega) (fun i i0 i1 => e _ (by omega) (by omega)) ho
theorem cl_68 {σ : zM} {T : Int → Int} {sz : Int} {s : tk} {W : Int → Int} (h : gC σ T sz s W) (hW : WOK W) : CR σ (zcall 68 [.ref 2] σ) (rOrder T sz s W) := by
  have h5 := hW.2.2.1
  have h20 := hW.1.1.2.2.1
  have h2 := hW.1.1.2.2.2.1
  have h8 := hW.1.1.2.1
  have h1 := hW.1.2.1
  have h9 := hW.1.2.2.1
  have e7 := h.2.2.2.2.2.1.2.2.2.2.2.2.2
  unfold rOrder
  refine zwp_of (fun r h => zcc_68 (ze_68_0 _ r h)) ?_
  rw [mm_r σ 3 7, e7]
  refine c64 (n := W 5) (m := 10) h (by omega) (by omega) (by omega) (by decide) (by decide) rdF.rf (fun τ1 n1 g1 f1 => ?_) (fun τ hb hf => ?_)
  · have k7 := g1.2.2.2.2.2.1.2.2.2.2.2.2.2
    refine zwp_t (by rw [mm_r, g1.2.2.1.1]; rfl) ?_
    rw [mm_r τ1 3 7, k7]
    refine zwp_cd (zr_9 isR3 (by omega) (by omega)) ?_
    have eq : zel 104 (3 + 9) (Int32.ofInt (W 5)).toNatClampNeg = 13 + 2 * (W 5).toNat := by
      rw [mm_cl (by omega) (by omega)]
      rfl
    rw [eq]
    generalize hq : 13 + 2 * (W 5).toNat = q
    have hq : q = 13 + 2 * (W 5).toNat := hq.symm
    have hQ := zoQ (W := W) (by omega) n1 hq
    have zo := zq_o hQ.1
    have q13 : 13 ≤ q := hQ.2.1
    have g1 : gQ τ1 T sz (nxt T sz s) W q (fun k => zN τ1 q k) (fun k => zN τ1 (q + 1) k) := ⟨g1, fun _ => rfl, fun _ => rfl⟩
    generalize (fun k => zN τ1 q k) = L0 at g1
    generalize (fun k => zN τ1 (q + 1) k) = V0 at g1
    refine q56 g1 (by omega) q13 (by decide) f1 (fun τ2 g2 f2 => ?_) (fun τ hb => by (repeat' (with_reducible first | exact bqe (by assumption) | refine bq56 (by assumption) ?_ | refine bq58 (by assumption) ?_ | refine bq59 (by assumption) ?_ | refine bq60 (by assumption) ?_ | refine bq61 (by assumption) ?_ | refine bq69 (by assumption) (by assumption) (fun _ _ => ?_) | refine bq70 (by assumption) (by assumption) (fun _ _ => ?_) | refine bqw (by assumption) (by assumption) (fun _ _ => ?_) | refine bqc (by assumption) ?_ | refine bqz (by assumption) ?_ | refine bqv ?_ | refine bqi ?_ ?_)))
    have k6 := g2.1.2.2.2.2.2.1.2.2.2.2.2.2.1
    rw [mm_r τ2 3 6, k6, mm_sub]
    refine q58 g2 (by omega) q13 (by decide) (by decide) (by omega) (by omega) f2 (fun τ3 r0 r1 g3 _ f3 => ?_) (fun τ f hb => by (repeat' (with_reducible first | exact bqe (by assumption) | refine bq56 (by assumption) ?_ | refine bq58 (by assumption) ?_ | refine bq59 (by assumption) ?_ | refine bq60 (by assumption) ?_ | refine bq61 (by assumption) ?_ | refine bq69 (by assumption) (by assumption) (fun _ _ => ?_) | refine bq70 (by assumption) (by assumption) (fun _ _ => ?_) | refine bqw (by assumption) (by assumption) (fun _ _ => ?_) | refine bqc (by assumption) ?_ | refine bqz (by assumption) ?_ | refine bqv ?_ | refine bqi ?_ ?_)))
    generalize (nxt T sz (nxt T sz s)).2.2.2 = r at r0 r1 ⊢
    refine zwp_cd zo ?_
    refine qwr g3 f3 (by omega) n1 hq (by omega) (by omega) (fun τ4 g4 f4 _ => ?_)
    refine q56 g4 (by omega) q13 (by decide) f4 (fun τ5 g5 f5 => ?_) (fun τ hb => by (repeat' (with_reducible first | exact bqe (by assumption) | refine bq56 (by assumption) ?_ | refine bq58 (by assumption) ?_ | refine bq59 (by assumption) ?_ | refine bq60 (by assumption) ?_ | refine bq61 (by assumption) ?_ | refine bq69 (by assumption) (by assumption) (fun _ _ => ?_) | refine bq70 (by assumption) (by assumption) (fun _ _ => ?_) | refine bqw (by assumption) (by assumption) (fun _ _ => ?_) | refine bqc (by assumption) ?_ | refine bqz (by assumption) ?_ | refine bqv ?_ | refine bqi ?_ ?_)))
    refine q58 g5 (by omega) q13 (by decide) (by decide) (by decide) (by decide) f5 (fun τ6 c0 c1 g6 _ f6 => ?_) (fun τ f hb => by (repeat' (with_reducible first | exact bqe (by assumption) | refine bq56 (by assumption) ?_ | refine bq58 (by assumption) ?_ | refine bq59 (by assumption) ?_ | refine bq60 (by assumption) ?_ | refine bq61 (by assumption) ?_ | refine bq69 (by assumption) (by assumption) (fun _ _ => ?_) | refine bq70 (by assumption) (by assumption) (fun _ _ => ?_) | refine bqw (by assumption) (by assumption) (fun _ _ => ?_) | refine bqc (by assumption) ?_ | refine bqz (by assumption) ?_ | refine bqv ?_ | refine bqi ?_ ?_)))
    generalize (nxt T sz (nxt T sz (nxt T sz (nxt T sz s)))).2.2.2 = g at c0 c1 ⊢
    refine zwp_cd zo ?_
    refine qwr g6 f6 (by omega) n1 hq (by omega) (by omega) (fun τ7 g7 f7 _ => ?_)
    generalize nxt T sz (nxt T sz (nxt T sz (nxt T sz (nxt T sz s)))) = s5 at g7 ⊢
    refine zwp_V _ (sp_69 g7 f7 (by omega) n1 hq) ?_
    rintro τ8 (⟨x, u, s6, hE, hxu, g8, f8⟩ | ⟨f, p, hE, hb⟩)
    · rw [hE]
      refine q56 g8 (by omega) q13 (by decide) f8 (fun τ9 g9 f9 => ?_) (fun τ hb => by (repeat' (with_reducible first | exact bqe (by assumption) | refine bq56 (by assumption) ?_ | refine bq58 (by assumption) ?_ | refine bq59 (by assumption) ?_ | refine bq60 (by assumption) ?_ | refine bq61 (by assumption) ?_ | refine bq69 (by assumption) (by assumption) (fun _ _ => ?_) | refine bq70 (by assumption) (by assumption) (fun _ _ => ?_) | refine bqw (by assumption) (by assumption) (fun _ _ => ?_) | refine bqc (by assumption) ?_ | refine bqz (by assumption) ?_ | refine bqv ?_ | refine bqi ?_ ?_)))
      refine q59 g9 hW q13 f9 (fun τa a0 a1 ga _ fa => ?_) (fun τ f hb => by (repeat' (with_reducible first | exact bqe (by assumption) | refine bq56 (by assumption) ?_ | refine bq58 (by assumption) ?_ | refine bq59 (by assumption) ?_ | refine bq60 (by assumption) ?_ | refine bq61 (by assumption) ?_ | refine bq69 (by assumption) (by assumption) (fun _ _ => ?_) | refine bq70 (by assumption) (by assumption) (fun _ _ => ?_) | refine bqw (by assumption) (by assumption) (fun _ _ => ?_) | refine bqc (by assumption) ?_ | refine bqz (by assumption) ?_ | refine bqv ?_ | refine bqi ?_ ?_)))
      generalize (nxt T sz s6).2.2.2 = f at a0 a1 ⊢
      refine zwp_cd zo ?_
      refine qwr ga fa (by omega) n1 hq (by omega) (by omega) (fun τb gb fb _ => ?_)
      generalize nxt T sz (nxt T sz s6) = s7 at gb ⊢
      refine q56 gb (by omega) q13 (by decide) fb (fun τc gc fc => ?_) (fun τ hb => by (repeat' (with_reducible first | exact bqe (by assumption) | refine bq56 (by assumption) ?_ | refine bq58 (by assumption) ?_ | refine bq59 (by assumption) ?_ | refine bq60 (by assumption) ?_ | refine bq61 (by assumption) ?_ | refine bq69 (by assumption) (by assumption) (fun _ _ => ?_) | refine bq70 (by assumption) (by assumption) (fun _ _ => ?_) | refine bqw (by assumption) (by assumption) (fun _ _ => ?_) | refine bqc (by assumption) ?_ | refine bqz (by assumption) ?_ | refine bqv ?_ | refine bqi ?_ ?_)))
      refine q59 gc hW q13 fc (fun τd b0 b1 gd pd fd => ?_) (fun τ f hb => by (repeat' (with_reducible first | exact bqe (by assumption) | refine bq56 (by assumption) ?_ | refine bq58 (by assumption) ?_ | refine bq59 (by assumption) ?_ | refine bq60 (by assumption) ?_ | refine bq61 (by assumption) ?_ | refine bq69 (by assumption) (by assumption) (fun _ _ => ?_) | refine bq70 (by assumption) (by assumption) (fun _ _ => ?_) | refine bqw (by assumption) (by assumption) (fun _ _ => ?_) | refine bqc (by assumption) ?_ | refine bqz (by assumption) ?_ | refine bqv ?_ | refine bqi ?_ ?_)))
      generalize (nxt T sz s7).2.2.2 = t at b0 b1 ⊢
      refine zwp_cd zo ?_
      refine qwr gd fd (by omega) n1 hq (by omega) (by omega) (fun τe ge fe me => ?_)
      have pe : zN τe 2 7 = (nxt T sz s7).2.1 := (me.1 2 (by omega) 7).trans pd
      refine zwp_cd zo (zwp_cd zo ?_)
      have l4 : zN τe q 4 = f := ge.2.1 4
      have l5 : zN τe q 5 = t := ge.2.1 5
      rw [mm_r τe q 4, mm_r τe q 5, l4, l5]
      by_cases z : f = t
      · rw [if_pos z]
        refine zwp_t (by rw [z]) ?_
        refine cd0 ge.1 (by omega) fe pe (fun υ hb hf => ?_)
        have hb := hb.q hf
        (repeat' (with_reducible first | exact bqe (by assumption) | refine bq56 (by assumption) ?_ | refine bq58 (by assumption) ?_ | refine bq59 (by assumption) ?_ | refine bq60 (by assumption) ?_ | refine bq61 (by assumption) ?_ | refine bq69 (by assumption) (by assumption) (fun _ _ => ?_) | refine bq70 (by assumption) (by assumption) (fun _ _ => ?_) | refine bqw (by assumption) (by assumption) (fun _ _ => ?_) | refine bqc (by assumption) ?_ | refine bqz (by assumption) ?_ | refine bqv ?_ | refine bqi ?_ ?_))
      · rw [if_neg z]
        refine zwp_f (by rw [mm_eq (by omega) (by omega) (by omega) (by omega)]; exact z) ?_
        refine cd1 ?_
        generalize nxt T sz (nxt T sz s7) = s8 at ge ⊢
        refine q56 ge (by omega) q13 (by decide) fe (fun τf gf ff => ?_) (fun τ hb => by (repeat' (with_reducible first | exact bqe (by assumption) | refine bq56 (by assumption) ?_ | refine bq58 (by assumption) ?_ | refine bq59 (by assumption) ?_ | refine bq60 (by assumption) ?_ | refine bq61 (by assumption) ?_ | refine bq69 (by assumption) (by assumption) (fun _ _ => ?_) | refine bq70 (by assumption) (by assumption) (fun _ _ => ?_) | refine bqw (by assumption) (by assumption) (fun _ _ => ?_) | refine bqc (by assumption) ?_ | refine bqz (by assumption) ?_ | refine bqv ?_ | refine bqi ?_ ?_)))
        refine q60 gf hW q13 ff (fun τg y0 y1 gg _ fg => ?_) (fun τ f hb => by (repeat' (with_reducible first | exact bqe (by assumption) | refine bq56 (by assumption) ?_ | refine bq58 (by assumption) ?_ | refine bq59 (by assumption) ?_ | refine bq60 (by assumption) ?_ | refine bq61 (by assumption) ?_ | refine bq69 (by assumption) (by assumption) (fun _ _ => ?_) | refine bq70 (by assumption) (by assumption) (fun _ _ => ?_) | refine bqw (by assumption) (by assumption) (fun _ _ => ?_) | refine bqc (by assumption) ?_ | refine bqz (by assumption) ?_ | refine bqv ?_ | refine bqi ?_ ?_)))
        generalize (nxt T sz s8).2.2.2 = y at y0 y1 ⊢
        refine zwp_cd zo ?_
        refine qwr gg fg (by omega) n1 hq (by omega) (by omega) (fun τh gh fh _ => ?_)
        generalize nxt T sz (nxt T sz s8) = s9 at gh ⊢
        refine zwp_V _ (sp_70 gh fh hW n1 hq) ?_
        change ∀ τ, _ → zwp _ (fun v υ => v = none ∧ PC σ (rWay T sz W s9 fun nv vs s => okR s (uOr W (fO W r g x u f t y nv vs))) υ)
        rintro τi (⟨nv, vs, s10, V', hE2, c2, c3, gi, fi⟩ | ⟨f', p, hE2, hb⟩)
        · rw [hE2]
          refine zwp_cd zo ?_
          refine zwp_t (by decide) ?_
          refine qwr gi fi (by omega) n1 hq (by decide) (by decide) (fun τj gj fj _ => ?_)
          refine zwp_f gj.1.nz ?_
          have j7 := gj.1.2.2.2.2.2.1.2.2.2.2.2.2.2
          refine zwp_letE (τ' := zw τj 3 7 (W 5 + 1)) (by simp (disch := first | assumption | exact isR33 | exact isT104 | exact isF99 | exact isF101 | exact isR3 | omega | (refine isTk ?_; omega) | (refine isOk isR33 ?_; omega) | (refine isOk ?_ ?_; assumption; omega)) only [mm_r, mm_rl, mm_add, mm_sub, mm_mul, mm_addJ, mm_mulJ, mm_lt, mm_le, mm_eq, mm_z, mm_cl, mm_w, mm_wl, mm_ite, mm_i2l, mm_l2i, mm_ltJ, mm_leJ, mm_eqJ, mm_clt, mm_cle, mm_cgt, mm_cge, mm_ceq, mm_b, mm_nb, mm_nb0, mm_nb1, mm_vb0, mm_vb1, mm_vbc, mm_vy0, mm_vy1, mm_at, mm_ne, mm_nj, mm_Lw, mm_Nw, mm_atJ, mm_neJ, mm_njJ, zbI_s, zbV_s, zbJ_s, cond_t, Bool.true_and, Bool.and_true, if_true, if_false, not_true, not_false_iff, Classical.not_not, zel_r, zel_42, zel_12, zel_71, zel_80, zel_89, zel_110, zel_188, zel_103, zel_195, zr_o, zr_1, zr_2, zr_3, zr_4, zr_5, zr_6, zr_7, zr_8, zr_9, zq_o, zq_v, zt_o, zt_1, zt_2, zt_3, zt_4, zt_5, zf_o, zf_1, za_w1, za_w2, za_w3, za_cm, za_sl, Int.toNat_natCast, Int.toNat_natCast_add_one, mm_t0, mm_t1, mm_t2, mm_t3, mm_t4, mm_t5, mm_t6, mm_t7, mm_t8, mm_t9, mm_t10, mm_t11, mm_t12, mm_t13, za_1, za_64, za_65, za_66, za_67, za_68, za_71, za_80, za_89, za_98, za_103, za_110, za_121, za_122, za_123, za_124, za_125, za_126, za_188, za_193, za_194, za_195, za_286, za_288, za_289, za_290, za_291, za_292, za_293, za_294, za_295, za_296, za_297, za_298, za_299, za_300, za_301, za_302, za_303, za_304, za_305, za_306, za_307, za_308, za_309, za_310, za_311, za_312, j7]) ?_
          have fS : mf (fun b => b = 3) τj (zw τj 3 7 (W 5 + 1)) := mf.rf.zw _ _ _ rfl
          refine CR_ok gj.1 (fj.tr ⟨fS.mono (by omega), fS.1 2 (by decide) 2⟩) (fun k => fS.1 2 (by decide) k) ?_
          obtain ⟨⟨l0, l1', l2', l3, l4, l5, l6, l7⟩, lr, lf, lp, lo⟩ := gj.1.2.2.2.2.2
          have e5 : uOr W (fO W r g x u f t y nv vs) 5 = W 5 + 1 := if_pos rfl
          have e : ∀ i, i < 80 → i ≠ 5 → uOr W (fO W r g x u f t y nv vs) i = W i := fun i i0 i1 => uOr_ne i1 (by omega)
          have m3 : ∀ k, k ≠ 7 → zN (zw τj 3 7 (W 5 + 1)) 3 k = zN τj 3 k := fun k hb => mm_nj hb
          have w38 := hW.1.2.2.2.2
          refine ⟨⟨?_, ?_, ?_, ?_, ?_, ?_, ?_, ?_⟩, fun r r0 r1 => ?_, fun f f0 f1 => ?_, fun i i0 i1 => ?_, fun o o0 o1 => ?_⟩
          · rw [m3 0 (by decide), e 6 (by decide) (by decide)]; exact l0
          · rw [m3 1 (by decide), e 0 (by decide) (by decide)]; exact l1'
          · rw [m3 2 (by decide), e 1 (by decide) (by decide)]; exact l2'
          · rw [m3 3 (by decide), e 7 (by decide) (by decide)]; exact l3
          · rw [m3 4 (by decide), e 2 (by decide) (by decide)]; exact l4
          · rw [m3 5 (by decide), e 3 (by decide) (by decide)]; exact l5
          · rw [m3 6 (by decide), e 4 (by decide) (by decide)]; exact l6
          · rw [mm_at rfl rfl (by omega) (by omega), e5]
          · rw [e 2 (by decide) (by decide)] at r1
            rw [fS.1 _ (by omega), fS.1 _ (by omega), fS.1 _ (by omega), e (8 + 3 * r) (by omega) (by omega), e (8 + 3 * r + 1) (by omega) (by omega), e (8 + 3 * r + 2) (by omega) (by omega)]
            exact lr r r0 r1
          · rw [e 3 (by decide) (by decide)] at f1
            rw [fS.1 _ (by omega), fS.1 _ (by omega), fS.1 _ (by omega), e (44 + 3 * f) (by omega) (by omega), e (44 + 3 * f + 1) (by omega) (by omega), e (44 + 3 * f + 2) (by omega) (by omega)]
            exact lf f f0 f1
          · rw [e 4 (by decide) (by decide)] at i1
            rw [fS.1 _ (by omega), fS.1 _ (by omega), e (68 + 2 * i) (by omega) (by omega), e (68 + 2 * i + 1) (by omega) (by omega)]
            exact lp i i0 i1
          · rw [e5] at o1
            by_cases zo5 : o = W 5
            · subst zo5
              rw [show 3 + 10 + 2 * (W 5).toNat = q by omega]
              have k : ∀ k, 0 ≤ k → k < 14 → oo (uOr W (fO W r g x u f t y nv vs)) (W 5) k = fO W r g x u f t y nv vs k := fun k k0 k1 => oo_uOr (by omega) k0 k1
              have hm : ∀ k, zN (zw τj 3 7 (W 5 + 1)) q k = lU (lU (lU (lU (lU (lU (lU (lU (lU L0 0 r) 1 g) 2 x) 3 u) 4 f) 5 t) 6 y) 7 nv) 9 0 k := fun k => (fS.1 q (by omega) k).trans (gj.2.1 k)
              unfold cO
              rw [k 0 (by decide) (by decide), k 1 (by decide) (by decide), k 2 (by decide) (by decide), k 3 (by decide) (by decide), k 4 (by decide) (by decide), k 5 (by decide) (by decide), k 6 (by decide) (by decide), k 7 (by decide) (by decide), k 11 (by decide) (by decide), hm, hm, hm, hm, hm, hm, hm, hm, hm]
              refine ⟨rfl, rfl, rfl, rfl, rfl, rfl, rfl, rfl, fun v v0 v1 => ?_, rfl, fun p => absurd rfl p⟩
              have v1 : v < (nv : Int) := v1
              rw [fS.1 (q + 1) (by omega), gj.2.2, k (8 + v) (by omega) (by omega)]
              have := c3 v.toNat (by omega)
              rw [this.1, show ((v.toNat : Nat) : Int) = v by omega]
              unfold fO
              rw [if_neg (by omega), if_neg (by omega), if_neg (by omega), if_neg (by omega), if_neg (by omega), if_neg (by omega), if_neg (by omega), if_neg (by omega), if_pos (by omega), show 8 + v - 8 = v by omega]
            · exact (cO_c (W := W) (W' := uOr W (fO W r g x u f t y nv vs)) (fun k k0 k1 => uOr_ne (by omega) (by omega)) (hW.2.2.2.2 o o0 (by omega)).1.2.2.2.2.2.1 (lo o o0 (by omega))).fr (fun k => fS.1 _ (by omega) k) (fun k => fS.1 _ (by omega) k)
        · rw [hE2]
          change CR σ _ _
          (repeat' (with_reducible first | exact bqe (by assumption) | refine bq56 (by assumption) ?_ | refine bq58 (by assumption) ?_ | refine bq59 (by assumption) ?_ | refine bq60 (by assumption) ?_ | refine bq61 (by assumption) ?_ | refine bq69 (by assumption) (by assumption) (fun _ _ => ?_) | refine bq70 (by assumption) (by assumption) (fun _ _ => ?_) | refine bqw (by assumption) (by assumption) (fun _ _ => ?_) | refine bqc (by assumption) ?_ | refine bqz (by assumption) ?_ | refine bqv ?_ | refine bqi ?_ ?_))
    · rw [hE]
      change CR σ _ _
      (repeat' (with_reducible first | exact bqe (by assumption) | refine bq56 (by assumption) ?_ | refine bq58 (by assumption) ?_ | refine bq59 (by assumption) ?_ | refine bq60 (by assumption) ?_ | refine bq61 (by assumption) ?_ | refine bq69 (by assumption) (by assumption) (fun _ _ => ?_) | refine bq70 (by assumption) (by assumption) (fun _ _ => ?_) | refine bqw (by assumption) (by assumption) (fun _ _ => ?_) | refine bqc (by assumption) ?_ | refine bqz (by assumption) ?_ | refine bqv ?_ | refine bqi ?_ ?_))
  · refine zwp_f (by rw [mm_r, mm_z, mm_eq (mm_lo _ _ _) (mm_hi _ _ _) (by decide) (by decide)]; exact hb.n) ?_
    exact CR_bad hf hb
