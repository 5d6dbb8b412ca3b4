/-! THE TEXT: the class reads an order -/
def uOr (W F : Int → Int) : Int → Int := fun i => if i = 5 then W 5 + 1 else if 80 + 14 * W 5 ≤ i ∧ i < 80 + 14 * W 5 + 14 then F (i - (80 + 14 * W 5)) else W i
def fO (W : Int → Int) (r g x u f t h nv : Int) (vs : Int → Int) : Int → Int := fun k => if k = 0 then r else if k = 1 then g else if k = 2 then x else if k = 3 then u else if k = 4 then f else if k = 5 then t else if k = 6 then h else if k = 7 then nv else if k ≤ 10 then vs (k - 8) else if k = 11 then -1 else W (80 + 14 * W 5 + k)
def vU (vs : Int → Int) (i t : Int) : Int → Int := fun j => if j = i then t else vs j
def vs0 (W : Int → Int) : Int → Int := fun j => W (80 + 14 * W 5 + 8 + j)
def rvia (T : Int → Int) (sz w0 : Int) : Nat → Int → (Int → Int) → tk → (Int → (Int → Int) → tk → rdZ) → rdZ
  | 0, i, vs, s, K => K i vs s
  | k + 1, i, vs, s, K => nm T sz 0 (w0 - 1) s fun t s' => if s'.1 = 2 then rvia T sz w0 k (i + 1) (vU vs i t) s' K else K (i + 1) (vU vs i t) s'
noncomputable def wif (T : Int → Int) (sz : Int) (a : Nat) (s : tk) (K : tk → rdZ) (R : rdZ) : rdZ := @ite _ (isW T a s) (Classical.propDecidable _) (K (nxt T sz s)) R
theorem wif_y {T : Int → Int} {sz : Int} {a : Nat} {s : tk} {K : tk → rdZ} {R : rdZ} (h : isW T a s) : wif T sz a s K R = K (nxt T sz s) := if_pos h
theorem wif_n {T : Int → Int} {sz : Int} {a : Nat} {s : tk} {K : tk → rdZ} {R : rdZ} (h : ¬ isW T a s) : wif T sz a s K R = R := if_neg h
noncomputable def rMean (T : Int → Int) (sz w5 : Int) (s : tk) (K : Int → Int → tk → rdZ) : rdZ := wif T sz 1000014 s (fun s => nm T sz 0 (w5 - 1) s fun u s => K (-1) u s) (wd T sz 1000015 s fun s => nm T sz 0 9 s fun x s => K x (-1) s)
noncomputable def rOrder (T : Int → Int) (sz : Int) (s : tk) (W : Int → Int) : rdZ := if 10 ≤ W 5 then er 3 s.2.1 else wd T sz 1000003 (nxt T sz s) fun s => nm T sz 0 (W 4 - 1) s fun r s => wd T sz 1000012 s fun s => nm T sz 0 2 s fun g s => rMean T sz (W 5) s fun x u s => wd T sz 1000009 s fun s => nm T sz 0 (W 0 - 1) s fun f s => wd T sz 1000008 s fun s1 => nm T sz 0 (W 0 - 1) s1 fun t s => if f = t then er 2 s1.2.1 else wd T sz 1000013 s fun s => nm T sz 0 (W 1 - 1) s fun h s => wif T sz 1000016 s (fun s => rvia T sz (W 0) 3 0 (vs0 W) s fun nv vs s => okR s (uOr W (fO W r g x u f t h nv vs))) (okR s (uOr W (fO W r g x u f t h 0 (vs0 W))))
/-! tails behind a fault -/
def bdQ (σ0 τ : zM) (f p : Int) : Prop := (zN τ 2 8 = f ∧ f ≠ 0 ∧ zN τ 2 9 = p) ∧ rdF σ0 τ ∧ ∃ T sz s, gT τ T sz s
def isQ (q : Nat) : Prop := isOrd q ∧ 13 ≤ q ∧ q < 32
theorem bdC.q {σ0 τ : zM} {f p : Int} {W : Int → Int} (h : bdC τ f p W) (hf : rdF σ0 τ) : bdQ σ0 τ f p := ⟨⟨h.1, h.2.1, h.2.2.1⟩, hf, h.2.2.2.2⟩
theorem bdQ.n {σ0 σ : zM} {f p : Int} (h : bdQ σ0 σ f p) : zN σ 2 8 ≠ 0 := by rw [h.1.1]; exact h.1.2.1
theorem bdQ.w {σ0 τ υ : zM} {f p : Int} {q : Nat} (h : bdQ σ0 τ f p) (hq : isQ q) (hm : mf (fun b => b = q ∨ b = q + 1) τ υ) : bdQ σ0 υ f p := by
  obtain ⟨h1, h2, T, sz, s, t1, t2, ⟨t3, t4, t5, t6⟩, t7⟩ := h
  have n2 : ∀ k, zN υ 2 k = zN τ 2 k := hm.1 2 (by have := hq.2; omega)
  have n1 : ∀ k, zN υ 1 k = zN τ 1 k := hm.1 1 (by have := hq.2; omega)
  exact ⟨⟨(n2 8).trans h1.1, h1.2.1, (n2 9).trans h1.2.2⟩, h2.tr ⟨hm.mono (by have := hq.2; omega), n2 2⟩, T, sz, s, t1.fr n1, (n2 2).trans t2, ⟨(n2 3).trans t3, (n2 4).trans t4, (n2 5).trans t5, fun p => (n2 6).trans (t6 p)⟩, t7⟩
theorem zsI_m (σ : zM) (q j : Nat) (v : Int32) {S : Nat → Prop} (h : S q) : mf S σ (zsI σ q j v) := by
  obtain ⟨x, -, -, rfl⟩ := mm_ex v
  exact mf.rf.zw q j x h
theorem bqe {σ0 τ : zM} {f p : Int} (h : bdQ σ0 τ f p) : CR σ0 (some (none, τ)) (er f p) := zwp_ret ⟨rfl, h.2.1, fun _ => ⟨h.1.1, h.1.2.2⟩, fun e => absurd e h.1.2.1⟩
theorem bq56 {σ0 τ : zM} {f p : Int} {a : Nat} {k : zM → Option zR} (h : bdQ σ0 τ f p) (hk : CR σ0 (k τ) (er f p)) : CR σ0 (zbV (zcall 56 [.ref 2, .ref a] τ) k) (er f p) := by
  rw [bd_56 h.n, zbV_s]
  exact hk
theorem bq58 {σ0 τ : zM} {f p : Int} {x y : Int32} {k : Int32 → zM → Option zR} (h : bdQ σ0 τ f p) (hk : CR σ0 (k (Int32.ofInt (-1)) τ) (er f p)) : CR σ0 (zbI (zcall 58 [.ref 2, .int x, .int y] τ) k) (er f p) := by
  rw [bd_58 h.n, zbI_s]
  exact hk
theorem bq59 {σ0 τ : zM} {f p : Int} {k : Int32 → zM → Option zR} (h : bdQ σ0 τ f p) (hk : CR σ0 (k (Int32.ofInt (-1)) τ) (er f p)) : CR σ0 (zbI (zcall 59 [.ref 2] τ) k) (er f p) := by
  rw [bd_59 h.n, zbI_s]
  exact hk
theorem bq60 {σ0 τ : zM} {f p : Int} {k : Int32 → zM → Option zR} (h : bdQ σ0 τ f p) (hk : CR σ0 (k (Int32.ofInt (-1)) τ) (er f p)) : CR σ0 (zbI (zcall 60 [.ref 2] τ) k) (er f p) := by
  rw [bd_60 h.n, zbI_s]
  exact hk
theorem bq61 {σ0 τ : zM} {f p : Int} {x : Int32} {k : zM → Option zR} (h : bdQ σ0 τ f p) (hk : CR σ0 (k τ) (er f p)) : CR σ0 (zbV (zcall 61 [.ref 2, .int x] τ) k) (er f p) := by
  rw [bd_61 h.n, zbV_s]
  exact hk
theorem bqw {σ0 τ : zM} {f p : Int} {q j : Nat} {v : Int32} {k : zM → Option zR} (h : bdQ σ0 τ f p) (hq : isQ q) (hk : ∀ υ, bdQ σ0 υ f p → CR σ0 (k υ) (er f p)) : CR σ0 (zlet (zsI τ q j v) k) (er f p) := hk _ (h.w hq (zsI_m τ q j v (.inl rfl)))
theorem bqc {σ0 : zM} {f p : Int} {q : Nat} {A : Option zR} (hq : isQ q) (hk : CR σ0 A (er f p)) : CR σ0 (cond (zobj q 3) A none) (er f p) := by
  rw [zq_o hq.1]
  exact hk
theorem bqz {σ0 τ : zM} {f p : Int} {A B : Option zR} (h : bdQ σ0 τ f p) (hk : CR σ0 A (er f p)) : CR σ0 (if ¬ (zI τ 2 8) = 0 then A else B) (er f p) := zwp_t (bd_z h.n) hk
theorem bqv {σ0 : zM} {f p : Int} {A : Option zR} (hk : CR σ0 A (er f p)) : CR σ0 (if vp_nar .boolean (Int32.ofInt 0) = Int32.ofInt 0 then A else none) (er f p) := zwp_t (by decide) hk
theorem bqi {σ0 : zM} {c : Prop} [Decidable c] {R : rdZ} {A B : Option zR} (h1 : CR σ0 A R) (h2 : CR σ0 B R) : CR σ0 (if c then A else B) R := by
  split
  · exact h1
  · exact h2
theorem bqV {σ0 τ : zM} {f p : Int} {q : Nat} {o : Option zR} {k : zM → Option zR} (h : bdQ σ0 τ f p) (hq : isQ q) (ho : zwp o (fun v υ => v = none ∧ mf (fun b => b = q ∨ b = q + 1) τ υ)) (hk : ∀ υ, bdQ σ0 υ f p → CR σ0 (k υ) (er f p)) : CR σ0 (zbV o k) (er f p) := zwp_V _ ho (fun υ hm => hk υ (h.w hq hm))
theorem bq69 {σ0 τ : zM} {f p : Int} {q : Nat} {k : zM → Option zR} (h : bdQ σ0 τ f p) (hq : isQ q) (hk : ∀ υ, bdQ σ0 υ f p → CR σ0 (k υ) (er f p)) : CR σ0 (zbV (zcall 69 [.ref 2, .ref q] τ) k) (er f p) := by
  refine bqV h hq ?_ hk
  have zo := zq_o hq.1
  refine zwp_of (fun r h => zcc_69 (ze_69_0 _ _ r h)) ?_
  refine zwp_cd zo (zwp_let (zwp_cd zo (zwp_let ?_)))
  have m1 : mf (fun b => b = q ∨ b = q + 1) τ (zsI (zsI τ q 2 (Int32.ofInt (-1))) q 3 (Int32.ofInt (-1))) := (zsI_m τ q 2 _ (.inl rfl)).tr (zsI_m _ q 3 _ (.inl rfl))
  have h1 := h.w hq m1
  generalize zsI (zsI τ q 2 (Int32.ofInt (-1))) q 3 (Int32.ofInt (-1)) = τ1 at m1 h1 ⊢
  obtain ⟨T, sz, s, ht⟩ := h1.2.2
  obtain ⟨b, hb, e⟩ := sp_55 (a := 1000014) ht (by decide)
  rw [e, zbI_s, bd_56 h1.n, zbV_s, bd_58 h1.n, zbI_s, bd_56 h1.n, zbV_s, bd_58 h1.n, zbI_s, zo, cond_t, cond_t]
  have m2 : ∀ j v, mf (fun b => b = q ∨ b = q + 1) τ (zsI τ1 q j v) := fun j v => m1.tr (zsI_m τ1 q j v (.inl rfl))
  refine zwp_ite (fun _ => ?_) (fun _ => ?_)
  · exact zwp_let (zwp_ret ⟨rfl, m2 _ _⟩)
  · exact zwp_let (zwp_ret ⟨rfl, m2 _ _⟩)
theorem bq70 {σ0 τ : zM} {f p : Int} {q : Nat} {k : zM → Option zR} (h : bdQ σ0 τ f p) (hq : isQ q) (hk : ∀ υ, bdQ σ0 υ f p → CR σ0 (k υ) (er f p)) : CR σ0 (zbV (zcall 70 [.ref 2, .ref q] τ) k) (er f p) := by
  refine bqV h hq ?_ hk
  have zo := zq_o hq.1
  refine zwp_of (fun r h => zcc_70 (ze_70_0 _ _ r h)) ?_
  refine zwp_cd zo (zwp_let ?_)
  have m1 : mf (fun b => b = q ∨ b = q + 1) τ (zsI τ q 7 (Int32.ofInt 0)) := zsI_m τ q 7 _ (.inl rfl)
  have h1 := h.w hq m1
  generalize zsI τ q 7 (Int32.ofInt 0) = τ1 at m1 h1 ⊢
  obtain ⟨T, sz, s, ht⟩ := h1.2.2
  obtain ⟨b, hb, e⟩ := sp_55 (a := 1000016) ht (by decide)
  rw [e, zbI_s, bd_56 h1.n, zbV_s]
  refine zwp_ite (fun _ => ?_) (fun _ => zwp_ret ⟨rfl, m1⟩)
  refine zwp_of (fun r h => ze_70_23 _ _ _ r h) ?_
  refine zwp_f (by decide) (zwp_t (bd_z h1.n) (zwp_ret ⟨rfl, m1⟩))
/-! the order's row while it is read -/
def gQ (σ : zM) (T : Int → Int) (sz : Int) (s : tk) (W : Int → Int) (q : Nat) (L V : Nat → Int) : Prop := gC σ T sz s W ∧ (∀ k, zN σ q k = L k) ∧ ∀ k, zN σ (q + 1) k = V k
def lU (L : Nat → Int) (j : Nat) (v : Int) : Nat → Int := fun k => if k = j then v else L k
theorem gC.q {σ τ : zM} {T : Int → Int} {sz : Int} {s : tk} {W : Int → Int} {q : Nat} (h : gC σ T sz s W) (h50 : 0 ≤ W 5) (h5 : W 5 < 10) (hq : q = 13 + 2 * (W 5).toNat) (hm : mf (fun b => b = q ∨ b = q + 1) σ τ) : gC τ T sz s W := by
  have n2 : ∀ k, zN τ 2 k = zN σ 2 k := hm.1 2 (by omega)
  obtain ⟨h1, h2, h3, ⟨t3, t4, t5, t6⟩, h5', ⟨l1, l2, l3, l4, l5⟩⟩ := h
  have n : ∀ b, b ≠ q → b ≠ q + 1 → ∀ k, zN τ b k = zN σ b k := fun b b1 b2 => hm.1 b (by omega)
  refine ⟨h1.fr (n 1 (by omega) (by omega)), (n2 2).trans h2, ⟨(n2 8).trans h3.1, (n2 9).trans h3.2⟩, ⟨(n2 3).trans t3, (n2 4).trans t4, (n2 5).trans t5, fun p => (n2 6).trans (t6 p)⟩, h5', ?_, fun r r0 r1 => ?_, fun f f0 f1 => ?_, fun i i0 i1 => ?_, fun o o0 o1 => (l5 o o0 o1).fr (n _ (by omega) (by omega)) (n _ (by omega) (by omega))⟩
  · have n3 := n 3 (by omega) (by omega)
    rw [n3, n3, n3, n3, n3, n3, n3, n3]
    exact l1
  · rw [n _ (by omega) (by omega), n _ (by omega) (by omega), n _ (by omega) (by omega)]
    exact l2 r r0 r1
  · rw [n _ (by omega) (by omega), n _ (by omega) (by omega), n _ (by omega) (by omega)]
    exact l3 f f0 f1
  · rw [n _ (by omega) (by omega), n _ (by omega) (by omega)]
    exact l4 i i0 i1
theorem gQ.sc {σ τ : zM} {T : Int → Int} {sz : Int} {s s' : tk} {W : Int → Int} {q : Nat} {L V : Nat → Int} (h : gQ σ T sz s W q L V) (hg : gC τ T sz s' W) (hm : mf (fun b => b = 2) σ τ) (hq : 13 ≤ q) : gQ τ T sz s' W q L V := ⟨hg, fun k => (hm.1 q (by omega) k).trans (h.2.1 k), fun k => (hm.1 (q + 1) (by omega) k).trans (h.2.2 k)⟩
/-- a write into the row -/
theorem qwr {σ0 σ : zM} {T : Int → Int} {sz v : Int} {s : tk} {W : Int → Int} {q j : Nat} {L V : Nat → Int} {k : zM → Option zR} {R : rdZ} (h : gQ σ T sz s W q L V) (hf : rdF σ0 σ) (h50 : 0 ≤ W 5) (h5 : W 5 < 10) (hq : q = 13 + 2 * (W 5).toNat) (v0 : -2147483648 ≤ v) (v1 : v < 2147483648) (hk : ∀ τ, gQ τ T sz s W q (lU L j v) V → rdF σ0 τ → mf (fun b => b = q ∨ b = q + 1) σ τ → CR σ0 (k τ) R) : CR σ0 (zlet (zsI σ q j (Int32.ofInt v)) k) R := by
  have hm : mf (fun b => b = q ∨ b = q + 1) σ (zw σ q j v) := mf.rf.zw _ _ _ (.inl rfl)
  refine hk (zw σ q j v) ⟨h.1.q h50 h5 hq hm, fun i => ?_, fun i => (mm_ne (by omega)).trans (h.2.2 i)⟩ (hf.tr ⟨hm.mono (by omega), hm.1 2 (by omega) 2⟩) hm
  show _ = if i = j then v else L i
  by_cases z : i = j
  · rw [if_pos z, mm_at rfl z v0 v1]
  · rw [if_neg z, mm_nj z]
    exact h.2.1 i
theorem zoQ {W : Int → Int} {q : Nat} (h50 : 0 ≤ W 5) (h5 : W 5 < 10) (hq : q = 13 + 2 * (W 5).toNat) : isQ q := by
  refine ⟨?_, by omega, by omega⟩
  have := isOk (p := 3) (k := (W 5).toNat) isR3 (by omega)
  rw [show 3 + 10 + 2 * (W 5).toNat = q by omega] at this
  exact this
/-- a word taken, or not -/
theorem o56 {σ : zM} {T : Int → Int} {sz : Int} {s : tk} {W : Int → Int} {a : Nat} (h : gC σ T sz s W) (h5 : W 5 ≤ 10) (ha : 1000000 ≤ a ∧ a < 1000019) : zwp (zcall 56 [.ref 2, .ref a] σ) (fun v τ => v = none ∧ (isW T a s ∧ gC τ T sz (nxt T sz s) W ∧ scF σ τ ∨ ¬ isW T a s ∧ bdC τ 1 s.2.1 W ∧ rdF σ τ)) := by
  obtain ⟨b, hb, e⟩ := sp_55 h.t ha
  have h3 := h.2.2.1.1
  have hs := h.1.1
  obtain ⟨o1, o2, o3, o4, o5⟩ := h.2.2.2.2.1
  have h4 := h.2.2.2.1.2.1
  rcases hb with ⟨rfl, hb⟩ | ⟨rfl, hb⟩
  · refine zwp_of (fun r h => zcc_56 (ze_56_0 _ _ r h)) ?_
    refine zwp_t (by rw [mm_r, h3]; rfl) ?_
    rw [e, zbI_s]
    refine zwp_t (by decide) ?_
    refine zwp_V _ (h.scan h5) ?_
    rintro τ ⟨g1, g2⟩
    exact zwp_ret ⟨rfl, .inl ⟨hb, g2, g1⟩⟩
  · have hbd := h.bad (f := 1) (p := s.2.1) h5 (by decide) (by decide) (by decide) (by omega) (by omega)
    refine zwp_of (fun r h => zcc_56 (ze_56_0 _ _ r h)) ?_
    refine zwp_t (by rw [mm_r, h3]; rfl) ?_
    rw [e, zbI_s]
    refine zwp_f (by decide) ?_
    rw [mm_r, h4, sp_54 h3, zbV_s]
    exact zwp_ret ⟨rfl, .inr ⟨hb, hbd.1, hbd.2⟩⟩
/-- a number taken, or not -/
theorem o58 {σ : zM} {T : Int → Int} {sz lo hi : Int} {s : tk} {W : Int → Int} (h : gC σ T sz s W) (h5 : W 5 ≤ 10) (l0 : 0 ≤ lo) (l1 : lo ≤ 1000) (i0 : -1 ≤ hi) (i1 : hi ≤ 1000) : zwp (zcall 58 [.ref 2, .int (Int32.ofInt lo), .int (Int32.ofInt hi)] σ) (fun v τ => mf (fun b => b = 2) σ τ ∧ rdF σ τ ∧ (v = some (.int (Int32.ofInt s.2.2.2)) ∧ s.1 = 2 ∧ lo ≤ s.2.2.2 ∧ s.2.2.2 ≤ hi ∧ gC τ T sz (nxt T sz s) W ∨ v = some (.int (Int32.ofInt (-1))) ∧ ∃ f, (∀ K, nm T sz lo hi s K = er f s.2.1) ∧ bdC τ f s.2.1 W)) := by
  have h3 := h.2.2.1.1
  have hs := h.1.1
  obtain ⟨o1, o2, o3, o4, o5⟩ := h.2.2.2.2.1
  obtain ⟨h4, h41, h42, h43⟩ := h.2.2.2.1
  have m6 := mi6_rng o5
  have hmz : ∀ f, mf (fun b => b = 2) σ (zw (zw σ 2 8 f) 2 9 s.2.1) := fun f => ((mf.rf (S := fun b => b = 2)).zw 2 _ _ rfl).zw 2 _ _ rfl
  have hbd : ∀ f, f ≠ 0 → -2147483648 ≤ f → f < 2147483648 → bdC (zw (zw σ 2 8 f) 2 9 s.2.1) f s.2.1 W ∧ rdF σ (zw (zw σ 2 8 f) 2 9 s.2.1) := fun f f0 f1 f2 => h.bad (f := f) (p := s.2.1) h5 f0 f1 f2 (by omega) (by omega)
  by_cases q : s.1 = 2
  · by_cases q2 : lo ≤ s.2.2.2 ∧ s.2.2.2 ≤ hi
    · have e6 : mi6 s.2.2.2 = s.2.2.2 := if_pos (by omega)
      refine zwp_of (fun r h => zcc_58 (ze_58_0 _ _ _ r h)) ?_
      refine zwp_t (by rw [mm_r, h3]; rfl) ?_
      refine zwp_t (by rw [mm_r, h4, q]) ?_
      rw [mm_r σ 2 6, h43 q, e6]
      refine zwp_f (by rw [mm_lt (by omega) (by omega) (by omega) (by omega)]; omega) ?_
      refine zwp_t (by rw [mm_le (by omega) (by omega) (by omega) (by omega)]; omega) ?_
      rw [mm_r σ 2 4, h41]
      refine zwp_letE (τ' := zw σ 2 7 s.2.1) (by simp (disch := first | assumption | exact isR33 | exact isT104 | exact isF99 | exact isF101 | exact isR3 | omega | (refine isTk ?_; omega) | (refine isOk isR33 ?_; omega) | (refine isOk ?_ ?_; assumption; omega)) only [mm_r, mm_rl, mm_add, mm_sub, mm_mul, mm_addJ, mm_mulJ, mm_lt, mm_le, mm_eq, mm_z, mm_cl, mm_w, mm_wl, mm_ite, mm_i2l, mm_l2i, mm_ltJ, mm_leJ, mm_eqJ, mm_clt, mm_cle, mm_cgt, mm_cge, mm_ceq, mm_b, mm_nb, mm_nb0, mm_nb1, mm_vb0, mm_vb1, mm_vbc, mm_vy0, mm_vy1, mm_at, mm_ne, mm_nj, mm_Lw, mm_Nw, mm_atJ, mm_neJ, mm_njJ, zbI_s, zbV_s, zbJ_s, cond_t, Bool.true_and, Bool.and_true, if_true, if_false, not_true, not_false_iff, Classical.not_not, zel_r, zel_42, zel_12, zel_71, zel_80, zel_89, zel_110, zel_188, zel_103, zel_195, zr_o, zr_1, zr_2, zr_3, zr_4, zr_5, zr_6, zr_7, zr_8, zr_9, zq_o, zq_v, zt_o, zt_1, zt_2, zt_3, zt_4, zt_5, zf_o, zf_1, za_w1, za_w2, za_w3, za_cm, za_sl, Int.toNat_natCast, Int.toNat_natCast_add_one, mm_t0, mm_t1, mm_t2, mm_t3, mm_t4, mm_t5, mm_t6, mm_t7, mm_t8, mm_t9, mm_t10, mm_t11, mm_t12, mm_t13, za_1, za_64, za_65, za_66, za_67, za_68, za_71, za_80, za_89, za_98, za_103, za_110, za_121, za_122, za_123, za_124, za_125, za_126, za_188, za_193, za_194, za_195, za_286, za_288, za_289, za_290, za_291, za_292, za_293, za_294, za_295, za_296, za_297, za_298, za_299, za_300, za_301, za_302, za_303, za_304, za_305, za_306, za_307, za_308, za_309, za_310, za_311, za_312]) ?_
      have hG : gC (zw σ 2 7 s.2.1) T sz s W := ⟨h.1.fr fun k => mm_ne (by decide), (mm_nj (by decide)).trans h.2.1, ⟨(mm_nj (by decide)).trans h3, (mm_nj (by decide)).trans h.2.2.1.2⟩, ⟨(mm_nj (by decide)).trans h4, (mm_nj (by decide)).trans h41, (mm_nj (by decide)).trans h42, fun p => (mm_nj (by decide)).trans (h43 p)⟩, h.2.2.2.2.1, h.2.2.2.2.2.fr h5 fun a a0 a1 k => mm_ne (by omega)⟩
      refine zwp_V _ (hG.scan h5) ?_
      rintro τ ⟨g1, g2⟩
      have hm : mf (fun b => b = 2) σ τ := ((mf.rf (S := fun b => b = 2)).zw 2 _ _ rfl).tr g1.1
      exact zwp_ret ⟨hm, ⟨hm.mono (by omega), (g1.2 2 (by omega)).trans (mm_nj (by decide))⟩, .inl ⟨rfl, q, q2.1, q2.2, g2⟩⟩
    · have hb2 := hbd 2 (by decide) (by decide) (by decide)
      have en : ∀ K, nm T sz lo hi s K = er 2 s.2.1 := fun K => by
        unfold nm
        rw [if_pos q, if_neg q2]
      refine zwp_of (fun r h => zcc_58 (ze_58_0 _ _ _ r h)) ?_
      refine zwp_t (by rw [mm_r, h3]; rfl) ?_
      refine zwp_t (by rw [mm_r, h4, q]) ?_
      rw [mm_r σ 2 6, h43 q, mm_r σ 2 4, h41, sp_54 h3]
      by_cases q3 : mi6 s.2.2.2 < lo
      · refine zwp_t (by rw [mm_lt (by omega) (by omega) (by omega) (by omega)]; omega) ?_
        rw [zbV_s]
        exact zwp_ret ⟨hmz 2, hb2.2, .inr ⟨rfl, 2, en, hb2.1⟩⟩
      · refine zwp_f (by rw [mm_lt (by omega) (by omega) (by omega) (by omega)]; omega) ?_
        refine zwp_f (by
          rw [mm_le (by omega) (by omega) (by omega) (by omega)]
          unfold mi6 at q3 ⊢
          split at q3
          · next z => rw [if_pos z]; omega
          · next z => rw [if_neg z]; omega) ?_
        rw [zbV_s]
        exact zwp_ret ⟨hmz 2, hb2.2, .inr ⟨rfl, 2, en, hb2.1⟩⟩
  · have hb1 := hbd 1 (by decide) (by decide) (by decide)
    have en : ∀ K, nm T sz lo hi s K = er 1 s.2.1 := fun K => by
      unfold nm
      rw [if_neg q]
    refine zwp_of (fun r h => zcc_58 (ze_58_0 _ _ _ r h)) ?_
    refine zwp_t (by rw [mm_r, h3]; rfl) ?_
    refine zwp_f (by rw [mm_r, h4, mm_eq (by omega) (by omega) (by decide) (by decide)]; exact q) ?_
    rw [mm_r σ 2 4, h41, sp_54 h3, zbV_s]
    exact zwp_ret ⟨hmz 1, hb1.2, .inr ⟨rfl, 1, en, hb1.1⟩⟩
theorem zwp_IC {o : Option zR} {k : Int32 → zM → Option zR} {P : Option Value → zM → Prop} {Q : Option Value → zM → Prop} (h : zwp o P) (h2 : ∀ v τ, P v τ → ∃ x, v = some (.int x) ∧ zwp (k x τ) Q) : zwp (zbI o k) Q := by
  obtain ⟨v, τ, h1, h3⟩ := h
  obtain ⟨x, rfl, h4⟩ := h2 v τ h3
  rw [h1]
  exact h4
/-- saying or undoing -/
theorem sp_69 {σ0 σ : zM} {T : Int → Int} {sz : Int} {s : tk} {W : Int → Int} {q : Nat} {L V : Nat → Int} (h : gQ σ T sz s W q L V) (hf : rdF σ0 σ) (h50 : 0 ≤ W 5) (h5 : W 5 < 10) (hq : q = 13 + 2 * (W 5).toNat) : zwp (zcall 69 [.ref 2, .ref q] σ) (fun v τ => v = none ∧ ((∃ x u s', (∀ K, rMean T sz (W 5) s K = K x u s') ∧ (u = -1 ∧ 0 ≤ x ∧ x ≤ 9 ∨ x = -1 ∧ 0 ≤ u ∧ u < W 5) ∧ gQ τ T sz s' W q (lU (lU L 2 x) 3 u) V ∧ rdF σ0 τ) ∨ ∃ f p, (∀ K, rMean T sz (W 5) s K = er f p) ∧ bdQ σ0 τ f p)) := by
  have hQ := zoQ h50 h5 hq
  have zo := zq_o hQ.1
  refine zwp_of (fun r h => zcc_69 (ze_69_0 _ _ r h)) ?_
  refine zwp_cd zo ?_
  refine zwp_letE (τ' := zw σ q 2 (-1)) (by simp (disch := first | assumption | exact isR33 | exact isT104 | exact isF99 | exact isF101 | exact isR3 | omega | (refine isTk ?_; omega) | (refine isOk isR33 ?_; omega) | (refine isOk ?_ ?_; assumption; omega)) only [mm_r, mm_rl, mm_add, mm_sub, mm_mul, mm_addJ, mm_mulJ, mm_lt, mm_le, mm_eq, mm_z, mm_cl, mm_w, mm_wl, mm_ite, mm_i2l, mm_l2i, mm_ltJ, mm_leJ, mm_eqJ, mm_clt, mm_cle, mm_cgt, mm_cge, mm_ceq, mm_b, mm_nb, mm_nb0, mm_nb1, mm_vb0, mm_vb1, mm_vbc, mm_vy0, mm_vy1, mm_at, mm_ne, mm_nj, mm_Lw, mm_Nw, mm_atJ, mm_neJ, mm_njJ, zbI_s, zbV_s, zbJ_s, cond_t, Bool.true_and, Bool.and_true, if_true, if_false, not_true, not_false_iff, Classical.not_not, zel_r, zel_42, zel_12, zel_71, zel_80, zel_89, zel_110, zel_188, zel_103, zel_195, zr_o, zr_1, zr_2, zr_3, zr_4, zr_5, zr_6, zr_7, zr_8, zr_9, zq_o, zq_v, zt_o, zt_1, zt_2, zt_3, zt_4, zt_5, zf_o, zf_1, za_w1, za_w2, za_w3, za_cm, za_sl, Int.toNat_natCast, Int.toNat_natCast_add_one, mm_t0, mm_t1, mm_t2, mm_t3, mm_t4, mm_t5, mm_t6, mm_t7, mm_t8, mm_t9, mm_t10, mm_t11, mm_t12, mm_t13, za_1, za_64, za_65, za_66, za_67, za_68, za_71, za_80, za_89, za_98, za_103, za_110, za_121, za_122, za_123, za_124, za_125, za_126, za_188, za_193, za_194, za_195, za_286, za_288, za_289, za_290, za_291, za_292, za_293, za_294, za_295, za_296, za_297, za_298, za_299, za_300, za_301, za_302, za_303, za_304, za_305, za_306, za_307, za_308, za_309, za_310, za_311, za_312]) ?_
  refine zwp_cd zo ?_
  refine zwp_letE (τ' := zw (zw σ q 2 (-1)) q 3 (-1)) (by simp (disch := first | assumption | exact isR33 | exact isT104 | exact isF99 | exact isF101 | exact isR3 | omega | (refine isTk ?_; omega) | (refine isOk isR33 ?_; omega) | (refine isOk ?_ ?_; assumption; omega)) only [mm_r, mm_rl, mm_add, mm_sub, mm_mul, mm_addJ, mm_mulJ, mm_lt, mm_le, mm_eq, mm_z, mm_cl, mm_w, mm_wl, mm_ite, mm_i2l, mm_l2i, mm_ltJ, mm_leJ, mm_eqJ, mm_clt, mm_cle, mm_cgt, mm_cge, mm_ceq, mm_b, mm_nb, mm_nb0, mm_nb1, mm_vb0, mm_vb1, mm_vbc, mm_vy0, mm_vy1, mm_at, mm_ne, mm_nj, mm_Lw, mm_Nw, mm_atJ, mm_neJ, mm_njJ, zbI_s, zbV_s, zbJ_s, cond_t, Bool.true_and, Bool.and_true, if_true, if_false, not_true, not_false_iff, Classical.not_not, zel_r, zel_42, zel_12, zel_71, zel_80, zel_89, zel_110, zel_188, zel_103, zel_195, zr_o, zr_1, zr_2, zr_3, zr_4, zr_5, zr_6, zr_7, zr_8, zr_9, zq_o, zq_v, zt_o, zt_1, zt_2, zt_3, zt_4, zt_5, zf_o, zf_1, za_w1, za_w2, za_w3, za_cm, za_sl, Int.toNat_natCast, Int.toNat_natCast_add_one, mm_t0, mm_t1, mm_t2, mm_t3, mm_t4, mm_t5, mm_t6, mm_t7, mm_t8, mm_t9, mm_t10, mm_t11, mm_t12, mm_t13, za_1, za_64, za_65, za_66, za_67, za_68, za_71, za_80, za_89, za_98, za_103, za_110, za_121, za_122, za_123, za_124, za_125, za_126, za_188, za_193, za_194, za_195, za_286, za_288, za_289, za_290, za_291, za_292, za_293, za_294, za_295, za_296, za_297, za_298, za_299, za_300, za_301, za_302, za_303, za_304, za_305, za_306, za_307, za_308, za_309, za_310, za_311, za_312]) ?_
  have hm : mf (fun b => b = q ∨ b = q + 1) σ (zw (zw σ q 2 (-1)) q 3 (-1)) := (mf.rf.zw _ _ _ (.inl rfl)).zw _ _ _ (.inl rfl)
  have g0 : gQ (zw (zw σ q 2 (-1)) q 3 (-1)) T sz s W q (lU (lU L 2 (-1)) 3 (-1)) V := by
    refine ⟨h.1.q h50 h5 hq hm, fun i => ?_, fun i => ?_⟩
    · show _ = if i = 3 then -1 else if i = 2 then -1 else L i
      by_cases z : i = 3
      · rw [if_pos z, mm_at rfl z (by decide) (by decide)]
      · rw [if_neg z, mm_nj z]
        by_cases z : i = 2
        · rw [if_pos z, mm_at rfl z (by decide) (by decide)]
        · rw [if_neg z, mm_nj z]
          exact h.2.1 i
    · rw [mm_ne (by omega), mm_ne (by omega)]
      exact h.2.2 i
  have f0 : rdF σ0 (zw (zw σ q 2 (-1)) q 3 (-1)) := hf.tr ⟨hm.mono (by omega), hm.1 2 (by omega) 2⟩
  generalize zw (zw σ q 2 (-1)) q 3 (-1) = τ0 at g0 f0 ⊢
  obtain ⟨b, hb, e⟩ := sp_55 (a := 1000014) g0.1.t (by decide)
  rw [e, zbI_s]
  have hbW : ∀ (τ : zM) f p v (j : Nat), bdC τ f p W → rdF σ0 τ → bdQ σ0 (zsI τ q j v) f p := fun τ f p v j b1 b2 => (b1.q b2).w hQ (zsI_m τ q j v (.inl rfl))
  rcases hb with ⟨rfl, hw⟩ | ⟨rfl, hw⟩
  · refine zwp_f (by decide) ?_
    have em : ∀ K, rMean T sz (W 5) s K = nm T sz 0 (W 5 - 1) (nxt T sz s) fun u s => K (-1) u s := fun K => wif_y hw
    refine zwp_V _ (o56 (a := 1000014) g0.1 (by omega) (by decide)) ?_
    rintro τ1 (⟨-, g1, s1⟩ | ⟨n1, -⟩)
    · have k7 := g1.2.2.2.2.2.1.2.2.2.2.2.2.2
      rw [mm_r τ1 3 7, k7, mm_sub]
      refine zwp_IC (o58 g1 (by omega) (by decide) (by decide) (by omega) (by omega)) ?_
      rintro v τ2 ⟨m2, f2, ⟨rfl, q1, u0, u1, g2⟩ | ⟨rfl, f, hE, hB⟩⟩
      · refine ⟨_, rfl, ?_⟩
        refine zwp_cd zo ?_
        have gq := (g0.sc g1 s1.1 (by omega)).sc g2 m2 (by omega)
        have ff := (f0.tr s1.R).tr f2
        generalize hu : (nxt T sz s).2.2.2 = u at u0 u1 ⊢
        refine zwp_letE (τ' := zw τ2 q 3 u) (by simp (disch := first | assumption | exact isR33 | exact isT104 | exact isF99 | exact isF101 | exact isR3 | omega | (refine isTk ?_; omega) | (refine isOk isR33 ?_; omega) | (refine isOk ?_ ?_; assumption; omega)) only [mm_r, mm_rl, mm_add, mm_sub, mm_mul, mm_addJ, mm_mulJ, mm_lt, mm_le, mm_eq, mm_z, mm_cl, mm_w, mm_wl, mm_ite, mm_i2l, mm_l2i, mm_ltJ, mm_leJ, mm_eqJ, mm_clt, mm_cle, mm_cgt, mm_cge, mm_ceq, mm_b, mm_nb, mm_nb0, mm_nb1, mm_vb0, mm_vb1, mm_vbc, mm_vy0, mm_vy1, mm_at, mm_ne, mm_nj, mm_Lw, mm_Nw, mm_atJ, mm_neJ, mm_njJ, zbI_s, zbV_s, zbJ_s, cond_t, Bool.true_and, Bool.and_true, if_true, if_false, not_true, not_false_iff, Classical.not_not, zel_r, zel_42, zel_12, zel_71, zel_80, zel_89, zel_110, zel_188, zel_103, zel_195, zr_o, zr_1, zr_2, zr_3, zr_4, zr_5, zr_6, zr_7, zr_8, zr_9, zq_o, zq_v, zt_o, zt_1, zt_2, zt_3, zt_4, zt_5, zf_o, zf_1, za_w1, za_w2, za_w3, za_cm, za_sl, Int.toNat_natCast, Int.toNat_natCast_add_one, mm_t0, mm_t1, mm_t2, mm_t3, mm_t4, mm_t5, mm_t6, mm_t7, mm_t8, mm_t9, mm_t10, mm_t11, mm_t12, mm_t13, za_1, za_64, za_65, za_66, za_67, za_68, za_71, za_80, za_89, za_98, za_103, za_110, za_121, za_122, za_123, za_124, za_125, za_126, za_188, za_193, za_194, za_195, za_286, za_288, za_289, za_290, za_291, za_292, za_293, za_294, za_295, za_296, za_297, za_298, za_299, za_300, za_301, za_302, za_303, za_304, za_305, za_306, za_307, za_308, za_309, za_310, za_311, za_312]) ?_
        have hm3 : mf (fun b => b = q ∨ b = q + 1) τ2 (zw τ2 q 3 u) := mf.rf.zw _ _ _ (.inl rfl)
        refine zwp_ret ⟨rfl, .inl ⟨-1, u, nxt T sz (nxt T sz s), fun K => ?_, .inr ⟨rfl, u0, by omega⟩, ⟨gq.1.q h50 h5 hq hm3, fun i => ?_, fun i => (mm_ne (by omega)).trans (gq.2.2 i)⟩, ff.tr ⟨hm3.mono (by omega), hm3.1 2 (by omega) 2⟩⟩⟩
        · rw [em]
          unfold nm
          rw [if_pos q1, hu, if_pos ⟨u0, u1⟩]
        · show _ = if i = 3 then u else if i = 2 then -1 else L i
          by_cases z : i = 3
          · rw [if_pos z, mm_at rfl z (by omega) (by omega)]
          · rw [if_neg z, mm_nj z, gq.2.1 i]
            show (if i = 3 then -1 else if i = 2 then -1 else L i) = _
            rw [if_neg z]
      · refine ⟨_, rfl, ?_⟩
        refine zwp_cd zo (zwp_let (zwp_ret ⟨rfl, .inr ⟨f, _, fun K => (em K).trans (hE _), hbW _ _ _ _ _ hB ((f0.tr s1.R).tr f2)⟩⟩))
    · exact absurd hw n1
  · refine zwp_t (by decide) ?_
    have em : ∀ K, rMean T sz (W 5) s K = wd T sz 1000015 s fun s => nm T sz 0 9 s fun x s => K x (-1) s := fun K => wif_n hw
    refine zwp_V _ (o56 (a := 1000015) g0.1 (by omega) (by decide)) ?_
    rintro τ1 (⟨w1, g1, s1⟩ | ⟨n1, b1, r1⟩)
    · refine zwp_IC (o58 g1 (by omega) (by decide) (by decide) (by decide) (by decide)) ?_
      rintro v τ2 ⟨m2, f2, ⟨rfl, q1, u0, u1, g2⟩ | ⟨rfl, f, hE, hB⟩⟩
      · refine ⟨_, rfl, ?_⟩
        refine zwp_cd zo ?_
        have gq := (g0.sc g1 s1.1 (by omega)).sc g2 m2 (by omega)
        have ff := (f0.tr s1.R).tr f2
        generalize hu : (nxt T sz s).2.2.2 = u at u0 u1 ⊢
        refine zwp_letE (τ' := zw τ2 q 2 u) (by simp (disch := first | assumption | exact isR33 | exact isT104 | exact isF99 | exact isF101 | exact isR3 | omega | (refine isTk ?_; omega) | (refine isOk isR33 ?_; omega) | (refine isOk ?_ ?_; assumption; omega)) only [mm_r, mm_rl, mm_add, mm_sub, mm_mul, mm_addJ, mm_mulJ, mm_lt, mm_le, mm_eq, mm_z, mm_cl, mm_w, mm_wl, mm_ite, mm_i2l, mm_l2i, mm_ltJ, mm_leJ, mm_eqJ, mm_clt, mm_cle, mm_cgt, mm_cge, mm_ceq, mm_b, mm_nb, mm_nb0, mm_nb1, mm_vb0, mm_vb1, mm_vbc, mm_vy0, mm_vy1, mm_at, mm_ne, mm_nj, mm_Lw, mm_Nw, mm_atJ, mm_neJ, mm_njJ, zbI_s, zbV_s, zbJ_s, cond_t, Bool.true_and, Bool.and_true, if_true, if_false, not_true, not_false_iff, Classical.not_not, zel_r, zel_42, zel_12, zel_71, zel_80, zel_89, zel_110, zel_188, zel_103, zel_195, zr_o, zr_1, zr_2, zr_3, zr_4, zr_5, zr_6, zr_7, zr_8, zr_9, zq_o, zq_v, zt_o, zt_1, zt_2, zt_3, zt_4, zt_5, zf_o, zf_1, za_w1, za_w2, za_w3, za_cm, za_sl, Int.toNat_natCast, Int.toNat_natCast_add_one, mm_t0, mm_t1, mm_t2, mm_t3, mm_t4, mm_t5, mm_t6, mm_t7, mm_t8, mm_t9, mm_t10, mm_t11, mm_t12, mm_t13, za_1, za_64, za_65, za_66, za_67, za_68, za_71, za_80, za_89, za_98, za_103, za_110, za_121, za_122, za_123, za_124, za_125, za_126, za_188, za_193, za_194, za_195, za_286, za_288, za_289, za_290, za_291, za_292, za_293, za_294, za_295, za_296, za_297, za_298, za_299, za_300, za_301, za_302, za_303, za_304, za_305, za_306, za_307, za_308, za_309, za_310, za_311, za_312]) ?_
        have hm3 : mf (fun b => b = q ∨ b = q + 1) τ2 (zw τ2 q 2 u) := mf.rf.zw _ _ _ (.inl rfl)
        refine zwp_ret ⟨rfl, .inl ⟨u, -1, nxt T sz (nxt T sz s), fun K => ?_, .inl ⟨rfl, u0, by omega⟩, ⟨gq.1.q h50 h5 hq hm3, fun i => ?_, fun i => (mm_ne (by omega)).trans (gq.2.2 i)⟩, ff.tr ⟨hm3.mono (by omega), hm3.1 2 (by omega) 2⟩⟩⟩
        · rw [em, wd_y w1]
          unfold nm
          rw [if_pos q1, hu, if_pos ⟨u0, u1⟩]
        · show _ = if i = 3 then -1 else if i = 2 then u else L i
          by_cases z : i = 2
          · rw [if_neg (by omega), if_pos z, mm_at rfl z (by omega) (by omega)]
          · rw [mm_nj z, gq.2.1 i]
            show (if i = 3 then -1 else if i = 2 then -1 else L i) = _
            rw [if_neg z, if_neg z]
      · refine ⟨_, rfl, ?_⟩
        refine zwp_cd zo (zwp_let (zwp_ret ⟨rfl, .inr ⟨f, _, fun K => (em K).trans ((wd_y w1).trans (hE _)), hbW _ _ _ _ _ hB ((f0.tr s1.R).tr f2)⟩⟩))
    · have hb1 := b1.q (f0.tr r1)
      rw [bd_58 hb1.n]
      refine zwp_IE (E := -1) (P := fun τ => τ = τ1) (zwp_ret ⟨rfl, rfl⟩) ?_
      rintro τ rfl
      refine zwp_cd zo (zwp_let (zwp_ret ⟨rfl, .inr ⟨1, _, fun K => (em K).trans (wd_n n1), hb1.w hQ (zsI_m _ q 2 _ (.inl rfl))⟩⟩))
