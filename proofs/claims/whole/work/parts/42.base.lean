/-! WHAT HOLDS, in numbers: c when each order comes, sl the seal -/
def TT (W : Int → Int) (c : Int → Int) (sl t h o : Int) : Bool := decide (oo W o 5 = t ∧ c o ≠ -1 ∧ c o ≤ h ∧ c o ≤ sl)
def UU (W : Int → Int) (c : Int → Int) (sl t h : Int) : Int32 := udn (TT W c sl t h) (fun o => oo W o 3) (W 5).toNat (W 5).toNat
def BB (W : Int → Int) (c : Int → Int) (sl t g h : Int) : Int := hB (TT W c sl t h) (fun o => oo W o 3) (fun o => oo W o 1) (fun o => oo W o 2) c (W 5).toNat g
def HH (W : Int → Int) (c : Int → Int) (sl t g h : Int) : Int := hH (TT W c sl t h) (fun o => oo W o 3) (fun o => oo W o 1) (fun o => oo W o 2) c (W 5).toNat g
def wUn (W : Int → Int) : Prop := 0 ≤ W 5 ∧ W 5 ≤ 10 ∧ ∀ o, 0 ≤ o → o < W 5 → (oo W o 3 = -1 ∨ 0 ≤ oo W o 3 ∧ oo W o 3 < W 5) ∧ -1 ≤ oo W o 2 ∧ oo W o 2 ≤ 9
theorem WOK.un {W : Int → Int} (h : WOK W) : wUn W := by
  refine ⟨h.2.2.1.2.2.1, h.2.2.1.2.2.2.1, fun o o0 o1 => ?_⟩
  have := (h.2.2.2.2 o o0 o1).2.2.2.2.1
  omega
theorem BB_rng (W : Int → Int) (c : Int → Int) (sl t g h : Int) : -1 ≤ BB W c sl t g h ∧ BB W c sl t g h < (W 5).toNat := br_rng _ _ _
theorem HH_rng {W : Int → Int} (hW : wUn W) (c : Int → Int) (sl t g h : Int) : -1 ≤ HH W c sl t g h ∧ HH W c sl t g h ≤ 9 := by
  have r := BB_rng W c sl t g h
  unfold HH hH
  split
  · omega
  · next q =>
    change ¬ BB W c sl t g h = -1 at q
    exact (hW.2.2 (BB W c sl t g h) (by omega) (by omega)).2
theorem HH_eq (W : Int → Int) (c : Int → Int) (sl t g h : Int) : HH W c sl t g h = if BB W c sl t g h = -1 then -1 else oo W (BB W c sl t g h) 2 := rfl
theorem TT_c {W : Int → Int} {c c' : Int → Int} {sl t h o : Int} (hc : c o = c' o) : TT W c sl t h o = TT W c' sl t h o := by
  unfold TT
  rw [hc]
theorem UU_c {W : Int → Int} (hW : wUn W) {c c' : Int → Int} {sl t h : Int} (hc : ∀ o, 0 ≤ o → o < W 5 → c o = c' o) : UU W c sl t h = UU W c' sl t h := udn_congr (fun o o0 o1 => TT_c (hc o o0 (by omega))) (fun _ _ _ => rfl) (fun o o0 o1 => by have := (hW.2.2 o o0 (by omega)).1; omega) _ (Nat.le_refl _)
theorem BB_c {W : Int → Int} (hW : wUn W) {c c' : Int → Int} {sl t g h : Int} (hc : ∀ o, 0 ≤ o → o < W 5 → c o = c' o) : BB W c sl t g h = BB W c' sl t g h := hB_congr (fun o o0 o1 => TT_c (hc o o0 (by omega))) (fun _ _ _ => rfl) (fun _ _ _ => rfl) (fun _ _ _ => rfl) (fun o o0 o1 => hc o o0 (by omega)) (fun o o0 o1 => by have := (hW.2.2 o o0 (by omega)).1; omega)
theorem HH_c {W : Int → Int} (hW : wUn W) {c c' : Int → Int} {sl t g h : Int} (hc : ∀ o, 0 ≤ o → o < W 5 → c o = c' o) : HH W c sl t g h = HH W c' sl t g h := hH_congr (fun o o0 o1 => TT_c (hc o o0 (by omega))) (fun _ _ _ => rfl) (fun _ _ _ => rfl) (fun _ _ _ => rfl) (fun o o0 o1 => hc o o0 (by omega)) (fun o o0 o1 => by have := (hW.2.2 o o0 (by omega)).1; omega)
/-- the class's council tells W, c and sl -/
def ccC (σ : zM) (W : Int → Int) (c : Int → Int) (sl : Int) : Prop := zN σ 63 0 = W 5 ∧ zN σ 63 1 = sl ∧ ∀ o, 0 ≤ o → o < W 5 → sC σ W o ∧ zN σ 68 o.toNat = c o
theorem ctC.cc {σ : zM} {W : Int → Int} (h : ctC σ W) : ccC σ W (CM W noD) (W 7) := ⟨h.2.2.2.1.1, h.2.2.2.1.2, fun o o0 o1 => ⟨(h.2.2.2.2 o o0 o1).1, (h.2.2.2.2 o o0 o1).2.1.2.2⟩⟩
theorem ccC.kC {σ : zM} {W : Int → Int} {c : Int → Int} {sl : Int} (h : ccC σ W c sl) (hW : wUn W) : kC σ (W 5).toNat := by
  refine ⟨by rw [h.1]; have := hW.1; omega, by have := hW.2.1; omega, fun o ho => ?_⟩
  have e := (h.2.2 o (by omega) (by omega)).1.2.2.2
  rw [Int.toNat_natCast] at e
  have := (hW.2.2 o (by omega) (by omega)).1
  omega
theorem ccC.T {σ : zM} {W : Int → Int} {c : Int → Int} {sl t h : Int} (hC : ccC σ W c sl) (o : Int) (o0 : 0 ≤ o) (o1 : o < W 5) : kT σ t h o = TT W c sl t h o := by
  obtain ⟨⟨e, -⟩, e8⟩ := hC.2.2 o o0 o1
  unfold kT TT
  rw [e, e8, hC.2.1]
theorem sp_4c {σ : zM} {W : Int → Int} {c : Int → Int} {sl t h : Int} (hW : wUn W) (hC : ccC σ W c sl) (ht0 : -2147483648 ≤ t) (ht1 : t < 2147483648) (hh0 : -2147483648 ≤ h) (hh1 : h < 2147483648) : zcall 4 [.ref 63, .int (Int32.ofInt t), .int (Int32.ofInt h)] σ = some (some (.int (UU W c sl t h)), σ) := by
  have h5 := hW.1
  rw [sp_4 ht0 ht1 hh0 hh1 (hC.kC hW)]
  have : kU σ (W 5).toNat t h = UU W c sl t h := udn_congr (fun o o0 o1 => hC.T o o0 (by omega)) (fun o o0 o1 => (hC.2.2 o o0 (by omega)).1.2.2.2) (fun o o0 o1 => by have := (hC.kC hW).2.2 o.toNat (by omega); exact this) _ (Nat.le_refl _)
  rw [this]
theorem sp_5c {σ : zM} {W : Int → Int} {c : Int → Int} {sl t g h : Int} (hW : wUn W) (hC : ccC σ W c sl) (ht0 : -2147483648 ≤ t) (ht1 : t < 2147483648) (hg0 : -2147483648 ≤ g) (hg1 : g < 2147483648) (hh0 : -2147483648 ≤ h) (hh1 : h < 2147483648) : zcall 5 [.ref 63, .int (Int32.ofInt t), .int (Int32.ofInt g), .int (Int32.ofInt h)] σ = some (some (.int (Int32.ofInt (BB W c sl t g h))), σ) := by
  rw [sp_5 ht0 ht1 hg0 hg1 hh0 hh1 (hC.kC hW)]
  have : kB σ (W 5).toNat t g h = BB W c sl t g h := hB_congr (fun o o0 o1 => hC.T o o0 (by omega)) (fun o o0 o1 => (hC.2.2 o o0 (by omega)).1.2.2.2) (fun o o0 o1 => (hC.2.2 o o0 (by omega)).1.2.1) (fun o o0 o1 => (hC.2.2 o o0 (by omega)).1.2.2.1) (fun o o0 o1 => (hC.2.2 o o0 (by omega)).2) (fun o o0 o1 => by have := (hC.kC hW).2.2 o.toNat (by omega); exact this)
  rw [this]
theorem sp_6c {σ : zM} {W : Int → Int} {c : Int → Int} {sl t g h : Int} (hW : wUn W) (hC : ccC σ W c sl) (ht0 : -2147483648 ≤ t) (ht1 : t < 2147483648) (hg0 : -2147483648 ≤ g) (hg1 : g < 2147483648) (hh0 : -2147483648 ≤ h) (hh1 : h < 2147483648) : zcall 6 [.ref 63, .int (Int32.ofInt t), .int (Int32.ofInt g), .int (Int32.ofInt h)] σ = some (some (.int (Int32.ofInt (HH W c sl t g h))), σ) := by
  rw [sp_6 ht0 ht1 hg0 hg1 hh0 hh1 (hC.kC hW)]
  have : kH σ (W 5).toNat t g h = HH W c sl t g h := hH_congr (fun o o0 o1 => hC.T o o0 (by omega)) (fun o o0 o1 => (hC.2.2 o o0 (by omega)).1.2.2.2) (fun o o0 o1 => (hC.2.2 o o0 (by omega)).1.2.1) (fun o o0 o1 => (hC.2.2 o o0 (by omega)).1.2.2.1) (fun o o0 o1 => (hC.2.2 o o0 (by omega)).2) (fun o o0 o1 => by have := (hC.kC hW).2.2 o.toNat (by omega); exact this)
  rw [this]
/-- the reference's rows tell W, c and sl; W as far as orders are told -/
def rcC (σ : zM) (W : Int → Int) (c : Int → Int) (sl : Int) : Prop := zN σ 288 5 = W 5 ∧ zN σ 288 7 = sl ∧ (∀ o, 0 ≤ o → o < W 5 → rO σ 1 o = oo W o 1 ∧ rO σ 2 o = oo W o 2 ∧ rO σ 3 o = oo W o 3 ∧ zN σ 300 o.toNat = oo W o 5 ∧ zN σ 299 o.toNat = c o) ∧ zN σ 299 10 = -1
theorem rcC.C {σ : zM} {W : Int → Int} {c : Int → Int} {sl : Int} (h : rcC σ W c sl) (hW : wUn W) : rC σ (W 5).toNat := by
  refine ⟨by rw [h.1]; have := hW.1; omega, by have := hW.2.1; omega, fun o o0 o1 => ?_⟩
  rw [(h.2.2.1 o o0 (by omega)).2.2.1]
  have := (hW.2.2 o o0 (by omega)).1
  omega
theorem rcC.T {σ : zM} {W : Int → Int} {c : Int → Int} {sl t h : Int} (hC : rcC σ W c sl) (o : Int) (o0 : 0 ≤ o) (o1 : o < W 5) : rT σ t h o = TT W c sl t h o := by
  obtain ⟨-, -, -, e, e8⟩ := hC.2.2.1 o o0 o1
  unfold rT TT
  rw [e, e8, hC.2.1]
  exact decide_eq_decide.mpr (by omega)
theorem sp_216c {σ : zM} {W : Int → Int} {c : Int → Int} {sl t h : Int} (hW : wUn W) (hC : rcC σ W c sl) (ht0 : -2147483648 ≤ t) (ht1 : t < 2147483648) (hh0 : -2147483648 ≤ h) (hh1 : h < 2147483648) : zcall 216 [.ref 287, .int (Int32.ofInt t), .int (Int32.ofInt h)] σ = some (some (.int (UU W c sl t h)), σ) := by
  rw [sp_216 ht0 ht1 hh0 hh1 (hC.C hW)]
  have : rU σ (W 5).toNat t h = UU W c sl t h := udn_congr (fun o o0 o1 => hC.T o o0 (by omega)) (fun o o0 o1 => (hC.2.2.1 o o0 (by omega)).2.2.1) (fun o o0 o1 => (hC.C hW).2.2 o o0 o1) _ (Nat.le_refl _)
  rw [this]
theorem rB_c {σ : zM} {W : Int → Int} {c : Int → Int} {sl t g h : Int} (hW : wUn W) (hC : rcC σ W c sl) : rB σ (W 5).toNat t g h = BB W c sl t g h := by
  rw [rB_n (hC.C hW) hC.2.2.2]
  exact hB_congr (fun o o0 o1 => hC.T o o0 (by omega)) (fun o o0 o1 => (hC.2.2.1 o o0 (by omega)).2.2.1) (fun o o0 o1 => (hC.2.2.1 o o0 (by omega)).1) (fun o o0 o1 => (hC.2.2.1 o o0 (by omega)).2.1) (fun o o0 o1 => (hC.2.2.1 o o0 (by omega)).2.2.2.2) (fun o o0 o1 => (hC.C hW).2.2 o o0 o1)
theorem sp_219c {σ : zM} {W : Int → Int} {c : Int → Int} {sl t g h : Int} (hW : wUn W) (hC : rcC σ W c sl) (ht0 : -2147483648 ≤ t) (ht1 : t < 2147483648) (hg0 : -2147483648 ≤ g) (hg1 : g < 2147483648) (hh0 : -2147483648 ≤ h) (hh1 : h < 2147483648) : zcall 219 [.ref 287, .int (Int32.ofInt t), .int (Int32.ofInt g), .int (Int32.ofInt h)] σ = some (some (.int (Int32.ofInt (BB W c sl t g h))), σ) := by
  rw [sp_219 ht0 ht1 hg0 hg1 hh0 hh1 (hC.C hW), rB_c hW hC]
theorem sp_220c {σ : zM} {W : Int → Int} {c : Int → Int} {sl t g h : Int} (hW : wUn W) (hC : rcC σ W c sl) (ht0 : -2147483648 ≤ t) (ht1 : t < 2147483648) (hg0 : -2147483648 ≤ g) (hg1 : g < 2147483648) (hh0 : -2147483648 ≤ h) (hh1 : h < 2147483648) : zcall 220 [.ref 287, .int (Int32.ofInt t), .int (Int32.ofInt g), .int (Int32.ofInt h)] σ = some (some (.int (Int32.ofInt (HH W c sl t g h))), σ) := by
  rw [sp_220 ht0 ht1 hg0 hg1 hh0 hh1 (hC.C hW)]
  have : rH σ (W 5).toNat t g h = HH W c sl t g h := by
    rw [rH_n (hC.C hW) hC.2.2.2]
    exact hH_congr (fun o o0 o1 => hC.T o o0 (by omega)) (fun o o0 o1 => (hC.2.2.1 o o0 (by omega)).2.2.1) (fun o o0 o1 => (hC.2.2.1 o o0 (by omega)).1) (fun o o0 o1 => (hC.2.2.1 o o0 (by omega)).2.1) (fun o o0 o1 => (hC.2.2.1 o o0 (by omega)).2.2.2.2) (fun o o0 o1 => (hC.C hW).2.2 o o0 o1)
  rw [this]
theorem gone.rc {σ : zM} {W : Int → Int} {D : Int → Int → Bool} (h : gone σ W D) : rcC σ W (CM W D) (W 7) := by
  refine ⟨by rw [← h.1.1]; rfl, by rw [← h.1.1]; rfl, fun o o0 o1 => ⟨rO_of h.1.1 1 o, rO_of h.1.1 2 o, rO_of h.1.1 3 o, (h.2.1 o o0 o1).1, (h.2.1 o o0 o1).2.1⟩, h.2.2⟩
/-! what a call may change beside what it is to change -/
def clsS (b : Nat) : Prop := 63 ≤ b ∧ b ≤ 69 ∨ 101 ≤ b ∧ b ≤ 102 ∨ 104 ≤ b ∧ b ≤ 109 ∨ 111 ≤ b ∧ b ≤ 126
def cK (σ τ : zM) (W : Int → Int) : Prop := mf clsS σ τ ∧ ctC τ W
def refS (b : Nat) : Prop := 287 ≤ b ∧ b ≤ 288 ∨ 294 ≤ b ∧ b ≤ 308
def rK (σ τ : zM) : Prop := mf refS σ τ ∧ (∀ k, k = 5 ∨ k = 12 ∨ k = 13 ∨ k = 24 ∨ k = 25 → zN τ 287 k = zN σ 287 k) ∧ wv τ 288 = wv σ 288
/-- the reference between two calls -/
def rB0 (σ : zM) (W : Int → Int) : Prop := wv σ 288 = W ∧ WOK W ∧ zN σ 287 24 = 0 ∧ zN σ 287 25 = -1
theorem cK.rf {σ : zM} {W : Int → Int} (h : ctC σ W) : cK σ σ W := ⟨mf.rf, h⟩
theorem rK.rf {σ : zM} : rK σ σ := ⟨mf.rf, fun _ _ => rfl, rfl⟩
theorem rB0.dR {σ : zM} {W : Int → Int} (h : rB0 σ W) : dR σ = noD := by
  funext r x
  show decide _ = false
  exact decide_eq_false (fun p => p.1 h.2.2.1)
theorem rK_go {σ τ : zM} (hf : mf (fun r => 294 ≤ r ∧ r ≤ 300) σ τ) : rK σ τ := ⟨hf.mono (fun b hb => .inr (by omega)), fun k _ => hf.1 287 (by omega) k, hf.wv 288 (by omega)⟩
/-- allGo, between calls -/
theorem sp_210c {σ : zM} {W : Int → Int} (h : rB0 σ W) : zwp (zcall 210 [.ref 287] σ) (fun v τ => v = none ∧ rK σ τ ∧ gone τ W noD) := by
  have h5 := h.2.1.2.2.1
  refine zwp_mono (sp_210 h.2.1.1 (by omega) (by omega) (fun o o0 o1 => (h.2.1.2.2.2.2 o o0 o1).1) h.1 h.dR) ?_
  rintro v τ ⟨rfl, hf, hg⟩
  exact ⟨rfl, rK_go hf, hg⟩
