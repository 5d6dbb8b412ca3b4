/-! QUICKEST WAYS, in numbers: W is a realm as the reference's world tells it -/
def rdP (W : Int → Int) (a b r : Int) : Bool := decide (W (8 + 3 * r) = a ∧ W (8 + 3 * r + 1) = b ∨ W (8 + 3 * r) = b ∧ W (8 + 3 * r + 1) = a)
def RD (W : Int → Int) (a b : Int) : Int := zfst (rdP W a b) (W 2).toNat 0
def RH (W : Int → Int) (r : Int) : Int := W (8 + 3 * r + 2)
def D0 (W : Int → Int) (a b : Int) : Int := if a = b then 0 else if RD W a b = -1 then 1000000 else RH W (RD W a b)
def mn (p q : Int) : Int := if q < p then q else p
def fw (m a b : Int) (d : Int → Int → Int) : Int → Int → Int := fun x y => if x = a ∧ y = b then mn (d a b) (d a m + d m b) else d x y
def fwB (m a : Int) (n : Nat) (d : Int → Int → Int) : Int → Int → Int := foldN (fun b d => fw m a b d) n d
def fwA (T : Nat) (m : Int) (n : Nat) (d : Int → Int → Int) : Int → Int → Int := foldN (fun a d => fwB m a T d) n d
def fwM (T n : Nat) (d : Int → Int → Int) : Int → Int → Int := foldN (fun m d => fwA T m T d) n d
def DD (W : Int → Int) : Int → Int → Int := fwM (W 0).toNat (W 0).toNat (D0 W)
theorem mn_self {p q : Int} (h : p ≤ q) : mn p q = p := if_neg (by omega)
theorem fwB_val {m a : Int} {d : Int → Int → Int} (hm : d m m = 0) : ∀ (n : Nat) (x y : Int), fwB m a n d x y = if x = a ∧ 0 ≤ y ∧ y < n then mn (d a y) (d a m + d m y) else d x y
  | 0, x, y => by
    rw [if_neg (by omega)]
    rfl
  | n + 1, x, y => by
    have ih := fwB_val (a := a) hm n
    show fw m a n (fwB m a n d) x y = _
    unfold fw
    have e1 : fwB m a n d a m = d a m := by
      rw [ih]
      split
      · rw [hm, mn_self (by omega)]
      · rfl
    have e2 : fwB m a n d m n = d m n := by
      rw [ih, if_neg (by omega)]
    have e3 : fwB m a n d a n = d a n := by
      rw [ih, if_neg (by omega)]
    rw [e1, e2, e3]
    by_cases h : x = a ∧ y = n
    · rw [if_pos h, if_pos (by omega), h.2]
    · rw [if_neg h, ih]
      by_cases h2 : x = a ∧ 0 ≤ y ∧ y < n
      · rw [if_pos h2, if_pos (by omega)]
      · rw [if_neg h2, if_neg (by omega)]
theorem fwA_val {T : Nat} {m : Int} {d : Int → Int → Int} (hm : d m m = 0) (m0 : 0 ≤ m) (m1 : m < T) : ∀ (n : Nat) (x y : Int), fwA T m n d x y = if 0 ≤ x ∧ x < n ∧ 0 ≤ y ∧ y < T then mn (d x y) (d x m + d m y) else d x y
  | 0, x, y => by
    rw [if_neg (by omega)]
    rfl
  | n + 1, x, y => by
    have ih := fwA_val (d := d) hm m0 m1 n
    have em : ∀ y, fwA T m n d m y = d m y := by
      intro y
      rw [ih]
      split
      · rw [hm, mn_self (by omega)]
      · rfl
    have en : ∀ y, fwA T m n d n y = d n y := by
      intro y
      rw [ih, if_neg (by omega)]
    show fwB m n T (fwA T m n d) x y = _
    rw [fwB_val (by rw [em]; exact hm), en, en, em]
    by_cases h : x = n ∧ 0 ≤ y ∧ y < T
    · rw [if_pos h, if_pos (by omega), h.1]
    · rw [if_neg h, ih]
      by_cases h2 : 0 ≤ x ∧ x < n ∧ 0 ≤ y ∧ y < T
      · rw [if_pos h2, if_pos (by omega)]
      · rw [if_neg h2, if_neg (by omega)]
/-- a realm as it may stand -/
def wRd (W : Int → Int) : Prop := 0 ≤ W 0 ∧ W 0 ≤ 8 ∧ 0 ≤ W 2 ∧ W 2 ≤ 12 ∧ ∀ r, 0 ≤ r → r < W 2 → (0 ≤ W (8 + 3 * r) ∧ W (8 + 3 * r) < W 0 ∧ 0 ≤ W (8 + 3 * r + 1) ∧ W (8 + 3 * r + 1) < W 0 ∧ W (8 + 3 * r) ≠ W (8 + 3 * r + 1) ∧ 1 ≤ W (8 + 3 * r + 2) ∧ W (8 + 3 * r + 2) ≤ 20) ∧ ∀ q, 0 ≤ q → q < r → rdP W (W (8 + 3 * r)) (W (8 + 3 * r + 1)) q = false
theorem RD_rng (W : Int → Int) (a b : Int) : RD W a b = -1 ∨ 0 ≤ RD W a b ∧ RD W a b < (W 2).toNat ∧ rdP W a b (RD W a b) = true := by
  have := zfst_rng (rdP W a b) (W 2).toNat 0 (by omega)
  rcases this with e | ⟨a, b, c⟩
  · exact .inl e
  · exact .inr ⟨a, by show zfst _ _ _ < _; omega, c⟩
theorem RD_ok {W : Int → Int} (hW : wRd W) {a b : Int} (h : RD W a b ≠ -1) : 0 ≤ RD W a b ∧ RD W a b < W 2 ∧ a ≠ b ∧ 0 ≤ a ∧ a < W 0 ∧ 0 ≤ b ∧ b < W 0 ∧ 1 ≤ RH W (RD W a b) ∧ RH W (RD W a b) ≤ 20 := by
  rcases RD_rng W a b with e | ⟨h0, h1, h2⟩
  · exact absurd e h
  · have q := (hW.2.2.2.2 (RD W a b) h0 (by omega)).1
    have h2 := of_decide_eq_true h2
    unfold RH
    omega
theorem RD_sym (W : Int → Int) (a b : Int) : RD W a b = RD W b a := by
  refine zfst_congr _ _ (fun r _ _ => ?_)
  unfold rdP
  exact decide_eq_decide.mpr (by omega)
/-- a walk of n roads and ℓ hours -/
def wk (W : Int → Int) : Nat → Int → Int → Int → Prop
  | 0, a, b, l => a = b ∧ l = 0
  | n + 1, a, b, l => ∃ t, RD W a t ≠ -1 ∧ wk W n t b (l - RH W (RD W a t))
theorem wk_app {W : Int → Int} : ∀ {n n' : Nat} {a m b l l' : Int}, wk W n a m l → wk W n' m b l' → wk W (n + n') a b (l + l')
  | 0, n', a, m, b, l, l', h, g => by
    obtain ⟨rfl, rfl⟩ := h
    rw [Nat.zero_add, Int.zero_add]
    exact g
  | n + 1, n', a, m, b, l, l', ⟨t, h1, h2⟩, g => by
    rw [Nat.add_right_comm]
    refine ⟨t, h1, ?_⟩
    have := wk_app h2 g
    rw [show l + l' - RH W (RD W a t) = l - RH W (RD W a t) + l' by omega]
    exact this
/-- what the table says when the middles below n are done -/
def fI (W : Int → Int) (n : Nat) (d : Int → Int → Int) : Prop := ∀ x y, 0 ≤ x → x < W 0 → 0 ≤ y → y < W 0 →
  0 ≤ d x y ∧ d x x = 0 ∧ d x y ≤ D0 W x y ∧ (∀ k : Int, 0 ≤ k → k < (n : Int) → d x y ≤ d x k + d k y) ∧ (d x y < 1000000 → ∃ j, wk W j x y (d x y))
theorem D0_rng {W : Int → Int} (hW : wRd W) (a b : Int) : 0 ≤ D0 W a b ∧ D0 W a b ≤ 1000000 := by
  unfold D0
  split
  · omega
  · split
    · omega
    · next q =>
      have := RD_ok hW q
      omega
theorem fI_0 {W : Int → Int} (hW : wRd W) : fI W 0 (D0 W) := by
  intro x y x0 x1 y0 y1
  refine ⟨(D0_rng hW x y).1, if_pos rfl, Int.le_refl _, fun k k0 k1 => by omega, fun h => ?_⟩
  unfold D0 at h ⊢
  by_cases e : x = y
  · exact ⟨0, e, by rw [if_pos e]⟩
  · rw [if_neg e] at h ⊢
    by_cases e2 : RD W x y = -1
    · rw [if_pos e2] at h
      omega
    · rw [if_neg e2]
      exact ⟨1, y, e2, rfl, by omega⟩
theorem fI_s {W : Int → Int} {n : Nat} {d : Int → Int → Int} (hn : (n : Int) < W 0) (hT : W 0 ≤ 8) (h : fI W n d) : fI W (n + 1) (fwA (W 0).toNat n (W 0).toNat d) := by
  have hnn := (h n n (by omega) hn (by omega) hn).2.1
  have val : ∀ x y, 0 ≤ x → x < W 0 → 0 ≤ y → y < W 0 → fwA (W 0).toNat n (W 0).toNat d x y = mn (d x y) (d x n + d n y) := by
    intro x y x0 x1 y0 y1
    rw [fwA_val hnn (by omega) (by omega), if_pos (by omega)]
  intro x y x0 x1 y0 y1
  have hxy := h x y x0 x1 y0 y1
  have hxn := h x n x0 x1 (by omega) hn
  have hny := h n y (by omega) hn y0 y1
  rw [val x y x0 x1 y0 y1, val x x x0 x1 x0 x1]
  have hnx := h n x (by omega) hn x0 x1
  refine ⟨?_, ?_, ?_, fun k k0 k1 => ?_, fun hl => ?_⟩
  · unfold mn
    split <;> omega
  · rw [hxy.2.1, mn_self]
    omega
  · unfold mn
    split <;> omega
  · have hxk := h x k x0 x1 k0 (by omega)
    have hky := h k y k0 (by omega) y0 y1
    have hkn := h k n k0 (by omega) (by omega) hn
    have hnk := h n k (by omega) hn k0 (by omega)
    rw [val x k x0 x1 k0 (by omega), val k y k0 (by omega) y0 y1]
    by_cases e : k = n
    · subst e
      rw [hnn]
      unfold mn
      repeat' split
      all_goals omega
    · have a1 := hxy.2.2.2.1 k k0 (by omega)
      have a2 := hxn.2.2.2.1 k k0 (by omega)
      have a3 := hny.2.2.2.1 k k0 (by omega)
      unfold mn
      repeat' split
      all_goals omega
  · by_cases e : d x n + d n y < d x y
    · have em : mn (d x y) (d x n + d n y) = d x n + d n y := if_pos e
      rw [em] at hl ⊢
      obtain ⟨j1, w1⟩ := hxn.2.2.2.2 (by omega)
      obtain ⟨j2, w2⟩ := hny.2.2.2.2 (by omega)
      exact ⟨j1 + j2, wk_app w1 w2⟩
    · have em : mn (d x y) (d x n + d n y) = d x y := if_neg e
      rw [em] at hl ⊢
      exact hxy.2.2.2.2 hl
theorem fI_n {W : Int → Int} (hW : wRd W) : ∀ n : Nat, (n : Int) ≤ W 0 → fI W n (fwM (W 0).toNat n (D0 W))
  | 0, _ => fI_0 hW
  | n + 1, h => fI_s (by omega) hW.2.1 (fI_n hW n (by omega))
theorem fI_D {W : Int → Int} (hW : wRd W) : fI W (W 0).toNat (DD W) := fI_n hW _ (by have := hW.1; omega)
theorem DD_rng {W : Int → Int} (hW : wRd W) {a b : Int} (a0 : 0 ≤ a) (a1 : a < W 0) (b0 : 0 ≤ b) (b1 : b < W 0) : 0 ≤ DD W a b ∧ DD W a b ≤ 1000000 := by
  have h := fI_D hW a b a0 a1 b0 b1
  have := D0_rng hW a b
  omega
theorem DD_self {W : Int → Int} (hW : wRd W) {a : Int} (a0 : 0 ≤ a) (a1 : a < W 0) : DD W a a = 0 := (fI_D hW a a a0 a1 a0 a1).2.1
theorem DD_walk {W : Int → Int} (hW : wRd W) : ∀ (n : Nat) {a b l : Int}, 0 ≤ a → a < W 0 → 0 ≤ b → b < W 0 → wk W n a b l → DD W a b ≤ l
  | 0, a, b, l, a0, a1, b0, b1, h => by
    obtain ⟨rfl, rfl⟩ := h
    rw [DD_self hW a0 a1]
    omega
  | n + 1, a, b, l, a0, a1, b0, b1, ⟨t, h1, h2⟩ => by
    have q := RD_ok hW h1
    have ih := DD_walk hW n (by omega) (by omega) b0 b1 h2
    have g := (fI_D hW a b a0 a1 b0 b1).2.2.2.1 t (by omega) (by omega)
    have g2 := (fI_D hW a t a0 a1 (by omega) (by omega)).2.2.1
    unfold D0 at g2
    rw [if_neg (by omega), if_neg h1] at g2
    omega
/-- a first road of a quickest way -/
theorem DD_step {W : Int → Int} (hW : wRd W) {a b : Int} (a0 : 0 ≤ a) (a1 : a < W 0) (b0 : 0 ≤ b) (b1 : b < W 0) (hab : a ≠ b) (hl : DD W a b < 1000000) : ∃ t, 0 ≤ t ∧ t < W 0 ∧ RD W a t ≠ -1 ∧ RH W (RD W a t) + DD W t b = DD W a b := by
  obtain ⟨j, hj⟩ := (fI_D hW a b a0 a1 b0 b1).2.2.2.2 hl
  cases j with
  | zero => exact absurd hj.1 hab
  | succ j =>
    obtain ⟨t, h1, h2⟩ := hj
    have q := RD_ok hW h1
    have ih := DD_walk hW j (by omega) (by omega) b0 b1 h2
    have g := (fI_D hW a b a0 a1 b0 b1).2.2.2.1 t (by omega) (by omega)
    have g2 := (fI_D hW a t a0 a1 (by omega) (by omega)).2.2.1
    unfold D0 at g2
    rw [if_neg (by omega), if_neg h1] at g2
    exact ⟨t, by omega, by omega, h1, by omega⟩
def nxP (W : Int → Int) (a b t : Int) : Bool := decide (RD W a t ≠ -1 ∧ RH W (RD W a t) + DD W t b = DD W a b)
/-- the next town on the quickest way, or -1 -/
def NX (W : Int → Int) (a b : Int) : Int := if a = b ∨ 1000000 ≤ DD W a b then -1 else zfst (nxP W a b) (W 0).toNat 0
theorem NX_ok {W : Int → Int} (hW : wRd W) {a b : Int} (a0 : 0 ≤ a) (a1 : a < W 0) (b0 : 0 ≤ b) (b1 : b < W 0) (hab : a ≠ b) (hl : DD W a b < 1000000) : NX W a b = zfst (nxP W a b) (W 0).toNat 0 ∧ 0 ≤ NX W a b ∧ NX W a b < W 0 ∧ RD W a (NX W a b) ≠ -1 ∧ RH W (RD W a (NX W a b)) + DD W (NX W a b) b = DD W a b ∧ DD W (NX W a b) b < DD W a b := by
  have e : NX W a b = zfst (nxP W a b) (W 0).toNat 0 := if_neg (by omega)
  obtain ⟨t, t0, t1, t2, t3⟩ := DD_step hW a0 a1 b0 b1 hab hl
  have hle := zfst_le (P := nxP W a b) (W 0).toNat 0 t t0 (by omega) (decide_eq_true ⟨t2, t3⟩)
  rw [← e] at hle
  have hP : nxP W a b (NX W a b) = true := by
    rcases zfst_rng (nxP W a b) (W 0).toNat 0 (by omega) with h | h
    · rw [← e] at h
      omega
    · rw [← e] at h
      exact h.2.2
  have hP := of_decide_eq_true hP
  have q := RD_ok hW hP.1
  exact ⟨e, hle.1, by omega, hP.1, hP.2, by omega⟩
/-- how many towns are nearer -/
def rk (W : Int → Int) (b a : Int) : Int := zcnt (fun x => decide (DD W x b < DD W a b)) (W 0).toNat
theorem rk_rng {W : Int → Int} (hW : wRd W) {a b : Int} (a0 : 0 ≤ a) (a1 : a < W 0) : 0 ≤ rk W b a ∧ rk W b a < W 0 := by
  have h1 := zcnt_rng (fun x => decide (DD W x b < DD W a b)) (W 0).toNat
  have h2 := (zcnt_lt (P := fun x => decide (DD W x b < DD W a b)) (Q := fun _ => true) (W 0).toNat (fun _ _ _ _ => rfl)).2 ⟨a, a0, by omega, decide_eq_false (by omega), rfl⟩
  have h3 := zcnt_rng (fun _ => true) (W 0).toNat
  unfold rk
  omega
theorem rk_lt {W : Int → Int} {a b t : Int} (t0 : 0 ≤ t) (t1 : t < W 0) (h : DD W t b < DD W a b) : rk W b t < rk W b a :=
  (zcnt_lt (P := fun x => decide (DD W x b < DD W t b)) (Q := fun x => decide (DD W x b < DD W a b)) (W 0).toNat (fun j _ _ hj => decide_eq_true (by have := of_decide_eq_true hj; omega))).2 ⟨t, t0, by omega, decide_eq_false (by omega), decide_eq_true h⟩
/-! a way: how many towns, and which -/
abbrev wy : Type := Int × (Int → Int)
def psh (w : wy) (t : Int) : wy := (w.1 + 1, fun i => if i = w.1 then t else w.2 i)
def lastT (w : wy) : Int := w.2 (w.1 - 1)
def lead (W : Int → Int) (g : Int) : Nat → wy → wy
  | 0, w => w
  | k + 1, w => if w.1 ≤ 0 then w else if lastT w = g then w else if NX W (lastT w) g = -1 then (0, w.2) else lead W g k (psh w (NX W (lastT w) g))
/-- a way as it may stand -/
def wyOk (W : Int → Int) (w : wy) : Prop := 0 ≤ w.1 ∧ (∀ i, 0 ≤ i → i < w.1 → 0 ≤ w.2 i ∧ w.2 i < W 0) ∧ ∀ i, 0 ≤ i → i + 1 < w.1 → RD W (w.2 i) (w.2 (i + 1)) ≠ -1
theorem psh_last (w : wy) (t : Int) : lastT (psh w t) = t := by
  show (if w.1 + 1 - 1 = w.1 then t else _) = t
  rw [if_pos (by omega)]
theorem psh_ok {W : Int → Int} {w : wy} {t : Int} (h : wyOk W w) (h0 : 0 < w.1) (t0 : 0 ≤ t) (t1 : t < W 0) (hr : RD W (lastT w) t ≠ -1) : wyOk W (psh w t) := by
  refine ⟨by show 0 ≤ w.1 + 1; omega, fun i i0 i1 => ?_, fun i i0 i1 => ?_⟩
  · show 0 ≤ (if i = w.1 then t else w.2 i) ∧ (if i = w.1 then t else w.2 i) < W 0
    have i1 : i < w.1 + 1 := i1
    split
    · exact ⟨t0, t1⟩
    · exact h.2.1 i i0 (by omega)
  · have i1 : i + 1 < w.1 + 1 := i1
    show RD W (if i = w.1 then t else w.2 i) (if i + 1 = w.1 then t else w.2 (i + 1)) ≠ -1
    rw [if_neg (by omega)]
    split
    · next e =>
      rw [show i = w.1 - 1 by omega]
      exact hr
    · exact h.2.2 i i0 (by omega)
/-- eight steps are enough -/
theorem lead_ok {W : Int → Int} (hW : wRd W) {g : Int} (g0 : 0 ≤ g) (g1 : g < W 0) : ∀ (k : Nat) (w : wy), wyOk W w → 0 < w.1 → rk W g (lastT w) < k → DD W (lastT w) g < 1000000 → wyOk W (lead W g k w) ∧ lastT (lead W g k w) = g ∧ w.1 ≤ (lead W g k w).1 ∧ (lead W g k w).1 ≤ w.1 + rk W g (lastT w)
  | 0, w, h, h0, hk, _ => by
    have := rk_rng hW (a := lastT w) (b := g) (h.2.1 _ (by omega) (by omega)).1 (h.2.1 _ (by omega) (by omega)).2
    omega
  | k + 1, w, h, h0, hk, hl => by
    have ht := h.2.1 (w.1 - 1) (by omega) (by omega)
    change 0 ≤ lastT w ∧ lastT w < W 0 at ht
    have hr := rk_rng hW (a := lastT w) (b := g) ht.1 ht.2
    rw [lead, if_neg (by omega)]
    split
    · next e => exact ⟨h, e, by omega, by omega⟩
    · next e =>
      obtain ⟨-, n0, n1, n2, n3, n4⟩ := NX_ok hW ht.1 ht.2 g0 g1 e hl
      rw [if_neg (by omega)]
      have hlt := rk_lt (W := W) (b := g) n0 n1 n4
      have ih := lead_ok hW g0 g1 k (psh w (NX W (lastT w) g)) (psh_ok h h0 n0 n1 n2) (by show 0 < w.1 + 1; omega) (by rw [psh_last]; omega) (by rw [psh_last]; omega)
      rw [psh_last] at ih
      have e1 : (psh w (NX W (lastT w) g)).1 = w.1 + 1 := rfl
      rw [e1] at ih
      exact ⟨ih.1, ih.2.1, by omega, by omega⟩
theorem lead_no {W : Int → Int} {g : Int} (k : Nat) {w : wy} (h0 : 0 < w.1) (hne : lastT w ≠ g) (hl : 1000000 ≤ DD W (lastT w) g) : (lead W g (k + 1) w).1 = 0 := by
  rw [lead, if_neg (by omega), if_neg hne, if_pos]
  exact if_pos (.inr hl)
theorem lead_z {W : Int → Int} {g : Int} {k : Nat} {w : wy} (h : w.1 ≤ 0) : lead W g k w = w := by
  cases k with
  | zero => rfl
  | succ k => rw [lead, if_pos h]
