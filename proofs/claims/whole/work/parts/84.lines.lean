/-! THE TEXT: each line, in numbers; realms stay well formed -/
theorem wOrd_c {W W' : Int → Int} {o : Int} (hk : ∀ k, 0 ≤ k → k < 14 → oo W' o k = oo W o k) (h0 : W' 0 = W 0) (h1 : W' 1 = W 1) (h4 : W 4 ≤ W' 4) (hp : ∀ i, 0 ≤ i → i < 2 * W 4 → W' (68 + i) = W (68 + i)) (h : wOrd W o) : wOrd W' o := by
  obtain ⟨⟨a1, a2, a3, a4, a5, a6, a7, a8, a9, a10, a11, a12, a13, a14, a15⟩, b1, b2, b3, b4, b5, b6, b7⟩ := h
  have ep : pac W' o = pac W o := by
    unfold pac
    rw [hk 0 (by decide) (by decide)]
    exact hp (2 * oo W o 0) (by omega) (by omega)
  have er : res W' o = res W o := by
    unfold res
    rw [hk 0 (by decide) (by decide)]
    have := hp (2 * oo W o 0 + 1) (by omega) (by omega)
    rw [← Int.add_assoc] at this
    exact this
  unfold wOrd oOk
  rw [ep, er, h0, h1, hk 4 (by decide) (by decide), hk 5 (by decide) (by decide), hk 7 (by decide) (by decide), hk 6 (by decide) (by decide), hk 0 (by decide) (by decide), hk 1 (by decide) (by decide), hk 2 (by decide) (by decide), hk 3 (by decide) (by decide), hk 11 (by decide) (by decide), hk 12 (by decide) (by decide), hk 13 (by decide) (by decide)]
  refine ⟨⟨a1, a2, a3, a4, a5, a6, fun i i0 i1 => ?_, a8, a9, a10, a11, a12, a13, a14, a15⟩, b1, b2, b3, b4, b5, by omega, b7⟩
  rw [hk (8 + i) (by omega) (by omega)]
  exact a7 i i0 i1
theorem cO_c {σ : zM} {q : Nat} {W W' : Int → Int} {o : Int} (hk : ∀ k, 0 ≤ k → k < 14 → oo W' o k = oo W o k) (h7 : oo W o 7 ≤ 3) (h : cO σ q W o) : cO σ q W' o := by
  obtain ⟨c0, c1, c2, c3, c4, c5, c6, c7, c8, c9, c10⟩ := h
  unfold cO
  rw [hk 0 (by decide) (by decide), hk 1 (by decide) (by decide), hk 2 (by decide) (by decide), hk 3 (by decide) (by decide), hk 4 (by decide) (by decide), hk 5 (by decide) (by decide), hk 6 (by decide) (by decide), hk 7 (by decide) (by decide), hk 11 (by decide) (by decide), hk 12 (by decide) (by decide), hk 13 (by decide) (by decide)]
  refine ⟨c0, c1, c2, c3, c4, c5, c6, c7, fun v v0 v1 => ?_, c9, c10⟩
  rw [hk (8 + v) (by omega) (by omega)]
  exact c8 v v0 v1
/-- the head of a world: towns, hours, seal -/
def uHd (W : Int → Int) (a b : Int) : Int → Int := wU (wU (wU W 0 a) 1 b) 7 99
def uRo (W : Int → Int) (a b h : Int) : Int → Int := wU (wU (wU (wU W (8 + 3 * W 2) a) (8 + 3 * W 2 + 1) b) (8 + 3 * W 2 + 2) h) 2 (W 2 + 1)
def uFl (W : Int → Int) (r a b : Int) : Int → Int := wU (wU (wU (wU W (44 + 3 * W 3) r) (44 + 3 * W 3 + 1) a) (44 + 3 * W 3 + 2) b) 3 (W 3 + 1)
def uRi (W : Int → Int) (p r : Int) : Int → Int := wU (wU (wU W (68 + 2 * W 4) p) (68 + 2 * W 4 + 1) r) 4 (W 4 + 1)
def uWi (W : Int → Int) (o x t h : Int) : Int → Int := wU (wU (wU W (80 + 14 * o + 11) x) (80 + 14 * o + 12) t) (80 + 14 * o + 13) h
theorem uRo_i {W : Int → Int} {a b h : Int} (n0 : 0 ≤ W 2) (i : Int) : uRo W a b h i = if i = 2 then W 2 + 1 else if i = 8 + 3 * W 2 then a else if i = 8 + 3 * W 2 + 1 then b else if i = 8 + 3 * W 2 + 2 then h else W i := by
  unfold uRo
  by_cases q2 : i = 2
  · rw [wU_at (by omega), if_pos q2]
  · rw [wU_ne (by omega), if_neg q2]
    by_cases q3 : i = 8 + 3 * W 2 + 2
    · rw [wU_at (by omega), if_neg (by omega), if_neg (by omega), if_pos q3]
    · rw [wU_ne (by omega)]
      by_cases q4 : i = 8 + 3 * W 2 + 1
      · rw [wU_at (by omega), if_neg (by omega), if_pos q4]
      · rw [wU_ne (by omega)]
        by_cases q5 : i = 8 + 3 * W 2
        · rw [wU_at (by omega), if_pos q5]
        · rw [wU_ne (by omega), if_neg q5, if_neg q4, if_neg q3]
theorem uFl_i {W : Int → Int} {r a b : Int} (n0 : 0 ≤ W 3) (i : Int) : uFl W r a b i = if i = 3 then W 3 + 1 else if i = 44 + 3 * W 3 then r else if i = 44 + 3 * W 3 + 1 then a else if i = 44 + 3 * W 3 + 2 then b else W i := by
  unfold uFl
  by_cases q2 : i = 3
  · rw [wU_at (by omega), if_pos q2]
  · rw [wU_ne (by omega), if_neg q2]
    by_cases q3 : i = 44 + 3 * W 3 + 2
    · rw [wU_at (by omega), if_neg (by omega), if_neg (by omega), if_pos q3]
    · rw [wU_ne (by omega)]
      by_cases q4 : i = 44 + 3 * W 3 + 1
      · rw [wU_at (by omega), if_neg (by omega), if_pos q4]
      · rw [wU_ne (by omega)]
        by_cases q5 : i = 44 + 3 * W 3
        · rw [wU_at (by omega), if_pos q5]
        · rw [wU_ne (by omega), if_neg q5, if_neg q4, if_neg q3]
theorem uRi_i {W : Int → Int} {p r : Int} (n0 : 0 ≤ W 4) (i : Int) : uRi W p r i = if i = 4 then W 4 + 1 else if i = 68 + 2 * W 4 then p else if i = 68 + 2 * W 4 + 1 then r else W i := by
  unfold uRi
  by_cases q2 : i = 4
  · rw [wU_at (by omega), if_pos q2]
  · rw [wU_ne (by omega), if_neg q2]
    by_cases q4 : i = 68 + 2 * W 4 + 1
    · rw [wU_at (by omega), if_neg (by omega), if_pos q4]
    · rw [wU_ne (by omega)]
      by_cases q5 : i = 68 + 2 * W 4
      · rw [wU_at (by omega), if_pos q5]
      · rw [wU_ne (by omega), if_neg q5, if_neg q4]
theorem uWi_i {W : Int → Int} {o x t h : Int} (o0 : 0 ≤ o) (i : Int) : uWi W o x t h i = if i = 80 + 14 * o + 11 then x else if i = 80 + 14 * o + 12 then t else if i = 80 + 14 * o + 13 then h else W i := by
  unfold uWi
  by_cases q3 : i = 80 + 14 * o + 13
  · rw [wU_at (by omega), if_neg (by omega), if_neg (by omega), if_pos q3]
  · rw [wU_ne (by omega)]
    by_cases q4 : i = 80 + 14 * o + 12
    · rw [wU_at (by omega), if_neg (by omega), if_pos q4]
    · rw [wU_ne (by omega)]
      by_cases q5 : i = 80 + 14 * o + 11
      · rw [wU_at (by omega), if_pos q5]
      · rw [wU_ne (by omega), if_neg q5, if_neg q4, if_neg q3]
theorem wU_i {W : Int → Int} {j v : Int} (j0 : 0 < j) (i : Int) : wU W j v i = if i = j then v else W i := by
  by_cases q : i = j
  · rw [wU_at (by omega), if_pos q]
  · rw [wU_ne (by omega), if_neg q]
theorem uHd_i {W : Int → Int} {a b : Int} (i : Int) : uHd W a b i = if i = 7 then 99 else if i = 1 then b else if i ≤ 0 then a else W i := by
  unfold uHd
  by_cases q2 : i = 7
  · rw [wU_at (by omega), if_pos q2]
  · rw [wU_ne (by omega), if_neg q2]
    by_cases q4 : i = 1
    · rw [wU_at (by omega), if_pos q4]
    · rw [wU_ne (by omega), if_neg q4]
      by_cases q5 : i ≤ 0
      · rw [wU_at (by omega), if_pos q5]
      · rw [wU_ne (by omega), if_neg q5]
theorem WOK_Hd {W : Int → Int} (hz : ∀ i, W i = 0) {a b : Int} (a0 : 2 ≤ a) (a1 : a ≤ 8) (b0 : 5 ≤ b) (b1 : b ≤ 99) : WOK (uHd W a b) := by
  have e0 : uHd W a b 0 = a := by rw [uHd_i, if_neg (by decide), if_neg (by decide), if_pos (by decide)]
  have e1 : uHd W a b 1 = b := by rw [uHd_i, if_neg (by decide), if_pos rfl]
  have e7 : uHd W a b 7 = 99 := by rw [uHd_i, if_pos rfl]
  have e : ∀ i, 2 ≤ i → i ≤ 6 → uHd W a b i = 0 := fun i i0 i1 => by rw [uHd_i, if_neg (by omega), if_neg (by omega), if_neg (by omega), hz]
  have e2 := e 2 (by decide) (by decide)
  have e3 := e 3 (by decide) (by decide)
  have e4 := e 4 (by decide) (by decide)
  have e5 := e 5 (by decide) (by decide)
  have e6 := e 6 (by decide) (by decide)
  refine ⟨⟨⟨by omega, by omega, by omega, by omega, fun r r0 r1 => by omega⟩, by omega, by omega, by omega, by omega⟩, fun f f0 f1 => by omega, ⟨by omega, by omega, by omega, by omega, by omega, by omega, by omega, by omega⟩, fun i i0 i1 => by omega, fun o o0 o1 => by omega⟩
theorem WOK_Ro {W : Int → Int} (hW : WOK W) {a b h : Int} (n1 : W 2 < 12) (a0 : 0 ≤ a) (a1 : a < W 0) (b0 : 0 ≤ b) (b1 : b < W 0) (hab : a ≠ b) (hr : RD W a b = -1) (h0 : 1 ≤ h) (h1 : h ≤ 20) : WOK (uRo W a b h) := by
  have n0 := hW.1.1.2.2.1
  have hi := uRo_i (W := W) (a := a) (b := b) (h := h) n0
  have e : ∀ i, i ≠ 2 → (i < 8 + 3 * W 2 ∨ 8 + 3 * W 2 + 2 < i) → uRo W a b h i = W i := fun i q1 q2 => by rw [hi, if_neg q1, if_neg (by omega), if_neg (by omega), if_neg (by omega)]
  have e2 : uRo W a b h 2 = W 2 + 1 := by rw [hi, if_pos rfl]
  have ea : uRo W a b h (8 + 3 * W 2) = a := by rw [hi, if_neg (by omega), if_pos rfl]
  have eb : uRo W a b h (8 + 3 * W 2 + 1) = b := by rw [hi, if_neg (by omega), if_neg (by omega), if_pos rfl]
  have eh : uRo W a b h (8 + 3 * W 2 + 2) = h := by rw [hi, if_neg (by omega), if_neg (by omega), if_neg (by omega), if_pos rfl]
  have e0 := e 0 (by decide) (by omega)
  have e1 := e 1 (by decide) (by omega)
  have e3 := e 3 (by decide) (by omega)
  have e4 := e 4 (by decide) (by omega)
  have e5 := e 5 (by decide) (by omega)
  have e6 := e 6 (by decide) (by omega)
  have e7 := e 7 (by decide) (by omega)
  obtain ⟨⟨⟨w1, w2, w3, w4, w5⟩, w6, w7, w8, w9⟩, wf, wb, wr, wo⟩ := hW
  have hno := zfst_none (P := rdP W a b) (W 2).toNat 0 (Int.le_refl _) hr
  have hrd : ∀ x y q, q < W 2 → 0 ≤ q → rdP (uRo W a b h) x y q = rdP W x y q := fun x y q q1 q0 => by
    unfold rdP
    rw [e _ (by omega) (by omega), e _ (by omega) (by omega)]
  refine ⟨⟨⟨by omega, by omega, by omega, by omega, fun r r0 r1 => ?_⟩, by omega, by omega, by omega, by omega⟩, fun f f0 f1 => ?_, ⟨by omega, by omega, by omega, by omega, by omega, by omega, by omega, by omega⟩, fun i i0 i1 => ?_, fun o o0 o1 => ?_⟩
  · by_cases z : r = W 2
    · subst z
      rw [ea, eb, eh, e0]
      refine ⟨⟨a0, a1, b0, b1, hab, h0, h1⟩, fun q q0 q1 => ?_⟩
      rw [hrd a b q q1 q0]
      exact hno q q0 (by omega)
    · rw [e (8 + 3 * r) (by omega) (by omega), e (8 + 3 * r + 1) (by omega) (by omega), e (8 + 3 * r + 2) (by omega) (by omega), e0]
      have := w5 r r0 (by omega)
      refine ⟨this.1, fun q q0 q1 => ?_⟩
      rw [hrd _ _ q (by omega) q0]
      exact this.2 q q0 q1
  · have := wf f f0 (by omega)
    rw [e (44 + 3 * f) (by omega) (by omega), e (44 + 3 * f + 1) (by omega) (by omega), e (44 + 3 * f + 2) (by omega) (by omega), e1, e2]
    omega
  · have := wr i i0 (by omega)
    rw [e _ (by omega) (by omega), e _ (by omega) (by omega)]
    exact this
  · exact wOrd_c (fun k k0 k1 => e _ (by omega) (by omega)) e0 e1 (by omega) (fun i i0 i1 => e _ (by omega) (by omega)) (wo o o0 (by omega))
theorem WOK_Fl {W : Int → Int} (hW : WOK W) {r a b : Int} (n1 : W 3 < 8) (r0 : 0 ≤ r) (r1 : r < W 2) (a0 : 0 ≤ a) (a1 : a ≤ b) (b1 : b < W 1) : WOK (uFl W r a b) := by
  have n0 := hW.1.2.2.2.1
  have hi := uFl_i (W := W) (r := r) (a := a) (b := b) n0
  have e : ∀ i, i ≠ 3 → (i < 44 + 3 * W 3 ∨ 44 + 3 * W 3 + 2 < i) → uFl W r a b i = W i := fun i q1 q2 => by rw [hi, if_neg q1, if_neg (by omega), if_neg (by omega), if_neg (by omega)]
  have e3 : uFl W r a b 3 = W 3 + 1 := by rw [hi, if_pos rfl]
  have ea : uFl W r a b (44 + 3 * W 3) = r := by rw [hi, if_neg (by omega), if_pos rfl]
  have eb : uFl W r a b (44 + 3 * W 3 + 1) = a := by rw [hi, if_neg (by omega), if_neg (by omega), if_pos rfl]
  have eh : uFl W r a b (44 + 3 * W 3 + 2) = b := by rw [hi, if_neg (by omega), if_neg (by omega), if_neg (by omega), if_pos rfl]
  have e0 := e 0 (by decide) (by omega)
  have e1 := e 1 (by decide) (by omega)
  have e2 := e 2 (by decide) (by omega)
  have e4 := e 4 (by decide) (by omega)
  have e5 := e 5 (by decide) (by omega)
  have e6 := e 6 (by decide) (by omega)
  have e7 := e 7 (by decide) (by omega)
  obtain ⟨⟨⟨w1, w2, w3, w4, w5⟩, w6, w7, w8, w9⟩, wf, wb, wr, wo⟩ := hW
  have hrd : ∀ x y q, q < W 2 → 0 ≤ q → rdP (uFl W r a b) x y q = rdP W x y q := fun x y q q1 q0 => by
    unfold rdP
    rw [e _ (by omega) (by omega), e _ (by omega) (by omega)]
  refine ⟨⟨⟨by omega, by omega, by omega, by omega, fun x x0 x1 => ?_⟩, by omega, by omega, by omega, by omega⟩, fun f f0 f1 => ?_, ⟨by omega, by omega, by omega, by omega, by omega, by omega, by omega, by omega⟩, fun i i0 i1 => ?_, fun o o0 o1 => ?_⟩
  · rw [e (8 + 3 * x) (by omega) (by omega), e (8 + 3 * x + 1) (by omega) (by omega), e (8 + 3 * x + 2) (by omega) (by omega), e0]
    have := w5 x x0 (by omega)
    refine ⟨this.1, fun q q0 q1 => ?_⟩
    rw [hrd _ _ q (by omega) q0]
    exact this.2 q q0 q1
  · by_cases z : f = W 3
    · subst z
      rw [ea, eb, eh, e1, e2]
      omega
    · have := wf f f0 (by omega)
      rw [e (44 + 3 * f) (by omega) (by omega), e (44 + 3 * f + 1) (by omega) (by omega), e (44 + 3 * f + 2) (by omega) (by omega), e1, e2]
      omega
  · have := wr i i0 (by omega)
    rw [e _ (by omega) (by omega), e _ (by omega) (by omega)]
    exact this
  · exact wOrd_c (fun k k0 k1 => e _ (by omega) (by omega)) e0 e1 (by omega) (fun i i0 i1 => e _ (by omega) (by omega)) (wo o o0 (by omega))
theorem WOK_Ri {W : Int → Int} (hW : WOK W) {p r : Int} (n1 : W 4 < 6) (p0 : 1 ≤ p) (p1 : p ≤ 9) (r0 : 0 ≤ r) (r1 : r ≤ 20) : WOK (uRi W p r) := by
  have n0 := hW.2.2.1.1
  have hi := uRi_i (W := W) (p := p) (r := r) n0
  have e : ∀ i, i ≠ 4 → (i < 68 + 2 * W 4 ∨ 68 + 2 * W 4 + 1 < i) → uRi W p r i = W i := fun i q1 q2 => by rw [hi, if_neg q1, if_neg (by omega), if_neg (by omega)]
  have e4 : uRi W p r 4 = W 4 + 1 := by rw [hi, if_pos rfl]
  have ea : uRi W p r (68 + 2 * W 4) = p := by rw [hi, if_neg (by omega), if_pos rfl]
  have eb : uRi W p r (68 + 2 * W 4 + 1) = r := by rw [hi, if_neg (by omega), if_neg (by omega), if_pos rfl]
  have e0 := e 0 (by decide) (by omega)
  have e1 := e 1 (by decide) (by omega)
  have e2 := e 2 (by decide) (by omega)
  have e3 := e 3 (by decide) (by omega)
  have e5 := e 5 (by decide) (by omega)
  have e6 := e 6 (by decide) (by omega)
  have e7 := e 7 (by decide) (by omega)
  obtain ⟨⟨⟨w1, w2, w3, w4, w5⟩, w6, w7, w8, w9⟩, wf, wb, wr, wo⟩ := hW
  have hrd : ∀ x y q, q < W 2 → 0 ≤ q → rdP (uRi W p r) x y q = rdP W x y q := fun x y q q1 q0 => by
    unfold rdP
    rw [e _ (by omega) (by omega), e _ (by omega) (by omega)]
  refine ⟨⟨⟨by omega, by omega, by omega, by omega, fun x x0 x1 => ?_⟩, by omega, by omega, by omega, by omega⟩, fun f f0 f1 => ?_, ⟨by omega, by omega, by omega, by omega, by omega, by omega, by omega, by omega⟩, fun i i0 i1 => ?_, fun o o0 o1 => ?_⟩
  · rw [e (8 + 3 * x) (by omega) (by omega), e (8 + 3 * x + 1) (by omega) (by omega), e (8 + 3 * x + 2) (by omega) (by omega), e0]
    have := w5 x x0 (by omega)
    refine ⟨this.1, fun q q0 q1 => ?_⟩
    rw [hrd _ _ q (by omega) q0]
    exact this.2 q q0 q1
  · have := wf f f0 (by omega)
    rw [e (44 + 3 * f) (by omega) (by omega), e (44 + 3 * f + 1) (by omega) (by omega), e (44 + 3 * f + 2) (by omega) (by omega), e1, e2]
    exact this
  · by_cases z : i = W 4
    · subst z
      rw [ea, eb]
      omega
    · have := wr i i0 (by omega)
      rw [e _ (by omega) (by omega), e _ (by omega) (by omega)]
      exact this
  · exact wOrd_c (fun k k0 k1 => e _ (by omega) (by omega)) e0 e1 (by omega) (fun i i0 i1 => e _ (by omega) (by omega)) (wo o o0 (by omega))
theorem WOK_U {W : Int → Int} (hW : WOK W) {j v : Int} (hj : j = 6 ∧ 0 ≤ v ∧ v ≤ 2000 ∨ j = 7 ∧ 0 ≤ v ∧ v ≤ 99) : WOK (wU W j v) := by
  have hi := wU_i (W := W) (j := j) (v := v) (by omega)
  have e : ∀ i, i ≠ j → wU W j v i = W i := fun i q1 => by rw [hi, if_neg q1]
  have ej : wU W j v j = v := by rw [hi, if_pos rfl]
  have e0 := e 0 (by omega)
  have e1 := e 1 (by omega)
  have e2 := e 2 (by omega)
  have e3 := e 3 (by omega)
  have e4 := e 4 (by omega)
  have e5 := e 5 (by omega)
  obtain ⟨⟨⟨w1, w2, w3, w4, w5⟩, w6, w7, w8, w9⟩, wf, wb, wr, wo⟩ := hW
  have e67 : 0 ≤ wU W j v 6 ∧ wU W j v 6 ≤ 2000 ∧ 0 ≤ wU W j v 7 ∧ wU W j v 7 ≤ 99 := by
    rcases hj with ⟨rfl, h1, h2⟩ | ⟨rfl, h1, h2⟩
    · have e7 := e 7 (by omega)
      omega
    · have e6 := e 6 (by omega)
      omega
  have hrd : ∀ x y q, q < W 2 → 0 ≤ q → rdP (wU W j v) x y q = rdP W x y q := fun x y q q1 q0 => by
    unfold rdP
    rw [e _ (by omega), e _ (by omega)]
  refine ⟨⟨⟨by omega, by omega, by omega, by omega, fun x x0 x1 => ?_⟩, by omega, by omega, by omega, by omega⟩, fun f f0 f1 => ?_, ⟨by omega, by omega, by omega, by omega, by omega, by omega, by omega, by omega⟩, fun i i0 i1 => ?_, fun o o0 o1 => ?_⟩
  · rw [e (8 + 3 * x) (by omega), e (8 + 3 * x + 1) (by omega), e (8 + 3 * x + 2) (by omega), e0]
    have := w5 x x0 (by omega)
    refine ⟨this.1, fun q q0 q1 => ?_⟩
    rw [hrd _ _ q (by omega) q0]
    exact this.2 q q0 q1
  · have := wf f f0 (by omega)
    rw [e (44 + 3 * f) (by omega), e (44 + 3 * f + 1) (by omega), e (44 + 3 * f + 2) (by omega), e1, e2]
    exact this
  · have := wr i i0 (by omega)
    rw [e _ (by omega), e _ (by omega)]
    exact this
  · exact wOrd_c (fun k k0 k1 => e _ (by omega)) e0 e1 (by omega) (fun i i0 i1 => e _ (by omega)) (wo o o0 (by omega))
/-- orders alone are changed, or one more is told -/
theorem WOK_or {W W' : Int → Int} (hW : WOK W) (e : ∀ i, i < 80 → i ≠ 5 → W' i = W i) (h5 : 0 ≤ W' 5 ∧ W' 5 ≤ 10) (hO : ∀ o, 0 ≤ o → o < W' 5 → wOrd W' o) : WOK W' := by
  have e0 := e 0 (by decide) (by decide)
  have e1 := e 1 (by decide) (by decide)
  have e2 := e 2 (by decide) (by decide)
  have e3 := e 3 (by decide) (by decide)
  have e4 := e 4 (by decide) (by decide)
  have e6 := e 6 (by decide) (by decide)
  have e7 := e 7 (by decide) (by decide)
  obtain ⟨⟨⟨w1, w2, w3, w4, w5⟩, w6, w7, w8, w9⟩, wf, wb, wr, wo⟩ := hW
  have hrd : ∀ x y q, q < W 2 → 0 ≤ q → rdP W' x y q = rdP W x y q := fun x y q q1 q0 => by
    unfold rdP
    rw [e _ (by omega) (by omega), e _ (by omega) (by omega)]
  refine ⟨⟨⟨by omega, by omega, by omega, by omega, fun x x0 x1 => ?_⟩, by omega, by omega, by omega, by omega⟩, fun f f0 f1 => ?_, ⟨by omega, by omega, h5.1, h5.2, by omega, by omega, by omega, by omega⟩, fun i i0 i1 => ?_, hO⟩
  · rw [e (8 + 3 * x) (by omega) (by omega), e (8 + 3 * x + 1) (by omega) (by omega), e (8 + 3 * x + 2) (by omega) (by omega), e0]
    have := w5 x x0 (by omega)
    refine ⟨this.1, fun q q0 q1 => ?_⟩
    rw [hrd _ _ q (by omega) q0]
    exact this.2 q q0 q1
  · have := wf f f0 (by omega)
    rw [e (44 + 3 * f) (by omega) (by omega), e (44 + 3 * f + 1) (by omega) (by omega), e (44 + 3 * f + 2) (by omega) (by omega), e1, e2]
    exact this
  · have := wr i i0 (by omega)
    rw [e _ (by omega) (by omega), e _ (by omega) (by omega)]
    exact this
theorem WOK_Wi {W : Int → Int} (hW : WOK W) {o x t h : Int} (o0 : 0 ≤ o) (o1 : o < W 5) (hs : oo W o 2 ≠ -1) (x0 : 0 ≤ x) (x1 : x ≤ 9) (t0 : 0 ≤ t) (t1 : t < W 0) (h0 : 0 ≤ h) (h1 : h < W 1) : WOK (uWi W o x t h) := by
  have hi := uWi_i (W := W) (o := o) (x := x) (t := t) (h := h) o0
  have e : ∀ i, (i < 80 + 14 * o + 11 ∨ 80 + 14 * o + 13 < i) → uWi W o x t h i = W i := fun i q2 => by rw [hi, if_neg (by omega), if_neg (by omega), if_neg (by omega)]
  have e0 := e 0 (by omega)
  have e1 := e 1 (by omega)
  have e4 := e 4 (by omega)
  have e5 := e 5 (by omega)
  have h5 := hW.2.2.1
  refine WOK_or hW (fun i i0 i1 => e i (by omega)) (by omega) (fun p p0 p1 => ?_)
  have hp := hW.2.2.2.2 p p0 (by omega)
  by_cases z : p = o
  · subst z
    have k : ∀ k, k < 11 → oo (uWi W p x t h) p k = oo W p k := fun k k1 => e _ (by omega)
    have k11 : oo (uWi W p x t h) p 11 = x := by unfold oo; rw [hi, if_pos rfl]
    have k12 : oo (uWi W p x t h) p 12 = t := by unfold oo; rw [hi, if_neg (by omega), if_pos rfl]
    have k13 : oo (uWi W p x t h) p 13 = h := by unfold oo; rw [hi, if_neg (by omega), if_neg (by omega), if_pos rfl]
    obtain ⟨⟨a1, a2, a3, a4, a5, a6, a7, a8, a9, a10, a11, a12, a13, a14, a15⟩, b1, b2, b3, b4, b5, b6, b7⟩ := hp
    have ep : pac (uWi W p x t h) p = pac W p := by
      unfold pac
      rw [k 0 (by decide)]
      exact e _ (by omega)
    have er : res (uWi W p x t h) p = res W p := by
      unfold res
      rw [k 0 (by decide)]
      exact e _ (by omega)
    unfold wOrd oOk
    rw [ep, er, e0, e1, e4, k 4 (by decide), k 5 (by decide), k 7 (by decide), k 6 (by decide), k 0 (by decide), k 1 (by decide), k 2 (by decide), k 3 (by decide), k11, k12, k13]
    refine ⟨⟨a1, a2, a3, a4, a5, a6, fun i i0 i1 => ?_, a8, a9, a10, a11, a12, a13, a14, a15⟩, b1, b2, b3, b4, b5, b6, .inr ⟨x0, x1, t0, t1, h0, h1, hs⟩⟩
    rw [k (8 + i) (by omega)]
    exact a7 i i0 i1
  · exact wOrd_c (fun k k0 k1 => e _ (by omega)) e0 e1 (by omega) (fun i i0 i1 => e _ (by omega)) hp
