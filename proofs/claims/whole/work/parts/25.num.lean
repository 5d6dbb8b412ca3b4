/-! NUMBERS: ints and longs as whole numbers; the memory by whole numbers; what a run comes to -/
theorem zcall_of {mj : Nat} {as : List Value} {σ : zM} {ls : zLs} {o : Option zR} (h1 : (zsp as).length ≤ zML mj) (h2 : zent (zML mj) as = ls) (h : zev mj 0 ls [] σ = o) : zcall mj as σ = o := by
  unfold zcall
  rw [if_pos h1, h2, h]
theorem mm_add (a b : Int) : Int32.ofInt a + Int32.ofInt b = Int32.ofInt (a + b) := (Int32.ofInt_add a b).symm
theorem mm_sub (a b : Int) : Int32.ofInt a - Int32.ofInt b = Int32.ofInt (a - b) := (Int32.ofInt_sub a b).symm
theorem mm_mul (a b : Int) : Int32.ofInt a * Int32.ofInt b = Int32.ofInt (a * b) := (Int32.ofInt_mul a b).symm
theorem mm_to {n : Int} (h0 : -2147483648 ≤ n) (h1 : n < 2147483648) : (Int32.ofInt n).toInt = n := Int32.toInt_ofInt_of_le (by omega) (by omega)
theorem mm_lt {a b : Int} (h0 : -2147483648 ≤ a) (h1 : a < 2147483648) (h2 : -2147483648 ≤ b) (h3 : b < 2147483648) : Int32.ofInt a < Int32.ofInt b ↔ a < b := by
  rw [Int32.lt_iff_toInt_lt, mm_to h0 h1, mm_to h2 h3]
theorem mm_le {a b : Int} (h0 : -2147483648 ≤ a) (h1 : a < 2147483648) (h2 : -2147483648 ≤ b) (h3 : b < 2147483648) : Int32.ofInt a ≤ Int32.ofInt b ↔ a ≤ b := by
  rw [Int32.le_iff_toInt_le, mm_to h0 h1, mm_to h2 h3]
theorem mm_eq {a b : Int} (h0 : -2147483648 ≤ a) (h1 : a < 2147483648) (h2 : -2147483648 ≤ b) (h3 : b < 2147483648) : Int32.ofInt a = Int32.ofInt b ↔ a = b := by
  rw [← Int32.toInt_inj, mm_to h0 h1, mm_to h2 h3]
theorem mm_z : (0 : Int32) = Int32.ofInt 0 := rfl
theorem mm_cl {n : Int} (h0 : -2147483648 ≤ n) (h1 : n < 2147483648) : (Int32.ofInt n).toNatClampNeg = n.toNat := by
  show (Int32.ofInt n).toInt.toNat = n.toNat
  rw [mm_to h0 h1]
theorem mm_ex (x : Int32) : ∃ n, -2147483648 ≤ n ∧ n < 2147483648 ∧ x = Int32.ofInt n := by
  refine ⟨x.toInt, ?_, ?_, (Int32.ofInt_toInt x).symm⟩
  · have := Int32.le_toInt x
    omega
  · have := Int32.toInt_lt x
    omega
theorem mm_exJ (x : Int64) : ∃ n, -9223372036854775808 ≤ n ∧ n < 9223372036854775808 ∧ x = Int64.ofInt n := by
  refine ⟨x.toInt, ?_, ?_, (Int64.ofInt_toInt x).symm⟩
  · have := Int64.le_toInt x
    omega
  · have := Int64.toInt_lt x
    omega
theorem mm_nat (n : Nat) : Int32.ofNat n = Int32.ofInt n := (Int32.ofInt_eq_ofNat).symm
theorem mm_ite {c : Prop} [Decidable c] (a b : Int) : (if c then Int32.ofInt a else Int32.ofInt b) = Int32.ofInt (if c then a else b) := by
  split <;> rfl
/-! longs -/
theorem mm_toJ {n : Int} (h0 : -9223372036854775808 ≤ n) (h1 : n < 9223372036854775808) : (Int64.ofInt n).toInt = n := Int64.toInt_ofInt_of_le (by omega) (by omega)
theorem mm_i2l {n : Int} (h0 : -2147483648 ≤ n) (h1 : n < 2147483648) : (Int32.ofInt n).toInt64 = Int64.ofInt n := by
  rw [← Int64.toInt_inj, Int32.toInt_toInt64, mm_to h0 h1, mm_toJ (by omega) (by omega)]
theorem mm_l2i {n : Int} (h0 : -2147483648 ≤ n) (h1 : n < 2147483648) : (Int64.ofInt n).toInt32 = Int32.ofInt n := by
  rw [← Int32.toInt_inj, Int64.toInt_toInt32, mm_to h0 h1, mm_toJ (by omega) (by omega), Int.bmod_eq_of_le (by omega) (by omega)]
theorem mm_addJ (a b : Int) : Int64.ofInt a + Int64.ofInt b = Int64.ofInt (a + b) := (Int64.ofInt_add a b).symm
theorem mm_mulJ (a b : Int) : Int64.ofInt a * Int64.ofInt b = Int64.ofInt (a * b) := (Int64.ofInt_mul a b).symm
theorem mm_ltJ {a b : Int} (h0 : -9223372036854775808 ≤ a) (h1 : a < 9223372036854775808) (h2 : -9223372036854775808 ≤ b) (h3 : b < 9223372036854775808) : Int64.ofInt a < Int64.ofInt b ↔ a < b := by
  rw [Int64.lt_iff_toInt_lt, mm_toJ h0 h1, mm_toJ h2 h3]
theorem mm_leJ {a b : Int} (h0 : -9223372036854775808 ≤ a) (h1 : a < 9223372036854775808) (h2 : -9223372036854775808 ≤ b) (h3 : b < 9223372036854775808) : Int64.ofInt a ≤ Int64.ofInt b ↔ a ≤ b := by
  rw [Int64.le_iff_toInt_le, mm_toJ h0 h1, mm_toJ h2 h3]
theorem mm_eqJ {a b : Int} (h0 : -9223372036854775808 ≤ a) (h1 : a < 9223372036854775808) (h2 : -9223372036854775808 ≤ b) (h3 : b < 9223372036854775808) : Int64.ofInt a = Int64.ofInt b ↔ a = b := by
  rw [← Int64.toInt_inj, mm_toJ h0 h1, mm_toJ h2 h3]
theorem mm_clt (x y : Int64) : (lg_cmp x y < Int32.ofInt 0) ↔ x < y := lg_cmp_lt x y
theorem mm_cle (x y : Int64) : (lg_cmp x y ≤ Int32.ofInt 0) ↔ x ≤ y := lg_cmp_le x y
theorem mm_cgt (x y : Int64) : (Int32.ofInt 0 < lg_cmp x y) ↔ y < x := lg_cmp_gt x y
theorem mm_cge (x y : Int64) : (Int32.ofInt 0 ≤ lg_cmp x y) ↔ y ≤ x := lg_cmp_ge x y
theorem mm_ceq (x y : Int64) : (lg_cmp x y = Int32.ofInt 0) ↔ x = y := lg_cmp_eq x y
/-! truth as a number -/
theorem mm_b {c : Prop} [Decidable c] : (Int32.ofInt (if c then 1 else 0) = Int32.ofInt 0) ↔ ¬ c := by
  split
  · next h => exact ⟨fun e => absurd e (by decide), fun e => absurd h e⟩
  · next h => exact ⟨fun _ => h, fun _ => rfl⟩
theorem mm_nb {c : Prop} [Decidable c] : (vp_nar .boolean (Int32.ofInt (if c then 1 else 0)) = Int32.ofInt (if c then 1 else 0)) ↔ True := by
  split <;> exact ⟨fun _ => trivial, fun _ => rfl⟩
theorem mm_nb0 : (vp_nar .boolean (Int32.ofInt 0) = Int32.ofInt 0) ↔ True := ⟨fun _ => trivial, fun _ => rfl⟩
theorem mm_nb1 : (vp_nar .boolean (Int32.ofInt 1) = Int32.ofInt 1) ↔ True := ⟨fun _ => trivial, fun _ => rfl⟩
theorem mm_vb0 : vp_nar .boolean (Int32.ofInt 0) = Int32.ofInt 0 := rfl
theorem mm_vb1 : vp_nar .boolean (Int32.ofInt 1) = Int32.ofInt 1 := rfl
theorem mm_vbc {c : Prop} [Decidable c] : vp_nar .boolean (Int32.ofInt (if c then 1 else 0)) = Int32.ofInt (if c then 1 else 0) := by
  split <;> rfl
theorem mm_vy0 : vp_nar .byte (Int32.ofInt 0) = Int32.ofInt 0 := rfl
theorem mm_vy1 : vp_nar .byte (Int32.ofInt 1) = Int32.ofInt 1 := rfl
/-! the memory -/
def zN (σ : zM) (a k : Nat) : Int := (zI σ a k).toInt
def zL (σ : zM) (a k : Nat) : Int := (zJ σ a k).toInt
def zw (σ : zM) (a k : Nat) (v : Int) : zM := zsI σ a k (Int32.ofInt v)
def zwl (σ : zM) (a k : Nat) (v : Int) : zM := zsJ σ a k (Int64.ofInt v)
theorem mm_r (σ : zM) (a k : Nat) : zI σ a k = Int32.ofInt (zN σ a k) := (Int32.ofInt_toInt _).symm
theorem mm_rl (σ : zM) (a k : Nat) : zJ σ a k = Int64.ofInt (zL σ a k) := (Int64.ofInt_toInt _).symm
theorem mm_w (σ : zM) (a k : Nat) (v : Int) : zsI σ a k (Int32.ofInt v) = zw σ a k v := rfl
theorem mm_wl (σ : zM) (a k : Nat) (v : Int) : zsJ σ a k (Int64.ofInt v) = zwl σ a k v := rfl
theorem mm_lo (σ : zM) (a k : Nat) : -2147483648 ≤ zN σ a k := by
  have := Int32.le_toInt (zI σ a k)
  unfold zN
  omega
theorem mm_hi (σ : zM) (a k : Nat) : zN σ a k < 2147483648 := by
  have := Int32.toInt_lt (zI σ a k)
  unfold zN
  omega
theorem mm_loJ (σ : zM) (a k : Nat) : -9223372036854775808 ≤ zL σ a k := by
  have := Int64.le_toInt (zJ σ a k)
  unfold zL
  omega
theorem mm_hiJ (σ : zM) (a k : Nat) : zL σ a k < 9223372036854775808 := by
  have := Int64.toInt_lt (zJ σ a k)
  unfold zL
  omega
/-- what is written, read -/
theorem mm_at {σ : zM} {a k b j : Nat} {v : Int} (hb : b = a) (hj : j = k) (h0 : -2147483648 ≤ v) (h1 : v < 2147483648) : zN (zw σ a k v) b j = v := by
  subst hb hj
  show (if b = b ∧ j = j then Int32.ofInt v else zI σ b j).toInt = v
  rw [if_pos ⟨rfl, rfl⟩, mm_to h0 h1]
theorem mm_ne {σ : zM} {a k b j : Nat} {v : Int} (h : b ≠ a) : zN (zw σ a k v) b j = zN σ b j := by
  show (if b = a ∧ j = k then Int32.ofInt v else zI σ b j).toInt = _
  rw [if_neg (fun q => h q.1)]
  rfl
theorem mm_nj {σ : zM} {a k b j : Nat} {v : Int} (h : j ≠ k) : zN (zw σ a k v) b j = zN σ b j := by
  show (if b = a ∧ j = k then Int32.ofInt v else zI σ b j).toInt = _
  rw [if_neg (fun q => h q.2)]
  rfl
theorem mm_if {σ : zM} {a k b j : Nat} {v : Int} (h0 : -2147483648 ≤ v) (h1 : v < 2147483648) : zN (zw σ a k v) b j = if b = a ∧ j = k then v else zN σ b j := by
  by_cases h : b = a ∧ j = k
  · rw [if_pos h, mm_at h.1 h.2 h0 h1]
  · rw [if_neg h]
    by_cases e : b = a
    · exact mm_nj fun q => h ⟨e, q⟩
    · exact mm_ne e
theorem mm_Lw (σ : zM) (a k b j : Nat) (v : Int) : zL (zw σ a k v) b j = zL σ b j := rfl
theorem mm_Nw (σ : zM) (a k b j : Nat) (v : Int) : zN (zwl σ a k v) b j = zN σ b j := rfl
theorem mm_atJ {σ : zM} {a k b j : Nat} {v : Int} (hb : b = a) (hj : j = k) (h0 : -9223372036854775808 ≤ v) (h1 : v < 9223372036854775808) : zL (zwl σ a k v) b j = v := by
  subst hb hj
  show (if b = b ∧ j = j then Int64.ofInt v else zJ σ b j).toInt = v
  rw [if_pos ⟨rfl, rfl⟩, mm_toJ h0 h1]
theorem mm_neJ {σ : zM} {a k b j : Nat} {v : Int} (h : b ≠ a) : zL (zwl σ a k v) b j = zL σ b j := by
  show (if b = a ∧ j = k then Int64.ofInt v else zJ σ b j).toInt = _
  rw [if_neg (fun q => h q.1)]
  rfl
theorem mm_njJ {σ : zM} {a k b j : Nat} {v : Int} (h : j ≠ k) : zL (zwl σ a k v) b j = zL σ b j := by
  show (if b = a ∧ j = k then Int64.ofInt v else zJ σ b j).toInt = _
  rw [if_neg (fun q => h q.2)]
  rfl
theorem mm_sw (σ : zM) (a k : Nat) (v : Int) : (zw σ a k v).2.2 = σ.2.2 := rfl
theorem mm_swl (σ : zM) (a k : Nat) (v : Int) : (zwl σ a k v).2.2 = σ.2.2 := rfl
/-! what may change: the rows that S names -/
def mf (S : Nat → Prop) (σ τ : zM) : Prop := (∀ a, ¬ S a → ∀ k, zN τ a k = zN σ a k) ∧ (∀ a, ¬ S a → ∀ k, zL τ a k = zL σ a k) ∧ τ.2.2 = σ.2.2
theorem mf.rf {S : Nat → Prop} {σ : zM} : mf S σ σ := ⟨fun _ _ _ => rfl, fun _ _ _ => rfl, rfl⟩
theorem mf.tr {S : Nat → Prop} {σ τ υ : zM} (h : mf S σ τ) (g : mf S τ υ) : mf S σ υ := ⟨fun a ha k => (g.1 a ha k).trans (h.1 a ha k), fun a ha k => (g.2.1 a ha k).trans (h.2.1 a ha k), g.2.2.trans h.2.2⟩
theorem mf.mono {S T : Nat → Prop} {σ τ : zM} (h : mf S σ τ) (hs : ∀ a, S a → T a) : mf T σ τ := ⟨fun a ha => h.1 a fun q => ha (hs a q), fun a ha => h.2.1 a fun q => ha (hs a q), h.2.2⟩
theorem mf.zw {S : Nat → Prop} {σ τ : zM} (h : mf S σ τ) (a k : Nat) (v : Int) (ha : S a) : mf S σ (zw τ a k v) := ⟨fun b hb j => (mm_ne (fun e => hb (by rw [e]; exact ha))).trans (h.1 b hb j), fun b hb j => h.2.1 b hb j, h.2.2⟩
theorem mf.zwl {S : Nat → Prop} {σ τ : zM} (h : mf S σ τ) (a k : Nat) (v : Int) (ha : S a) : mf S σ (zwl τ a k v) := ⟨fun b hb j => h.1 b hb j, fun b hb j => (mm_neJ (fun e => hb (by rw [e]; exact ha))).trans (h.2.1 b hb j), h.2.2⟩
/-! a run's end -/
def zwp (o : Option zR) (Q : Option Value → zM → Prop) : Prop := ∃ v τ, o = some (v, τ) ∧ Q v τ
theorem zwp_ret {v : Option Value} {τ : zM} {Q : Option Value → zM → Prop} (h : Q v τ) : zwp (some (v, τ)) Q := ⟨v, τ, rfl, h⟩
theorem zwp_ite {c : Prop} [Decidable c] {A B : Option zR} {Q : Option Value → zM → Prop} (h1 : c → zwp A Q) (h2 : ¬ c → zwp B Q) : zwp (if c then A else B) Q := by
  by_cases h : c
  · rw [if_pos h]; exact h1 h
  · rw [if_neg h]; exact h2 h
theorem zwp_let {τ : zM} {f : zM → Option zR} {Q : Option Value → zM → Prop} (h : zwp (f τ) Q) : zwp (zlet τ f) Q := h
theorem zwp_cd {b : Bool} {A : Option zR} {Q : Option Value → zM → Prop} (hb : b = true) (h : zwp A Q) : zwp (cond b A none) Q := by
  rw [hb]; exact h
theorem zwp_of {o o' : Option zR} {Q : Option Value → zM → Prop} (H : ∀ r, o' = some r → o = some r) (h : zwp o' Q) : zwp o Q := by
  obtain ⟨v, τ, h1, h2⟩ := h
  exact ⟨v, τ, H _ h1, h2⟩
theorem zwp_mono {o : Option zR} {P Q : Option Value → zM → Prop} (h : zwp o P) (hi : ∀ v τ, P v τ → Q v τ) : zwp o Q := by
  obtain ⟨v, τ, h1, h2⟩ := h
  exact ⟨v, τ, h1, hi _ _ h2⟩
theorem zwp_I {o : Option zR} {k : Int32 → zM → Option zR} {Q : Option Value → zM → Prop} (P : Int → zM → Prop) (h : zwp o (fun v τ => ∃ n, v = some (.int (Int32.ofInt n)) ∧ P n τ)) (h2 : ∀ n τ, P n τ → zwp (k (Int32.ofInt n) τ) Q) : zwp (zbI o k) Q := by
  obtain ⟨v, τ, h1, n, rfl, h3⟩ := h
  rw [h1]
  exact h2 n τ h3
theorem zwp_V {o : Option zR} {k : zM → Option zR} {Q : Option Value → zM → Prop} (P : zM → Prop) (h : zwp o (fun v τ => v = none ∧ P τ)) (h2 : ∀ τ, P τ → zwp (k τ) Q) : zwp (zbV o k) Q := by
  obtain ⟨v, τ, h1, rfl, h3⟩ := h
  rw [h1]
  exact h2 τ h3
theorem zwp_E {o : Option zR} {v : Option Value} {τ : zM} {Q : Option Value → zM → Prop} (h : o = some (v, τ)) (hQ : Q v τ) : zwp o Q := ⟨v, τ, h, hQ⟩
theorem zbI_s (v : Int32) (σ : zM) (k : Int32 → zM → Option zR) : zbI (some (some (.int v), σ)) k = k v σ := rfl
theorem zbJ_s (v : Int64) (σ : zM) (k : Int64 → zM → Option zR) : zbJ (some (some (.long v), σ)) k = k v σ := rfl
theorem zbV_s (σ : zM) (k : zM → Option zR) : zbV (some (none, σ)) k = k σ := rfl
theorem cond_t (A : Option zR) : cond true A none = A := rfl
theorem zlet_s (τ : zM) (f : zM → Option zR) : zlet τ f = f τ := rfl
/-! rows and objects -/
theorem zarr_of {a t N : Nat} {n : Int} (h : zsh[a]? = some (t, N)) (hN : N < 2147483648) (h0 : 0 ≤ n) (h1 : n < N) : zarr a t (Int32.ofInt n) = true := by
  unfold zarr
  rw [h]
  simp only [beq_self_eq_true, Bool.true_and, Bool.and_eq_true, decide_eq_true_eq]
  rw [mm_z, mm_le (by decide) (by decide) (by omega) (by omega), mm_cl (by omega) (by omega)]
  omega
theorem zseg_of {a t N : Nat} {p n : Int} (h : zsh[a]? = some (t, N)) (hN : N < 2147483648) (h0 : 0 ≤ p) (h1 : 0 ≤ n) (h2 : p + n ≤ N) : zseg a t (Int32.ofInt p) (Int32.ofInt n) = true := by
  unfold zseg
  rw [h]
  simp only [beq_self_eq_true, Bool.true_and, Bool.and_eq_true, decide_eq_true_eq]
  rw [mm_z, mm_le (by decide) (by decide) (by omega) (by omega), mm_le (by decide) (by decide) (by omega) (by omega), mm_cl (by omega) (by omega), mm_cl (by omega) (by omega)]
  omega
def isRealm (p : Nat) : Prop := p = 3 ∨ p = 33 ∨ p = 196 ∨ p = 226 ∨ p = 256
def isTrip (p : Nat) : Prop := p = 104 ∨ ∃ k, k < 10 ∧ p = 127 + 6 * k
def isOrd (q : Nat) : Prop := ∃ p k, isRealm p ∧ k < 10 ∧ q = p + 10 + 2 * k
def isFl (p : Nat) : Prop := p = 99 ∨ p = 101
def zobjB (a c : Nat) : Prop := zobj a c = true
theorem zo_realm : ∀ p ∈ [3, 33, 196, 226, 256], zobj p 5 = true ∧ zsh[p + 1]? = some (100, 12) ∧ zsh[p + 2]? = some (100, 12) ∧ zsh[p + 3]? = some (100, 12) ∧ zsh[p + 4]? = some (100, 8) ∧ zsh[p + 5]? = some (100, 8) ∧ zsh[p + 6]? = some (100, 8) ∧ zsh[p + 7]? = some (100, 6) ∧ zsh[p + 8]? = some (100, 6) ∧ zsh[p + 9]? = some (104, 10) := by decide +kernel
theorem zo_ord : ∀ p ∈ [3, 33, 196, 226, 256], ∀ k, k < 10 → zobj (p + 10 + 2 * k) 3 = true ∧ zsh[p + 10 + 2 * k + 1]? = some (100, 3) := by decide +kernel
theorem zo_trip : ∀ k, k < 10 → zobj (127 + 6 * k) 7 = true ∧ ∀ i, i < 5 → zsh[127 + 6 * k + (i + 1)]? = some (100, 29) := by decide +kernel
theorem zo_trip0 : zobj 104 7 = true ∧ ∀ i, i < 5 → zsh[104 + (i + 1)]? = some (100, 29) := by decide +kernel
theorem isRealm.m {p : Nat} (h : isRealm p) : p ∈ [3, 33, 196, 226, 256] := by
  rcases h with rfl | rfl | rfl | rfl | rfl <;> decide
theorem zr_o {p : Nat} (h : isRealm p) : zobj p 5 = true := (zo_realm p h.m).1
theorem zr_1 {p : Nat} {n : Int} (h : isRealm p) (h0 : 0 ≤ n) (h1 : n < 12) : zarr (p + 1) 100 (Int32.ofInt n) = true := zarr_of (zo_realm p h.m).2.1 (by decide) h0 h1
theorem zr_2 {p : Nat} {n : Int} (h : isRealm p) (h0 : 0 ≤ n) (h1 : n < 12) : zarr (p + 2) 100 (Int32.ofInt n) = true := zarr_of (zo_realm p h.m).2.2.1 (by decide) h0 h1
theorem zr_3 {p : Nat} {n : Int} (h : isRealm p) (h0 : 0 ≤ n) (h1 : n < 12) : zarr (p + 3) 100 (Int32.ofInt n) = true := zarr_of (zo_realm p h.m).2.2.2.1 (by decide) h0 h1
theorem zr_4 {p : Nat} {n : Int} (h : isRealm p) (h0 : 0 ≤ n) (h1 : n < 8) : zarr (p + 4) 100 (Int32.ofInt n) = true := zarr_of (zo_realm p h.m).2.2.2.2.1 (by decide) h0 h1
theorem zr_5 {p : Nat} {n : Int} (h : isRealm p) (h0 : 0 ≤ n) (h1 : n < 8) : zarr (p + 5) 100 (Int32.ofInt n) = true := zarr_of (zo_realm p h.m).2.2.2.2.2.1 (by decide) h0 h1
theorem zr_6 {p : Nat} {n : Int} (h : isRealm p) (h0 : 0 ≤ n) (h1 : n < 8) : zarr (p + 6) 100 (Int32.ofInt n) = true := zarr_of (zo_realm p h.m).2.2.2.2.2.2.1 (by decide) h0 h1
theorem zr_7 {p : Nat} {n : Int} (h : isRealm p) (h0 : 0 ≤ n) (h1 : n < 6) : zarr (p + 7) 100 (Int32.ofInt n) = true := zarr_of (zo_realm p h.m).2.2.2.2.2.2.2.1 (by decide) h0 h1
theorem zr_8 {p : Nat} {n : Int} (h : isRealm p) (h0 : 0 ≤ n) (h1 : n < 6) : zarr (p + 8) 100 (Int32.ofInt n) = true := zarr_of (zo_realm p h.m).2.2.2.2.2.2.2.2.1 (by decide) h0 h1
theorem zr_9 {p : Nat} {n : Int} (h : isRealm p) (h0 : 0 ≤ n) (h1 : n < 10) : zarr (p + 9) 104 (Int32.ofInt n) = true := zarr_of (zo_realm p h.m).2.2.2.2.2.2.2.2.2 (by decide) h0 h1
theorem zel_r (p k : Nat) : zel 104 (p + 9) k = p + 10 + 2 * k := rfl
theorem zel_42 (k : Nat) : zel 104 42 k = 33 + 10 + 2 * k := rfl
theorem zel_12 (k : Nat) : zel 104 12 k = 3 + 10 + 2 * k := rfl
theorem zel_71 (k : Nat) : zel 107 71 k = 72 + k := rfl
theorem zel_80 (k : Nat) : zel 107 80 k = 81 + k := rfl
theorem zel_89 (k : Nat) : zel 107 89 k = 90 + k := rfl
theorem zel_110 (k : Nat) : zel 107 110 k = 111 + k := rfl
theorem zel_188 (k : Nat) : zel 108 188 k = 189 + k := rfl
theorem zel_103 (k : Nat) : zel 106 103 k = 127 + 6 * k := rfl
theorem zel_195 (k : Nat) : zel 105 195 k = 196 + 30 * k := rfl
theorem isRealm.ord {p k : Nat} (h : isRealm p) (hk : k < 10) : isOrd (p + 10 + 2 * k) := ⟨p, k, h, hk, rfl⟩
theorem zq_o {q : Nat} (h : isOrd q) : zobj q 3 = true := by
  obtain ⟨p, k, hp, hk, rfl⟩ := h
  exact (zo_ord p hp.m k hk).1
theorem zq_v {q : Nat} {n : Int} (h : isOrd q) (h0 : 0 ≤ n) (h1 : n < 3) : zarr (q + 1) 100 (Int32.ofInt n) = true := by
  obtain ⟨p, k, hp, hk, rfl⟩ := h
  exact zarr_of (zo_ord p hp.m k hk).2 (by decide) h0 h1
theorem zt_o {p : Nat} (h : isTrip p) : zobj p 7 = true := by
  rcases h with rfl | ⟨k, hk, rfl⟩
  · exact zo_trip0.1
  · exact (zo_trip k hk).1
theorem zt_a {p i : Nat} {n : Int} (h : isTrip p) (hi : i < 5) (h0 : 0 ≤ n) (h1 : n < 29) : zarr (p + (i + 1)) 100 (Int32.ofInt n) = true := by
  rcases h with rfl | ⟨k, hk, rfl⟩
  · exact zarr_of (zo_trip0.2 i hi) (by decide) h0 h1
  · exact zarr_of ((zo_trip k hk).2 i hi) (by decide) h0 h1
theorem zt_1 {p : Nat} {n : Int} (h : isTrip p) (h0 : 0 ≤ n) (h1 : n < 29) : zarr (p + 1) 100 (Int32.ofInt n) = true := zt_a (i := 0) h (by decide) h0 h1
theorem zt_2 {p : Nat} {n : Int} (h : isTrip p) (h0 : 0 ≤ n) (h1 : n < 29) : zarr (p + 2) 100 (Int32.ofInt n) = true := zt_a (i := 1) h (by decide) h0 h1
theorem zt_3 {p : Nat} {n : Int} (h : isTrip p) (h0 : 0 ≤ n) (h1 : n < 29) : zarr (p + 3) 100 (Int32.ofInt n) = true := zt_a (i := 2) h (by decide) h0 h1
theorem zt_4 {p : Nat} {n : Int} (h : isTrip p) (h0 : 0 ≤ n) (h1 : n < 29) : zarr (p + 4) 100 (Int32.ofInt n) = true := zt_a (i := 3) h (by decide) h0 h1
theorem zt_5 {p : Nat} {n : Int} (h : isTrip p) (h0 : 0 ≤ n) (h1 : n < 29) : zarr (p + 5) 100 (Int32.ofInt n) = true := zt_a (i := 4) h (by decide) h0 h1
theorem zf_o {p : Nat} (h : isFl p) : zobj p 2 = true := by
  rcases h with rfl | rfl <;> decide +kernel
theorem zf_1 {p : Nat} {n : Int} (h : isFl p) (h0 : 0 ≤ n) (h1 : n < 1188) : zarr (p + 1) 101 (Int32.ofInt n) = true := by
  rcases h with rfl | rfl
  · exact zarr_of (N := 1188) (by decide +kernel) (by decide) h0 h1
  · exact zarr_of (N := 1188) (by decide +kernel) (by decide) h0 h1
theorem zo_w : ∀ k, k < 8 → zsh[72 + k]? = some (100, 8) ∧ zsh[81 + k]? = some (100, 8) ∧ zsh[90 + k]? = some (100, 8) := by decide +kernel
theorem zo_c : ∀ k, k < 10 → zsh[111 + k]? = some (100, 99) := by decide +kernel
theorem zo_s : ∀ k, k < 4 → zsh[189 + k]? = some (103, 60) := by decide +kernel
theorem za_w1 {k : Nat} {n : Int} (hk : k < 8) (h0 : 0 ≤ n) (h1 : n < 8) : zarr (72 + k) 100 (Int32.ofInt n) = true := zarr_of (zo_w k hk).1 (by decide) h0 h1
theorem za_w2 {k : Nat} {n : Int} (hk : k < 8) (h0 : 0 ≤ n) (h1 : n < 8) : zarr (81 + k) 100 (Int32.ofInt n) = true := zarr_of (zo_w k hk).2.1 (by decide) h0 h1
theorem za_w3 {k : Nat} {n : Int} (hk : k < 8) (h0 : 0 ≤ n) (h1 : n < 8) : zarr (90 + k) 100 (Int32.ofInt n) = true := zarr_of (zo_w k hk).2.2 (by decide) h0 h1
theorem za_cm {k : Nat} {n : Int} (hk : k < 10) (h0 : 0 ≤ n) (h1 : n < 99) : zarr (111 + k) 100 (Int32.ofInt n) = true := zarr_of (zo_c k hk) (by decide) h0 h1
theorem za_sl {k : Nat} {n : Int} (hk : k < 4) (h0 : 0 ≤ n) (h1 : n < 60) : zarr (189 + k) 103 (Int32.ofInt n) = true := zarr_of (zo_s k hk) (by decide) h0 h1
theorem isR3 : isRealm 3 := .inl rfl
theorem isR33 : isRealm 33 := .inr (.inl rfl)
theorem isR196 : isRealm 196 := .inr (.inr (.inl rfl))
theorem isR226 : isRealm 226 := .inr (.inr (.inr (.inl rfl)))
theorem isR256 : isRealm 256 := .inr (.inr (.inr (.inr rfl)))
theorem isT104 : isTrip 104 := .inl rfl
theorem isTk {k : Nat} (hk : k < 10) : isTrip (127 + 6 * k) := .inr ⟨k, hk, rfl⟩
theorem isF99 : isFl 99 := .inl rfl
theorem isF101 : isFl 101 := .inr rfl
theorem isOk {p k : Nat} (h : isRealm p) (hk : k < 10) : isOrd (p + 10 + 2 * k) := ⟨p, k, h, hk, rfl⟩
/-! the first, how many, one after the other -/
def zfst (P : Int → Bool) : Nat → Int → Int
  | 0, _ => -1
  | k + 1, i => if P i = true then i else zfst P k (i + 1)
theorem zfst_rng (P : Int → Bool) : ∀ (k : Nat) (i : Int), 0 ≤ i → zfst P k i = -1 ∨ i ≤ zfst P k i ∧ zfst P k i < i + k ∧ P (zfst P k i) = true
  | 0, _, _ => .inl rfl
  | k + 1, i, h => by
    rw [zfst]
    split
    · next q => exact .inr ⟨by omega, by omega, q⟩
    · have := zfst_rng P k (i + 1) (by omega)
      rcases this with e | ⟨a, b, c⟩
      · exact .inl e
      · exact .inr ⟨by omega, by omega, c⟩
theorem zfst_none {P : Int → Bool} : ∀ (k : Nat) (i : Int), 0 ≤ i → zfst P k i = -1 → ∀ j, i ≤ j → j < i + k → P j = false
  | 0, _, _, _, j, h1, h2 => by omega
  | k + 1, i, h, e, j, h1, h2 => by
    rw [zfst] at e
    split at e
    · omega
    · next q =>
      by_cases hj : j = i
      · rw [hj]
        exact Bool.not_eq_true _ |>.mp q
      · exact zfst_none k (i + 1) (by omega) e j (by omega) (by omega)
theorem zfst_le {P : Int → Bool} : ∀ (k : Nat) (i j : Int), i ≤ j → j < i + k → P j = true → i ≤ zfst P k i ∧ zfst P k i ≤ j
  | 0, _, j, h1, h2, _ => by omega
  | k + 1, i, j, h1, h2, hP => by
    rw [zfst]
    split
    · omega
    · next q =>
      have hj : j ≠ i := fun e => q (by rw [← e]; exact hP)
      have := zfst_le k (i + 1) j (by omega) (by omega) hP
      omega
theorem zfst_congr {P P' : Int → Bool} : ∀ (k : Nat) (i : Int), (∀ j, i ≤ j → j < i + k → P j = P' j) → zfst P k i = zfst P' k i
  | 0, _, _ => rfl
  | k + 1, i, h => by
    rw [zfst, zfst, h i (by omega) (by omega), zfst_congr k (i + 1) (fun j h1 h2 => h j (by omega) (by omega))]
def foldN {α : Type} (f : Int → α → α) : Nat → α → α
  | 0, x => x
  | n + 1, x => f n (foldN f n x)
def zcnt (P : Int → Bool) : Nat → Int
  | 0 => 0
  | n + 1 => zcnt P n + if P n = true then 1 else 0
theorem zcnt_rng (P : Int → Bool) : ∀ n : Nat, 0 ≤ zcnt P n ∧ zcnt P n ≤ n
  | 0 => ⟨Int.le_refl _, Int.le_refl _⟩
  | n + 1 => by
    have := zcnt_rng P n
    rw [zcnt]
    split <;> omega
theorem zcnt_congr {P P' : Int → Bool} : ∀ n : Nat, (∀ j : Int, 0 ≤ j → j < n → P j = P' j) → zcnt P n = zcnt P' n
  | 0, _ => rfl
  | n + 1, h => by
    rw [zcnt, zcnt, h n (by omega) (by omega), zcnt_congr n (fun j h1 h2 => h j h1 (by omega))]
theorem zcnt_lt {P Q : Int → Bool} : ∀ n : Nat, (∀ j : Int, 0 ≤ j → j < n → P j = true → Q j = true) → zcnt P n ≤ zcnt Q n ∧ ((∃ j : Int, 0 ≤ j ∧ j < n ∧ P j = false ∧ Q j = true) → zcnt P n < zcnt Q n)
  | 0, _ => ⟨Int.le_refl _, fun ⟨j, h1, h2, _⟩ => by omega⟩
  | n + 1, h => by
    have ih := zcnt_lt n (fun j h1 h2 => h j h1 (by omega))
    have hn := h n (by omega) (by omega)
    rw [zcnt, zcnt]
    refine ⟨?_, ?_⟩
    · by_cases p : P n = true
      · rw [if_pos p, if_pos (hn p)]
        omega
      · rw [if_neg p]
        split <;> omega
    · rintro ⟨j, h1, h2, h3, h4⟩
      by_cases e : j = n
      · subst e
        rw [h3, h4, if_neg (by decide), if_pos rfl]
        omega
      · have := ih.2 ⟨j, h1, by omega, h3, h4⟩
        by_cases p : P n = true
        · rw [if_pos p, if_pos (hn p)]
          omega
        · rw [if_neg p]
          split <;> omega
theorem mm_t0 : (0 : Int).toNat = 0 := rfl
theorem mm_t1 : (1 : Int).toNat = 1 := rfl
theorem mm_t2 : (2 : Int).toNat = 2 := rfl
theorem mm_t3 : (3 : Int).toNat = 3 := rfl
theorem mm_t4 : (4 : Int).toNat = 4 := rfl
theorem mm_t5 : (5 : Int).toNat = 5 := rfl
theorem mm_t6 : (6 : Int).toNat = 6 := rfl
theorem mm_t7 : (7 : Int).toNat = 7 := rfl
theorem mm_t8 : (8 : Int).toNat = 8 := rfl
theorem mm_t9 : (9 : Int).toNat = 9 := rfl
theorem mm_t10 : (10 : Int).toNat = 10 := rfl
theorem mm_t11 : (11 : Int).toNat = 11 := rfl
theorem mm_t12 : (12 : Int).toNat = 12 := rfl
theorem mm_t13 : (13 : Int).toNat = 13 := rfl
