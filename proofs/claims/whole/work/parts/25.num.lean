/-! NUMBERS: an int written as a whole number in its range -/
def zr (n : Int) : Prop := -2147483648 ≤ n ∧ n < 2147483648
theorem zn_add (a b : Int) : Int32.ofInt a + Int32.ofInt b = Int32.ofInt (a + b) := (Int32.ofInt_add a b).symm
theorem zn_sub (a b : Int) : Int32.ofInt a - Int32.ofInt b = Int32.ofInt (a - b) := (Int32.ofInt_sub a b).symm
theorem zn_mul (a b : Int) : Int32.ofInt a * Int32.ofInt b = Int32.ofInt (a * b) := (Int32.ofInt_mul a b).symm
theorem zn_to {n : Int} (h : zr n) : (Int32.ofInt n).toInt = n := Int32.toInt_ofInt_of_le (by have := h.1; omega) (by have := h.2; omega)
theorem zn_lt {a b : Int} (ha : zr a) (hb : zr b) : Int32.ofInt a < Int32.ofInt b ↔ a < b := by
  rw [Int32.lt_iff_toInt_lt, zn_to ha, zn_to hb]
theorem zn_le {a b : Int} (ha : zr a) (hb : zr b) : Int32.ofInt a ≤ Int32.ofInt b ↔ a ≤ b := by
  rw [Int32.le_iff_toInt_le, zn_to ha, zn_to hb]
theorem zn_eq {a b : Int} (ha : zr a) (hb : zr b) : Int32.ofInt a = Int32.ofInt b ↔ a = b := by
  rw [← Int32.toInt_inj, zn_to ha, zn_to hb]
theorem zn_0 : (0 : Int32) = Int32.ofInt 0 := rfl
theorem zn_cl {n : Int} (h : zr n) : (Int32.ofInt n).toNatClampNeg = n.toNat := by
  show (Int32.ofInt n).toInt.toNat = n.toNat
  rw [zn_to h]
theorem zn_ex (x : Int32) : ∃ n, zr n ∧ x = Int32.ofInt n := by
  refine ⟨x.toInt, ⟨?_, ?_⟩, (Int32.ofInt_toInt x).symm⟩
  · have := Int32.le_toInt x
    omega
  · have := Int32.toInt_lt x
    omega
theorem zn_nat (n : Nat) : Int32.ofNat n = Int32.ofInt n := (Int32.ofInt_eq_ofNat).symm
/-- a row's place, there or not -/
theorem zarr_of {a t N : Nat} {n : Int} (h : zsh[a]? = some (t, N)) (h0 : 0 ≤ n) (h1 : n < N) (h2 : zr n) : zarr a t (Int32.ofInt n) = true := by
  unfold zarr
  rw [h]
  simp only [beq_self_eq_true, Bool.true_and, Bool.and_eq_true, decide_eq_true_eq]
  rw [zn_0, zn_le ⟨by decide, by decide⟩ h2, zn_cl h2]
  omega
theorem zseg_of {a t N : Nat} {p n : Int} (h : zsh[a]? = some (t, N)) (h0 : 0 ≤ p) (h1 : 0 ≤ n) (h2 : p + n ≤ N) (h3 : zr p) (h4 : zr n) : zseg a t (Int32.ofInt p) (Int32.ofInt n) = true := by
  unfold zseg
  rw [h]
  simp only [beq_self_eq_true, Bool.true_and, Bool.and_eq_true, decide_eq_true_eq]
  rw [zn_0, zn_le ⟨by decide, by decide⟩ h3, zn_le ⟨by decide, by decide⟩ h4, zn_cl h3, zn_cl h4]
  omega
/-! the memory -/
theorem zI_sI (σ : zM) (k j : Nat) (v : Int32) (a b : Nat) : zI (zsI σ k j v) a b = if a = k ∧ b = j then v else zI σ a b := rfl
theorem zI_sJ' (σ : zM) (k j : Nat) (v : Int64) (a b : Nat) : zI (zsJ σ k j v) a b = zI σ a b := rfl
theorem zJ_sI' (σ : zM) (k j : Nat) (v : Int32) (a b : Nat) : zJ (zsI σ k j v) a b = zJ σ a b := rfl
theorem zJ_sJ (σ : zM) (k j : Nat) (v : Int64) (a b : Nat) : zJ (zsJ σ k j v) a b = if a = k ∧ b = j then v else zJ σ a b := rfl
theorem zI_cI (σ : zM) (k sp q dp n a b : Nat) : zI (zcI σ k sp q dp n) a b = if a = q ∧ dp ≤ b ∧ b < dp + n then zI σ k (sp + (b - dp)) else zI σ a b := rfl
theorem zJ_cJ (σ : zM) (k sp q dp n a b : Nat) : zJ (zcJ σ k sp q dp n) a b = if a = q ∧ dp ≤ b ∧ b < dp + n then zJ σ k (sp + (b - dp)) else zJ σ a b := rfl
theorem zcall_of {mj : Nat} {as : List Value} {σ : zM} {ls : zLs} {o : Option zR} (h1 : (zsp as).length ≤ zML mj) (h2 : zent (zML mj) as = ls) (h : zev mj 0 ls [] σ = o) : zcall mj as σ = o := by
  unfold zcall
  rw [if_pos h1, h2, h]
