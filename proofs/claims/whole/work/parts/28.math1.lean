/-! BITS of a mask; what holds among those who are there -/
def xb (x : Int32) (o : Nat) : Bool := x.toBitVec.getLsbD o
def bt (i : Int) : Int32 := Int32.ofInt 1 <<< (Int32.ofInt i &&& 31)
theorem bt_def (i : Int) : Int32.ofInt 1 <<< (Int32.ofInt i &&& 31) = bt i := rfl
theorem xb_or (x y : Int32) (o : Nat) : xb (x ||| y) o = (xb x o || xb y o) := BitVec.getLsbD_or
theorem xb_and (x y : Int32) (o : Nat) : xb (x &&& y) o = (xb x o && xb y o) := BitVec.getLsbD_and
theorem xb_xor (x y : Int32) (o : Nat) : xb (x ^^^ y) o = (xb x o ^^ xb y o) := BitVec.getLsbD_xor
theorem bt_tab : ∀ i, i < 11 → ∀ o, o < 32 → xb (bt (i : Nat)) o = decide (o = i) := by decide +kernel
theorem xb_m1 : ∀ o, o < 32 → xb (Int32.ofInt (-1)) o = true := by decide +kernel
theorem xb_0 (o : Nat) : xb (Int32.ofInt 0) o = false := by
  by_cases h : o < 32
  · exact (by decide +kernel : ∀ o, o < 32 → xb (Int32.ofInt 0) o = false) o h
  · exact BitVec.getLsbD_of_ge _ _ (by omega)
theorem xb_ext {x y : Int32} (h : ∀ o, o < 32 → xb x o = xb y o) : x = y := Int32.toBitVec_inj.mp (BitVec.eq_of_getLsbD_eq h)
theorem xb_nm (x u : Int32) {o : Nat} (ho : o < 32) : xb (x &&& (u ^^^ Int32.ofInt (-1))) o = (xb x o && !(xb u o)) := by
  rw [xb_and, xb_xor, xb_m1 o ho, Bool.xor_true]
theorem or_0 (x : Int32) : x ||| Int32.ofInt 0 = x := xb_ext fun o _ => by rw [xb_or, xb_0, Bool.or_false]
theorem and_bt (x : Int32) (i : Nat) (hi : i < 11) : x &&& bt i = if xb x i = true then bt i else Int32.ofInt 0 := by
  apply xb_ext
  intro o ho
  rw [xb_and, bt_tab i hi o ho]
  by_cases e : o = i
  · subst e
    by_cases h : xb x o = true
    · rw [if_pos h, bt_tab o hi o ho, h]
      rfl
    · rw [if_neg h, xb_0, Bool.not_eq_true _ |>.mp h]
      rfl
  · split
    · rw [bt_tab i hi o ho, decide_eq_false e, Bool.and_false]
    · rw [xb_0, decide_eq_false e, Bool.and_false]
theorem bt_ne : ∀ i, i < 11 → bt (i : Nat) ≠ Int32.ofInt 0 := by decide +kernel
theorem and_btI {x : Int32} {i : Int} (h0 : 0 ≤ i) (h1 : i < 11) : x &&& bt i = if xb x i.toNat = true then bt i else Int32.ofInt 0 := by
  have h := and_bt x i.toNat (by omega)
  rw [show ((i.toNat : Nat) : Int) = i by omega] at h
  exact h
theorem and_bt0 {x : Int32} {i : Int} (h0 : 0 ≤ i) (h1 : i < 11) : (x &&& bt i = Int32.ofInt 0) ↔ xb x i.toNat = false := by
  rw [and_btI h0 h1]
  have hn := bt_ne i.toNat (by omega)
  rw [show ((i.toNat : Nat) : Int) = i by omega] at hn
  by_cases h : xb x i.toNat = true
  · rw [if_pos h, h]
    exact ⟨fun e => absurd e hn, fun e => absurd e (by decide)⟩
  · rw [if_neg h]
    exact ⟨fun _ => Bool.not_eq_true _ |>.mp h, fun _ => rfl⟩
theorem shr1 {x : Int32} {i : Int} (h0 : 0 ≤ i) (h1 : i < 11) : ((x >>> (Int32.ofInt i &&& 31)) &&& Int32.ofInt 1 = Int32.ofInt 1) ↔ xb x i.toNat = true := by
  have b0 : Int32.ofInt 1 = bt ((0 : Nat) : Int) := by decide +kernel
  have e : ∀ i, i < 11 → ((Int32.ofInt (i : Nat) &&& 31).toBitVec.smod 32).toNat = i := by decide +kernel
  have e2 := e i.toNat (by omega)
  rw [show ((i.toNat : Nat) : Int) = i by omega] at e2
  have h2 : xb (x >>> (Int32.ofInt i &&& 31)) 0 = xb x i.toNat := by
    show (x.toBitVec.sshiftRight' ((Int32.ofInt i &&& 31).toBitVec.smod 32)).getLsbD 0 = _
    rw [BitVec.getLsbD_sshiftRight', e2, if_pos (by omega)]
    simp [xb]
  rw [b0, and_bt _ 0 (by decide), h2]
  by_cases h : xb x i.toNat = true
  · rw [if_pos h]
    exact ⟨fun _ => h, fun _ => rfl⟩
  · rw [if_neg h]
    exact ⟨fun e => absurd e.symm (bt_ne 0 (by decide)), fun e => absurd e h⟩
theorem shr0 {x : Int32} {i : Int} (h0 : 0 ≤ i) (h1 : i < 11) : ((x >>> (Int32.ofInt i &&& 31)) &&& Int32.ofInt 1 = Int32.ofInt 0) ↔ xb x i.toNat = false := by
  have h := shr1 (x := x) h0 h1
  have b0 : Int32.ofInt 1 = bt ((0 : Nat) : Int) := by decide +kernel
  rw [b0, and_bt _ 0 (by decide)] at h ⊢
  by_cases q : xb (x >>> (Int32.ofInt i &&& 31)) 0 = true
  · rw [if_pos q] at h ⊢
    have := h.mp rfl
    rw [this]
    exact ⟨fun e => absurd e (bt_ne 0 (by decide)), fun e => absurd e (by decide)⟩
  · rw [if_neg q] at h ⊢
    refine ⟨fun _ => ?_, fun _ => rfl⟩
    cases r : xb x i.toNat with
    | false => rfl
    | true => exact absurd (h.mpr r).symm (bt_ne 0 (by decide))
/-- the mask of those of n that P names -/
def msk (P : Int → Bool) : Nat → Int32
  | 0 => Int32.ofInt 0
  | n + 1 => if P n = true then msk P n ||| bt n else msk P n
theorem xb_msk (P : Int → Bool) : ∀ n, n ≤ 11 → ∀ o, o < 32 → xb (msk P n) o = (decide (o < n) && P o)
  | 0, _, o, _ => by
    rw [msk, xb_0]
    simp
  | n + 1, h, o, ho => by
    have ih := xb_msk P n (by omega) o ho
    have e2 : (o < n + 1) ↔ (o < n ∨ o = n) := by omega
    rw [msk]
    by_cases hP : P (n : Int) = true
    · rw [if_pos hP, xb_or, ih, bt_tab n (by omega) o ho]
      by_cases e : o = n
      · subst e
        simp [hP]
      · simp [e, e2]
    · rw [if_neg hP, ih]
      by_cases e : o = n
      · subst e
        simp [hP]
      · simp [e, e2]
/-- the mask of those who are undone: from the last on -/
def udn (T : Int → Bool) (U : Int → Int) (N : Nat) : Nat → Int32
  | 0 => Int32.ofInt 0
  | k + 1 => if U ((N : Int) - 1 - k) ≠ -1 ∧ T ((N : Int) - 1 - k) = true ∧ xb (udn T U N k) ((N : Int) - 1 - k).toNat = false ∧ T (U ((N : Int) - 1 - k)) = true then udn T U N k ||| bt (U ((N : Int) - 1 - k)) else udn T U N k
theorem udn_congr {T T' : Int → Bool} {U U' : Int → Int} {N : Nat} (hT : ∀ o : Int, 0 ≤ o → o < N → T o = T' o) (hU : ∀ o : Int, 0 ≤ o → o < N → U o = U' o) (hR : ∀ o : Int, 0 ≤ o → o < N → U o = -1 ∨ 0 ≤ U o ∧ U o < N) : ∀ k, k ≤ N → udn T U N k = udn T' U' N k
  | 0, _ => rfl
  | k + 1, h => by
    have ih := udn_congr hT hU hR k (by omega)
    have a := hT ((N : Int) - 1 - k) (by omega) (by omega)
    have b := hU ((N : Int) - 1 - k) (by omega) (by omega)
    have c := hR ((N : Int) - 1 - k) (by omega) (by omega)
    rw [udn, udn, ih, a, ← b]
    rcases c with c | c
    · rw [if_neg (fun q => q.1 c), if_neg (fun q => q.1 c)]
    · rw [hT _ c.1 c.2]
/-- the latest to come of those that P names; of one hour the last -/
def br (P : Int → Bool) (c : Int → Int) : Nat → Int
  | 0 => -1
  | n + 1 => if P n = true ∧ (br P c n = -1 ∨ c (br P c n) ≤ c n) then n else br P c n
theorem br_rng (P : Int → Bool) (c : Int → Int) : ∀ n : Nat, -1 ≤ br P c n ∧ br P c n < n
  | 0 => ⟨Int.le_refl _, by show (-1 : Int) < 0; decide⟩
  | n + 1 => by
    have ih := br_rng P c n
    rw [br]
    split <;> omega
theorem br_congr {P P' : Int → Bool} {c c' : Int → Int} : ∀ n : Nat, (∀ o : Int, 0 ≤ o → o < n → P o = P' o) → (∀ o : Int, 0 ≤ o → o < n → c o = c' o) → br P c n = br P' c' n
  | 0, _, _ => rfl
  | n + 1, hP, hc => by
    have ih := br_congr (P := P) (P' := P') (c := c) (c' := c') n (fun o h0 h1 => hP o h0 (by omega)) (fun o h0 h1 => hc o h0 (by omega))
    have r := br_rng P' c' n
    rw [br, br, ih, hP n (by omega) (by omega), hc n (by omega) (by omega)]
    by_cases e : br P' c' n = -1
    · rw [e]
      simp
    · rw [hc _ (by omega) (by omega)]
theorem br_P (P : Int → Bool) (c : Int → Int) : ∀ n : Nat, br P c n ≠ -1 → P (br P c n) = true
  | 0, h => absurd rfl h
  | n + 1, h => by
    rw [br] at h ⊢
    split
    · next q => exact q.1
    · next q =>
      rw [if_neg q] at h
      exact br_P P c n h
/-- who bears, what holds: T who is there, U whom each undoes, A what about, S what each says, c when each comes -/
def hB (T : Int → Bool) (U A S c : Int → Int) (n : Nat) (g : Int) : Int := br (fun o => T o && !(xb (udn T U n n) o.toNat) && decide (A o = g) && decide (S o ≠ -1)) c n
def hH (T : Int → Bool) (U A S c : Int → Int) (n : Nat) (g : Int) : Int := if hB T U A S c n g = -1 then -1 else S (hB T U A S c n g)
theorem hB_congr {T T' : Int → Bool} {U U' A A' S S' c c' : Int → Int} {n : Nat} {g : Int} (hT : ∀ o : Int, 0 ≤ o → o < n → T o = T' o) (hU : ∀ o : Int, 0 ≤ o → o < n → U o = U' o) (hA : ∀ o : Int, 0 ≤ o → o < n → A o = A' o) (hS : ∀ o : Int, 0 ≤ o → o < n → S o = S' o) (hc : ∀ o : Int, 0 ≤ o → o < n → c o = c' o) (hR : ∀ o : Int, 0 ≤ o → o < n → U o = -1 ∨ 0 ≤ U o ∧ U o < n) : hB T U A S c n g = hB T' U' A' S' c' n g := by
  unfold hB
  rw [udn_congr hT hU hR n (Nat.le_refl _)]
  refine br_congr n (fun o h0 h1 => ?_) hc
  rw [hT o h0 h1, hA o h0 h1, hS o h0 h1]
theorem hH_congr {T T' : Int → Bool} {U U' A A' S S' c c' : Int → Int} {n : Nat} {g : Int} (hT : ∀ o : Int, 0 ≤ o → o < n → T o = T' o) (hU : ∀ o : Int, 0 ≤ o → o < n → U o = U' o) (hA : ∀ o : Int, 0 ≤ o → o < n → A o = A' o) (hS : ∀ o : Int, 0 ≤ o → o < n → S o = S' o) (hc : ∀ o : Int, 0 ≤ o → o < n → c o = c' o) (hR : ∀ o : Int, 0 ≤ o → o < n → U o = -1 ∨ 0 ≤ U o ∧ U o < n) : hH T U A S c n g = hH T' U' A' S' c' n g := by
  unfold hH
  rw [hB_congr hT hU hA hS hc hR]
  have r := br_rng (fun o => T' o && !(xb (udn T' U' n n) o.toNat) && decide (A' o = g) && decide (S' o ≠ -1)) c' n
  split
  · rfl
  · next q =>
    unfold hB at q ⊢
    exact hS _ (by omega) (by omega)
/-- some of the first n -/
def zany (P : Int → Bool) : Nat → Bool
  | 0 => false
  | n + 1 => zany P n || P n
theorem zany_of {P : Int → Bool} {n i : Nat} (h : i < n) (hP : P i = true) : zany P n = true := by
  induction n with
  | zero => omega
  | succ n ih =>
    rw [zany]
    by_cases e : i = n
    · subst e
      rw [hP, Bool.or_true]
    · rw [ih (by omega), Bool.true_or]
theorem zany_ex {P : Int → Bool} {n : Nat} (h : zany P n = true) : ∃ i : Nat, i < n ∧ P i = true := by
  induction n with
  | zero => exact absurd h Bool.false_ne_true
  | succ n ih =>
    rw [zany, Bool.or_eq_true] at h
    rcases h with h | h
    · obtain ⟨i, h1, h2⟩ := ih h
      exact ⟨i, by omega, h2⟩
    · exact ⟨n, by omega, h⟩
theorem zany_no {P : Int → Bool} {n : Nat} (h : zany P n = false) (i : Nat) (hi : i < n) : P i = false := by
  cases q : P i with
  | false => rfl
  | true => rw [zany_of hi q] at h; exact absurd h (by decide)
theorem zany_congr {P P' : Int → Bool} : ∀ n : Nat, (∀ o : Int, 0 ≤ o → o < n → P o = P' o) → zany P n = zany P' n
  | 0, _ => rfl
  | n + 1, h => by
    rw [zany, zany, zany_congr n (fun o h0 h1 => h o h0 (by omega)), h n (by omega) (by omega)]
theorem br_ext {P : Int → Bool} {c : Int → Int} {n : Nat} : ∀ m : Nat, n ≤ m → (∀ o : Nat, n ≤ o → o < m → P o = false) → br P c m = br P c n
  | 0, h, _ => by rw [show n = 0 by omega]
  | m + 1, h, hP => by
    by_cases e : n = m + 1
    · rw [e]
    · rw [br, if_neg]
      · exact br_ext m (by omega) (fun o h0 h1 => hP o h0 (by omega))
      · rw [hP m (by omega) (by omega)]
        exact fun q => absurd q.1 (by decide)
