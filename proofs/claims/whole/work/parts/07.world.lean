/-! THE WORLD: the memory of numbers laid over the heap, from 'base' on, place by place -/
/-- base, the script's cell, the String constants' cells, the classes, their slots, the rows' classes -/
abbrev zG : Type := Nat × Nat × (Nat → Nat) × (Nat → ClassId) × (Nat → Nat → Nat) × (Nat → ClassId)
def zgB (G : zG) : Nat := G.1
def zgS (G : zG) : Nat := G.2.1
def zgK (G : zG) : Nat → Nat := G.2.2.1
def zgC (G : zG) : Nat → ClassId := G.2.2.2.1
def zgI (G : zG) : Nat → Nat → Nat := G.2.2.2.2.1
def zgA (G : zG) : Nat → ClassId := G.2.2.2.2.2
def zad (G : zG) (k : Nat) : Nat := if k < 1000000 then zgB G + k else if k < 2000000 then zgK G (k - 1000000) else zgS G
def zrv (G : zG) (v : Value) : Value := match v with
  | .ref k => .ref (zad G k)
  | v => v
theorem zrv_cat (G : zG) (v : Value) : (zrv G v).category = v.category := by cases v <;> rfl
def zen (G : zG) (σ : zM) (k t n : Nat) : va_E :=
  if t < 100 then .inr (t, (List.range n).map (fun j => zrv G (zval σ t j k)))
  else if t < 103 then .inl (zgA G t, (n, .inl (zI σ k)))
  else if t = 103 then .inl (zgA G t, (n, .inr (.inl (zJ σ k))))
  else .inl (zgA G t, (n, .inr (.inr (.inr (.inr (fun i => some (zad G (zel t k i))))))))
def zent1 (G : zG) (σ : zM) (k : Nat) : va_E := match zsh[k]? with
  | some q => zen G σ k q.1 q.2
  | none => .inr (0, [])
def zws (G : zG) (σ : zM) : va_W := (List.range zsh.length).map (fun k => (zgB G + k, zent1 G σ k))
def zA (G : zG) : Nat → Prop := fun q => zgB G ≤ q
def zW (G : zG) (σ : zM) (H : Heap) : Prop := va_P (zgC G, zgI G) zCl (zws G σ) H
theorem zws_get {G : zG} {σ : zM} {k : Nat} {q : Nat × Nat} (h : zsh[k]? = some q) : (zws G σ)[k]? = some (zgB G + k, zen G σ k q.1 q.2) := by
  have hk : k < zsh.length := (List.getElem?_eq_some_iff.mp h).1
  unfold zws
  rw [List.getElem?_map, List.getElem?_range hk]
  simp [zent1, h]
theorem zws_len (G : zG) (σ : zM) : (zws G σ).length = zsh.length := by simp [zws]
theorem zD (G : zG) (σ : zM) : va_D (zA G) (zws G σ) := by
  have key : ∀ (k : Nat) (q : Nat × va_E), (zws G σ)[k]? = some q → q.1 = zgB G + k := by
    intro k q h
    have hk : k < zsh.length := by
      have := (List.getElem?_eq_some_iff.mp h).1
      rwa [zws_len] at this
    unfold zws at h
    rw [List.getElem?_map, List.getElem?_range hk] at h
    cases h
    rfl
  refine ⟨fun i j p q hi hj h => ?_, fun k q h => ?_⟩
  · rw [key i p hi, key j q hj] at h
    omega
  · show zgB G ≤ q.1
    rw [key k q h]
    omega
theorem zws_set {G : zG} {σ σ' : zM} {k : Nat} {e : va_E} (he : zent1 G σ' k = e) (ho : ∀ j, j ≠ k → zent1 G σ' j = zent1 G σ j) : (zws G σ).set k (zgB G + k, e) = zws G σ' := by
  apply List.ext_getElem?
  intro i
  by_cases hi : i < zsh.length
  · by_cases hk : i = k
    · subst hk
      rw [List.getElem?_set_self (by rw [zws_len]; exact hi)]
      unfold zws
      rw [List.getElem?_map, List.getElem?_range hi, ← he]
      rfl
    · rw [List.getElem?_set_ne (Ne.symm hk)]
      unfold zws
      rw [List.getElem?_map, List.getElem?_map, List.getElem?_range hi]
      simp [ho i hk]
  · have h1 : (zws G σ')[i]? = none := List.getElem?_eq_none (by rw [zws_len]; omega)
    have h2 : ((zws G σ).set k (zgB G + k, e))[i]? = none := List.getElem?_eq_none (by rw [List.length_set, zws_len]; omega)
    rw [h1, h2]
theorem zent1_ne {G : zG} {σ σ' : zM} {j : Nat} (hI : zI σ' j = zI σ j) (hJ : zJ σ' j = zJ σ j) : zent1 G σ' j = zent1 G σ j := by
  unfold zent1
  cases zsh[j]? with
  | none => rfl
  | some q =>
    have hv : ∀ i, zval σ' q.1 i j = zval σ q.1 i j := by
      intro i
      unfold zval
      rw [hI, hJ]
    simp only [zen, hI, hJ, hv]
theorem zI_ne {σ : zM} {a k j : Nat} {x : Int32} (h : j ≠ a) : zI (zsI σ a k x) j = zI σ j := by
  funext i
  simp [zI, zsI, h]
theorem zJ_sI {σ : zM} {a k : Nat} {x : Int32} (j : Nat) : zJ (zsI σ a k x) j = zJ σ j := rfl
theorem zJ_ne {σ : zM} {a k j : Nat} {x : Int64} (h : j ≠ a) : zJ (zsJ σ a k x) j = zJ σ j := by
  funext i
  simp [zJ, zsJ, h]
theorem zI_sJ {σ : zM} {a k : Nat} {x : Int64} (j : Nat) : zI (zsJ σ a k x) j = zI σ j := rfl
theorem zobj_sh {a ci : Nat} (h : zobj a ci = true) : ∃ n, zsh[a]? = some (ci, n) ∧ ci < 100 := by
  unfold zobj at h
  split at h
  · next q e =>
    simp only [Bool.and_eq_true, beq_iff_eq, decide_eq_true_eq] at h
    exact ⟨q.2, by rw [e, ← h.1], h.2⟩
  · cases h
theorem zarr_sh {a t : Nat} {i : Int32} (h : zarr a t i = true) : ∃ n, zsh[a]? = some (t, n) ∧ vp_in i n := by
  unfold zarr at h
  split at h
  · next q e =>
    simp only [Bool.and_eq_true, beq_iff_eq, decide_eq_true_eq] at h
    refine ⟨q.2, by rw [e, ← h.1], ?_⟩
    rintro (h1 | h1)
    · exact absurd h.2.1 (Int32.not_le.mpr h1)
    · omega
  · cases h
theorem zseg_sh {a t : Nat} {p n : Int32} (h : zseg a t p n = true) : ∃ N, zsh[a]? = some (t, N) ∧ ¬ p < 0 ∧ ¬ n < 0 ∧ p.toNatClampNeg + n.toNatClampNeg ≤ N := by
  unfold zseg at h
  split at h
  · next q e =>
    simp only [Bool.and_eq_true, beq_iff_eq, decide_eq_true_eq] at h
    exact ⟨q.2, by rw [e, ← h.1], Int32.not_lt.mpr h.2.1, Int32.not_lt.mpr h.2.2.1, h.2.2.2⟩
  · cases h
theorem zsh_lt {a : Nat} {q : Nat × Nat} (h : zsh[a]? = some q) : a < 1000000 := by
  have := (List.getElem?_eq_some_iff.mp h).1
  rw [zsh_len] at this
  omega
theorem zad_sh {G : zG} {a : Nat} {q : Nat × Nat} (h : zsh[a]? = some q) : zad G a = zgB G + a := if_pos (zsh_lt h)
theorem zsh_cl {a t n : Nat} (h : zsh[a]? = some (t, n)) (ht : t < 100) : ∃ C T, zCl[t]? = some (C, T, n) := by
  have h1 := List.all_eq_true.mp zsh_ok (t, n) (List.mem_of_getElem? h)
  simp only [decide_eq_true_eq] at h1
  have h2 := h1 ht
  cases e : zCl[t]? with
  | none => rw [e] at h2; cases h2
  | some r =>
    rw [e] at h2
    obtain ⟨C, T, N⟩ := r
    simp only [Option.map_some, Option.some.injEq] at h2
    subst h2
    exact ⟨C, T, rfl⟩
/-- the element types of the rows, by their tags -/
def zety (t : Nat) : FieldType := match t with
  | 100 => .int
  | 101 => .byte
  | 102 => .boolean
  | 103 => .long
  | 104 => .object "SlowOrder$Order"
  | 105 => .object "SlowOrder$Realm"
  | 106 => .object "SlowOrder$Trip"
  | 107 => .array .int
  | _ => .array .long
def ztys (G : zG) : List (ClassId × FieldType) := (List.range 9).map (fun i => (zgA G (100 + i), zety (100 + i)))
theorem ztys_get (G : zG) {i : Nat} (h : i < 9) : (ztys G)[i]? = some (zgA G (100 + i), zety (100 + i)) := by
  unfold ztys
  rw [List.getElem?_map, List.getElem?_range h]
  rfl
/-! the locals -/
def zhas (G : zG) (lsA : Array Slot) (n : Nat) (ls : zLs) : Prop := lsA.size = n ∧ lv_wf lsA ∧ ls.length = n ∧ ∀ (i : Nat) (v : Value), ls[i]? = some (some v) → lsA[i]? = some (.val (zrv G v))
def zlv (G : zG) (ls : zLs) : List (Nat × Value) := (List.range ls.length).filterMap (fun i => match ls[i]? with
  | some (some v) => some (i, zrv G v)
  | _ => none)
theorem zlv_mem {G : zG} {ls : zLs} {q : Nat × Value} : q ∈ zlv G ls ↔ ∃ v, ls[q.1]? = some (some v) ∧ q.2 = zrv G v := by
  unfold zlv
  rw [List.mem_filterMap]
  constructor
  · rintro ⟨i, -, h⟩
    split at h
    · next v e =>
      cases h
      exact ⟨v, e, rfl⟩
    · cases h
  · rintro ⟨v, h, e⟩
    refine ⟨q.1, List.mem_range.mpr (List.getElem?_eq_some_iff.mp h).1, ?_⟩
    rw [h]
    simp [← e]
theorem zhas_lv {G : zG} {lsA : Array Slot} {n : Nat} {ls : zLs} (h : zhas G lsA n ls) : lv_has lsA n (zlv G ls) := ⟨h.1, h.2.1, fun q hq => by
  obtain ⟨v, h1, h2⟩ := zlv_mem.mp hq
  rw [h2]
  exact h.2.2.2 _ _ h1⟩
theorem zlv_at {G : zG} {ls : zLs} {i : Nat} {v : Value} (h : ls[i]? = some (some v)) : ∃ k : Nat, (zlv G ls)[k]? = some (i, zrv G v) := List.getElem?_of_mem (zlv_mem.mpr ⟨v, h, rfl⟩)
theorem zclr_len (ls : zLs) (i : Nat) : (zclr ls i).length = ls.length := by
  unfold zclr
  split
  · rfl
  · split
    · split <;> simp
    · rfl
theorem zclr_get {ls : zLs} {i j : Nat} {w : Value} (h : (zclr ls i)[j]? = some (some w)) : ls[j]? = some (some w) ∧ ¬ (j + 1 = i ∧ w.category = 2) := by
  unfold zclr at h
  split at h
  · exact ⟨h, fun q => by omega⟩
  · next i =>
    split at h
    · next v e =>
      split at h
      · next hc =>
        by_cases hj : j = i
        · subst hj
          rw [List.getElem?_set_self (List.getElem?_eq_some_iff.mp e).1] at h
          cases h
        · rw [List.getElem?_set_ne (Ne.symm hj)] at h
          exact ⟨h, fun q => hj (by omega)⟩
      · next hc =>
        refine ⟨h, fun q => hc ?_⟩
        have hj : j = i := by omega
        subst hj
        rw [h] at e
        cases e
        exact q.2
    · next hn =>
      refine ⟨h, fun q => ?_⟩
      have hj : j = i := by omega
      subst hj
      exact hn w h
theorem zhas_p1 {G : zG} {lsA lsB : Array Slot} {n i : Nat} {ls : zLs} {v : Value} (h : zhas G lsA n ls) (hi : i < ls.length) (hB : lv_has lsB n ((i, zrv G v) :: (zlv G ls).filter (fun q => !(q.1 == i) && !(q.1 + 1 == i && q.2.category == 2)))) : zhas G lsB n (zp1 ls i v) := by
  refine ⟨hB.1, hB.2.1, by unfold zp1; rw [List.length_set, zclr_len]; exact h.2.2.1, fun j w hw => ?_⟩
  unfold zp1 at hw
  by_cases hj : j = i
  · subst hj
    rw [List.getElem?_set_self (by rw [zclr_len]; exact hi)] at hw
    cases hw
    exact hB.2.2 (j, zrv G v) List.mem_cons_self
  · rw [List.getElem?_set_ne (Ne.symm hj)] at hw
    obtain ⟨h1, h2⟩ := zclr_get hw
    refine hB.2.2 (j, zrv G w) (List.mem_cons_of_mem _ (List.mem_filter.mpr ⟨zlv_mem.mpr ⟨w, h1, rfl⟩, ?_⟩))
    simp only [zrv_cat, Bool.and_eq_true, Bool.not_eq_true', beq_eq_false_iff_ne, Bool.and_eq_false_iff, ne_eq]
    refine ⟨hj, ?_⟩
    by_cases q : j + 1 = i
    · exact Or.inr (fun z => h2 ⟨q, z⟩)
    · exact Or.inl q
theorem zhas_p2 {G : zG} {lsA lsB : Array Slot} {n i : Nat} {ls : zLs} {v : Value} (h : zhas G lsA n ls) (hi : i + 1 < ls.length) (hB : lv_has lsB n ((i, zrv G v) :: (zlv G ls).filter (fun q => !(q.1 == i) && (!(q.1 == i + 1) && !(q.1 + 1 == i && q.2.category == 2))))) : zhas G lsB n (zp2 ls i v) := by
  refine ⟨hB.1, hB.2.1, by unfold zp2; rw [List.length_set, List.length_set, zclr_len]; exact h.2.2.1, fun j w hw => ?_⟩
  unfold zp2 at hw
  by_cases hj : j = i
  · subst hj
    rw [List.getElem?_set_self (by rw [List.length_set, zclr_len]; omega)] at hw
    cases hw
    exact hB.2.2 (j, zrv G v) List.mem_cons_self
  · rw [List.getElem?_set_ne (Ne.symm hj)] at hw
    by_cases hj2 : j = i + 1
    · subst hj2
      rw [List.getElem?_set_self (by rw [zclr_len]; exact hi)] at hw
      cases hw
    · rw [List.getElem?_set_ne (Ne.symm hj2)] at hw
      obtain ⟨h1, h2⟩ := zclr_get hw
      refine hB.2.2 (j, zrv G w) (List.mem_cons_of_mem _ (List.mem_filter.mpr ⟨zlv_mem.mpr ⟨w, h1, rfl⟩, ?_⟩))
      simp only [zrv_cat, Bool.and_eq_true, Bool.not_eq_true', beq_eq_false_iff_ne, Bool.and_eq_false_iff, ne_eq]
      refine ⟨hj, hj2, ?_⟩
      by_cases q : j + 1 = i
      · exact Or.inr (fun z => h2 ⟨q, z⟩)
      · exact Or.inl q
theorem zhas_mask {G : zG} {lsA : Array Slot} {n : Nat} : ∀ {ls : zLs} {b : List Bool}, b.length = ls.length → ∀ (i : Nat) (v : Value), (zmask b ls)[i]? = some (some v) → ls[i]? = some (some v)
  | [], [], _, i, v, h => by simp [zmask] at h
  | x :: l, true :: b, hl, 0, v, h => by simpa [zmask] using h
  | x :: l, false :: b, hl, 0, v, h => by simp [zmask] at h
  | x :: l, true :: b, hl, i + 1, v, h => by
    simp only [zmask, List.getElem?_cons_succ] at h ⊢
    exact zhas_mask (lsA := lsA) (n := n) (G := G) (by simpa using hl) i v h
  | x :: l, false :: b, hl, i + 1, v, h => by
    simp only [zmask, List.getElem?_cons_succ] at h ⊢
    exact zhas_mask (lsA := lsA) (n := n) (G := G) (by simpa using hl) i v h
theorem zmask_len : ∀ {ls : zLs} {b : List Bool}, b.length = ls.length → (zmask b ls).length = ls.length
  | [], [], _ => rfl
  | x :: l, true :: b, hl => by simp only [zmask, List.length_cons]; rw [zmask_len (by simpa using hl)]
  | x :: l, false :: b, hl => by simp only [zmask, List.length_cons]; rw [zmask_len (by simpa using hl)]
theorem zhas_masked {G : zG} {lsA : Array Slot} {n : Nat} {ls : zLs} {b : List Bool} (h : zhas G lsA n ls) (hb : b.length = ls.length) : zhas G lsA n (zmask b ls) := ⟨h.1, h.2.1, by rw [zmask_len hb]; exact h.2.2.1, fun i v hv => h.2.2.2 i v (zhas_mask (lsA := lsA) (n := n) (G := G) hb i v hv)⟩
theorem zsp_entry (G : zG) : ∀ (as : List Value) (i j : Nat) (v : Value), (zsp as)[j]? = some (some v) → (i + j, zrv G v) ∈ lv_args i (as.map (zrv G))
  | [], i, j, v, h => by simp [zsp] at h
  | a :: as, i, j, v, h => by
    have hc : (zrv G a).category = a.category := zrv_cat G a
    show (i + j, zrv G v) ∈ (i, zrv G a) :: lv_args (if (zrv G a).category = 2 then i + 2 else i + 1) (as.map (zrv G))
    rw [hc]
    by_cases h2 : a.category = 2
    · have e : zsp (a :: as) = some a :: none :: zsp as := by simp [zsp, h2]
      rw [e] at h
      rw [if_pos h2]
      match j, h with
      | 0, h => cases h; exact List.mem_cons_self
      | 1, h => cases h
      | j + 2, h =>
        have := zsp_entry G as (i + 2) j v (by simpa using h)
        rw [show i + 2 + j = i + (j + 2) by omega] at this
        exact List.mem_cons_of_mem _ this
    · have e : zsp (a :: as) = some a :: zsp as := by simp [zsp, h2]
      rw [e] at h
      rw [if_neg h2]
      match j, h with
      | 0, h => cases h; exact List.mem_cons_self
      | j + 1, h =>
        have := zsp_entry G as (i + 1) j v (by simpa using h)
        rw [show i + 1 + j = i + (j + 1) by omega] at this
        exact List.mem_cons_of_mem _ this
theorem zsp_len (G : zG) : ∀ as : List Value, (lg_sl (as.map (zrv G))).length = (zsp as).length
  | [] => rfl
  | a :: as => by
    have ih := zsp_len G as
    have hc : (zrv G a).category = a.category := zrv_cat G a
    unfold lg_sl zsp at ih ⊢
    simp only [List.map_cons, List.flatMap_cons, List.length_append, hc, ih]
    by_cases h2 : a.category = 2 <;> simp [h2]
theorem zhas_entry (G : zG) (as : List Value) {n : Nat} (h : (zsp as).length ≤ n) : zhas G ((lg_sl (as.map (zrv G)) ++ List.replicate (n - (lg_sl (as.map (zrv G))).length) Slot.unset).toArray) n (zent n as) := by
  have h1 := lv_entry (as.map (zrv G)) (n := n) (by rw [zsp_len]; exact h)
  refine ⟨h1.1, h1.2.1, ?_, fun i v hv => ?_⟩
  · unfold zent
    rw [List.length_append, List.length_replicate]
    omega
  · unfold zent at hv
    by_cases hi : i < (zsp as).length
    · rw [List.getElem?_append_left hi] at hv
      have := zsp_entry G as 0 i v hv
      rw [Nat.zero_add] at this
      exact h1.2.2 (i, zrv G v) this
    · rw [List.getElem?_append_right (by omega)] at hv
      have := List.mem_of_getElem? hv
      rw [List.mem_replicate] at this
      cases this.2
