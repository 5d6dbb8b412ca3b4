/-! THE CONSTRUCTORS: a machine that makes the world, over a list of cells -/
abbrev yC : Type := List (Nat × List Value)
abbrev yO : Type := (List (Bool × Nat) × Nat × zLs × List Value × yC) ⊕ ((Nat × List Value × Nat × zLs × List Value × yC) ⊕ yC)
def ynx (pc : Nat) (ls : zLs) (st : List Value) (C : yC) : Option yO := some (.inl ([], pc, ls, st, C))
def yobj (C : yC) (a ci : Nat) : Option (List Value) := match C[a]? with
  | some q => if q.1 = ci ∧ ci < 100 then some q.2 else none
  | none => none
def ydef (ty : FieldType) : Value := defaultValue ty
def ynew (ci n : Nat) : List Value := (List.range n).map (fun k => ydef (zTy ci k))
def yclsz (ci : Nat) : Nat := match zCl[ci]? with
  | some q => q.2.2
  | none => 0
def yatag (t : ArrayType) : Nat := match t with
  | .int => 100
  | .byte => 101
  | .boolean => 102
  | .long => 103
  | _ => 99
/-- one instruction -/
def yex (mi pc : Nat) (i : Instr) (ls : zLs) (st : List Value) (C : yC) : Option yO := match i with
  | .iconst n => ynx (pc + 1) ls (.int (Int32.ofInt n) :: st) C
  | .bipush n => ynx (pc + 2) ls (.int (Int8.ofInt n).toInt32 :: st) C
  | .sipush n => ynx (pc + 3) ls (.int (Int16.ofInt n).toInt32 :: st) C
  | .iload_n k => match ls[(k : Nat)]? with
    | some (some (.int x)) => ynx (pc + 1) ls (.int x :: st) C
    | _ => none
  | .aload_n k => match ls[(k : Nat)]? with
    | some (some (.ref x)) => ynx (pc + 1) ls (.ref x :: st) C
    | _ => none
  | .istore_n k => match st with
    | .int x :: r => if (k : Nat) < ls.length then ynx (pc + 1) (zp1 ls k (.int x)) r C else none
    | _ => none
  | .astore_n k => match st with
    | .ref x :: r => if (k : Nat) < ls.length then ynx (pc + 1) (zp1 ls k (.ref x)) r C else none
    | _ => none
  | .iinc k n => match ls[k]? with
    | some (some (.int x)) => ynx (pc + 3) (zp1 ls k (.int (x + Int32.ofInt n))) st C
    | _ => none
  | .dup => match st with
    | v :: r => if v.category = 1 then ynx (pc + 1) ls (v :: v :: r) C else none
    | _ => none
  | .if_icmp .ge off => match st with
    | .int y :: .int x :: r => if zto pc off = true then some (.inl ([(decide (y ≤ x), ztg pc off)], pc + 3, ls, r, C)) else none
    | _ => none
  | .goto off => if zto pc off = true then ynx (ztg pc off) ls st C else none
  | .getfield ix => match st with
    | .ref a :: r => match zLk (zFL (zOC mi)) ix with
      | some e => match yobj C a e.1 with
        | some vs => match vs[e.2.1]? with
          | some v => if e.2.2.1 = false then ynx (pc + 3) ls (v :: r) C else none
          | none => none
        | none => none
      | none => none
    | _ => none
  | .putfield ix => match st with
    | v :: .ref a :: r => match zLk (zFL (zOC mi)) ix with
      | some e => match yobj C a e.1 with
        | some vs => if e.2.2.1 = false ∧ e.2.1 < vs.length ∧ narrow (zTy e.1 e.2.1) v = v ∧ (fits (zTy e.1 e.2.1) v = true) ∧ (zY mi).name = "<init>" ∧ e.1 = zOC mi then
            ynx (pc + 3) ls r (C.set a (e.1, vs.set e.2.1 v)) else none
        | none => none
      | none => none
    | _ => none
  | .new ix => match zLk ((zKL (zOC mi)).filter (fun e => decide (e.2.1 < 11))) ix with
    | some e => if e.1 < 11 then ynx (pc + 3) ls (.ref C.length :: st) (C ++ [(e.1, ynew e.1 (yclsz e.1))]) else none
    | none => none
  | .newarray t => match st with
    | .int n :: r => if ¬ n < 0 ∧ 99 < yatag t ∧ n.toNatClampNeg ≤ 5000 then ynx (pc + 2) ls (.ref C.length :: r) (C ++ [(yatag t, List.replicate n.toNatClampNeg (ydef (zety (yatag t))))]) else none
    | _ => none
  | .anewarray ix => match st with
    | .int n :: r => match zLk ((zKL (zOC mi)).filter (fun e => decide (11 ≤ e.2.1))) ix with
      | some e => if ¬ n < 0 ∧ 104 ≤ e.1 ∧ e.1 ≤ 106 ∧ n.toNatClampNeg ≤ 5000 then ynx (pc + 3) ls (.ref C.length :: r) (C ++ [(e.1, List.replicate n.toNatClampNeg .null)]) else none
      | none => none
    | _ => none
  | .multianewarray ix d => match st with
    | .int k :: .int n :: r => match zLk ((zKL (zOC mi)).filter (fun e => decide (11 ≤ e.2.1))) ix with
      | some e => if ¬ n < 0 ∧ ¬ k < 0 ∧ 107 ≤ e.1 ∧ e.1 ≤ 108 ∧ n.toNatClampNeg ≤ 5000 ∧ k.toNatClampNeg ≤ 5000 ∧ d = 2 then
          ynx (pc + 4) ls (.ref C.length :: r) (C ++ ((e.1, (List.range n.toNatClampNeg).map (fun j => .ref (C.length + 1 + j))) :: List.replicate n.toNatClampNeg (if e.1 = 107 then 100 else 103, List.replicate k.toNatClampNeg (ydef (zety (if e.1 = 107 then 100 else 103)))))) else none
      | none => none
    | _ => none
  | .aastore => match st with
    | .ref v :: .int i :: .ref a :: r => match C[a]?, C[v]? with
      | some q, some w => if ((q.1 = 104 ∧ w.1 = 3) ∨ (q.1 = 105 ∧ w.1 = 5) ∨ (q.1 = 106 ∧ w.1 = 7)) ∧ 0 ≤ i ∧ i.toNatClampNeg < q.2.length then ynx (pc + 1) ls r (C.set a (q.1, q.2.set i.toNatClampNeg (.ref v))) else none
      | _, _ => none
    | _ => none
  | .iastore => match st with
    | .int x :: .int i :: .ref a :: r => match C[a]? with
      | some q => if q.1 = 100 ∧ 0 ≤ i ∧ i.toNatClampNeg < q.2.length then ynx (pc + 1) ls r (C.set a (100, q.2.set i.toNatClampNeg (.int x))) else none
      | none => none
    | _ => none
  | .arraylength => match st with
    | .ref a :: r => match C[a]? with
      | some q => if q.1 = 100 then ynx (pc + 1) ls (.int (Int32.ofNat q.2.length) :: r) C else none
      | none => none
    | _ => none
  | .invokespecial ix => match zLk (zMK (zOC mi)) ix with
    | some e => if e.1 = 2 then
        (match (st.take (zNA e.2.1)).reverse with
        | .ref o :: as => if (zroom mi e.2.1 && zwt (st.drop (zNA e.2.1)) && !(zST e.2.1) && decide ((zY e.2.1).name = "<init>") && decide (e.2.1 < 282) && decide (as.length + 1 = zNA e.2.1) && (zRet e.2.1 == none) && decide (o < C.length)) = true then some (.inr (.inl (e.2.1, .ref o :: as, pc + 3, ls, st.drop (zNA e.2.1), C))) else none
        | _ => none)
      else if e.1 = 3 then (match st with
        | .ref a :: r => if (zroomP mi 1 12 && zwt r) = true then ynx (pc + 3) ls r C else none
        | _ => none)
      else none
    | none => none
  | .invokestatic ix => match zLk (zMK (zOC mi)) ix with
    | some e => if e.1 = 1 then
        (if (zroom mi e.2.1 && zwt (st.drop (zNA e.2.1)) && zST e.2.1 && decide (e.2.1 < 282) && decide ((st.take (zNA e.2.1)).length = zNA e.2.1) && (zRet e.2.1 == none)) = true then some (.inr (.inl (e.2.1, (st.take (zNA e.2.1)).reverse, pc + 3, ls, st.drop (zNA e.2.1), C))) else none)
      else none
    | none => none
  | .return_ => match st with
    | [] => match zRet mi with
      | none => some (.inr (.inr C))
      | _ => none
    | _ => none
  | _ => none
def yint (K : Nat → zLs → List Value → yC → Option yC) (CE : Nat → List Value → yC → Option yC) (o : yO) : Option yC := match o with
  | .inl (brs, d, ls, st, C) => K (zsel brs d) ls st C
  | .inr (.inl (mj, a, pc, ls, r, C)) => match CE mj a C with
    | some C' => K pc ls r C'
    | none => none
  | .inr (.inr C) => some C
/-- the calls' depth, then the steps -/
def yrun : Nat → Nat → Nat → Nat → zLs → List Value → yC → Option yC
  | 0 => fun _ _ _ _ _ _ => none
  | d + 1 => fun k mi => Nat.rec (motive := fun _ => Nat → zLs → List Value → yC → Option yC) (fun _ _ _ _ => none) (fun _ ih pc ls st C => match zdec mi pc with
    | some q => match (if C.length < 900000 then yex mi pc q.1 ls st C else none) with
      | some o => yint ih (fun mj a C => if (zsp a).length ≤ zML mj then yrun d 3000 mj 0 (zent (zML mj) a) [] C else none) o
      | none => none
    | none => none) k
/-! its memory over the heap -/
def yint1 (vs : List Value) (j : Nat) : Int32 := match vs[j]? with
  | some (.int x) => x
  | _ => 0
def ylong1 (vs : List Value) (j : Nat) : Int64 := match vs[j]? with
  | some (.long x) => x
  | _ => 0
def yref1 (G : zG) (vs : List Value) (j : Nat) : Option Nat := match vs[j]? with
  | some (.ref k) => some (zad G k)
  | _ => none
def yen (G : zG) (q : Nat × List Value) : va_E :=
  if q.1 < 100 then .inr (q.1, q.2.map (zrv G))
  else if q.1 < 103 then .inl (zgA G q.1, (q.2.length, .inl (yint1 q.2)))
  else if q.1 = 103 then .inl (zgA G q.1, (q.2.length, .inr (.inl (ylong1 q.2))))
  else .inl (zgA G q.1, (q.2.length, .inr (.inr (.inr (.inr (yref1 G q.2))))))
def yws (G : zG) (C : yC) : va_W := (List.range C.length).map (fun k => (zgB G + k, yen G (C.getD k (0, []))))
def yW (G : zG) (C : yC) (H : Heap) : Prop := va_P (zgC G, zgI G) zCl (yws G C) H
theorem yws_len (G : zG) (C : yC) : (yws G C).length = C.length := by simp [yws]
theorem yws_get {G : zG} {C : yC} {k : Nat} {q : Nat × List Value} (h : C[k]? = some q) : (yws G C)[k]? = some (zgB G + k, yen G q) := by
  have hk : k < C.length := (List.getElem?_eq_some_iff.mp h).1
  unfold yws
  rw [List.getElem?_map, List.getElem?_range hk]
  simp only [Option.map_some, List.getD_eq_getElem?_getD, h, Option.getD_some]
theorem yws_key {G : zG} {C : yC} {k : Nat} {q : Nat × va_E} (h : (yws G C)[k]? = some q) : q.1 = zgB G + k ∧ k < C.length := by
  have hk : k < C.length := by
    have := (List.getElem?_eq_some_iff.mp h).1
    rwa [yws_len] at this
  unfold yws at h
  rw [List.getElem?_map, List.getElem?_range hk] at h
  cases h
  exact ⟨rfl, hk⟩
theorem yD (G : zG) (C : yC) : va_D (zA G) (yws G C) := by
  refine ⟨fun i j p q hi hj h => ?_, fun k q h => ?_⟩
  · rw [(yws_key hi).1, (yws_key hj).1] at h
    omega
  · show zgB G ≤ q.1
    rw [(yws_key h).1]
    omega
theorem yws_set {G : zG} {C : yC} {k : Nat} {q : Nat × List Value} : (yws G C).set k (zgB G + k, yen G q) = yws G (C.set k q) := by
  apply List.ext_getElem?
  intro i
  by_cases hi : i < C.length
  · by_cases hk : i = k
    · subst hk
      rw [List.getElem?_set_self (by rw [yws_len]; exact hi), yws_get (q := q) (by rw [List.getElem?_set_self hi])]
    · rw [List.getElem?_set_ne (Ne.symm hk)]
      have h1 : C[i]? = some C[i] := List.getElem?_eq_getElem hi
      rw [yws_get h1, yws_get (q := C[i]) (by rw [List.getElem?_set_ne (Ne.symm hk)]; exact h1)]
  · rw [List.getElem?_eq_none (by rw [List.length_set, yws_len]; omega), List.getElem?_eq_none (by rw [yws_len, List.length_set]; omega)]
theorem yws_app {G : zG} {C E : yC} : yws G (C ++ E) = yws G C ++ (List.range E.length).map (fun j => (zgB G + (C.length + j), yen G (E.getD j (0, [])))) := by
  unfold yws
  rw [List.length_append, List.range_add, List.map_append, List.map_map]
  congr 1
  · apply List.map_congr_left
    intro k hk
    have hk := List.mem_range.mp hk
    rw [List.getD_eq_getElem?_getD, List.getD_eq_getElem?_getD, List.getElem?_append_left hk]
  · apply List.map_congr_left
    intro k hk
    simp only [Function.comp]
    rw [List.getD_eq_getElem?_getD, List.getD_eq_getElem?_getD, List.getElem?_append_right (by omega), show C.length + k - C.length = k by omega]
/-- how many cells, how many fields and entries -/
def ytot (C : yC) : Nat := (C.map (fun q => q.2.length)).sum
theorem ytot_app (C E : yC) : ytot (C ++ E) = ytot C + ytot E := by simp [ytot]
theorem ytot_set {C : yC} {a : Nat} {q r : Nat × List Value} (h : C[a]? = some q) (hr : r.2.length = q.2.length) : ytot (C.set a r) = ytot C := by
  induction C generalizing a with
  | nil => rfl
  | cons x l ih =>
    cases a with
    | zero =>
      simp only [List.getElem?_cons_zero, Option.some.injEq] at h
      subst h
      simp [ytot, hr]
    | succ a =>
      simp only [List.getElem?_cons_succ] at h
      have := ih h
      simp only [ytot, List.set_cons_succ, List.map_cons, List.sum_cons] at this ⊢
      omega
def yle (C C' : yC) : Prop := C.length ≤ C'.length ∧ ytot C ≤ ytot C'
theorem yle_refl (C : yC) : yle C C := ⟨Nat.le_refl _, Nat.le_refl _⟩
theorem yle_trans {A B C : yC} (h : yle A B) (g : yle B C) : yle A C := ⟨Nat.le_trans h.1 g.1, Nat.le_trans h.2 g.2⟩
