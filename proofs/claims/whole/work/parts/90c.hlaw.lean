/-! THE LAW: the start holds it; the run's answer -/
def zv0 (v : Value) : Bool := match v with
  | .int x => x == 0
  | .long x => x == 0
  | _ => true
theorem yint1_z {vs : List Value} (h : vs.all zv0 = true) (j : Nat) : yint1 vs j = 0 := by
  unfold yint1
  cases e : vs[j]? with
  | none => rfl
  | some v =>
    have hv := List.all_eq_true.mp h v (List.mem_of_getElem? e)
    cases v with
    | int x => exact eq_of_beq hv
    | _ => rfl
theorem ylong1_z {vs : List Value} (h : vs.all zv0 = true) (j : Nat) : ylong1 vs j = 0 := by
  unfold ylong1
  cases e : vs[j]? with
  | none => rfl
  | some v =>
    have hv := List.all_eq_true.mp h v (List.mem_of_getElem? e)
    cases v with
    | long x => exact eq_of_beq hv
    | _ => rfl
set_option maxRecDepth 1000000 in
theorem yz_all : (List.range 313).all (fun b => b == 2 || b == 194 || b == 287 || b == 309 || (yCF.getD b (0, [])).2.all zv0) = true := by decide +kernel
theorem yCF_len : yCF.length = 313 := by decide +kernel
theorem yz_row {b : Nat} (h : b ≠ 2 ∧ b ≠ 194 ∧ b ≠ 287 ∧ b ≠ 309) : (yCF.getD b (0, [])).2.all zv0 = true := by
  by_cases q : b < 313
  · have := List.all_eq_true.mp yz_all b (List.mem_range.mpr q)
    simp only [Bool.or_eq_true, beq_iff_eq] at this
    exact this.resolve_left fun p => by omega
  · have e : yCF.getD b (0, []) = (0, []) := by
      rw [List.getD_eq_getElem?_getD, List.getElem?_eq_none (by rw [yCF_len]; omega)]
      rfl
    rw [e]
    rfl
theorem z0N {t : Nat × (Nat → Int32)} {b : Nat} (h : b ≠ 2 ∧ b ≠ 194 ∧ b ≠ 287 ∧ b ≠ 309) (j : Nat) : zN (zM0 t) b j = 0 := by
  have e : zN (zM0 t) b j = (yint1 (yCF.getD b (0, [])).2 j).toInt := rfl
  rw [e, yint1_z (yz_row h)]
  rfl
theorem z0L {t : Nat × (Nat → Int32)} {b : Nat} (h : b ≠ 2 ∧ b ≠ 194 ∧ b ≠ 287 ∧ b ≠ 309) (j : Nat) : zL (zM0 t) b j = 0 := by
  have e : zL (zM0 t) b j = (ylong1 (yCF.getD b (0, [])).2 j).toInt := rfl
  rw [e, ylong1_z (yz_row h)]
  rfl
theorem z0x {t : Nat × (Nat → Int32)} (b j : Nat) : zN (zM0 t) b j = (yint1 (yCF.getD b (0, [])).2 j).toInt := rfl
theorem y28 : (yint1 (yCF.getD 2 (0, [])).2 8).toInt = 0 ∧ (yint1 (yCF.getD 2 (0, [])).2 9).toInt = -1 ∧ (yint1 (yCF.getD 287 (0, [])).2 5).toInt = 0 ∧ (yint1 (yCF.getD 287 (0, [])).2 12).toInt = 0 ∧ (yint1 (yCF.getD 287 (0, [])).2 13).toInt = -1 ∧ (yint1 (yCF.getD 287 (0, [])).2 24).toInt = 0 ∧ (yint1 (yCF.getD 287 (0, [])).2 25).toInt = -1 := by decide +kernel
theorem y194 : ∀ j, j < 4 → (yint1 (yCF.getD 194 (0, [])).2 j).toInt = -1 ∧ (yint1 (yCF.getD 309 (0, [])).2 j).toInt = -1 := by decide +kernel
theorem LI_0 (t : Nat × (Nat → Int32)) : LI (zM0 t) W00 (fun _ => -1, fun _ => 0, fun _ _ => 0) 0 := by
  obtain ⟨a1, a2, a3, a4, a5, a6, a7⟩ := y28
  have e : ∀ i, W00 i = 0 := fun _ => rfl
  refine ⟨⟨?_, WOK_0, (z0x 287 24).trans a6, (z0x 287 25).trans a7⟩, ⟨?_, ⟨?_, ?_, ?_, ?_⟩, ⟨?_, ?_⟩, ⟨?_, ?_⟩, ?_⟩, ?_, ?_, ⟨?_, ?_, ?_⟩, ?_, ?_, ?_⟩
  · funext j
    exact z0N (by decide) _
  · refine ⟨⟨z0N (by decide) _, z0N (by decide) _, z0N (by decide) _, z0N (by decide) _, z0N (by decide) _, z0N (by decide) _, z0N (by decide) _, z0N (by decide) _⟩, fun r r0 r1 => absurd r1 (by rw [e]; omega), fun r r0 r1 => absurd r1 (by rw [e]; omega), fun r r0 r1 => absurd r1 (by rw [e]; omega), fun r r0 r1 => absurd r1 (by rw [e]; omega)⟩
  · exact fun x y x0 x1 => absurd x1 (by rw [e]; show ¬ x < 0; omega)
  · exact fun x y x0 x1 => absurd x1 (by rw [e]; show ¬ x < 0; omega)
  · exact fun x y x0 x1 => absurd x1 (by rw [e]; show ¬ x < 0; omega)
  · exact fun r r0 r1 => absurd r1 (by rw [e]; omega)
  · exact z0N (by decide) _
  · exact fun r h r0 r1 h0 h1 => absurd h1 (by rw [e]; omega)
  · exact z0N (by decide) _
  · exact z0N (by decide) _
  · exact fun o o0 o1 => absurd o1 (by rw [e]; omega)
  · exact fun j _ => rfl
  · exact fun j _ => z0N (by decide) _
  · exact fun s s0 s1 => ⟨by show -1 ≤ (-1 : Int); decide, by show (-1 : Int) ≤ 60; decide, by show (0 : Int) ≤ 0; decide, by show (0 : Int) ≤ 3; decide⟩
  · exact fun s s0 s1 => ⟨(z0x 194 _).trans (y194 _ (by omega)).1, z0N (by decide) _, fun i i0 i1 => z0L (by omega) _⟩
  · exact fun s s0 s1 => ⟨(z0x 309 _).trans (y194 _ (by omega)).2, z0N (by decide) _, fun i i0 i1 => z0L (by decide) _⟩
  · intro k hk
    refine ⟨(z0N (by decide) _).trans (z0N (by decide) _).symm, fun q => absurd (z0N (by decide) _) q⟩
  · exact ⟨by omega, ⟨z0N (by decide) _, (z0x 287 5).trans a3⟩, fun i hi => by omega⟩
  · exact ⟨((z0x 2 8).trans a1).trans ((z0x 287 12).trans a4).symm, ((z0x 2 9).trans a2).trans ((z0x 287 13).trans a5).symm⟩
theorem HLAW {L : Nat} {xs : Nat → Int32} (hL : L ≤ 4096) : ∃ σF, zev 282 16 [some (.ref 2000000), some (.ref 0), some (.ref 287), none] [] (zM0 (L, xs)) = some (some (.int 1), σF) := by
  have h : zwp (zev 282 16 [some (.ref 2000000), some (.ref 0), some (.ref 287), none] [] (zM0 (L, xs))) (fun v _ => v = some (.int 1)) := by
    refine zwp_of (fun r h => ze_282_16 _ r h) ?_
    exact lw_run hL 600 0 (zM0 (L, xs)) _ _ _ (by omega) (by omega) (LI_0 (L, xs)) rfl
  obtain ⟨v, τ, h1, rfl⟩ := h
  exact ⟨τ, h1⟩
