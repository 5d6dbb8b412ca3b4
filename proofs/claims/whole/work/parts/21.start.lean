/-! FROM THE LAW'S ENTRY: what the Statement gives, and the world made -/
theorem zentry_at {G : zG} {τ : Nat × (Nat → Int32)} {k : Nat} {t : Nat} {vs : List Value} (e : yCF[k]? = some (t, vs)) : zsh[k]? = some (t, vs.length) := by
  rw [← yshape, List.getElem?_map, e]
  rfl
theorem yCF_at {k : Nat} {q : Nat × List Value} (e : yCF[k]? = some q) : yCF.getD k (0, []) = q := by
  rw [List.getD_eq_getElem?_getD, e]
  rfl
theorem yW_zW {G : zG} {τ : Nat × (Nat → Int32)} {H : Heap} (h : yW G yCF H) : zW G (zM0 τ) H := by
  intro k q hk
  have hl : k < yCF.length := by
    have h1 := (List.getElem?_eq_some_iff.mp hk).1
    rw [zws_len, ← yshape, List.length_map] at h1
    exact h1
  obtain ⟨t, vs⟩ : Nat × List Value := yCF[k]
  have e0 : yCF[k]? = some yCF[k] := List.getElem?_eq_getElem hl
  generalize yCF[k] = q0 at e0
  obtain ⟨t, vs⟩ := q0
  have hsh := zentry_at (G := G) (τ := τ) e0
  have hw := zws_get (G := G) (σ := zM0 τ) hsh
  rw [hw] at hk
  have hk := Option.some.inj hk
  subst hk
  have hy := h k _ (yws_get e0)
  have hv : yvalok k = true := by
    have := List.all_eq_true.mp yvals k (List.mem_range.mpr (by rw [← ylen_CF]; exact hl))
    exact this
  unfold yvalok at hv
  rw [e0] at hv
  simp only at hv
  have hg := yCF_at e0
  by_cases c1 : t < 100
  · rw [if_pos c1] at hv
    have e1 : (List.range vs.length).map (fun j => zrv G (zval (zM0 τ) t j k)) = vs.map (zrv G) := by
      apply List.ext_getElem?
      intro j
      by_cases hj : j < vs.length
      · have h1 := of_decide_eq_true (List.all_eq_true.mp hv j (List.mem_range.mpr hj))
        rw [zfs_get hj, List.getElem?_map, h1]
        rfl
      · rw [List.getElem?_eq_none (by rw [List.length_map, List.length_range]; omega), List.getElem?_eq_none (by rw [List.length_map]; omega)]
    have e2 : zen G (zM0 τ) k t vs.length = yen G (t, vs) := by
      unfold zen
      rw [if_pos c1, yen_o c1, e1]
    show va_at _ _ (zgB G + k, zen G (zM0 τ) k t vs.length) H
    rw [e2]
    exact hy
  · by_cases c2 : t < 103
    · have e2 : zen G (zM0 τ) k t vs.length = yen G (t, vs) := by
        rw [zen_I c1 c2]
        unfold yen
        rw [if_neg c1, if_pos c2]
        show (Sum.inl (zgA G t, (vs.length, Sum.inl (yint1 (yCF.getD k (0, [])).2))) : va_E) = _
        rw [hg]
      show va_at _ _ (zgB G + k, zen G (zM0 τ) k t vs.length) H
      rw [e2]
      exact hy
    · by_cases c3 : t = 103
      · subst c3
        have e2 : zen G (zM0 τ) k 103 vs.length = yen G (103, vs) := by
          rw [zen_J]
          unfold yen
          rw [if_neg c1, if_neg c2, if_pos rfl]
          show (Sum.inl (zgA G 103, (vs.length, Sum.inr (Sum.inl (ylong1 (yCF.getD k (0, [])).2)))) : va_E) = _
          rw [hg]
        show va_at _ _ (zgB G + k, zen G (zM0 τ) k 103 vs.length) H
        rw [e2]
        exact hy
      · rw [if_neg c1, if_neg (by omega)] at hv
        show va_at _ _ (zgB G + k, zen G (zM0 τ) k t vs.length) H
        rw [yen_r (by omega)] at hy
        rw [zen_R (by omega)]
        have hy2 : H[zgB G + k]? = some (vp_cell (zgA G t) (vs.length, .inr (.inr (.inr (.inr (yref1 G vs)))))) := hy
        show H[zgB G + k]? = some (vp_cell (zgA G t) (vs.length, .inr (.inr (.inr (.inr (fun i => some (zad G (zel t k i))))))))
        rw [hy2, vp_cell_q, vp_cell_q]
        refine congrArg some (yarr_ext fun j hj => ?_)
        have h1 := of_decide_eq_true (List.all_eq_true.mp hv j (List.mem_range.mpr hj))
        unfold yref1
        rw [h1.1]
theorem zmk_cls {args : Array Value} {s : State} (hts : ∀ w ∈ lw_tbl, w.before args s = true) : ∃ f : Nat → ClassId × (Nat → Nat), ∀ (k : Nat) (q : vw_C), zCl[k]? = some q → u_Kn s q.1 q.2.1 q.2.2 (f k).1 (f k).2 := by
  have h : ∀ k : Nat, ∃ r : ClassId × (Nat → Nat), ∀ q : vw_C, zCl[k]? = some q → u_Kn s q.1 q.2.1 q.2.2 r.1 r.2 := by
    intro k
    cases e : zCl[k]? with
    | none => exact ⟨((0 : Nat), fun _ => 0), fun q h => by cases h⟩
    | some q =>
      obtain ⟨hin, -, -, hi, -⟩ := zcl_all k q e
      obtain ⟨cC, iS, hk⟩ := u_known (C := q.1) (T := q.2.1) (N := q.2.2) (n := q.2.2) hts hin (hts _ hi)
      refine ⟨(cC, iS), fun q2 h => ?_⟩
      cases h
      exact hk
  exact Classical.axiomOfChoice h
theorem zmk_arr {args : Array Value} {s : State} (hg : ∀ w ∈ zgood, w.before args s = true) (ho : ∀ w ∈ yover, w.before #[] s = true) : ∃ ac : Nat → ClassId, ∀ i, i < 9 → ArrOfT s (ac (100 + i)) (zety (100 + i)) ∧ va_RA s (ac (100 + i)) (zety (100 + i)) := by
  have hp : ∀ ty : FieldType, (∀ X, ty ≠ .object X) → Cond.arrayClass ty ∈ zgood → ∃ c : ClassId, ArrOfT s c ty ∧ va_RA s c ty := by
    intro ty hne hw
    obtain ⟨c, k, comp, h1, h2, h3⟩ := Cond.arrayClass_spec (args := args) (first := s) (o := none) (s := s) (idx := []) (hg _ hw)
    refine ⟨c, fun n z => ⟨(fun k h => by cases h), k, h2, comp, h3⟩, ?_⟩
    cases ty with
    | object X => exact absurd rfl (hne X)
    | _ => exact h1
  have hob : ∀ X : String, Cond.arrayOver (.object X) ∈ yover → ∃ c : ClassId, ArrOfT s c (.object X) ∧ va_RA s c (.object X) := by
    intro X hw
    obtain ⟨comp, c, k, h1, -, h2, h3, h4⟩ := Cond.arrayOver_spec (args := #[]) (first := s) (o := none) (s := s) (idx := []) (ho _ hw)
    exact ⟨c, fun n z => ⟨(fun k h => by cases h), k, h2, comp, h3⟩, k, comp, h2, h3, h1, h4⟩
  have har : ∀ ty : FieldType, Cond.arrayOver (.array ty) ∈ yover → ∃ c : ClassId, ArrOfT s c (.array ty) ∧ va_RA s c (.array ty) := by
    intro ty hw
    obtain ⟨comp, c, k, h1, -, h2, h3, h4⟩ := arrayOverA_spec (args := #[]) (first := s) (o := none) (s := s) (idx := []) (ho _ hw)
    exact ⟨c, fun n z => ⟨(fun k h => by cases h), k, h2, comp, h3⟩, h4⟩
  have h : ∀ t : Nat, ∃ c : ClassId, 100 ≤ t → t < 109 → ArrOfT s c (zety t) ∧ va_RA s c (zety t) := by
    intro t
    by_cases hh : 100 ≤ t ∧ t < 109
    · have h9 : t = 100 ∨ t = 101 ∨ t = 102 ∨ t = 103 ∨ t = 104 ∨ t = 105 ∨ t = 106 ∨ t = 107 ∨ t = 108 := by omega
      have g : ∃ c : ClassId, ArrOfT s c (zety t) ∧ va_RA s c (zety t) := by
        rcases h9 with rfl | rfl | rfl | rfl | rfl | rfl | rfl | rfl | rfl
        · exact hp .int (fun X h => by cases h) zj_ai
        · exact hp .byte (fun X h => by cases h) zj_ab
        · exact hp .boolean (fun X h => by cases h) zj_az
        · exact hp .long (fun X h => by cases h) zj_al
        · exact hob _ (by simp [yover])
        · exact hob _ (by simp [yover])
        · exact hob _ (by simp [yover])
        · exact har _ (by simp [yover])
        · exact har _ (by simp [yover])
      obtain ⟨c, hc⟩ := g
      exact ⟨c, fun _ _ => hc⟩
    · exact ⟨(0 : Nat), fun a b => absurd ⟨a, b⟩ hh⟩
  obtain ⟨f, hf⟩ := Classical.axiomOfChoice h
  exact ⟨f, fun i hi => hf (100 + i) (by omega) (by omega)⟩
def ztm (i : Nat) : Term := match i with
  | 0 => .string "SlowOrderModel" 246
  | 1 => .string "SlowOrderModel" 221
  | 2 => .string "SlowOrderModel" 223
  | 3 => .string "SlowOrderModel" 206
  | 4 => .string "SlowOrderModel" 225
  | 5 => .string "SlowOrderModel" 227
  | 6 => .string "SlowOrderModel" 248
  | 7 => .string "SlowOrderModel" 195
  | 8 => .string "SlowOrderModel" 189
  | 9 => .string "SlowOrderModel" 201
  | 10 => .string "SlowOrderModel" 202
  | 11 => .string "SlowOrderModel" 204
  | 12 => .string "SlowOrderModel" 208
  | 13 => .string "SlowOrderModel" 214
  | 14 => .string "SlowOrderModel" 210
  | 15 => .string "SlowOrderModel" 212
  | 16 => .string "SlowOrderModel" 215
  | 17 => .string "SlowOrderModel" 220
  | _ => .string "SlowOrderModel" 229
def zflat : List Cond := flatC (Jvm.Cond.and given_1 narrow_1)
def zstrw (i : Nat) : List Cond := [.exactly (ztm i) "java/lang/String", .eq (.field (ztm i) "java/lang/String" "coder" "B") (.int 0), .arrayOf (.field (ztm i) "java/lang/String" "value" "[B") .byte, .eq (.length (.field (ztm i) "java/lang/String" "value" "[B")) (.int (Int32.ofNat (zslen.getD i 0)))] ++ (List.range (zslen.getD i 0)).map (fun j => .eq (.elem (.field (ztm i) "java/lang/String" "value" "[B") (.int (Int32.ofNat j))) (.int ((zstr.getD i []).getD j 0)))
set_option maxRecDepth 1000000 in
theorem zstrw_0 : (zstrw 0).all (fun w => decide (w ∈ zflat)) = true := by decide +kernel
set_option maxRecDepth 1000000 in
theorem zstrw_1 : (zstrw 1).all (fun w => decide (w ∈ zflat)) = true := by decide +kernel
set_option maxRecDepth 1000000 in
theorem zstrw_2 : (zstrw 2).all (fun w => decide (w ∈ zflat)) = true := by decide +kernel
set_option maxRecDepth 1000000 in
theorem zstrw_3 : (zstrw 3).all (fun w => decide (w ∈ zflat)) = true := by decide +kernel
set_option maxRecDepth 1000000 in
theorem zstrw_4 : (zstrw 4).all (fun w => decide (w ∈ zflat)) = true := by decide +kernel
set_option maxRecDepth 1000000 in
theorem zstrw_5 : (zstrw 5).all (fun w => decide (w ∈ zflat)) = true := by decide +kernel
set_option maxRecDepth 1000000 in
theorem zstrw_6 : (zstrw 6).all (fun w => decide (w ∈ zflat)) = true := by decide +kernel
set_option maxRecDepth 1000000 in
theorem zstrw_7 : (zstrw 7).all (fun w => decide (w ∈ zflat)) = true := by decide +kernel
set_option maxRecDepth 1000000 in
theorem zstrw_8 : (zstrw 8).all (fun w => decide (w ∈ zflat)) = true := by decide +kernel
set_option maxRecDepth 1000000 in
theorem zstrw_9 : (zstrw 9).all (fun w => decide (w ∈ zflat)) = true := by decide +kernel
set_option maxRecDepth 1000000 in
theorem zstrw_10 : (zstrw 10).all (fun w => decide (w ∈ zflat)) = true := by decide +kernel
set_option maxRecDepth 1000000 in
theorem zstrw_11 : (zstrw 11).all (fun w => decide (w ∈ zflat)) = true := by decide +kernel
set_option maxRecDepth 1000000 in
theorem zstrw_12 : (zstrw 12).all (fun w => decide (w ∈ zflat)) = true := by decide +kernel
set_option maxRecDepth 1000000 in
theorem zstrw_13 : (zstrw 13).all (fun w => decide (w ∈ zflat)) = true := by decide +kernel
set_option maxRecDepth 1000000 in
theorem zstrw_14 : (zstrw 14).all (fun w => decide (w ∈ zflat)) = true := by decide +kernel
set_option maxRecDepth 1000000 in
theorem zstrw_15 : (zstrw 15).all (fun w => decide (w ∈ zflat)) = true := by decide +kernel
set_option maxRecDepth 1000000 in
theorem zstrw_16 : (zstrw 16).all (fun w => decide (w ∈ zflat)) = true := by decide +kernel
set_option maxRecDepth 1000000 in
theorem zstrw_17 : (zstrw 17).all (fun w => decide (w ∈ zflat)) = true := by decide +kernel
set_option maxRecDepth 1000000 in
theorem zstrw_18 : (zstrw 18).all (fun w => decide (w ∈ zflat)) = true := by decide +kernel
theorem zstrw_all (i : Nat) (h : i < 19) : (zstrw i).all (fun w => decide (w ∈ zflat)) = true := by
  match i, h with
  | 0, _ => exact zstrw_0
  | 1, _ => exact zstrw_1
  | 2, _ => exact zstrw_2
  | 3, _ => exact zstrw_3
  | 4, _ => exact zstrw_4
  | 5, _ => exact zstrw_5
  | 6, _ => exact zstrw_6
  | 7, _ => exact zstrw_7
  | 8, _ => exact zstrw_8
  | 9, _ => exact zstrw_9
  | 10, _ => exact zstrw_10
  | 11, _ => exact zstrw_11
  | 12, _ => exact zstrw_12
  | 13, _ => exact zstrw_13
  | 14, _ => exact zstrw_14
  | 15, _ => exact zstrw_15
  | 16, _ => exact zstrw_16
  | 17, _ => exact zstrw_17
  | 18, _ => exact zstrw_18
  | n + 19, h => exact absurd h (by omega)
def zsame (oc : Nat) (e : Nat × Nat × Nat) : Bool := decide (ztm e.2.1 = .string (zCNm oc) e.1) || decide (Cond.eq (.string (zCNm oc) e.1) (ztm e.2.1) ∈ zflat)
set_option maxRecDepth 1000000 in
theorem zsame_0 : (zKS_0).all (zsame 0) = true := by decide +kernel
set_option maxRecDepth 1000000 in
theorem zsame_1 : (zKS_1).all (zsame 1) = true := by decide +kernel
set_option maxRecDepth 1000000 in
theorem zsame_2 : (zKS_2).all (zsame 2) = true := by decide +kernel
set_option maxRecDepth 1000000 in
theorem zsame_3 : (zKS_3).all (zsame 3) = true := by decide +kernel
set_option maxRecDepth 1000000 in
theorem zsame_4 : (zKS_4).all (zsame 4) = true := by decide +kernel
set_option maxRecDepth 1000000 in
theorem zsame_5 : (zKS_5).all (zsame 5) = true := by decide +kernel
set_option maxRecDepth 1000000 in
theorem zsame_6 : (zKS_6).all (zsame 6) = true := by decide +kernel
set_option maxRecDepth 1000000 in
theorem zsame_7 : (zKS_7).all (zsame 7) = true := by decide +kernel
set_option maxRecDepth 1000000 in
theorem zsame_8 : (zKS_8).all (zsame 8) = true := by decide +kernel
set_option maxRecDepth 1000000 in
theorem zsame_9 : (zKS_9).all (zsame 9) = true := by decide +kernel
set_option maxRecDepth 1000000 in
theorem zsame_10 : (zKS_10).all (zsame 10) = true := by decide +kernel
set_option maxRecDepth 1000000 in
theorem zsame_11 : (zKS_11).all (zsame 11) = true := by decide +kernel
set_option maxRecDepth 1000000 in
theorem zsame_12 : (zKS_12).all (zsame 12) = true := by decide +kernel
theorem zsame_all : ∀ oc, (zKS oc).all (zsame oc) = true := by
  intro oc
  match oc with
  | 0 => exact zsame_0
  | 1 => exact zsame_1
  | 2 => exact zsame_2
  | 3 => exact zsame_3
  | 4 => exact zsame_4
  | 5 => exact zsame_5
  | 6 => exact zsame_6
  | 7 => exact zsame_7
  | 8 => exact zsame_8
  | 9 => exact zsame_9
  | 10 => exact zsame_10
  | 11 => exact zsame_11
  | 12 => exact zsame_12
  | n + 13 => rfl
theorem zj_lc : Cond.laysStatic "java/lang/String" "COMPACT_STRINGS" "Z" ∈ lw_tbl := List.mem_of_getElem? (i := 716) (by decide +kernel)
theorem zj_lp : Cond.laysStatic "jdk/internal/util/Preconditions" "SIOOBE_FORMATTER" "Ljava/util/function/BiFunction;" ∈ lw_tbl := List.mem_of_getElem? (i := 732) (by decide +kernel)
theorem zj_ov0 : Cond.arrayOver (.object "SlowOrder$Order") ∈ lw_tbl := List.mem_of_getElem? (i := 206) (by decide +kernel)
theorem zj_ov1 : Cond.arrayOver (.object "SlowOrder$Realm") ∈ lw_tbl := List.mem_of_getElem? (i := 626) (by decide +kernel)
theorem zj_ov2 : Cond.arrayOver (.object "SlowOrder$Trip") ∈ lw_tbl := List.mem_of_getElem? (i := 512) (by decide +kernel)
theorem zj_ov3 : Cond.arrayOver (.array .int) ∈ lw_tbl := List.mem_of_getElem? (i := 478) (by decide +kernel)
theorem zj_ov4 : Cond.arrayOver (.array .long) ∈ lw_tbl := List.mem_of_getElem? (i := 607) (by decide +kernel)
set_option maxRecDepth 1000000 in
theorem zj_compact : Cond.eq (.static "java/lang/String" "COMPACT_STRINGS" "Z") (.int 1) ∈ zflat := by decide +kernel
set_option maxRecDepth 1000000 in
theorem zj_sioobe : Cond.isRef (.static "jdk/internal/util/Preconditions" "SIOOBE_FORMATTER" "Ljava/util/function/BiFunction;") ∈ zflat := by decide +kernel
