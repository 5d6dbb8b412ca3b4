theorem zj_ai : Cond.arrayClass .int ∈ zgood := zgood_in (List.mem_of_getElem? (i := 291) (by decide +kernel)) rfl
theorem zj_ab : Cond.arrayClass .byte ∈ zgood := zgood_in (List.mem_of_getElem? (i := 290) (by decide +kernel)) rfl
theorem zj_az : Cond.arrayClass .boolean ∈ zgood := zgood_in (List.mem_of_getElem? (i := 599) (by decide +kernel)) rfl
theorem zj_al : Cond.arrayClass .long ∈ zgood := zgood_in (List.mem_of_getElem? (i := 625) (by decide +kernel)) rfl
theorem ysome_inj {α : Type} {x : Option α} {a b : α} (h : x = some a) (g : x = some b) : a = b := Option.some.inj (h.symm.trans g)
theorem zKL_in {oc ix : Nat} {e : Nat × Nat} {f : Nat × Nat × Nat → Bool} (h : zLk ((zKL oc).filter f) ix = some e) : Cond.classLink (zCNm oc) ix (zTagC e.1) ∈ zgood ∧ f (ix, e) = true := by
  have h0 := List.mem_filter.mp (zLk_mem h)
  have h1 := List.all_eq_true.mp (zKL_ok oc) (ix, e) h0.1
  unfold zKLok at h1
  exact ⟨zgood_in (List.mem_of_getElem? (of_decide_eq_true h1)) rfl, h0.2⟩
theorem yobj_sh {C : yC} {a ci : Nat} {vs : List Value} (h : yobj C a ci = some vs) : C[a]? = some (ci, vs) ∧ ci < 100 := by
  unfold yobj at h
  split at h
  · next q e =>
    split at h
    · next hc =>
      cases h
      obtain ⟨t, w⟩ := q
      simp only at hc
      rw [e, hc.1]
      exact ⟨rfl, hc.2⟩
    · cases h
  · cases h
theorem yen_o {G : zG} {t : Nat} {vs : List Value} (h : t < 100) : yen G (t, vs) = .inr (t, vs.map (zrv G)) := by
  unfold yen
  rw [if_pos h]
theorem yen_i {G : zG} {vs : List Value} : yen G (100, vs) = .inl (zgA G 100, (vs.length, .inl (yint1 vs))) := by
  unfold yen
  rw [if_neg (by show ¬ 100 < 100; omega), if_pos (by show 100 < 103; omega)]
theorem yen_r {G : zG} {t : Nat} {vs : List Value} (h : 103 < t) : yen G (t, vs) = .inl (zgA G t, (vs.length, .inr (.inr (.inr (.inr (yref1 G vs)))))) := by
  unfold yen
  rw [if_neg (by show ¬ t < 100; omega), if_neg (by show ¬ t < 103; omega), if_neg (by show ¬ t = 103; omega)]
theorem yws_lt {G : zG} {C : yC} {a : Nat} {q : Nat × List Value} {H : Heap} (hW : yW G C H) (h : C[a]? = some q) : zgB G + a < H.size := (hW _ _ (yws_get h)).lt
theorem yint1_rep (n j : Nat) : yint1 (List.replicate n (.int 0)) j = 0 := by
  unfold yint1
  rw [List.getElem?_replicate]
  by_cases h : j < n
  · rw [if_pos h]
  · rw [if_neg h]
theorem ylong1_rep (n j : Nat) : ylong1 (List.replicate n (.long 0)) j = 0 := by
  unfold ylong1
  rw [List.getElem?_replicate]
  by_cases h : j < n
  · rw [if_pos h]
  · rw [if_neg h]
theorem ycell_i (cA : ClassId) (n : Nat) : vp_cell cA (n, .inl (yint1 (List.replicate n (.int 0)))) = arrV cA n (fun _ => .int 0) := by
  have e : yint1 (List.replicate n (.int 0)) = fun _ => 0 := funext fun j => yint1_rep n j
  rw [e]
  rfl
theorem ycell_l (cA : ClassId) (n : Nat) : vp_cell cA (n, .inr (.inl (ylong1 (List.replicate n (.long 0))))) = arrV cA n (fun _ => .long 0) := by
  have e : ylong1 (List.replicate n (.long 0)) = fun _ => 0 := funext fun j => ylong1_rep n j
  rw [e]
  rfl
section YRW
variable {p : Program} {l : Launch} {e : Env} {R : Room} {s : State} {m : MethodId} {args : Array Value} {below : List Frame} {meth : Method} {c : Code} {H : Heap} {locs : List Loc} {cells slots : Nat} {Q : State → Prop}
variable {G : zG} {mi pc : Nat} {C : yC} {lsA : Array Slot} {rest : List Value}
theorem yr_get {ix a : Nat} {q : Nat × Nat × Bool × Nat} {vs : List Value} {v : Value} (ha1 : a < 1000000) (hC : yCtx G mi p s m args meth c) (hW : yW G C H) (hd : decode (zB mi) pc = .ok (.getfield ix, 3)) (hq : zLk (zFL (zOC mi)) ix = some q) (ho : yobj C a q.1 = some vs) (hv : vs[q.2.1]? = some v) (hn : q.2.2.1 = false)
    (k : W p l e R s m args below meth c H locs cells slots Q (F0 m (pc + 3) lsA (zrv G v :: rest))) : W p l e R s m args below meth c H locs cells slots Q (F0 m pc lsA (.ref (zad G a) :: rest)) := by
  obtain ⟨hx, hb, hml, hr, hown, hts, hlk, hnm, hKs⟩ := hC
  obtain ⟨Cn, T, N, hc, hk, hT, h1, h2⟩ := zFL_in hq
  obtain ⟨hsh, ht⟩ := yobj_sh ho
  rw [show zad G a = zgB G + a from if_pos ha1]
  have he := yws_get (G := G) hsh
  rw [yen_o ht] at he
  exact va_get (D := (zgC G, zgI G)) (Ts := zgood) hx hb hts (zgood_u hc) hown hKs.1 hW a he hc q.2.1 hk (hts _ (h1 hn)) (fun x hx => by rw [hT] at hx; exact hx) (by rw [List.getElem?_map, hv]; rfl) hd k
theorem yr_put {ix a : Nat} {q : Nat × Nat × Bool × Nat} {vs : List Value} {v : Value} (ha1 : a < 1000000) (hC : yCtx G mi p s m args meth c) (hW : yW G C H) (hS : va_S (zA G) s.heap H locs) (hd : decode (zB mi) pc = .ok (.putfield ix, 3)) (hq : zLk (zFL (zOC mi)) ix = some q) (ho : yobj C a q.1 = some vs) (hn : q.2.2.1 = false) (hlen : q.2.1 < vs.length) (hnar : narrow (zTy q.1 q.2.1) v = v) (hfit : fits (zTy q.1 q.2.1) v = true) (hini : (zY mi).name = "<init>") (hown2 : q.1 = zOC mi)
    (k : ∀ (H' : Heap) (locs' : List Loc), va_P (zgC G, zgI G) zCl ((yws G C).set a (zgB G + a, yen G (q.1, vs.set q.2.1 v))) H' → va_S (zA G) s.heap H' locs' → W p l e R s m args below meth c H' locs' cells slots Q (F0 m (pc + 3) lsA rest)) : W p l e R s m args below meth c H locs cells slots Q (F0 m pc lsA (zrv G v :: .ref (zad G a) :: rest)) := by
  obtain ⟨hx, hb, hml, hr, hown, hts, hlk, hnm0, hKs⟩ := hC
  obtain ⟨Cn, T, N, hc, hk, hT, h1, h2⟩ := zFL_in hq
  obtain ⟨hsh, ht⟩ := yobj_sh ho
  obtain ⟨-, hnm, hok, -, -⟩ := zcl_all _ _ hc
  rw [show zad G a = zgB G + a from if_pos ha1]
  have he := yws_get (G := G) hsh
  rw [yen_o ht] at he
  have hset : (vs.map (zrv G)).set q.2.1 (zrv G v) = (vs.set q.2.1 v).map (zrv G) := List.map_set.symm
  have hnar2 : narrow (zTy q.1 q.2.1) (zrv G v) = zrv G v := by
    cases v with
    | ref x => cases zTy q.1 q.2.1 <;> rfl
    | _ => exact hnar
  have hfit2 : fits (zTy q.1 q.2.1) (zrv G v) = true := by
    cases v with
    | ref x =>
      cases hz : zTy q.1 q.2.1 <;> rw [hz] at hfit <;> first | rfl | (cases hfit)
    | _ => exact hfit
  have kk : ∀ (H1 : Heap) (locs1 : List Loc), va_P (zgC G, zgI G) zCl ((yws G C).set a (zgB G + a, .inr (q.1, (vs.map (zrv G)).set q.2.1 (zrv G v)))) H1 → va_D (zA G) ((yws G C).set a (zgB G + a, .inr (q.1, (vs.map (zrv G)).set q.2.1 (zrv G v)))) → va_S (zA G) s.heap H1 locs1 → W p l e R s m args below meth c H1 locs1 cells slots Q (F0 m (pc + 3) lsA rest) := fun H1 locs1 g1 _ g3 => k H1 locs1 (by rw [yen_o ht, ← hset]; exact g1) g3
  by_cases hfin : (T q.2.1).2.2.2 = true
  · exact va_putF (D := (zgC G, zgI G)) (Ts := zgood) hx hb hts (zgood_u hc) (zTy q.1) hok hnm hown hKs.1 hW (yD G C) hS a he hc q.2.1 hk (hts _ (h1 hn)) (fun x hx => by rw [hT] at hx; exact hx) hfin (hnm0.trans hini) (by rw [hT, zCl_name hc, hown2]) (ty := zTy q.1 q.2.1) (hok _ hk) hnar2 hfit2 (by rw [List.length_map]; exact hlen) hd kk
  · exact va_put (D := (zgC G, zgI G)) (Ts := zgood) hx hb hts (zgood_u hc) (zTy q.1) hok hnm hown hKs.1 hW (yD G C) hS a he hc q.2.1 hk (hts _ (h1 hn)) (fun x hx => by rw [hT] at hx; exact hx) (by cases hz : (T q.2.1).2.2.2 with | true => exact absurd hz hfin | false => rfl) (ty := zTy q.1 q.2.1) (hok _ hk) hnar2 hfit2 (by rw [List.length_map]; exact hlen) hd kk
/-- a fresh cell, apart from the world, below the heap's end, is the next one -/
theorem yfresh {x : va_E} {q : Nat} {H1 : Heap} (hD : va_D (zA G) (yws G C ++ [(q, x)])) (hq : q < H1.size) (hz : H1.size ≤ zgB G + C.length + 1) : q = zgB G + C.length := by
  have hA : zgB G ≤ q := hD.2 C.length (q, x) (by rw [List.getElem?_append_right (by rw [yws_len]; exact Nat.le_refl _), yws_len, Nat.sub_self]; rfl)
  rcases Nat.lt_or_ge q (zgB G + C.length) with h | h
  · exfalso
    have hk : q - zgB G < C.length := by omega
    have e1 : (yws G C ++ [(q, x)])[q - zgB G]? = some (zgB G + (q - zgB G), yen G C[q - zgB G]) := by
      rw [List.getElem?_append_left (by rw [yws_len]; exact hk)]
      exact yws_get (List.getElem?_eq_getElem hk)
    have e2 : (yws G C ++ [(q, x)])[C.length]? = some (q, x) := by rw [List.getElem?_append_right (by rw [yws_len]; exact Nat.le_refl _), yws_len, Nat.sub_self]; rfl
    have := hD.1 _ _ _ _ e1 e2 (by show zgB G + (q - zgB G) = q; omega)
    omega
  · omega
theorem ylast {x : va_E} {q : Nat} {H1 : Heap} (h : va_P (zgC G, zgI G) zCl (yws G C ++ [(q, x)]) H1) : q < H1.size := by
  have := (h C.length (q, x) (by rw [List.getElem?_append_right (by rw [yws_len]; exact Nat.le_refl _), yws_len, Nat.sub_self]; rfl)).lt
  exact this
theorem y1 {x : Nat × List Value} : (List.range [x].length).map (fun j => (zgB G + (C.length + j), yen G ([x].getD j (0, [])))) = [(zgB G + C.length, yen G x)] := rfl
theorem yr_new {ix : Nat} {q : Nat × Nat} {st : List Value} (hlt : C.length < 1000000) (hsz0 : s.heap.size = zgB G + (C.length - cells)) (hcl0 : cells ≤ C.length) (hC : yCtx G mi p s m args meth c) (hW : yW G C H) (hS : va_S (zA G) s.heap H locs) (hH : H.size = zgB G + C.length) (hd : decode (zB mi) pc = .ok (.new ix, 3)) (hq : zLk ((zKL (zOC mi)).filter (fun e => decide (e.2.1 < 11))) ix = some q) (hr1 : cells + 1 ≤ R.cells) (hr2 : slots + yclsz q.1 ≤ R.slots)
    (k : ∀ (H' : Heap), va_P (zgC G, zgI G) zCl (yws G C ++ [(zgB G + C.length, yen G (q.1, ynew q.1 (yclsz q.1)))]) H' → va_S (zA G) s.heap H' locs → W p l e R s m args below meth c H' locs (cells + 1) (slots + yclsz q.1) Q (F0 m (pc + 3) lsA (.ref (zgB G + C.length) :: st))) : W p l e R s m args below meth c H locs cells slots Q (F0 m pc lsA st) := by
  obtain ⟨hx, hb, hml, hr, hown, hts, hlk, hnm0, hKs⟩ := hC
  obtain ⟨hw, hf⟩ := zKL_in hq
  have h11 : q.1 < 11 := of_decide_eq_true hf
  have hcl : ∃ r, zCl[q.1]? = some r := ⟨_, List.getElem?_eq_getElem h11⟩
  obtain ⟨⟨Cn, T, N⟩, hc⟩ := hcl
  obtain ⟨-, hnm, hok, hin1, hin2⟩ := zcl_all _ _ hc
  have hn : yclsz q.1 = N := by unfold yclsz; rw [hc]
  have htag : zTagC q.1 = Cn := by
    rw [zCl_name hc]
    have : ∀ t, t < 11 → zTagC t = zCNm t := by decide +kernel
    exact this _ h11
  rw [hn] at hr2 k
  rw [htag] at hw
  have hA : ∀ x, s.heap.size ≤ x → zA G x := fun x hx => by show zgB G ≤ x; omega
  refine va_new (D := (zgC G, zgI G)) (ci := q.1) (C := Cn) (T := T) (N := N) (Ts := zgood) (fs := (ynew q.1 N).map (zrv G)) hx hb hts (zgood_u hc) (zTy q.1) hok hown (hts _ hw) (hts _ (zgood_in hin1 rfl)) (hts _ (zgood_in hin2 rfl)) hKs.1 hW (yD G C) hS hA hc (fun j hj => ?_) hr1 hr2 hd (fun a H1 g1 g2 g3 => W_size fun hz => ?_)
  · unfold vp_V ynew ydef
    rw [List.getD_eq_getElem?_getD, List.getElem?_map, List.getElem?_map, List.getElem?_range hj]
    show _ = zrv G (defaultValue (zTy q.1 j))
    cases zTy q.1 j <;> rfl
  · have ha : a = zgB G + C.length := yfresh g2 (ylast g1) (by omega)
    subst ha
    exact k H1 (by rw [yen_o (by omega)]; exact g1) g3
theorem yr_newa {t : ArrayType} {n : Int32} {st : List Value} (hsz0 : s.heap.size = zgB G + (C.length - cells)) (hcl0 : cells ≤ C.length) (hC : yCtx G mi p s m args meth c) (hW : yW G C H) (hS : va_S (zA G) s.heap H locs) (hH : H.size = zgB G + C.length) (hd : decode (zB mi) pc = .ok (.newarray t, 2)) (hn0 : ¬ n < 0) (ht : 99 < yatag t) (hn1 : n.toNatClampNeg ≤ 5000) (hr1 : cells + 1 ≤ R.cells) (hr2 : slots + n.toNatClampNeg ≤ R.slots)
    (k : ∀ (H' : Heap), va_P (zgC G, zgI G) zCl (yws G C ++ [(zgB G + C.length, yen G (yatag t, List.replicate n.toNatClampNeg (ydef (zety (yatag t)))))]) H' → va_S (zA G) s.heap H' locs → W p l e R s m args below meth c H' locs (cells + 1) (slots + n.toNatClampNeg) Q (F0 m (pc + 2) lsA (.ref (zgB G + C.length) :: st))) : W p l e R s m args below meth c H locs cells slots Q (F0 m pc lsA (.int n :: st)) := by
  obtain ⟨hx, hb, hml, hr, hown, hts, hlk, hnm0, hKs⟩ := hC
  have hA : ∀ x, s.heap.size ≤ x → zA G x := fun x hx => by show zgB G ≤ x; omega
  have fin : ∀ (ty : FieldType) (i : Nat) (a0 : vp_A), i < 9 → zety (100 + i) = ty → newarray.typeOf t = ty → (∀ cA : ClassId, vp_cell cA a0 = arrV cA n.toNatClampNeg (fun _ => defaultValue ty)) → componentBytes ty ≤ 8 → Cond.arrayClass ty ∈ zgood → (∀ c1 c2 : ClassId, va_RA s c1 ty → va_RA s c2 ty → c1 = c2) →
      yen G (yatag t, List.replicate n.toNatClampNeg (ydef (zety (yatag t)))) = .inl (zgA G (100 + i), a0) → W p l e R s m args below meth c H locs cells slots Q (F0 m pc lsA (.int n :: st)) := by
    intro ty i a0 hi hz hty ha0 hby hac hu he
    refine va_newa (D := (zgC G, zgI G)) hx hb (by rw [hty]; exact hts _ hac) hty hKs.1 hW (yD G C) hS hA ha0 hn0 rfl (Nat.le_trans (Nat.mul_le_mul hn1 hby) (Nat.le_of_ble_eq_true rfl)) hr1 hr2 hd (fun a cA H1 g0 g1 g2 g3 => W_size fun hz2 => ?_)
    have hcA : cA = zgA G (100 + i) := by
      have e1 := (g0.2 9 (cA, ty) (by rw [List.getElem?_append_right (by unfold ztys; simp)]; unfold ztys; simp)).2
      have e2 := (hKs.1.2 i _ (ztys_get G hi)).2
      rw [hz] at e2
      exact hu _ _ e1 e2
    subst hcA
    have ha : a = zgB G + C.length := yfresh g2 (ylast g1) (by omega)
    subst ha
    exact k H1 (by rw [he]; exact g1) g3
  have hprim : ∀ (ty : FieldType), (∀ X, ty ≠ .object X) → ∀ c1 c2 : ClassId, va_RA s c1 ty → va_RA s c2 ty → c1 = c2 := by
    intro ty hne c1 c2 h1 h2
    cases ty with
    | object X => exact absurd rfl (hne X)
    | _ => exact ysome_inj (x := s.vm.findClass _) h1 h2
  cases t with
  | int => exact fin .int 0 (n.toNatClampNeg, .inl (yint1 (List.replicate n.toNatClampNeg (.int 0)))) (by omega) rfl rfl (fun cA => ycell_i cA _) (by decide) zj_ai (hprim _ (fun X h => by cases h)) (by
      show yen G (100, _) = _
      rw [yen_i, List.length_replicate]; rfl)
  | byte => exact fin .byte 1 (n.toNatClampNeg, .inl (yint1 (List.replicate n.toNatClampNeg (.int 0)))) (by omega) rfl rfl (fun cA => ycell_i cA _) (by decide) zj_ab (hprim _ (fun X h => by cases h)) (by
      unfold yen
      rw [if_neg (by show ¬ 101 < 100; omega), if_pos (by show 101 < 103; omega), List.length_replicate]; rfl)
  | boolean => exact fin .boolean 2 (n.toNatClampNeg, .inl (yint1 (List.replicate n.toNatClampNeg (.int 0)))) (by omega) rfl rfl (fun cA => ycell_i cA _) (by decide) zj_az (hprim _ (fun X h => by cases h)) (by
      unfold yen
      rw [if_neg (by show ¬ 102 < 100; omega), if_pos (by show 102 < 103; omega), List.length_replicate]; rfl)
  | long => exact fin .long 3 (n.toNatClampNeg, .inr (.inl (ylong1 (List.replicate n.toNatClampNeg (.long 0))))) (by omega) rfl rfl (fun cA => ycell_l cA _) (by decide) zj_al (hprim _ (fun X h => by cases h)) (by
      unfold yen
      rw [if_neg (by show ¬ 103 < 100; omega), if_neg (by show ¬ 103 < 103; omega), if_pos (by show 103 = 103; rfl), List.length_replicate]; rfl)
  | _ => exact absurd ht (by show ¬ 99 < 99; omega)
end YRW
