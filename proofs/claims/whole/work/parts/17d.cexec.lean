section YR3
variable {p : Program} {l : Launch} {e : Env} {R : Room} {s : State} {m : MethodId} {args : Array Value} {below : List Frame} {meth : Method} {c : Code} {H : Heap} {locs : List Loc} {cells slots : Nat} {Q : State → Prop}
variable {G : zG} {mi pc : Nat} {C : yC} {lsA : Array Slot} {rest : List Value}
theorem yin {i : Int32} {n : Nat} (h0 : 0 ≤ i) (h1 : i.toNatClampNeg < n) : vp_in i n := by
  rintro (q | q)
  · exact absurd h0 (Int32.not_le.mpr q)
  · omega
theorem yint1_set {vs : List Value} {i : Nat} {x : Int32} (h : i < vs.length) : yint1 (vs.set i (.int x)) = upd (yint1 vs) i x := by
  funext j
  unfold yint1 upd
  by_cases hj : j = i
  · subst hj
    rw [List.getElem?_set_self h, if_pos rfl]
  · rw [List.getElem?_set_ne (Ne.symm hj), if_neg hj]
theorem yref1_set {vs : List Value} {i v : Nat} (h : i < vs.length) : yref1 G (vs.set i (.ref v)) = va_up (yref1 G vs) i (some (zad G v)) := by
  funext j
  unfold yref1 va_up
  by_cases hj : j = i
  · subst hj
    rw [List.getElem?_set_self h, if_pos rfl]
  · rw [List.getElem?_set_ne (Ne.symm hj), if_neg hj]
theorem yr_iast {a : Nat} {i x : Int32} {vs : List Value} (ha1 : a < 1000000) (hC : yCtx G mi p s m args meth c) (hW : yW G C H) (hS : va_S (zA G) s.heap H locs) (hd : decode (zB mi) pc = .ok (.iastore, 1)) (ha : C[a]? = some (100, vs)) (h0 : 0 ≤ i) (h1 : i.toNatClampNeg < vs.length)
    (k : ∀ (H' : Heap) (locs' : List Loc), va_P (zgC G, zgI G) zCl ((yws G C).set a (zgB G + a, yen G (100, vs.set i.toNatClampNeg (.int x)))) H' → va_S (zA G) s.heap H' locs' → W p l e R s m args below meth c H' locs' cells slots Q (F0 m (pc + 1) lsA rest)) : W p l e R s m args below meth c H locs cells slots Q (F0 m pc lsA (.int x :: .int i :: .ref (zad G a) :: rest)) := by
  rw [show zad G a = zgB G + a from if_pos ha1]
  have he := yws_get (G := G) ha
  rw [yen_i] at he
  refine va_iast (D := (zgC G, zgI G)) hC.1 hC.2.1 hC.2.2.2.2.2.2.2.2.1 hW (yD G C) hS a 0 he (ztys_get G (i := 0) (by omega)) (yin h0 h1) hd (fun H1 locs1 g1 _ g3 => k H1 locs1 ?_ g3)
  rw [yen_i, List.length_set, yint1_set h1]
  exact g1
theorem yr_aast {a v t ci : Nat} {i : Int32} {vs ws : List Value} (ha1 : a < 1000000) (hv1 : v < 1000000) (hC : yCtx G mi p s m args meth c) (hW : yW G C H) (hS : va_S (zA G) s.heap H locs) (hd : decode (zB mi) pc = .ok (.aastore, 1)) (ha : C[a]? = some (t, vs)) (hv : C[v]? = some (ci, ws)) (ht : t = 104 ∧ ci = 3 ∨ t = 105 ∧ ci = 5 ∨ t = 106 ∧ ci = 7) (h0 : 0 ≤ i) (h1 : i.toNatClampNeg < vs.length)
    (k : ∀ (H' : Heap) (locs' : List Loc), va_P (zgC G, zgI G) zCl ((yws G C).set a (zgB G + a, yen G (t, vs.set i.toNatClampNeg (.ref v)))) H' → va_S (zA G) s.heap H' locs' → W p l e R s m args below meth c H' locs' cells slots Q (F0 m (pc + 1) lsA rest)) : W p l e R s m args below meth c H locs cells slots Q (F0 m pc lsA (.ref (zad G v) :: .int i :: .ref (zad G a) :: rest)) := by
  have hva : zad G v = zgB G + v := if_pos hv1
  rw [show zad G a = zgB G + a from if_pos ha1]
  have he := yws_get (G := G) ha
  rw [yen_r (by omega)] at he
  have hve := yws_get (G := G) hv
  rw [yen_o (by omega), ← hva] at hve
  have hty := ztys_get G (i := t - 100) (by omega)
  rw [show 100 + (t - 100) = t by omega] at hty
  have fin : ∀ r : vw_C, zCl[ci]? = some r → zety t = .object r.1 → W p l e R s m args below meth c H locs cells slots Q (F0 m pc lsA (.ref (zad G v) :: .int i :: .ref (zgB G + a) :: rest)) := by
    intro r hr hz
    rw [hz] at hty
    refine va_astq (D := (zgC G, zgI G)) hC.1 hC.2.1 hC.2.2.2.2.2.2.2.2.1 hW (yD G C) hS a (t - 100) v ci he hty hve hr (yin h0 h1) hd (fun H1 locs1 g1 _ g3 => k H1 locs1 ?_ g3)
    rw [yen_r (by omega), List.length_set, yref1_set h1]
    exact g1
  rcases ht with ⟨rfl, rfl⟩ | ⟨rfl, rfl⟩ | ⟨rfl, rfl⟩
  · exact fin _ rfl rfl
  · exact fin _ rfl rfl
  · exact fin _ rfl rfl
theorem yr_alen {a : Nat} {vs : List Value} (ha1 : a < 1000000) (hC : yCtx G mi p s m args meth c) (hW : yW G C H) (hd : decode (zB mi) pc = .ok (.arraylength, 1)) (ha : C[a]? = some (100, vs))
    (k : W p l e R s m args below meth c H locs cells slots Q (F0 m (pc + 1) lsA (.int (Int32.ofNat vs.length) :: rest))) : W p l e R s m args below meth c H locs cells slots Q (F0 m pc lsA (.ref (zad G a) :: rest)) := by
  rw [show zad G a = zgB G + a from if_pos ha1]
  have he := yws_get (G := G) ha
  rw [yen_i] at he
  exact va_alen (D := (zgC G, zgI G)) hC.1 hC.2.1 hC.2.2.2.2.2.2.2.2.1 hW a 0 he (ztys_get G (i := 0) (by omega)) rfl hd k
theorem yw_call {C' : yC} {mc ms : Nat} {st0 : List Value} {a : Array Value} (hr : va_Run p l e R s m args below meth c H locs cells slots mc ms (F0 m pc lsA st0) rest (yQc G C' a) (zA G)) (hS : va_S (zA G) s.heap H locs)
    (kk : ∀ (H1 : Heap) (locs1 : List Loc), yW G C' H1 → va_S (zA G) s.heap H1 locs1 → W p l e R s m args below meth c H1 locs1 (cells + mc) (slots + ms) Q (F0 m (pc + 3) lsA rest)) : W p l e R s m args below meth c H locs cells slots Q (F0 m pc lsA st0) := by
  intro T hT X
  obtain ⟨v, st₀, t, T', L, h0, X', hL, e1, e2, ⟨hv, hw, hz, hk⟩, st⟩ := hr T hT X
  cases hv
  rw [h0] at hz hk
  obtain ⟨t2, a1, b1⟩ := kk T'.heap (locs ++ L) (by rw [e1]; exact hw)
    ⟨Nat.le_trans hS.1 (by rw [e1]; exact hz), fun q h1 h2 => by rw [e1, hk q (Nat.lt_of_lt_of_le h1 hS.1) h2]; exact hS.2.1 q h1 h2, fun q hq => by
      rcases List.mem_append.mp hq with h | h
      · exact hS.2.2 q h
      · exact hL q h⟩ T' rfl X'
  exact ⟨t2, st t2 a1, b1⟩
theorem yPc_blind (a : List Value) : FrameBlind (yPc G C a) := by
  intro av U g mk h
  obtain ⟨h1, h2, h3, h4⟩ := h
  exact ⟨h1, h2, h3, yKs_same h4 rfl⟩
theorem ypre {a : List Value} (hW : yW G C H) (hH : H.size = zgB G + C.length) (hKs : yKs G s) : ∀ U : State, U.heap = H → s.WarmedH U.vm → yPc G C a (a.map (zrv G)).toArray U := fun U hU hw => ⟨rfl, by rw [hU]; exact hH, by rw [hU]; exact hW, yKs_moved hKs hw⟩
theorem yroom_of {mj : Nat} {C' : yC} (h : zroom mi mj = true) (hR : zFr mi ≤ R.frames ∧ zLo mi ≤ R.locals) : (yRoom mj C C').frames + 1 ≤ R.frames ∧ 8 + (zML mj + 11) + (yRoom mj C C').locals ≤ R.locals := by
  unfold zroom at h
  simp only [Bool.and_eq_true, decide_eq_true_eq] at h
  exact ⟨Nat.le_trans h.1 hR.1, Nat.le_trans h.2 hR.2⟩
theorem yr_callI {ix mj o : Nat} {as st1 : List Value} {nest : Bool} {C' : yC} {x : Nat} (hR : zFr mi ≤ R.frames ∧ zLo mi ≤ R.locals) (hC : yCtx G mi p s m args meth c) (hW : yW G C H) (hS : va_S (zA G) s.heap H locs) (hH : H.size = zgB G + C.length) (hl : lsA.size = zML mi)
    (hd : decode (zB mi) pc = .ok (.invokespecial ix, 3)) (hq : zLk (zMK (zOC mi)) ix = some (2, mj, nest, x)) (hM : yCon G mj (.ref o :: as) C C') (hroom : zroom mi mj = true) (hwt : zwt st1 = true) (hst : zST mj = false) (hnm : (zY mj).name = "<init>") (hmj : mj < 282) (hn : as.length + 1 = zNA mj) (hret : zRet mj = none) (hf : cells + (C'.length - C.length) ≤ R.cells ∧ slots + (ytot C' - ytot C) ≤ R.slots)
    (k : ∀ (H' : Heap) (locs' : List Loc), yW G C' H' → va_S (zA G) s.heap H' locs' → W p l e R s m args below meth c H' locs' (cells + (C'.length - C.length)) (slots + (ytot C' - ytot C)) Q (F0 m (pc + 3) lsA (st1.map (zrv G)))) : W p l e R s m args below meth c H locs cells slots Q (F0 m pc lsA ((as.map (zrv G)).reverse ++ .ref (zad G o) :: st1.map (zrv G))) := by
  obtain ⟨hx, hb, hml, hr, hown, hts, hlk, hnm0, hKs⟩ := hC
  obtain ⟨w1, w2, w3, w4, w5, w6, w7, w8, w9⟩ := zW_of hmj
  obtain ⟨k1, k2, k3⟩ := zMK_in hq
  have hky : zMKy (ix, 2, mj, nest, x) = zY mj := if_pos (show (2 : Nat) ≤ 2 by omega)
  rw [hky] at k2 k3
  have hp : (parseMethodDescriptor (zY mj).desc).map (fun d => d.parameters.length) = some (as.map (zrv G)).length := by
    rw [hst] at w7
    simp only [cond_false] at w7
    rw [List.length_map]
    cases hz : parseMethodDescriptor (zY mj).desc with
    | none => rw [hz] at w7; cases w7
    | some d =>
      rw [hz] at w7
      simp only [Option.map_some, Option.some.injEq] at w7 ⊢
      omega
  have hpre : PreS s H (yPc G C (.ref o :: as)) (.ref (zad G o) :: as.map (zrv G)) := ⟨yPc_blind _, ypre (a := .ref o :: as) hW hH hKs⟩
  have hwd : zwd mj = Cond.code (zY mj) (zB mj) (zML mj) none :: zgood := by unfold zwd; rw [hret]
  refine yw_call (a := (Value.ref (zad G o) :: as.map (zrv G)).toArray) ?_ hS k
  cases nest with
  | false =>
    exact va_runI (Ts := zgood) (own := zCNm (zOC mi)) ⟨hx, hb, hml, hown, hts⟩ (hM l) ⟨callB_of (ret := none) (ws' := zgood) _ hts (zwd_good hmj) hwd rfl rfl (hts _ w4) (hts _ (k2 rfl)) ⟨w8.1, w8.2, hp⟩ (yroom_of hroom hR), hnm, hts _ (w3 hst)⟩ hpre rfl rfl hl rfl (zwt_of hwt) hd hf
  | true =>
    exact va_runIN (Ts := zgood) (own := zCNm (zOC mi)) (host := "SlowOrder") ⟨hx, hb, hml, hown, hts⟩ (hM l) ⟨va_cnB (ret := none) (ws' := zgood) _ hts (zwd_good hmj) hwd rfl rfl (hKs.2.1 _ (k3 rfl)) (hts _ w4) ⟨w8.1, w8.2, hp⟩ (yroom_of hroom hR), hnm, hts _ (w3 hst)⟩ hpre rfl rfl hl rfl (zwt_of hwt) hd hf
theorem yr_callS {ix mj : Nat} {as st1 : List Value} {nest : Bool} {C' : yC} {x : Nat} (hR : zFr mi ≤ R.frames ∧ zLo mi ≤ R.locals) (hC : yCtx G mi p s m args meth c) (hW : yW G C H) (hS : va_S (zA G) s.heap H locs) (hH : H.size = zgB G + C.length) (hl : lsA.size = zML mi)
    (hd : decode (zB mi) pc = .ok (.invokestatic ix, 3)) (hq : zLk (zMK (zOC mi)) ix = some (1, mj, nest, x)) (hM : yCon G mj as C C') (hroom : zroom mi mj = true) (hwt : zwt st1 = true) (hst : zST mj = true) (hmj : mj < 282) (hn : as.length = zNA mj) (hf : cells + (C'.length - C.length) ≤ R.cells ∧ slots + (ytot C' - ytot C) ≤ R.slots)
    (k : ∀ (H' : Heap) (locs' : List Loc), yW G C' H' → va_S (zA G) s.heap H' locs' → W p l e R s m args below meth c H' locs' (cells + (C'.length - C.length)) (slots + (ytot C' - ytot C)) Q (F0 m (pc + 3) lsA (st1.map (zrv G)))) : W p l e R s m args below meth c H locs cells slots Q (F0 m pc lsA ((as.map (zrv G)).reverse ++ st1.map (zrv G))) := by
  obtain ⟨hx, hb, hml, hr, hown, hts, hlk, hnm0, hKs⟩ := hC
  obtain ⟨w1, w2, w3, w4, w5, w6, w7, w8, w9⟩ := zW_of hmj
  obtain ⟨k1, k2, k3⟩ := zMK_in hq
  have hky : zMKy (ix, 1, mj, nest, x) = zY mj := if_pos (show (1 : Nat) ≤ 2 by omega)
  rw [hky] at k2 k3
  have hp : (parseMethodDescriptor (zY mj).desc).map (fun d => d.parameters.length) = some (as.map (zrv G)).length := by
    rw [hst] at w7
    simp only [cond_true] at w7
    rw [List.length_map, hn]
    exact w7
  have hpre : PreS s H (yPc G C as) (as.map (zrv G)) := ⟨yPc_blind _, ypre (a := as) hW hH hKs⟩
  refine yw_call (a := (as.map (zrv G)).toArray) ?_ hS k
  cases nest with
  | false =>
    exact va_runS (Ts := zgood) (own := zCNm (zOC mi)) ⟨hx, hb, hml, hown, hts⟩ (hM l) ⟨callB_of (ws' := zgood) _ hts (zwd_good hmj) rfl rfl rfl (hts _ w4) (hts _ (k2 rfl)) ⟨w8.1, w8.2, hp⟩ (yroom_of hroom hR), hts _ (w2 hst)⟩ hpre rfl rfl hl rfl (zwt_of hwt) hd hf
  | true =>
    exact va_runSN (Ts := zgood) (own := zCNm (zOC mi)) (host := "SlowOrder") ⟨hx, hb, hml, hown, hts⟩ (hM l) ⟨va_cnB (ws' := zgood) _ hts (zwd_good hmj) rfl rfl rfl (hKs.2.1 _ (k3 rfl)) (hts _ w4) ⟨w8.1, w8.2, hp⟩ (yroom_of hroom hR), hts _ (w2 hst), trivial⟩ hpre rfl rfl hl rfl (zwt_of hwt) hd hf
end YR3
