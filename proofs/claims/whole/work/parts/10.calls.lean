/-! CALLS -/
section ZCL
variable {p : Program} {l : Launch} {e : Env} {R : Room} {s : State} {m : MethodId} {args : Array Value} {below : List Frame} {meth : Method} {c : Code} {H : Heap} {locs : List Loc} {cells slots : Nat} {Q : State → Prop}
variable {G : zG} {mi pc : Nat} {σ : zM} {lsA : Array Slot} {rest : List Value}
theorem zw_call {r : Option Value} {σ' : zM} {st0 : List Value} {a : Array Value} (hr : va_Run p l e R s m args below meth c H locs cells slots 0 0 (F0 m pc lsA st0) rest (zQc G r σ' a) (zA G)) (hS : va_S (zA G) s.heap H locs)
    (kk : ∀ (H1 : Heap) (locs1 : List Loc), zW G σ' H1 → va_S (zA G) s.heap H1 locs1 → W p l e R s m args below meth c H1 locs1 cells slots Q (F0 m (pc + 3) lsA ((r.map (zrv G)).toList ++ rest))) : W p l e R s m args below meth c H locs cells slots Q (F0 m pc lsA st0) := by
  intro T hT X
  obtain ⟨v, st₀, t, T', L, h0, X', hL, e1, e2, ⟨hv, hw, hz, hk⟩, st⟩ := hr T hT X
  cases hv
  rw [h0] at hz hk
  obtain ⟨t2, a1, b1⟩ := kk T'.heap (locs ++ L) (by rw [e1]; exact hw)
    ⟨Nat.le_trans hS.1 (by rw [e1]; exact hz), fun q h1 h2 => by rw [e1, hk q (Nat.lt_of_lt_of_le h1 hS.1) h2]; exact hS.2.1 q h1 h2, fun q hq => by
      rcases List.mem_append.mp hq with h | h
      · exact hS.2.2 q h
      · exact hL q h⟩ T' rfl X'
  exact ⟨t2, st t2 a1, b1⟩
theorem zPc_blind (σ : zM) (a : List Value) : FrameBlind (zPc G σ a) := by
  intro av U g mk h
  obtain ⟨h1, h2, h3⟩ := h
  exact ⟨h1, h2, zKs_same h3 rfl rfl⟩
theorem zpre {σ : zM} {a : List Value} (hW : zW G σ H) (hS : va_S (zA G) s.heap H locs) (hKs : zKs G σ.2.2 s) : ∀ U : State, U.heap = H → s.WarmedH U.vm → zPc G σ a (a.map (zrv G)).toArray U := fun U hU hw => ⟨rfl, by rw [hU]; exact hW, zKs_moved hKs hS hU hw⟩
theorem zroom_of {mi mj : Nat} (h : zroom mi mj = true) (hR : zFr mi ≤ R.frames ∧ zLo mi ≤ R.locals ∧ cells ≤ R.cells ∧ slots ≤ R.slots) : (zRoom mj).frames + 1 ≤ R.frames ∧ 8 + (zML mj + 11) + (zRoom mj).locals ≤ R.locals := by
  unfold zroom at h
  simp only [Bool.and_eq_true, decide_eq_true_eq] at h
  exact ⟨Nat.le_trans h.1 hR.1, Nat.le_trans h.2 hR.2.1⟩
theorem zwt_of {st : List Value} (h : zwt st = true) : 2 * (F0 m pc lsA rest).monitorRoom + ((st.map (zrv G)).map fun v => v.category).sum ≤ 8 := by
  unfold zwt at h
  simp only [decide_eq_true_eq] at h
  refine lv_room ?_
  rw [List.map_map]
  have e : ((fun v : Value => v.category) ∘ zrv G) = fun v => v.category := funext fun v => zrv_cat G v
  rw [e]
  exact h
theorem zwd_good {mj : Nat} (h : mj < 282) : GoodIn zgood (zwd mj) := fun w hw => by
  rcases List.mem_cons.mp hw with q | q
  · rw [q]; exact zgood_good _ (zW_of h).1
  · exact zgood_good _ q
theorem zr_callV {ix mj o : Nat} {as st1 : List Value} {nest : Bool} {r : Option Value} {σ' : zM} {x : Nat} (hR : zFr mi ≤ R.frames ∧ zLo mi ≤ R.locals ∧ cells ≤ R.cells ∧ slots ≤ R.slots) (hC : zCtx G mi σ.2.2 p s m args meth c) (hW : zW G σ H) (hS : va_S (zA G) s.heap H locs) (hl : lsA.size = zML mi)
    (hd : decode (zB mi) pc = .ok (.invokevirtual ix, 3)) (hq : zLk (zMK (zOC mi)) ix = some (0, mj, nest, x)) (hM : zCon G mj (.ref o :: as) σ r σ') (ho : zobj o (zOC mj) = true) (hroom : zroom mi mj = true) (hwt : zwt st1 = true) (hst : zST mj = false) (hnm : (zY mj).name ≠ "<init>") (hmj : mj < 282) (hn : as.length + 1 = zNA mj)
    (k : ∀ (H' : Heap) (locs' : List Loc), zW G σ' H' → va_S (zA G) s.heap H' locs' → W p l e R s m args below meth c H' locs' cells slots Q (F0 m (pc + 3) lsA ((r.map (zrv G)).toList ++ st1.map (zrv G)))) : W p l e R s m args below meth c H locs cells slots Q (F0 m pc lsA ((as.map (zrv G)).reverse ++ .ref (zad G o) :: st1.map (zrv G))) := by
  obtain ⟨hx, hb, hml, hr, hown, hts, hlk, hKs⟩ := hC
  obtain ⟨w1, w2, w3, w4, w5, w6, w7, w8, w9⟩ := zW_of hmj
  obtain ⟨k1, k2, k3⟩ := zMK_in hq
  have hky : zMKy (ix, 0, mj, nest, x) = zY mj := if_pos (show (0 : Nat) ≤ 2 by omega)
  rw [hky] at k2 k3
  have hp : (parseMethodDescriptor (zY mj).desc).map (fun d => d.parameters.length) = some (as.map (zrv G)).length := by
    rw [hst] at w7
    simp only [cond_false] at w7
    rw [List.length_map]
    cases hz : parseMethodDescriptor (zY mj).desc with
    | none => rw [hz] at w7; cases w7
    | some d =>
      rw [hz] at w7
      simp only [Option.map_some, Option.some.injEq] at w7 ⊢
      omega
  obtain ⟨n, hsh, ht⟩ := zobj_sh ho
  obtain ⟨C', T', hc'⟩ := zsh_cl hsh ht
  have he := zws_get (G := G) (σ := σ) hsh
  simp only [zen, ht, if_true] at he
  have hrecv := va_recv hKs.1 hW hc' he
  rw [← zad_sh hsh] at hrecv
  have hC1 : C' = (zY mj).cls := (zCl_name hc').trans w6
  have hrecv : ∃ cell : Cell, H[zad G o]? = some cell ∧ cell.vm.isStatics = false ∧ s.vm.findClass (zY mj).cls = some cell.cls := by rw [← hC1]; exact hrecv
  have hpre : PreV s H (zY mj).cls (zad G o) (zPc G σ (.ref o :: as)) (as.map (zrv G)) := ⟨zPc_blind σ _, hrecv, zpre (a := .ref o :: as) hW hS hKs⟩
  refine zw_call (a := (Value.ref (zad G o) :: as.map (zrv G)).toArray) ?_ hS k
  cases nest with
  | false =>
    exact va_runV (Ts := zgood) (own := zCNm (zOC mi)) ⟨hx, hb, hml, hown, hts⟩ (hM l) ⟨callB_of (ws' := zgood) _ hts (zwd_good hmj) rfl rfl rfl (hts _ w4) (hts _ (k2 rfl)) ⟨w8.1, w8.2, hp⟩ (zroom_of hroom hR), hts _ (w3 hst), hts _ (w5 hst hnm)⟩ hpre rfl rfl hl rfl (zwt_of hwt) hd ⟨hR.2.2.1, hR.2.2.2⟩
  | true =>
    exact va_runVN (Ts := zgood) (own := zCNm (zOC mi)) (host := "SlowOrder") ⟨hx, hb, hml, hown, hts⟩ (hM l) ⟨va_cnB (ws' := zgood) _ hts (zwd_good hmj) rfl rfl rfl (hKs.2.2.2.2.2.1 _ (k3 rfl)) (hts _ w4) ⟨w8.1, w8.2, hp⟩ (zroom_of hroom hR), hts _ (w3 hst), hts _ (w5 hst hnm)⟩ hpre rfl rfl hl rfl (zwt_of hwt) hd ⟨hR.2.2.1, hR.2.2.2⟩
theorem zr_callS {ix mj : Nat} {as st1 : List Value} {nest : Bool} {r : Option Value} {σ' : zM} {x : Nat} (hR : zFr mi ≤ R.frames ∧ zLo mi ≤ R.locals ∧ cells ≤ R.cells ∧ slots ≤ R.slots) (hC : zCtx G mi σ.2.2 p s m args meth c) (hW : zW G σ H) (hS : va_S (zA G) s.heap H locs) (hl : lsA.size = zML mi)
    (hd : decode (zB mi) pc = .ok (.invokestatic ix, 3)) (hq : zLk (zMK (zOC mi)) ix = some (1, mj, nest, x)) (hM : zCon G mj as σ r σ') (hroom : zroom mi mj = true) (hwt : zwt st1 = true) (hst : zST mj = true) (hmj : mj < 282) (hn : as.length = zNA mj)
    (k : ∀ (H' : Heap) (locs' : List Loc), zW G σ' H' → va_S (zA G) s.heap H' locs' → W p l e R s m args below meth c H' locs' cells slots Q (F0 m (pc + 3) lsA ((r.map (zrv G)).toList ++ st1.map (zrv G)))) : W p l e R s m args below meth c H locs cells slots Q (F0 m pc lsA ((as.map (zrv G)).reverse ++ st1.map (zrv G))) := by
  obtain ⟨hx, hb, hml, hr, hown, hts, hlk, hKs⟩ := hC
  obtain ⟨w1, w2, w3, w4, w5, w6, w7, w8, w9⟩ := zW_of hmj
  obtain ⟨k1, k2, k3⟩ := zMK_in hq
  have hky : zMKy (ix, 1, mj, nest, x) = zY mj := if_pos (show (1 : Nat) ≤ 2 by omega)
  rw [hky] at k2 k3
  have hp : (parseMethodDescriptor (zY mj).desc).map (fun d => d.parameters.length) = some (as.map (zrv G)).length := by
    rw [hst] at w7
    simp only [cond_true] at w7
    rw [List.length_map, hn]
    exact w7
  have hpre : PreS s H (zPc G σ as) (as.map (zrv G)) := ⟨zPc_blind σ _, zpre (a := as) hW hS hKs⟩
  refine zw_call (a := (as.map (zrv G)).toArray) ?_ hS k
  cases nest with
  | false =>
    exact va_runS (Ts := zgood) (own := zCNm (zOC mi)) ⟨hx, hb, hml, hown, hts⟩ (hM l) ⟨callB_of (ws' := zgood) _ hts (zwd_good hmj) rfl rfl rfl (hts _ w4) (hts _ (k2 rfl)) ⟨w8.1, w8.2, hp⟩ (zroom_of hroom hR), hts _ (w2 hst)⟩ hpre rfl rfl hl rfl (zwt_of hwt) hd ⟨hR.2.2.1, hR.2.2.2⟩
  | true =>
    exact va_runSN (Ts := zgood) (own := zCNm (zOC mi)) (host := "SlowOrder") ⟨hx, hb, hml, hown, hts⟩ (hM l) ⟨va_cnB (ws' := zgood) _ hts (zwd_good hmj) rfl rfl rfl (hKs.2.2.2.2.2.1 _ (k3 rfl)) (hts _ w4) ⟨w8.1, w8.2, hp⟩ (zroom_of hroom hR), hts _ (w2 hst), trivial⟩ hpre rfl rfl hl rfl (zwt_of hwt) hd ⟨hR.2.2.1, hR.2.2.2⟩
end ZCL
