/-! THE CONSTRUCTORS' MACHINE IS SOUND -/
def yover : List Cond := [.arrayOver (.object "SlowOrder$Order"), .arrayOver (.object "SlowOrder$Realm"), .arrayOver (.object "SlowOrder$Trip"), .arrayOver (.array .int), .arrayOver (.array .long)]
def yKs (G : zG) (s : State) : Prop := va_K (zgC G, zgI G) zCl (ztys G) s ∧ (∀ w ∈ znest, va_Nw w s) ∧ ∀ w ∈ yover, w.before #[] s = true
theorem yover_moved {u U : State} (h : u.vm.Alike U.vm) : (∀ w ∈ yover, w.before #[] u = true) → ∀ w ∈ yover, w.before #[] U = true := by
  intro hu w hw
  have h1 := hu w hw
  simp only [yover, List.mem_cons, List.not_mem_nil, or_false] at hw
  rcases hw with rfl | rfl | rfl | rfl | rfl
  · exact (va_AO.moved h (va_AO.of h1)).use
  · exact (va_AO.moved h (va_AO.of h1)).use
  · exact (va_AO.moved h (va_AO.of h1)).use
  · exact over_moved h h1
  · exact over_moved h h1
theorem yKs_moved {G : zG} {s U : State} (h : yKs G s) (hW : s.WarmedH U.vm) : yKs G U := by
  refine ⟨h.1.moved hW.alike, fun w hw => ?_, yover_moved hW.alike h.2.2⟩
  have hk := (List.mem_filter.mp hw).2
  have hn := h.2.1 w hw
  cases w with
  | fieldLinkNest => exact hn.warmF hW
  | methodLinkNest => exact hn.warmM hW
  | _ => cases hk
theorem yKs_same {G : zG} {s U : State} (h : yKs G s) (hv : U.vm = s.vm) : yKs G U := by
  have ha : s.vm.Alike U.vm := by rw [hv]; exact Vm.Alike.refl _
  refine ⟨h.1.moved ha, fun w hw => ?_, yover_moved ha h.2.2⟩
  have hk := (List.mem_filter.mp hw).2
  refine va_Nw.same ?_ hv.symm (h.2.1 w hw)
  cases w with
  | fieldLinkNest => rfl
  | methodLinkNest => rfl
  | _ => cases hk
def yCtx (G : zG) (mi : Nat) (p : Program) (s : State) (m : MethodId) (args : Array Value) (meth : Method) (c : Code) : Prop :=
  p.tables.exec = Jvm.exec ∧ c.code = zB mi ∧ c.maxLocals = zML mi ∧ meth.sig.returnType = zRet mi ∧ s.vm.findClass (zCNm (zOC mi)) = some m.cls ∧ (∀ w ∈ zgood, w.before args s = true) ∧ meth.locks = false ∧ meth.name = (zY mi).name ∧ yKs G s
def yRoom (mi : Nat) (C C' : yC) : Room := { frames := zFr mi, cells := C'.length - C.length, slots := ytot C' - ytot C, locals := zLo mi }
def yPc (G : zG) (C : yC) (a : List Value) : Array Value → State → Prop := va_Pc (a.map (zrv G)) (fun U => U.heap.size = zgB G + C.length ∧ yW G C U.heap ∧ yKs G U)
def yQc (G : zG) (C : yC) : Array Value → State → Outcome → State → Prop := fun _ st o t => o = .returned none ∧ yW G C t.heap ∧ va_F (zA G) st t
def yCon (G : zG) (mj : Nat) (a : List Value) (C C' : yC) : Prop := ∀ l, Met l (zY mj) (zwd mj) (yRoom mj C C') (yPc G C a) (yQc G C') (C'.length - C.length) (ytot C' - ytot C) (zA G)
/-- room, and where the method began -/
def yR (G : zG) (mi : Nat) (C0 CF : yC) (R : Room) (s : State) : Prop := zFr mi ≤ R.frames ∧ zLo mi ≤ R.locals ∧ CF.length - C0.length ≤ R.cells ∧ ytot CF - ytot C0 ≤ R.slots ∧ s.heap.size = zgB G + C0.length
def ySN (G : zG) (mi pc : Nat) (ls : zLs) (st : List Value) (C : yC) (brs : List (Bool × Nat)) (d : Nat) (ls' : zLs) (st' : List Value) (C' : yC) : Prop :=
  yle C C' ∧ ∀ (C0 CF : yC) (p : Program) (l : Launch) (e : Env) (R : Room) (s : State) (m : MethodId) (args : Array Value) (below : List Frame) (meth : Method) (c : Code) (H : Heap) (locs : List Loc) (lsA : Array Slot) (Q : State → Prop), yle C0 C → yle C' CF → yR G mi C0 CF R s →
    yCtx G mi p s m args meth c → yW G C H → va_S (zA G) s.heap H locs → zhas G lsA (zML mi) ls →
    (∀ (H' : Heap) (locs' : List Loc) (lsA' : Array Slot), yW G C' H' → va_S (zA G) s.heap H' locs' → zhas G lsA' (zML mi) ls' → W p l e R s m args below meth c H' locs' (C'.length - C0.length) (ytot C' - ytot C0) Q (F0 m (zsel brs d) lsA' (st'.map (zrv G)))) →
    W p l e R s m args below meth c H locs (C.length - C0.length) (ytot C - ytot C0) Q (F0 m pc lsA (st.map (zrv G)))
def ySC (G : zG) (mi pc : Nat) (ls : zLs) (st : List Value) (C : yC) (mj : Nat) (a : List Value) (pc' : Nat) (ls' : zLs) (rest : List Value) (C1 : yC) : Prop :=
  (C1 = C ∧ ls' = ls ∧ mj < 282) ∧ ∀ (C' : yC), yle C C' → yCon G mj a C C' → ∀ (C0 CF : yC) (p : Program) (l : Launch) (e : Env) (R : Room) (s : State) (m : MethodId) (args : Array Value) (below : List Frame) (meth : Method) (c : Code) (H : Heap) (locs : List Loc) (lsA : Array Slot) (Q : State → Prop), yle C0 C → yle C' CF → yR G mi C0 CF R s →
    yCtx G mi p s m args meth c → yW G C H → va_S (zA G) s.heap H locs → zhas G lsA (zML mi) ls →
    (∀ (H' : Heap) (locs' : List Loc), yW G C' H' → va_S (zA G) s.heap H' locs' → W p l e R s m args below meth c H' locs' (C'.length - C0.length) (ytot C' - ytot C0) Q (F0 m pc' lsA (rest.map (zrv G)))) →
    W p l e R s m args below meth c H locs (C.length - C0.length) (ytot C - ytot C0) Q (F0 m pc lsA (st.map (zrv G)))
def ySR (G : zG) (mi pc : Nat) (st : List Value) (C C' : yC) : Prop :=
  C' = C ∧ ∀ (p : Program) (l : Launch) (e : Env) (R : Room) (s : State) (m : MethodId) (args : Array Value) (below : List Frame) (meth : Method) (c : Code) (H : Heap) (locs : List Loc) (cells slots : Nat) (lsA : Array Slot),
    yCtx G mi p s m args meth c → yW G C H → va_S (zA G) s.heap H locs →
    W p l e R s m args below meth c H locs cells slots (MQ below (yQc G C) args s cells slots (zA G)) (F0 m pc lsA (st.map (zrv G)))
def ySO (G : zG) (mi pc : Nat) (ls : zLs) (st : List Value) (C : yC) (o : yO) : Prop := match o with
  | .inl q => ySN G mi pc ls st C q.1 q.2.1 q.2.2.1 q.2.2.2.1 q.2.2.2.2
  | .inr (.inl q) => ySC G mi pc ls st C q.1 q.2.1 q.2.2.1 q.2.2.2.1 q.2.2.2.2.1 q.2.2.2.2.2
  | .inr (.inr C') => ySR G mi pc st C C'
theorem W_size {p : Program} {l : Launch} {e : Env} {R : Room} {s : State} {m : MethodId} {args : Array Value} {below : List Frame} {meth : Method} {c : Code} {H : Heap} {locs : List Loc} {cells slots : Nat} {Q : State → Prop} {g : JFrame} (k : H.size ≤ s.heap.size + cells → W p l e R s m args below meth c H locs cells slots Q g) : W p l e R s m args below meth c H locs cells slots Q g :=
  fun T hT X => k (by rw [← hT]; exact X.heapSize) T hT X
/-- the heap is just as large as the world -/
theorem yW_size {G : zG} {C C0 : yC} {s : State} {H : Heap} {locs : List Loc} (hle : yle C0 C) (hs : s.heap.size = zgB G + C0.length) (hW : yW G C H) (hS : va_S (zA G) s.heap H locs) (h : H.size ≤ s.heap.size + (C.length - C0.length)) : H.size = zgB G + C.length := by
  have h1 := hle.1
  have h2 := hS.1
  rcases Nat.lt_or_ge C0.length C.length with q | q
  · have hk : C[C.length - 1]? = some C[C.length - 1] := List.getElem?_eq_getElem (by omega)
    have := (hW _ _ (yws_get hk)).lt
    simp only at this
    omega
  · omega
theorem yS_pure {G : zG} {mi pc pc' : Nat} {ls : zLs} {st st' : List Value} {C : yC} {o : yO}
    (hrow : ∀ {p : Program} {l : Launch} {e : Env} {R : Room} {s : State} {m : MethodId} {args : Array Value} {below : List Frame} {meth : Method} {c : Code} {H : Heap} {locs : List Loc} {cells slots : Nat} {lsA : Array Slot} {Q : State → Prop},
      (zFr mi ≤ R.frames ∧ zLo mi ≤ R.locals) → yCtx G mi p s m args meth c → yW G C H → zhas G lsA (zML mi) ls →
      W p l e R s m args below meth c H locs cells slots Q (F0 m pc' lsA (st'.map (zrv G))) → W p l e R s m args below meth c H locs cells slots Q (F0 m pc lsA (st.map (zrv G))))
    (h : ynx pc' ls st' C = some o) : ySO G mi pc ls st C o := by
  cases h
  exact ⟨yle_refl _, fun C0 CF p l e R s m args below meth c H locs lsA Q h0 hF hR hC hW hS hl kk => hrow ⟨hR.1, hR.2.1⟩ hC hW hl (kk H locs lsA hW hS hl)⟩
theorem yS_local {G : zG} {mi pc pc' : Nat} {ls ls' : zLs} {st st' : List Value} {C : yC} {o : yO}
    (hrow : ∀ {p : Program} {l : Launch} {e : Env} {R : Room} {s : State} {m : MethodId} {args : Array Value} {below : List Frame} {meth : Method} {c : Code} {H : Heap} {locs : List Loc} {cells slots : Nat} {lsA : Array Slot} {Q : State → Prop},
      yCtx G mi p s m args meth c → zhas G lsA (zML mi) ls → (∀ (lsB : Array Slot), zhas G lsB (zML mi) ls' → W p l e R s m args below meth c H locs cells slots Q (F0 m pc' lsB (st'.map (zrv G)))) → W p l e R s m args below meth c H locs cells slots Q (F0 m pc lsA (st.map (zrv G))))
    (h : ynx pc' ls' st' C = some o) : ySO G mi pc ls st C o := by
  cases h
  exact ⟨yle_refl _, fun C0 CF p l e R s m args below meth c H locs lsA Q h0 hF hR hC hW hS hl kk => hrow hC hl (fun lsB hB => kk H locs lsB hW hS hB)⟩
/-- a store: the cell at a is another, as long as it was -/
theorem yS_write {G : zG} {mi pc pc' a : Nat} {q r : Nat × List Value} {ls : zLs} {st st' : List Value} {C : yC} {o : yO} (ha : C[a]? = some q) (hr : r.2.length = q.2.length)
    (hrow : ∀ {p : Program} {l : Launch} {e : Env} {R : Room} {s : State} {m : MethodId} {args : Array Value} {below : List Frame} {meth : Method} {c : Code} {H : Heap} {locs : List Loc} {cells slots : Nat} {lsA : Array Slot} {Q : State → Prop},
      yCtx G mi p s m args meth c → yW G C H → va_S (zA G) s.heap H locs → 
      (∀ (H' : Heap) (locs' : List Loc), va_P (zgC G, zgI G) zCl ((yws G C).set a (zgB G + a, yen G r)) H' → va_S (zA G) s.heap H' locs' → W p l e R s m args below meth c H' locs' cells slots Q (F0 m pc' lsA (st'.map (zrv G)))) → W p l e R s m args below meth c H locs cells slots Q (F0 m pc lsA (st.map (zrv G))))
    (h : ynx pc' ls st' (C.set a r) = some o) : ySO G mi pc ls st C o := by
  cases h
  have e1 : (C.set a r).length = C.length := List.length_set
  have e2 : ytot (C.set a r) = ytot C := ytot_set ha hr
  refine ⟨⟨by rw [e1]; exact Nat.le_refl _, by rw [e2]; exact Nat.le_refl _⟩, fun C0 CF p l e R s m args below meth c H locs lsA Q h0 hF hR hC hW hS hl kk => hrow hC hW hS (fun H' locs' hW' hS' => ?_)⟩
  have := kk H' locs' lsA (by show va_P _ _ (yws G (C.set a r)) H'; rw [← yws_set]; exact hW') hS' hl
  rw [e1, e2] at this
  exact this
/-- what is made stands behind all else -/
theorem yS_make {G : zG} {mi pc pc' : Nat} {ls : zLs} {st st' : List Value} {C E : yC} {o : yO}
    (hrow : ∀ {C0 CF : yC} {p : Program} {l : Launch} {e : Env} {R : Room} {s : State} {m : MethodId} {args : Array Value} {below : List Frame} {meth : Method} {c : Code} {H : Heap} {locs : List Loc} {cells slots : Nat} {lsA : Array Slot} {Q : State → Prop},
      yCtx G mi p s m args meth c → yW G C H → va_S (zA G) s.heap H locs → H.size = zgB G + C.length → s.heap.size + cells = zgB G + C.length → zgB G ≤ s.heap.size → cells + E.length ≤ R.cells → slots + ytot E ≤ R.slots →
      (∀ (H' : Heap), va_P (zgC G, zgI G) zCl (yws G C ++ (List.range E.length).map (fun j => (zgB G + (C.length + j), yen G (E.getD j (0, []))))) H' → va_S (zA G) s.heap H' locs → W p l e R s m args below meth c H' locs (cells + E.length) (slots + ytot E) Q (F0 m pc' lsA (st'.map (zrv G)))) → W p l e R s m args below meth c H locs cells slots Q (F0 m pc lsA (st.map (zrv G))))
    (h : ynx pc' ls st' (C ++ E) = some o) : ySO G mi pc ls st C o := by
  cases h
  have e1 : (C ++ E).length = C.length + E.length := List.length_append
  have e2 := ytot_app C E
  refine ⟨⟨by rw [e1]; omega, by rw [e2]; omega⟩, fun C0 CF p l e R s m args below meth c H locs lsA Q h0 hF hR hC hW hS hl kk => W_size fun hz => ?_⟩
  have hz := yW_size h0 hR.2.2.2.2 hW hS hz
  have f1 := hF.1
  have f2 := hF.2
  have g1 := h0.1
  have g2 := h0.2
  have r1 := hR.2.2.1
  have r2 := hR.2.2.2.1
  rw [e1] at f1
  rw [e2] at f2
  have r3 := hR.2.2.2.2
  refine hrow (C0 := C0) (CF := CF) hC hW hS hz (by omega) (by omega) (by omega) (by omega) (fun H' hW' hS' => ?_)
  have := kk H' locs lsA (by show va_P _ _ (yws G (C ++ E)) H'; rw [yws_app]; exact hW') hS' hl
  rw [e1, e2, show C.length + E.length - C0.length = C.length - C0.length + E.length by omega, show ytot C + ytot E - ytot C0 = ytot C - ytot C0 + ytot E by omega] at this
  exact this
