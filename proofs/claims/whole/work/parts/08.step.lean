/-! EVERY INSTRUCTION OF THE ABSTRACT MACHINE IS ONE OF THE REAL ONE -/
theorem zgood_in {w : Cond} (h : w ∈ lw_tbl) (hg : goodWord w = true) : w ∈ zgood := List.mem_filter.mpr ⟨h, hg⟩
theorem znest_in {w : Cond} (h : w ∈ lw_tbl) (hg : zisN w = true) : w ∈ znest := List.mem_filter.mpr ⟨h, hg⟩
theorem zgood_good : GoodIn zgood zgood := fun w h => ⟨h, good_of_word (List.mem_filter.mp h).2⟩
def zRoom (mi : Nat) : Room := { frames := zFr mi, cells := 0, slots := 0, locals := zLo mi }
def zslen : List Nat := zstr.map (fun l => l.length)
def zVS (G : zG) (adV : Nat → Nat) (A : Nat → Prop) (U : State) (H : Heap) : Prop := ∀ i : Nat, i < zstr.length → va_O "java/lang/String" (zgK G i) A U H ∧ va_OF "java/lang/String" "coder" "B" (.int 0) (zgK G i) A U H ∧ va_OF "java/lang/String" "value" "[B" (.ref (adV i)) (zgK G i) A U H ∧ va_T .byte (adV i) (zslen.getD i 0) (fun j => .int ((zstr.getD i []).getD j 0)) A U H
theorem zVS.moved {G : zG} {adV : Nat → Nat} {A : Nat → Prop} {u U : State} {H : Heap} (hvm : u.vm.Alike U.vm) (h : zVS G adV A u H) : zVS G adV A U H := fun i hi => ⟨va_O.moved hvm (h i hi).1, va_OF.moved hvm (h i hi).2.1, va_OF.moved hvm (h i hi).2.2.1, va_T.moved hvm (h i hi).2.2.2⟩
theorem zVS.kept {G : zG} {adV : Nat → Nat} {A : Nat → Prop} {U : State} {H H1 : Heap} (h : zVS G adV A U H) (hq : ∀ a : Nat, a < H.size → ¬ A a → H1[a]? = H[a]?) : zVS G adV A U H1 := fun i hi => ⟨(h i hi).1.kept hq, (h i hi).2.1.kept hq, (h i hi).2.2.1.kept hq, (h i hi).2.2.2.kept hq⟩
theorem zVS_recv {G : zG} {adV : Nat → Nat} {A : Nat → Prop} {s : State} {H : Heap} {locs : List Loc} {i : Nat} (hE : zVS G adV A s s.heap) (hi : i < zstr.length) (hS : va_S A s.heap H locs) : ∃ cell : Cell, H[zgK G i]? = some cell ∧ cell.vm.isStatics = false ∧ s.vm.findClass "java/lang/String" = some cell.cls := by
  obtain ⟨cell, h1, h2, h3, -⟩ := (hE i hi).1.kept hS.2.1
  exact ⟨cell, h1, h2, h3⟩
def zSt (G : zG) (s : State) : Prop := (∃ adV : Nat → Nat, zVS G adV (zA G) s s.heap) ∧ va_Z "java/lang/String" "COMPACT_STRINGS" "Z" (.int 1) (zA G) s s.heap ∧ va_Zq "jdk/internal/util/Preconditions" "SIOOBE_FORMATTER" "Ljava/util/function/BiFunction;" (zA G) s s.heap
def zKs (G : zG) (τ : Nat × (Nat → Int32)) (s : State) : Prop :=
  va_K (zgC G, zgI G) zCl (ztys G) s ∧ va_X (zgS G) τ.1 τ.2 s s.heap ∧ zgS G < s.heap.size ∧ zgS G < zgB G ∧ zgB G ≤ s.heap.size ∧ (∀ w ∈ znest, va_Nw w s) ∧
  (∀ (oc ix : Nat) (e : Nat × Nat), zLk (zKS oc) ix = some e → vk_R (zCNm oc) ix (zSTR.getD e.1 "") (zgK G e.1) s) ∧ zSt G s
theorem zKs_moved {G : zG} {τ : Nat × (Nat → Int32)} {s U : State} {H : Heap} {locs : List Loc} (h : zKs G τ s) (hS : va_S (zA G) s.heap H locs) (hU : U.heap = H) (hW : s.WarmedH U.vm) : zKs G τ U := by
  obtain ⟨hK, hX, h1, h2, h3, hN, hR, ⟨adV, hV⟩, hZ, hq⟩ := h
  have hnA : ¬ zA G (zgS G) := Nat.not_le.mpr h2
  refine ⟨hK.moved hW.alike, ?_, ?_, h2, ?_, ?_, fun oc ix e he => (hR oc ix e he).warm hW, ⟨adV, ?_⟩, ?_, ?_⟩
  · rw [hU]
    exact (hX.kept (hS.2.1 _ h1 hnA)).moved hW.alike
  · rw [hU]; exact Nat.lt_of_lt_of_le h1 hS.1
  · rw [hU]; exact Nat.le_trans h3 hS.1
  · intro w hw
    have hk := (List.mem_filter.mp hw).2
    have hn := hN w hw
    cases w with
    | fieldLinkNest => exact hn.warmF hW
    | methodLinkNest => exact hn.warmM hW
    | _ => cases hk
  · rw [hU]; exact (hV.kept hS.2.1).moved hW.alike
  · rw [hU]; exact (hZ.kept hS.2.1).moved hW.alike
  · rw [hU]; exact (hq.kept hS.2.1).moved hW.alike
theorem zKs_same {G : zG} {τ : Nat × (Nat → Int32)} {s U : State} (h : zKs G τ s) (hv : U.vm = s.vm) (hh : U.heap = s.heap) : zKs G τ U := by
  obtain ⟨hK, hX, h1, h2, h3, hN, hR, ⟨adV, hV⟩, hZ, hq⟩ := h
  have ha : s.vm.Alike U.vm := by rw [hv]; exact Vm.Alike.refl _
  refine ⟨hK.moved ha, by rw [hh]; exact hX.moved ha, by rw [hh]; exact h1, h2, by rw [hh]; exact h3, fun w hw => ?_, fun oc ix e he => (hR oc ix e he).same hv, ⟨adV, by rw [hh]; exact hV.moved ha⟩, by rw [hh]; exact hZ.moved ha, by rw [hh]; exact hq.moved ha⟩
  have hk := (List.mem_filter.mp hw).2
  refine va_Nw.same ?_ hv.symm (hN w hw)
  cases w with
  | fieldLinkNest => rfl
  | methodLinkNest => rfl
  | _ => cases hk
def zCtx (G : zG) (mi : Nat) (τ : Nat × (Nat → Int32)) (p : Program) (s : State) (m : MethodId) (args : Array Value) (meth : Method) (c : Code) : Prop :=
  p.tables.exec = Jvm.exec ∧ c.code = zB mi ∧ c.maxLocals = zML mi ∧ meth.sig.returnType = zRet mi ∧ s.vm.findClass (zCNm (zOC mi)) = some m.cls ∧ (∀ w ∈ zgood, w.before args s = true) ∧ meth.locks = false ∧ zKs G τ s
def zPc (G : zG) (σ : zM) (a : List Value) : Array Value → State → Prop := va_Pc (a.map (zrv G)) (fun U => zW G σ U.heap ∧ zKs G σ.2.2 U)
def zQc (G : zG) (r : Option Value) (σ : zM) : Array Value → State → Outcome → State → Prop := fun _ st o t => o = .returned (r.map (zrv G)) ∧ zW G σ t.heap ∧ va_F (zA G) st t
def zwd (mi : Nat) : List Cond := Cond.code (zY mi) (zB mi) (zML mi) (zRet mi) :: zgood
def zCon (G : zG) (mj : Nat) (a : List Value) (σ : zM) (r : Option Value) (σ' : zM) : Prop := ∀ l, Met l (zY mj) (zwd mj) (zRoom mj) (zPc G σ a) (zQc G r σ') 0 0 (zA G)
def zsel : List (Bool × Nat) → Nat → Nat
  | [], d => d
  | b :: l, d => if b.1 = true then b.2 else zsel l d
/-- from here the machine goes on there -/
def zSN (G : zG) (mi pc : Nat) (ls : zLs) (st : List Value) (σ : zM) (brs : List (Bool × Nat)) (d : Nat) (ls' : zLs) (st' : List Value) (σ' : zM) : Prop :=
  σ'.2.2 = σ.2.2 ∧ ∀ (p : Program) (l : Launch) (e : Env) (R : Room) (s : State) (m : MethodId) (args : Array Value) (below : List Frame) (meth : Method) (c : Code) (H : Heap) (locs : List Loc) (cells slots : Nat) (lsA : Array Slot) (Q : State → Prop),
    (zFr mi ≤ R.frames ∧ zLo mi ≤ R.locals ∧ cells ≤ R.cells ∧ slots ≤ R.slots) → zCtx G mi σ.2.2 p s m args meth c → zW G σ H → va_S (zA G) s.heap H locs → zhas G lsA (zML mi) ls →
    (∀ (H' : Heap) (locs' : List Loc) (lsA' : Array Slot), zW G σ' H' → va_S (zA G) s.heap H' locs' → zhas G lsA' (zML mi) ls' → W p l e R s m args below meth c H' locs' cells slots Q (F0 m (zsel brs d) lsA' (st'.map (zrv G)))) →
    W p l e R s m args below meth c H locs cells slots Q (F0 m pc lsA (st.map (zrv G)))
/-- from here it calls, and goes on behind it -/
def zSC (G : zG) (mi pc : Nat) (ls : zLs) (st : List Value) (σ : zM) (mj : Nat) (a : List Value) (pc' : Nat) (ls' : zLs) (rest : List Value) (σ' : zM) : Prop :=
  (σ' = σ ∧ ls' = ls ∧ mj < 282) ∧ ∀ (r : Option Value) (σF : zM), zCon G mj a σ r σF → ∀ (p : Program) (l : Launch) (e : Env) (R : Room) (s : State) (m : MethodId) (args : Array Value) (below : List Frame) (meth : Method) (c : Code) (H : Heap) (locs : List Loc) (cells slots : Nat) (lsA : Array Slot) (Q : State → Prop),
    (zFr mi ≤ R.frames ∧ zLo mi ≤ R.locals ∧ cells ≤ R.cells ∧ slots ≤ R.slots) → zCtx G mi σ.2.2 p s m args meth c → zW G σ H → va_S (zA G) s.heap H locs → zhas G lsA (zML mi) ls →
    (∀ (H' : Heap) (locs' : List Loc), zW G σF H' → va_S (zA G) s.heap H' locs' → W p l e R s m args below meth c H' locs' cells slots Q (F0 m pc' lsA (((r.map (zrv G)).toList) ++ rest.map (zrv G)))) →
    W p l e R s m args below meth c H locs cells slots Q (F0 m pc lsA (st.map (zrv G)))
/-- here it ends -/
def zSR (G : zG) (mi pc : Nat) (st : List Value) (σ : zM) (r : zR) : Prop :=
  r.2 = σ ∧ ∀ (p : Program) (l : Launch) (e : Env) (R : Room) (s : State) (m : MethodId) (args : Array Value) (below : List Frame) (meth : Method) (c : Code) (H : Heap) (locs : List Loc) (cells slots : Nat) (lsA : Array Slot),
    zCtx G mi σ.2.2 p s m args meth c → zW G σ H → va_S (zA G) s.heap H locs →
    W p l e R s m args below meth c H locs cells slots (MQ below (zQc G r.1 σ) args s cells slots (zA G)) (F0 m pc lsA (st.map (zrv G)))
def zSO (G : zG) (mi pc : Nat) (ls : zLs) (st : List Value) (σ : zM) (o : zO) : Prop := match o with
  | .inl q => zSN G mi pc ls st σ q.1 q.2.1 q.2.2.1 q.2.2.2.1 q.2.2.2.2
  | .inr (.inl q) => zSC G mi pc ls st σ q.1 q.2.1 q.2.2.1 q.2.2.2.1 q.2.2.2.2.1 q.2.2.2.2.2
  | .inr (.inr r) => zSR G mi pc st σ r
theorem zS_pure {G : zG} {mi pc pc' : Nat} {ls : zLs} {st st' : List Value} {σ : zM} {o : zO}
    (hrow : ∀ {p : Program} {l : Launch} {e : Env} {R : Room} {s : State} {m : MethodId} {args : Array Value} {below : List Frame} {meth : Method} {c : Code} {H : Heap} {locs : List Loc} {cells slots : Nat} {lsA : Array Slot} {Q : State → Prop},
      (zFr mi ≤ R.frames ∧ zLo mi ≤ R.locals ∧ cells ≤ R.cells ∧ slots ≤ R.slots) → zCtx G mi σ.2.2 p s m args meth c → zW G σ H → va_S (zA G) s.heap H locs → zhas G lsA (zML mi) ls →
      W p l e R s m args below meth c H locs cells slots Q (F0 m pc' lsA (st'.map (zrv G))) → W p l e R s m args below meth c H locs cells slots Q (F0 m pc lsA (st.map (zrv G))))
    (h : znx pc' ls st' σ = some o) : zSO G mi pc ls st σ o := by
  cases h
  exact ⟨rfl, fun p l e R s m args below meth c H locs cells slots lsA Q hR hC hW hS hl kk => hrow hR hC hW hS hl (kk H locs lsA hW hS hl)⟩
/-- a store of the memory -/
theorem zS_write {G : zG} {mi pc pc' : Nat} {ls : zLs} {st st' : List Value} {σ σ' : zM} {o : zO} (hσ : σ'.2.2 = σ.2.2)
    (hrow : ∀ {p : Program} {l : Launch} {e : Env} {R : Room} {s : State} {m : MethodId} {args : Array Value} {below : List Frame} {meth : Method} {c : Code} {H : Heap} {locs : List Loc} {cells slots : Nat} {lsA : Array Slot} {Q : State → Prop},
      (zFr mi ≤ R.frames ∧ zLo mi ≤ R.locals ∧ cells ≤ R.cells ∧ slots ≤ R.slots) → zCtx G mi σ.2.2 p s m args meth c → zW G σ H → va_S (zA G) s.heap H locs → zhas G lsA (zML mi) ls →
      (∀ (H' : Heap) (locs' : List Loc), zW G σ' H' → va_S (zA G) s.heap H' locs' → W p l e R s m args below meth c H' locs' cells slots Q (F0 m pc' lsA (st'.map (zrv G)))) → W p l e R s m args below meth c H locs cells slots Q (F0 m pc lsA (st.map (zrv G))))
    (h : znx pc' ls st' σ' = some o) : zSO G mi pc ls st σ o := by
  cases h
  exact ⟨hσ, fun p l e R s m args below meth c H locs cells slots lsA Q hR hC hW hS hl kk => hrow hR hC hW hS hl (fun H' locs' hW' hS' => kk H' locs' lsA hW' hS' hl)⟩
/-- a store into the locals -/
theorem zS_local {G : zG} {mi pc pc' : Nat} {ls ls' : zLs} {st st' : List Value} {σ : zM} {o : zO}
    (hrow : ∀ {p : Program} {l : Launch} {e : Env} {R : Room} {s : State} {m : MethodId} {args : Array Value} {below : List Frame} {meth : Method} {c : Code} {H : Heap} {locs : List Loc} {cells slots : Nat} {lsA : Array Slot} {Q : State → Prop},
      zCtx G mi σ.2.2 p s m args meth c → zhas G lsA (zML mi) ls →
      (∀ (lsB : Array Slot), zhas G lsB (zML mi) ls' → W p l e R s m args below meth c H locs cells slots Q (F0 m pc' lsB (st'.map (zrv G)))) → W p l e R s m args below meth c H locs cells slots Q (F0 m pc lsA (st.map (zrv G))))
    (h : znx pc' ls' st' σ = some o) : zSO G mi pc ls st σ o := by
  cases h
  exact ⟨rfl, fun p l e R s m args below meth c H locs cells slots lsA Q hR hC hW hS hl kk => hrow hC hl (fun lsB hB => kk H locs lsB hW hS hB)⟩
section ZST
variable {G : zG} {mi pc : Nat} {ls : zLs} {st : List Value} {σ : zM} {o : zO}
theorem zldI_ok {i pc' : Nat} (row : ∀ {p : Program} {l : Launch} {e : Env} {R : Room} {s : State} {m : MethodId} {args : Array Value} {below : List Frame} {meth : Method} {c : Code} {H : Heap} {locs : List Loc} {cells slots : Nat} {Q : State → Prop} {lsA : Array Slot} {rest : List Value} {x : Int32}, p.tables.exec = Jvm.exec → c.code = zB mi → lsA[i]? = some (.val (.int x)) → W p l e R s m args below meth c H locs cells slots Q (F0 m pc' lsA (.int x :: rest)) → W p l e R s m args below meth c H locs cells slots Q (F0 m pc lsA rest))
    (h : zldI ls i pc' st σ = some o) : zSO G mi pc ls st σ o := by
  unfold zldI at h
  split at h
  · next x e => exact zS_pure (fun _ hC _ _ hl k => row hC.1 hC.2.1 (hl.2.2.2 _ _ e) k) h
  · cases h
theorem zldJ_ok {i pc' : Nat} (row : ∀ {p : Program} {l : Launch} {e : Env} {R : Room} {s : State} {m : MethodId} {args : Array Value} {below : List Frame} {meth : Method} {c : Code} {H : Heap} {locs : List Loc} {cells slots : Nat} {Q : State → Prop} {lsA : Array Slot} {rest : List Value} {x : Int64}, p.tables.exec = Jvm.exec → c.code = zB mi → lsA[i]? = some (.val (.long x)) → W p l e R s m args below meth c H locs cells slots Q (F0 m pc' lsA (.long x :: rest)) → W p l e R s m args below meth c H locs cells slots Q (F0 m pc lsA rest))
    (h : zldJ ls i pc' st σ = some o) : zSO G mi pc ls st σ o := by
  unfold zldJ at h
  split at h
  · next x e => exact zS_pure (fun _ hC _ _ hl k => row hC.1 hC.2.1 (hl.2.2.2 _ _ e) k) h
  · cases h
theorem zldA_ok {i pc' : Nat} (row : ∀ {p : Program} {l : Launch} {e : Env} {R : Room} {s : State} {m : MethodId} {args : Array Value} {below : List Frame} {meth : Method} {c : Code} {H : Heap} {locs : List Loc} {cells slots : Nat} {Q : State → Prop} {lsA : Array Slot} {rest : List Value} {x : Nat}, p.tables.exec = Jvm.exec → c.code = zB mi → lsA[i]? = some (.val (.ref x)) → W p l e R s m args below meth c H locs cells slots Q (F0 m pc' lsA (.ref x :: rest)) → W p l e R s m args below meth c H locs cells slots Q (F0 m pc lsA rest))
    (h : zldA ls i pc' st σ = some o) : zSO G mi pc ls st σ o := by
  unfold zldA at h
  split at h
  · next x e => exact zS_pure (fun _ hC _ _ hl k => row hC.1 hC.2.1 (hl.2.2.2 _ _ e) k) h
  · cases h
theorem zstI_ok {i pc' : Nat} (row : ∀ {p : Program} {l : Launch} {e : Env} {R : Room} {s : State} {m : MethodId} {args : Array Value} {below : List Frame} {meth : Method} {c : Code} {H : Heap} {locs : List Loc} {cells slots : Nat} {Q : State → Prop} {lsA : Array Slot} {rest : List Value} {x : Int32} {lv : List (Nat × Value)}, p.tables.exec = Jvm.exec → c.code = zB mi → lv_has lsA (zML mi) lv → i < zML mi → (∀ lsB : Array Slot, lv_has lsB (zML mi) ((i, .int x) :: lv.filter (fun q => !(q.1 == i) && !(q.1 + 1 == i && q.2.category == 2))) → W p l e R s m args below meth c H locs cells slots Q (F0 m pc' lsB rest)) → W p l e R s m args below meth c H locs cells slots Q (F0 m pc lsA (.int x :: rest)))
    (h : zstI ls i pc' st σ = some o) : zSO G mi pc ls st σ o := by
  unfold zstI at h
  split at h
  · next x r =>
    split at h
    · next hi => exact zS_local (fun hC hl k => row hC.1 hC.2.1 (zhas_lv hl) (by rw [← hl.2.2.1]; exact hi) (fun lsB hB => k lsB (zhas_p1 (v := .int x) hl hi hB))) h
    · cases h
  · cases h
theorem zstA_ok {i pc' : Nat} (row : ∀ {p : Program} {l : Launch} {e : Env} {R : Room} {s : State} {m : MethodId} {args : Array Value} {below : List Frame} {meth : Method} {c : Code} {H : Heap} {locs : List Loc} {cells slots : Nat} {Q : State → Prop} {lsA : Array Slot} {rest : List Value} {x : Nat} {lv : List (Nat × Value)}, p.tables.exec = Jvm.exec → c.code = zB mi → lv_has lsA (zML mi) lv → i < zML mi → (∀ lsB : Array Slot, lv_has lsB (zML mi) ((i, .ref x) :: lv.filter (fun q => !(q.1 == i) && !(q.1 + 1 == i && q.2.category == 2))) → W p l e R s m args below meth c H locs cells slots Q (F0 m pc' lsB rest)) → W p l e R s m args below meth c H locs cells slots Q (F0 m pc lsA (.ref x :: rest)))
    (h : zstA ls i pc' st σ = some o) : zSO G mi pc ls st σ o := by
  unfold zstA at h
  split at h
  · next x r =>
    split at h
    · next hi => exact zS_local (fun hC hl k => row hC.1 hC.2.1 (zhas_lv hl) (by rw [← hl.2.2.1]; exact hi) (fun lsB hB => k lsB (zhas_p1 (v := .ref x) hl hi hB))) h
    · cases h
  · cases h
theorem zstJ_ok {i pc' : Nat} (row : ∀ {p : Program} {l : Launch} {e : Env} {R : Room} {s : State} {m : MethodId} {args : Array Value} {below : List Frame} {meth : Method} {c : Code} {H : Heap} {locs : List Loc} {cells slots : Nat} {Q : State → Prop} {lsA : Array Slot} {rest : List Value} {x : Int64} {lv : List (Nat × Value)}, p.tables.exec = Jvm.exec → c.code = zB mi → lv_has lsA (zML mi) lv → i + 1 < zML mi → (∀ lsB : Array Slot, lv_has lsB (zML mi) ((i, .long x) :: lv.filter (fun q => !(q.1 == i) && (!(q.1 == i + 1) && !(q.1 + 1 == i && q.2.category == 2)))) → W p l e R s m args below meth c H locs cells slots Q (F0 m pc' lsB rest)) → W p l e R s m args below meth c H locs cells slots Q (F0 m pc lsA (.long x :: rest)))
    (h : zstJ ls i pc' st σ = some o) : zSO G mi pc ls st σ o := by
  unfold zstJ at h
  split at h
  · next x r =>
    split at h
    · next hi => exact zS_local (fun hC hl k => row hC.1 hC.2.1 (zhas_lv hl) (by rw [← hl.2.2.1]; exact hi) (fun lsB hB => k lsB (zhas_p2 (v := .long x) hl hi hB))) h
    · cases h
  · cases h
theorem zbi_ok {f : Int32 → Int32 → Int32} (row : ∀ {p : Program} {l : Launch} {e : Env} {R : Room} {s : State} {m : MethodId} {args : Array Value} {below : List Frame} {meth : Method} {c : Code} {H : Heap} {locs : List Loc} {cells slots : Nat} {Q : State → Prop} {lsA : Array Slot} {rest : List Value} {x y : Int32}, p.tables.exec = Jvm.exec → c.code = zB mi → W p l e R s m args below meth c H locs cells slots Q (F0 m (pc + 1) lsA (.int (f x y) :: rest)) → W p l e R s m args below meth c H locs cells slots Q (F0 m pc lsA (.int y :: .int x :: rest)))
    (h : zbi f pc ls st σ = some o) : zSO G mi pc ls st σ o := by
  unfold zbi at h
  split at h
  · next y x r => exact zS_pure (fun _ hC _ _ hl k => row hC.1 hC.2.1 k) h
  · cases h
theorem zbj_ok {f : Int64 → Int64 → Int64} (row : ∀ {p : Program} {l : Launch} {e : Env} {R : Room} {s : State} {m : MethodId} {args : Array Value} {below : List Frame} {meth : Method} {c : Code} {H : Heap} {locs : List Loc} {cells slots : Nat} {Q : State → Prop} {lsA : Array Slot} {rest : List Value} {x y : Int64}, p.tables.exec = Jvm.exec → c.code = zB mi → W p l e R s m args below meth c H locs cells slots Q (F0 m (pc + 1) lsA (.long (f x y) :: rest)) → W p l e R s m args below meth c H locs cells slots Q (F0 m pc lsA (.long y :: .long x :: rest)))
    (h : zbj f pc ls st σ = some o) : zSO G mi pc ls st σ o := by
  unfold zbj at h
  split at h
  · next y x r => exact zS_pure (fun _ hC _ _ hl k => row hC.1 hC.2.1 k) h
  · cases h
theorem zto_eq {pc : Nat} {off : Int} (h : zto pc off = true) : (pc : Int) + off = (ztg pc off : Int) := by
  unfold zto at h
  simp only [decide_eq_true_eq] at h
  unfold ztg
  omega
theorem zif_ok {f : Int32 → Bool} {off : Int} (row : ∀ {p : Program} {l : Launch} {e : Env} {R : Room} {s : State} {m : MethodId} {args : Array Value} {below : List Frame} {meth : Method} {c : Code} {H : Heap} {locs : List Loc} {cells slots : Nat} {Q : State → Prop} {lsA : Array Slot} {rest : List Value} {x : Int32} {tgt : Nat}, p.tables.exec = Jvm.exec → c.code = zB mi → (pc : Int) + off = (tgt : Int) → (f x = true → W p l e R s m args below meth c H locs cells slots Q (F0 m tgt lsA rest)) → (¬ f x = true → W p l e R s m args below meth c H locs cells slots Q (F0 m (pc + 3) lsA rest)) → W p l e R s m args below meth c H locs cells slots Q (F0 m pc lsA (.int x :: rest)))
    (h : zif f pc off ls st σ = some o) : zSO G mi pc ls st σ o := by
  unfold zif at h
  split at h
  · next x r =>
    unfold zbr at h
    split at h
    · next ht =>
      cases h
      refine ⟨rfl, fun p l e R s m args below meth c H locs cells slots lsA Q hR hC hW hS hl kk => row hC.1 hC.2.1 (zto_eq ht) (fun hc => ?_) (fun hc => ?_)⟩
      · have := kk H locs lsA hW hS hl
        simp only [zsel, hc, if_true] at this
        exact this
      · have := kk H locs lsA hW hS hl
        simp only [zsel, hc, if_false] at this
        exact this
    · cases h
  · cases h
theorem zic_ok {f : Int32 → Int32 → Bool} {off : Int} (row : ∀ {p : Program} {l : Launch} {e : Env} {R : Room} {s : State} {m : MethodId} {args : Array Value} {below : List Frame} {meth : Method} {c : Code} {H : Heap} {locs : List Loc} {cells slots : Nat} {Q : State → Prop} {lsA : Array Slot} {rest : List Value} {x y : Int32} {tgt : Nat}, p.tables.exec = Jvm.exec → c.code = zB mi → (pc : Int) + off = (tgt : Int) → (f x y = true → W p l e R s m args below meth c H locs cells slots Q (F0 m tgt lsA rest)) → (¬ f x y = true → W p l e R s m args below meth c H locs cells slots Q (F0 m (pc + 3) lsA rest)) → W p l e R s m args below meth c H locs cells slots Q (F0 m pc lsA (.int y :: .int x :: rest)))
    (h : zic f pc off ls st σ = some o) : zSO G mi pc ls st σ o := by
  unfold zic at h
  split at h
  · next y x r =>
    unfold zbr at h
    split at h
    · next ht =>
      cases h
      refine ⟨rfl, fun p l e R s m args below meth c H locs cells slots lsA Q hR hC hW hS hl kk => row hC.1 hC.2.1 (zto_eq ht) (fun hc => ?_) (fun hc => ?_)⟩
      · have := kk H locs lsA hW hS hl
        simp only [zsel, hc, if_true] at this
        exact this
      · have := kk H locs lsA hW hS hl
        simp only [zsel, hc, if_false] at this
        exact this
    · cases h
  · cases h
end ZST
