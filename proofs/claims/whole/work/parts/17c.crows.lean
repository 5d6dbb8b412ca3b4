theorem zj_oi : Cond.instanceMethod Lib.objectInit ∈ zgood := zgood_in (List.mem_of_getElem? (i := 191) (by decide +kernel)) rfl
theorem zj_oc : Cond.code Lib.objectInit ⟨#[0xb1]⟩ 1 none ∈ zgood := zgood_in (List.mem_of_getElem? (i := 192) rfl) rfl
theorem yref1_null {G : zG} (n : Nat) : yref1 G (List.replicate n .null) = fun _ => none := by
  funext j
  unfold yref1
  rw [List.getElem?_replicate]
  by_cases h : j < n
  · rw [if_pos h]
  · rw [if_neg h]
section YR2
variable {p : Program} {l : Launch} {e : Env} {R : Room} {s : State} {m : MethodId} {args : Array Value} {below : List Frame} {meth : Method} {c : Code} {H : Heap} {locs : List Loc} {cells slots : Nat} {Q : State → Prop}
variable {G : zG} {mi pc : Nat} {C : yC} {lsA : Array Slot} {rest : List Value}
theorem yr_newq {ix : Nat} {q : Nat × Nat} {n : Int32} {st : List Value} (hsz0 : s.heap.size = zgB G + (C.length - cells)) (hcl0 : cells ≤ C.length) (hC : yCtx G mi p s m args meth c) (hW : yW G C H) (hS : va_S (zA G) s.heap H locs) (hH : H.size = zgB G + C.length) (hd : decode (zB mi) pc = .ok (.anewarray ix, 3)) (hq : zLk ((zKL (zOC mi)).filter (fun e => decide (11 ≤ e.2.1))) ix = some q) (h1 : 104 ≤ q.1) (h2 : q.1 ≤ 106) (hn0 : ¬ n < 0) (hn1 : n.toNatClampNeg ≤ 5000) (hr1 : cells + 1 ≤ R.cells) (hr2 : slots + n.toNatClampNeg ≤ R.slots)
    (k : ∀ (H' : Heap), va_P (zgC G, zgI G) zCl (yws G C ++ [(zgB G + C.length, yen G (q.1, List.replicate n.toNatClampNeg .null))]) H' → va_S (zA G) s.heap H' locs → W p l e R s m args below meth c H' locs (cells + 1) (slots + n.toNatClampNeg) Q (F0 m (pc + 3) lsA (.ref (zgB G + C.length) :: st))) : W p l e R s m args below meth c H locs cells slots Q (F0 m pc lsA (.int n :: st)) := by
  obtain ⟨hx, hb, hml, hr, hown, hts, hlk, hnm0, hKs⟩ := hC
  obtain ⟨hw, hf⟩ := zKL_in hq
  have hA : ∀ x, s.heap.size ≤ x → zA G x := fun x hx => by show zgB G ≤ x; omega
  obtain ⟨t, w0⟩ := q
  simp only at h1 h2 hw k
  have fin : ∀ X : String, zTagC t = X → zety t = .object X → va_AO X s → W p l e R s m args below meth c H locs cells slots Q (F0 m pc lsA (.int n :: st)) := by
    intro X hX hty hao
    rw [hX] at hw
    refine va_newq (D := (zgC G, zgI G)) hx hb hown (hts _ hw) hao hKs.1 hW (yD G C) hS hA hn0 rfl (Nat.le_trans (Nat.mul_le_mul_right 4 hn1) (Nat.le_of_ble_eq_true rfl)) hr1 hr2 hd (fun a cA H1 g0 g1 g2 g3 => W_size fun hz2 => ?_)
    have hcA : cA = zgA G t := by
      have e1 := (g0.2 9 (cA, .object X) (by rw [List.getElem?_append_right (by unfold ztys; simp)]; unfold ztys; simp)).2
      have e2 := ztys_get G (i := t - 100) (by omega)
      rw [show 100 + (t - 100) = t by omega, hty] at e2
      obtain ⟨_, _, _, _, _, f1⟩ := e1
      obtain ⟨_, _, _, _, _, f2⟩ := (hKs.1.2 _ _ e2).2
      exact ysome_inj f1 f2
    subst hcA
    have ha : a = zgB G + C.length := yfresh g2 (ylast g1) (by omega)
    subst ha
    refine k H1 ?_ g3
    rw [yen_r (by omega), List.length_replicate, yref1_null]
    exact g1
  have hov := hKs.2.2
  have ht : t = 104 ∨ t = 105 ∨ t = 106 := by omega
  rcases ht with rfl | rfl | rfl
  · exact fin "SlowOrder$Order" rfl rfl (hov _ (by simp [yover]))
  · exact fin "SlowOrder$Realm" rfl rfl (hov _ (by simp [yover]))
  · exact fin "SlowOrder$Trip" rfl rfl (hov _ (by simp [yover]))
theorem youter (cA : ClassId) (N h0 : Nat) : ∀ i : Nat, Jvm.Free.Multi.outerC cA N h0 i = arrV cA N (fun j => if j < i then .ref (h0 + 1 + j) else .null)
  | 0 => by
    show ({ cls := cA, slots := Array.replicate N .null, vm := .none } : Cell) = _
    rw [arrV_new]
    rfl
  | i + 1 => by
    show (Jvm.Free.Multi.outerC cA N h0 i).setSlot i (.ref (h0 + 1 + i)) = _
    rw [youter cA N h0 i, arrV_store]
    refine congrArg (arrV cA N) (funext fun j => ?_)
    by_cases e : j = i
    · subst e
      simp [updV]
    · by_cases h : j < i
      · simp [updV, e, h, Nat.lt_succ_of_lt h]
      · simp [updV, e, h, show ¬ j < i + 1 by omega]
theorem yarr_ext {cA : ClassId} {N : Nat} {f g : Nat → Value} (h : ∀ j, j < N → f j = g j) : arrV cA N f = arrV cA N g := by
  unfold arrV
  congr 1
  apply Array.ext
  · simp
  · intro j h1 h2
    simp only [Array.size_ofFn] at h1
    simp [h j h1]
theorem yr_mna {ix t0 : Nat} {q : Nat × Nat} {n k : Int32} {st : List Value} {ty : FieldType} {t : Nat} (hlt : C.length + 1 + n.toNatClampNeg < 1000000) (hC : yCtx G mi p s m args meth c) (hW : yW G C H) (hS : va_S (zA G) s.heap H locs) (hH : H.size = zgB G + C.length) (hd : decode (zB mi) pc = .ok (.multianewarray ix 2, 4)) (hq : zLk ((zKL (zOC mi)).filter (fun e => decide (11 ≤ e.2.1))) ix = some q)
    (hq1 : q.1 = t) (ht : zety t = .array ty) (ht1 : 103 < t) (ht2 : t < 109) (htag : zTagC t = "[" ++ (FieldType.array ty).toString) (hov : (Cond.arrayOver (.array ty)).before #[] s = true) (hac : Cond.arrayClass ty ∈ zgood) (ht0 : 100 ≤ t0) (ht02 : t0 < 104) (hty0 : zety t0 = ty) (hby : componentBytes ty ≤ 8) (hdf : fits ty (defaultValue ty) = true) (hdd : (defaultValue ty).isDefault = true)
    (hcomp : ∀ c1 c2 : ClassId, s.vm.findClass (FieldType.array ty).toString = some c1 → va_RA s c2 ty → c1 = c2) (hA2 : ∀ c1 c2 : ClassId, s.vm.findClass ("[" ++ (FieldType.array ty).toString) = some c1 → va_RA s c2 (.array ty) → c1 = c2)
    (hcell : ∀ (K : Nat), H = H → ∃ z : vp_A, yen G (t0, List.replicate K (ydef ty)) = .inl (zgA G t0, z) ∧ ∀ cA : ClassId, vp_cell cA z = arrV cA K (fun _ => defaultValue ty))
    (hn0 : ¬ n < 0) (hk0 : ¬ k < 0) (hn1 : n.toNatClampNeg ≤ 5000) (hk1 : k.toNatClampNeg ≤ 5000) (hr1 : cells + (1 + n.toNatClampNeg) ≤ R.cells) (hr2 : slots + (n.toNatClampNeg + n.toNatClampNeg * k.toNatClampNeg) ≤ R.slots)
    (kk : ∀ (H' : Heap), va_P (zgC G, zgI G) zCl (yws G (C ++ ((t, (List.range n.toNatClampNeg).map (fun j => .ref (C.length + 1 + j))) :: List.replicate n.toNatClampNeg (t0, List.replicate k.toNatClampNeg (ydef ty))))) H' → va_S (zA G) s.heap H' locs → W p l e R s m args below meth c H' locs (cells + 1 + n.toNatClampNeg) (slots + n.toNatClampNeg + n.toNatClampNeg * k.toNatClampNeg) Q (F0 m (pc + 4) lsA (.ref (zgB G + C.length) :: st))) : W p l e R s m args below meth c H locs cells slots Q (F0 m pc lsA (.int k :: .int n :: st)) := by
  obtain ⟨hx, hb, hml, hr, hown, hts, hlk, hnm0, hKs⟩ := hC
  obtain ⟨hw, hf⟩ := zKL_in hq
  rw [hq1, htag] at hw
  intro T hT X
  obtain ⟨vm₁, cA, comp, -, fA, fC, hO, -, X', step⟩ := X.multianewarray2F hx hown (hts _ hw) (show (Cond.arrayOver (.array ty)).before args s = true from hov) (hts _ hac) (g := F0 m pc lsA (.int k :: .int n :: st)) rfl (by rw [hb]; exact hd) rfl hn0 hk0 (Nat.le_trans (Nat.mul_le_mul_right 4 hn1) (Nat.le_of_ble_eq_true rfl)) (Nat.le_trans (Nat.mul_le_mul hk1 hby) (Nat.le_of_ble_eq_true rfl)) (Nat.le_trans hk1 (Nat.le_of_ble_eq_true rfl)) hdf hdd hr1 hr2
  have e1 := ztys_get G (i := t - 100) (by omega)
  rw [show 100 + (t - 100) = t by omega, ht] at e1
  have hcA : cA = zgA G t := hA2 _ _ fA (hKs.1.2 _ _ e1).2
  have e0 := ztys_get G (i := t0 - 100) (by omega)
  rw [show 100 + (t0 - 100) = t0 by omega, hty0] at e0
  have hcc : comp = zgA G t0 := hcomp _ _ fC (hKs.1.2 _ _ e0).2
  subst hcA
  subst hcc
  have hTh : (T.setVm vm₁).heap = H := hT
  obtain ⟨f1, f2, -, -⟩ := Jvm.Free.Multi.fill_facts (T.setVm vm₁) (zgA G t) (zgA G t0) n.toNatClampNeg k.toNatClampNeg (defaultValue ty) n.toNatClampNeg
  have hold : ∀ x : Nat, x < H.size → (Jvm.Free.Multi.fill (T.setVm vm₁) (zgA G t) (zgA G t0) n.toNatClampNeg k.toNatClampNeg (defaultValue ty) n.toNatClampNeg).heap[x]? = H[x]? := fun x hx => by
    have := Jvm.Free.Multi.fill_old (T.setVm vm₁) (zgA G t) (zgA G t0) n.toNatClampNeg k.toNatClampNeg (defaultValue ty) (a := x) (by rw [hTh]; exact hx) n.toNatClampNeg
    rw [hTh] at this
    exact this
  have hrow : ∀ j : Nat, j < n.toNatClampNeg → (Jvm.Free.Multi.fill (T.setVm vm₁) (zgA G t) (zgA G t0) n.toNatClampNeg k.toNatClampNeg (defaultValue ty) n.toNatClampNeg).heap[H.size + 1 + j]? = some (arrV (zgA G t0) k.toNatClampNeg (fun _ => defaultValue ty)) := fun j hj => by
    have := Jvm.Free.Multi.fill_inner (T.setVm vm₁) (zgA G t) (zgA G t0) n.toNatClampNeg k.toNatClampNeg (defaultValue ty) n.toNatClampNeg j hj
    rw [hTh] at this
    rw [this]
    exact congrArg some (arrV_new _ _ _)
  rw [hTh] at f1 f2
  rw [youter] at f2
  generalize Jvm.Free.Multi.fill (T.setVm vm₁) (zgA G t) (zgA G t0) n.toNatClampNeg k.toNatClampNeg (defaultValue ty) n.toNatClampNeg = F at X' step f1 f2 hold hrow
  have hP : va_P (zgC G, zgI G) zCl (yws G (C ++ ((t, (List.range n.toNatClampNeg).map (fun j => .ref (C.length + 1 + j))) :: List.replicate n.toNatClampNeg (t0, List.replicate k.toNatClampNeg (ydef ty))))) F.heap := by
    rw [yws_app]
    refine va_P.app (va_P.kept hW (fun k9 x hx => hold x.1 ((hW k9 x hx).lt))) (fun j x hx => ?_)
    have hj : j < ((t, (List.range n.toNatClampNeg).map (fun j => Value.ref (C.length + 1 + j))) :: List.replicate n.toNatClampNeg (t0, List.replicate k.toNatClampNeg (ydef ty))).length := by
      have := (List.getElem?_eq_some_iff.mp hx).1
      rwa [List.length_map, List.length_range] at this
    rw [List.getElem?_map, List.getElem?_range hj] at hx
    cases hx
    rw [List.length_cons, List.length_replicate] at hj
    cases j with
    | zero =>
      show va_at _ _ (zgB G + (C.length + 0), yen G (t, _)) F.heap
      rw [yen_r ht1]
      show F.heap[zgB G + (C.length + 0)]? = some (vp_cell _ _)
      rw [show zgB G + (C.length + 0) = H.size by omega, f2, vp_cell_q, List.length_map, List.length_range]
      refine congrArg some (yarr_ext fun j hj2 => ?_)
      rw [if_pos hj2]
      unfold yref1
      rw [List.getElem?_map, List.getElem?_range hj2]
      show _ = va_rf (some (zad G (C.length + 1 + j)))
      rw [show zad G (C.length + 1 + j) = zgB G + (C.length + 1 + j) from if_pos (by omega)]
      exact congrArg Value.ref (show H.size + 1 + j = zgB G + (C.length + 1 + j) by omega)
    | succ j =>
      have hj2 : j < n.toNatClampNeg := by omega
      have e9 : (((t, (List.range n.toNatClampNeg).map (fun j => Value.ref (C.length + 1 + j))) :: List.replicate n.toNatClampNeg (t0, List.replicate k.toNatClampNeg (ydef ty))).getD (j + 1) (0, [])) = (t0, List.replicate k.toNatClampNeg (ydef ty)) := by
        rw [List.getD_eq_getElem?_getD, List.getElem?_cons_succ, List.getElem?_replicate, if_pos hj2]
        rfl
      show va_at (zgC G, zgI G) zCl (zgB G + (C.length + (j + 1)), yen G (List.getD _ (j + 1) (0, []))) F.heap
      rw [e9]
      obtain ⟨z, hz1, hz2⟩ := hcell k.toNatClampNeg rfl
      rw [hz1]
      show F.heap[zgB G + (C.length + (j + 1))]? = some (vp_cell _ _)
      rw [show zgB G + (C.length + (j + 1)) = H.size + 1 + j by omega, hrow j hj2, hz2]
  obtain ⟨t1, a1, b1⟩ := kk F.heap hP ⟨by rw [f1]; have := hS.1; omega, fun x h1 h2 => (hold x (Nat.lt_of_lt_of_le h1 hS.1)).trans (hS.2.1 x h1 h2), hS.2.2⟩ F rfl X'
  refine ⟨t1, step t1 ?_, b1⟩
  have e : T.heap.size = zgB G + C.length := by rw [hT]; exact hH
  rw [e]
  exact a1
end YR2
