def ySnd (G : zG) (mi pc : Nat) (ls : zLs) (st : List Value) (C C' : yC) : Prop :=
  yle C C' ∧ ∀ (C0 : yC) (p : Program) (l : Launch) (e : Env) (R : Room) (s : State) (m : MethodId) (args : Array Value) (below : List Frame) (meth : Method) (c : Code) (H : Heap) (locs : List Loc) (lsA : Array Slot), yle C0 C → yR G mi C0 C' R s →
    yCtx G mi p s m args meth c → yW G C H → va_S (zA G) s.heap H locs → zhas G lsA (zML mi) ls →
    W p l e R s m args below meth c H locs (C.length - C0.length) (ytot C - ytot C0) (MQ below (yQc G C') args s (C'.length - C0.length) (ytot C' - ytot C0) (zA G)) (F0 m pc lsA (st.map (zrv G)))
theorem yCon_of {G : zG} {mj : Nat} {a : List Value} {C C' : yC} (hmj : mj < 282) (ha : (zsp a).length ≤ zML mj) (h : ySnd G mj 0 (zent (zML mj) a) [] C C') : yCon G mj a C C' := by
  intro l
  obtain ⟨w1, w2, w3, w4, w5, w6, w7, w8, w9⟩ := zW_of hmj
  refine Met.ofW (cc := zB mj) (maxL := zML mj) (ret := zRet mj) w9 rfl ?_
  intro p e s m args below meth c s₁ B hml hv
  obtain ⟨rfl, hH, hW, hKs⟩ := hv
  have hown : s.vm.findClass (zCNm (zOC mj)) = some m.cls := by rw [w6]; exact findClass_of_methodNamed B.named
  have hts : ∀ w ∈ zgood, w.before _ s = true := fun w hw => atoms_spec (ws := zwd mj) B.pre w (List.mem_cons_of_mem _ hw)
  have hnm : meth.name = (zY mj).name := (name_of_methodNamed B.named B.method).1
  rw [lg_entry_eq]
  have := h.2 C p l e (headSpec (zwd mj) (yRoom mj C C')).room s m (a.map (zrv G)).toArray below meth c s.heap [] _ (yle_refl C) ⟨Nat.le_refl _, Nat.le_refl _, Nat.le_refl _, Nat.le_refl _, hH⟩ ⟨B.exec, B.bytes, hml, B.returns, hown, hts, B.notSynchronized, hnm, hKs⟩ hW va_S.rf (zhas_entry G a ha)
  rw [Nat.sub_self, Nat.sub_self] at this
  exact this
theorem yint_ok {G : zG} {mi pc : Nat} {ls : zLs} {st : List Value} {C C' : yC} {o : yO} {K : Nat → zLs → List Value → yC → Option yC} {CE : Nat → List Value → yC → Option yC}
    (hK : ∀ pc ls st C C', K pc ls st C = some C' → ySnd G mi pc ls st C C') (hC : ∀ mj a C C', mj < 282 → CE mj a C = some C' → yle C C' ∧ yCon G mj a C C') (ho : ySO G mi pc ls st C o) (h : yint K CE o = some C') : ySnd G mi pc ls st C C' := by
  match o, ho, h with
  | .inl (brs, d, ls', st', C1), ho, h =>
    obtain ⟨hle, hstep⟩ := ho
    obtain ⟨hr, hs⟩ := hK _ _ _ _ _ h
    exact ⟨yle_trans hle hr, fun C0 p l e R s m args below meth c H locs lsA h0 hR hC0 hW hS hl => hstep C0 C' p l e R s m args below meth c H locs lsA _ h0 hr hR hC0 hW hS hl (fun H' locs' lsA' hW' hS' hl' => hs C0 p l e R s m args below meth c H' locs' lsA' (yle_trans h0 hle) hR hC0 hW' hS' hl')⟩
  | .inr (.inr C1), ho, h =>
    have h1 : C1 = C' := Option.some.inj h
    obtain ⟨he, hw⟩ := ho
    have h2 : C1 = C := he
    subst h1
    subst h2
    exact ⟨yle_refl _, fun C0 p l e R s m args below meth c H locs lsA h0 hR hC0 hW hS hl => hw p l e R s m args below meth c H locs _ _ lsA hC0 hW hS⟩
  | .inr (.inl (mj, a, pc', ls', rest, C1)), ho, h =>
    obtain ⟨⟨e1, e2, hmj⟩, hstep⟩ := ho
    simp only at e1 e2
    subst e1
    subst e2
    simp only [yint] at h
    split at h
    · next C2 hc =>
      obtain ⟨hle, hcon⟩ := hC mj a _ _ hmj hc
      obtain ⟨hr, hs⟩ := hK _ _ _ _ _ h
      exact ⟨yle_trans hle hr, fun C0 p l e R s m args below meth c H locs lsA h0 hR hC0 hW hS hl => hstep C2 hle hcon C0 C' p l e R s m args below meth c H locs lsA _ h0 hr hR hC0 hW hS hl (fun H' locs' hW' hS' => hs C0 p l e R s m args below meth c H' locs' lsA (yle_trans h0 hle) hR hC0 hW' hS' hl)⟩
    · cases h
theorem yrun_ok {G : zG} : ∀ d k mi pc ls st C C', yrun d k mi pc ls st C = some C' → ySnd G mi pc ls st C C'
  | 0, _, _, _, _, _, _, _, h => by cases h
  | d + 1, k, mi, pc, ls, st, C, C', h => by
    induction k generalizing pc ls st C C' with
    | zero => cases h
    | succ k ih =>
      have h2 : (match zdec mi pc with
        | some q => match (if C.length < 900000 then yex mi pc q.1 ls st C else none) with
          | some o => yint (fun pc ls st C => yrun (d + 1) k mi pc ls st C) (fun mj a C => if (zsp a).length ≤ zML mj then yrun d 3000 mj 0 (zent (zML mj) a) [] C else none) o
          | none => none
        | none => none) = some C' := h
      cases hd : zdec mi pc with
      | none => rw [hd] at h2; cases h2
      | some q =>
        rw [hd] at h2
        obtain ⟨i, len⟩ := q
        by_cases hlt : C.length < 900000
        · simp only [hlt, if_true] at h2
          cases hy : yex mi pc i ls st C with
          | none => rw [hy] at h2; cases h2
          | some o =>
            rw [hy] at h2
            refine yint_ok (fun pc ls st C C' hk => ih pc ls st C C' hk) (fun mj a C C' hmj hc => ?_) (yex_ok hlt (zdec_ok hd) (zdec_len hd) hy) h2
            split at hc
            · next ha =>
              have h9 := yrun_ok (G := G) d 3000 mj 0 _ _ _ _ hc
              exact ⟨h9.1, yCon_of hmj ha h9⟩
            · cases hc
        · simp only [hlt, if_false] at h2
          cases h2
