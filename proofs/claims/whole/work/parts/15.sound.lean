/-! WHAT THE ABSTRACT MACHINE COMES TO, THE REAL ONE COMES TO -/
def zSnd (G : zG) (mi pc : Nat) (ls : zLs) (st : List Value) (σ : zM) (r : zR) : Prop :=
  r.2.2.2 = σ.2.2 ∧ ∀ (p : Program) (l : Launch) (e : Env) (R : Room) (s : State) (m : MethodId) (args : Array Value) (below : List Frame) (meth : Method) (c : Code) (H : Heap) (locs : List Loc) (cells slots : Nat) (lsA : Array Slot),
    (zFr mi ≤ R.frames ∧ zLo mi ≤ R.locals ∧ cells ≤ R.cells ∧ slots ≤ R.slots) → zCtx G mi σ.2.2 p s m args meth c → zW G σ H → va_S (zA G) s.heap H locs → zhas G lsA (zML mi) ls →
    W p l e R s m args below meth c H locs cells slots (MQ below (zQc G r.1 r.2) args s cells slots (zA G)) (F0 m pc lsA (st.map (zrv G)))
theorem zfold_sel {K : Nat → Option zR} {d : Nat} : ∀ brs : List (Bool × Nat), brs.foldr (fun b e => if b.1 = true then K b.2 else e) (K d) = K (zsel brs d)
  | [] => rfl
  | b :: l => by
    rw [List.foldr_cons]
    unfold zsel
    by_cases h : b.1 = true
    · rw [if_pos h, if_pos h]
    · rw [if_neg h, if_neg h]
      exact zfold_sel l
theorem zCon_of {G : zG} {mj : Nat} {a : List Value} {σ : zM} {r : zR} (hmj : mj < 282) (ha : (zsp a).length ≤ zML mj) (h : zSnd G mj 0 (zent (zML mj) a) [] σ r) : zCon G mj a σ r.1 r.2 := by
  intro l
  obtain ⟨w1, w2, w3, w4, w5, w6, w7, w8, w9⟩ := zW_of hmj
  refine Met.ofW (cc := zB mj) (maxL := zML mj) (ret := zRet mj) w9 rfl ?_
  intro p e s m args below meth c s₁ B hml hv
  obtain ⟨rfl, hW, hKs⟩ := hv
  have hown : s.vm.findClass (zCNm (zOC mj)) = some m.cls := by rw [w6]; exact findClass_of_methodNamed B.named
  have hts : ∀ w ∈ zgood, w.before _ s = true := fun w hw => atoms_spec (ws := zwd mj) B.pre w (List.mem_cons_of_mem _ hw)
  rw [lg_entry_eq]
  exact h.2 p l e _ s m _ below meth c s.heap [] 0 0 _ ⟨Nat.le_refl _, Nat.le_refl _, Nat.le_refl _, Nat.le_refl _⟩ ⟨B.exec, B.bytes, hml, B.returns, hown, hts, B.notSynchronized, hKs⟩ hW va_S.rf (zhas_entry G a ha)
theorem zint_ok {G : zG} {mi pc : Nat} {ls : zLs} {st : List Value} {σ : zM} {o : zO} {r : zR} {K : Nat → zLs → List Value → zM → Option zR} {CE : Nat → List Value → zM → Option zR}
    (hK : ∀ pc ls st σ r, K pc ls st σ = some r → zSnd G mi pc ls st σ r) (hC : ∀ mj a σ r, mj < 282 → CE mj a σ = some r → r.2.2.2 = σ.2.2 ∧ zCon G mj a σ r.1 r.2) (ho : zSO G mi pc ls st σ o) (h : zint K CE (some o) = some r) : zSnd G mi pc ls st σ r := by
  match o, ho, h with
  | .inl (brs, d, ls', st', σ'), ho, h =>
    have h1 : K (zsel brs d) ls' st' σ' = some r := by
      rw [← zfold_sel (K := fun p => K p ls' st' σ') brs]
      exact h
    obtain ⟨hσ, hstep⟩ := ho
    obtain ⟨hr, hs⟩ := hK _ _ _ _ _ h1
    refine ⟨hr.trans hσ, fun p l e R s m args below meth c H locs cells slots lsA hR hC0 hW hS hl => hstep p l e R s m args below meth c H locs cells slots lsA _ hR hC0 hW hS hl (fun H' locs' lsA' hW' hS' hl' => hs p l e R s m args below meth c H' locs' cells slots lsA' hR (by rw [hσ]; exact hC0) hW' hS' hl')⟩
  | .inr (.inr q), ho, h =>
    cases h
    obtain ⟨he, hw⟩ := ho
    refine ⟨by rw [he], fun p l e R s m args below meth c H locs cells slots lsA hR hC0 hW hS hl => ?_⟩
    rw [he]
    exact hw p l e R s m args below meth c H locs cells slots lsA hC0 hW hS
  | .inr (.inl (mj, a, pc', ls', rest, σ')), ho, h =>
    obtain ⟨⟨e1, e2, hmj⟩, hstep⟩ := ho
    simp only at e1 e2
    subst e1
    subst e2
    have go : ∀ (v : Option Value) (τ : zM), CE mj a σ' = some (v, τ) → K pc' ls' (v.toList ++ rest) τ = some r → zSnd G mi pc ls' st σ' r := by
      intro v τ hc hk
      obtain ⟨hτ, hcon⟩ := hC mj a σ' _ hmj hc
      obtain ⟨hr, hs⟩ := hK _ _ _ _ _ hk
      refine ⟨hr.trans hτ, fun p l e R s m args below meth c H locs cells slots lsA hR hC0 hW hS hl => hstep v τ hcon p l e R s m args below meth c H locs cells slots lsA _ hR hC0 hW hS hl (fun H' locs' hW' hS' => ?_)⟩
      have := hs p l e R s m args below meth c H' locs' cells slots lsA hR (by rw [show τ.2.2 = σ'.2.2 from hτ]; exact hC0) hW' hS' hl
      rw [List.map_append] at this
      have e9 : v.toList.map (zrv G) = (v.map (zrv G)).toList := by cases v <;> rfl
      rw [e9] at this
      exact this
    simp only [zint] at h
    split at h
    · unfold zbV at h
      split at h
      · next τ hc => exact go none τ hc h
      · cases h
    · unfold zbJ at h
      split at h
      · next v τ hc => exact go (some (.long v)) τ hc h
      · cases h
    · unfold zbI at h
      split at h
      · next v τ hc => exact go (some (.int v)) τ hc h
      · cases h
theorem zblk_ok {G : zG} {mi : Nat} {CR : Nat → zLs → List Value → zM → Option zR} {CE : Nat → List Value → zM → Option zR} (hR : ∀ pc ls st σ r, CR pc ls st σ = some r → zSnd G mi pc ls st σ r) (hC : ∀ mj a σ r, mj < 282 → CE mj a σ = some r → r.2.2.2 = σ.2.2 ∧ zCon G mj a σ r.1 r.2) :
    ∀ k pc ls st σ r, zblk CR CE mi k pc ls st σ = some r → zSnd G mi pc ls st σ r
  | 0, _, _, _, _, _, h => by cases h
  | k + 1, pc, ls, st, σ, r, h => by
    unfold zblk at h
    cases hz : zst mi pc ls st σ with
    | none => rw [hz] at h; cases h
    | some o =>
      rw [hz] at h
      have ho : zSO G mi pc ls st σ o := by
        unfold zst at hz
        cases hd : zdec mi pc with
        | none => rw [hd] at hz; cases hz
        | some q =>
          rw [hd] at hz
          obtain ⟨i, len⟩ := q
          exact zex_ok (zdec_ok hd) (zdec_len hd) hz
      refine zint_ok ?_ hC ho h
      intro pc ls st σ r h
      cases hcut : zcut mi pc with
      | none =>
        simp only [hcut] at h
        exact zblk_ok hR hC k _ _ _ _ _ h
      | some b =>
        simp only [hcut] at h
        by_cases hb : b.length = ls.length
        · rw [if_pos hb] at h
          obtain ⟨h1, h2⟩ := hR _ _ _ _ _ h
          exact ⟨h1, fun p l e R s m args below meth c H locs cells slots lsA hR hC0 hW hS hl => h2 p l e R s m args below meth c H locs cells slots lsA hR hC0 hW hS (zhas_masked hl hb)⟩
        · rw [if_neg hb] at h
          cases h
theorem zrun_ok {G : zG} : ∀ n mi pc ls st σ r, zrun n mi pc ls st σ = some r → zSnd G mi pc ls st σ r
  | 0, _, _, _, _, _, _, h => by cases h
  | n + 1, mi, pc, ls, st, σ, r, h => by
    rw [zrun_blk] at h
    refine zblk_ok (fun pc ls st σ r h => zrun_ok n mi pc ls st σ r h) (fun mj a σ r hmj h => ?_) _ _ _ _ _ _ h
    unfold zrunC at h
    split at h
    · next ha =>
      have h1 := zrun_ok (G := G) n mj 0 _ _ _ _ h
      exact ⟨h1.1, zCon_of hmj ha h1⟩
    · cases h
/-- THE METHODS: what a call of the abstract machine comes to, the method of the real one comes to -/
theorem zcall_ok (G : zG) {mj : Nat} {a : List Value} {σ : zM} {r : zR} (hmj : mj < 282) (h : zcall mj a σ = some r) : r.2.2.2 = σ.2.2 ∧ zCon G mj a σ r.1 r.2 := by
  unfold zcall at h
  split at h
  · next ha =>
    obtain ⟨n, hn⟩ := zev_ex h
    have h1 := zrun_ok (G := G) n mj 0 _ _ _ _ hn
    exact ⟨h1.1, zCon_of hmj ha h1⟩
  · cases h
theorem zev_ok (G : zG) {mi pc : Nat} {ls : zLs} {st : List Value} {σ : zM} {r : zR} (h : zev mi pc ls st σ = some r) : zSnd G mi pc ls st σ r := by
  obtain ⟨n, hn⟩ := zev_ex h
  exact zrun_ok n mi pc ls st σ r hn
