/-! THE LAW'S FIRST STEPS: up to a stop -/
def yto (stop d mi : Nat) : Nat → Nat → zLs → List Value → yC → Option (zLs × List Value × yC)
  | 0 => fun _ _ _ _ => none
  | k + 1 => fun pc ls st C => if pc = stop then some (ls, st, C) else match zdec mi pc with
    | some q => match (if C.length < 900000 then yex mi pc q.1 ls st C else none) with
      | some (.inl (brs, d', ls', st', C')) => yto stop d mi k (zsel brs d') ls' st' C'
      | some (.inr (.inl (mj, a, pc', ls', r, C1))) => match (if (zsp a).length ≤ zML mj then yrun d 3000 mj 0 (zent (zML mj) a) [] C1 else none) with
        | some C' => yto stop d mi k pc' ls' r C'
        | none => none
      | _ => none
    | none => none
theorem yto_ok {G : zG} {stop d mi : Nat} : ∀ k pc ls st C ls' st' C', yto stop d mi k pc ls st C = some (ls', st', C') → yle C C' ∧ ∀ (C0 : yC) (p : Program) (l : Launch) (e : Env) (R : Room) (s : State) (m : MethodId) (args : Array Value) (below : List Frame) (meth : Method) (c : Code) (H : Heap) (locs : List Loc) (lsA : Array Slot) (Q : State → Prop), yle C0 C → yR G mi C0 C' R s →
    yCtx G mi p s m args meth c → yW G C H → va_S (zA G) s.heap H locs → zhas G lsA (zML mi) ls →
    (∀ (H' : Heap) (locs' : List Loc) (lsB : Array Slot), yW G C' H' → va_S (zA G) s.heap H' locs' → zhas G lsB (zML mi) ls' → W p l e R s m args below meth c H' locs' (C'.length - C0.length) (ytot C' - ytot C0) Q (F0 m stop lsB (st'.map (zrv G)))) →
    W p l e R s m args below meth c H locs (C.length - C0.length) (ytot C - ytot C0) Q (F0 m pc lsA (st.map (zrv G)))
  | 0, _, _, _, _, _, _, _, h => by cases h
  | k + 1, pc, ls, st, C, ls', st', C', h => by
    unfold yto at h
    by_cases hp : pc = stop
    · rw [if_pos hp] at h
      have h1 := Option.some.inj h
      cases h1
      subst hp
      exact ⟨yle_refl _, fun C0 p l e R s m args below meth c H locs lsA Q h0 hR hC hW hS hl kk => kk H locs lsA hW hS hl⟩
    · rw [if_neg hp] at h
      cases hd : zdec mi pc with
      | none => simp only [hd] at h; cases h
      | some q =>
        obtain ⟨i, len⟩ := q
        simp only [hd] at h
        by_cases hlt : C.length < 900000
        · simp only [hlt, if_true] at h
          cases hy : yex mi pc i ls st C with
          | none => simp only [hy] at h; cases h
          | some o =>
            have ho := yex_ok (G := G) hlt (zdec_ok hd) (zdec_len hd) hy
            match o, hy, ho with
            | .inl (brs, d', ls1, st1, C1), hy, ho =>
              simp only [hy] at h
              obtain ⟨hle, hstep⟩ := ho
              obtain ⟨hr, hs⟩ := yto_ok k _ _ _ _ _ _ _ h
              exact ⟨yle_trans hle hr, fun C0 p l e R s m args below meth c H locs lsA Q h0 hR hC hW hS hl kk => hstep C0 C' p l e R s m args below meth c H locs lsA Q h0 hr hR hC hW hS hl (fun H' locs' lsB hW' hS' hl' => hs C0 p l e R s m args below meth c H' locs' lsB Q (yle_trans h0 hle) hR hC hW' hS' hl' kk)⟩
            | .inr (.inr C1), hy, ho => simp only [hy] at h; cases h
            | .inr (.inl (mj, a, pc1, ls1, r, C1)), hy, ho =>
              simp only [hy] at h
              obtain ⟨⟨e1, e2, hmj⟩, hstep⟩ := ho
              simp only at e1 e2
              subst e1
              subst e2
              by_cases ha : (zsp a).length ≤ zML mj
              · rw [if_pos ha] at h
                cases hc : yrun d 3000 mj 0 (zent (zML mj) a) [] C1 with
                | none => simp only [hc] at h; cases h
                | some C2 =>
                  simp only [hc] at h
                  have h9 := yrun_ok (G := G) d 3000 mj 0 _ _ _ _ hc
                  obtain ⟨hr, hs⟩ := yto_ok k _ _ _ _ _ _ _ h
                  exact ⟨yle_trans h9.1 hr, fun C0 p l e R s m args below meth c H locs lsA Q h0 hR hC hW hS hl kk => hstep C2 h9.1 (yCon_of hmj ha h9) C0 C' p l e R s m args below meth c H locs lsA Q h0 hr hR hC hW hS hl (fun H' locs' hW' hS' => hs C0 p l e R s m args below meth c H' locs' lsA Q (yle_trans h0 h9.1) hR hC hW' hS' hl kk)⟩
              · rw [if_neg ha] at h
                cases h
        · simp only [hlt, if_false] at h
          cases h
