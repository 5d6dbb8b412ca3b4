/-! THE CHECK IS SOUND -/
theorem zarr_tag {a t : Nat} {i : Int32} (h : zarr a t i = true) : a < 313 ∧ ∀ u, u ≠ t → ∀ j, zarr a u j = false := by
  unfold zarr at h
  cases e : zsh[a]? with
  | none => rw [e] at h; cases h
  | some q =>
    rw [e] at h
    have h1 : q.1 = t := by
      simp only [Bool.and_eq_true] at h
      exact eq_of_beq h.1
    refine ⟨by rw [← zsh_len]; exact (List.getElem?_eq_some_iff.mp e).1, fun u hu j => ?_⟩
    unfold zarr
    rw [e]
    simp only [Bool.and_eq_false_imp]
    intro h2
    exact absurd (h1.symm.trans (eq_of_beq h2)) (Ne.symm hu)
theorem zseg_tag {a t : Nat} {p n : Int32} (h : zseg a t p n = true) : ∀ u, u ≠ t → ∀ p n, zseg a u p n = false := by
  unfold zseg at h
  cases e : zsh[a]? with
  | none => rw [e] at h; cases h
  | some q =>
    rw [e] at h
    have h1 : q.1 = t := by
      simp only [Bool.and_eq_true] at h
      exact eq_of_beq h.1
    intro u hu p n
    unfold zseg
    rw [e]
    simp only [Bool.and_eq_false_imp]
    intro h2
    exact absurd (h1.symm.trans (eq_of_beq h2)) (Ne.symm hu)
theorem zldc_ok {mi ix c : Nat} {o : Instr} {d : Nat × Nat × Nat × Nat} {ls : zLs} {st : List Value} {σ : zM} {k : zLs → List Value → zM → Option zR} {r : zR} (h : zldcK mi ix o = true) (hk : zopK o d ls st σ k = some r) (K : Nat → zLs → List Value → zM → Option zR) (hC : ∀ ls st σ r, k ls st σ = some r → K c ls st σ = some r) :
    zint K zcall (match zLk (zKI (zOC mi)) ix with
    | some v => znx c ls (.int (Int32.ofInt v.1) :: st) σ
    | none => match zLk (zKS (zOC mi)) ix with
      | some v => znx c ls (.ref (1000000 + v.1) :: st) σ
      | none => none) = some r := by
  unfold zldcK at h
  cases e : zLk (zKI (zOC mi)) ix with
  | some v =>
    rw [e] at h
    simp only at h ⊢
    split at h
    · have h1 := of_decide_eq_true h
      subst h1
      exact hC _ _ _ _ hk
    · cases h
  | none =>
    rw [e] at h
    simp only at h ⊢
    cases e2 : zLk (zKS (zOC mi)) ix with
    | some v =>
      rw [e2] at h
      simp only at h ⊢
      split at h
      · have h1 := of_decide_eq_true h
        subst h1
        exact hC _ _ _ _ hk
      · cases h
    | none =>
      rw [e2] at h
      cases h
theorem zcl_snd {kd mj : Nat} {as : List Value} {σ : zM} {ls : zLs} {rest : List Value} {k : zLs → List Value → zM → Option zR} {r : zR} {pc : Nat} (K : Nat → zLs → List Value → zM → Option zR) (hr : zretk mj kd = true) (hk : zcl kd mj as σ ls rest k = some r) (hC : ∀ ls st σ r, k ls st σ = some r → K pc ls st σ = some r) :
    zint K zcall (some (.inr (.inl (mj, as, pc, ls, rest, σ)))) = some r := by
  unfold zretk at hr
  simp only [zint]
  cases e : zRet mj with
  | none =>
    rw [e] at hr
    have h1 := of_decide_eq_true hr
    subst h1
    simp only [zcl] at hk
    exact zbV_mono (fun r h => h) (fun τ r h => hC _ _ _ _ h) r hk
  | some ty =>
    rw [e] at hr
    cases ty with
    | long =>
      have h1 := of_decide_eq_true hr
      subst h1
      simp only [zcl] at hk
      exact zbJ_mono (fun r h => h) (fun v τ r h => hC _ _ _ _ h) r hk
    | _ =>
      have h1 := of_decide_eq_true hr
      subst h1
      simp only [zcl] at hk
      exact zbI_mono (fun r h => h) (fun v τ r h => hC _ _ _ _ h) r hk
theorem zcs_ok {mi pc ix : Nat} {o : Instr} {d : Nat × Nat × Nat × Nat} {ls : zLs} {st : List Value} {σ : zM} {k : zLs → List Value → zM → Option zR} {r : zR} (K : Nat → zLs → List Value → zM → Option zR) (h : zcallS mi ix o d = true) (hk : zopK o d ls st σ k = some r) (hC : ∀ ls st σ r, k ls st σ = some r → K (pc + 3) ls st σ = some r) :
    zint K zcall (zex mi pc (.invokestatic ix) ls st σ) = some r := by
  unfold zcallS at h
  simp only [zex]
  cases e : zLk (zMK (zOC mi)) ix with
  | none => rw [e] at h; cases h
  | some q =>
    rw [e] at h
    simp only at h ⊢
    split at h
    · next mj =>
      simp only [Bool.and_eq_true] at h
      obtain ⟨h1, h2, h3, h4, h6, h7, h9⟩ := h
      have h1 := of_decide_eq_true h1
      have h2 := of_decide_eq_true h2
      have h7 := of_decide_eq_true h7
      simp only [zopK, Bool.cond_eq_ite, zcb_ite] at hk
      rw [if_pos h1, h2, h7]
      split at hk
      · next el =>
        split at hk
        · next ew =>
          rw [if_pos (by rw [h3, ew, h4, h6]; simp only [Bool.and_true, Bool.true_and]; exact el)]
          exact zcl_snd K h9 hk hC
        · cases hk
      · cases hk
    · next p =>
      simp only [Bool.and_eq_true, Bool.or_eq_true] at h
      simp only [zopK, Bool.cond_eq_ite, zcb_ite] at hk
      rcases h with ((⟨h2, h3⟩ | ⟨h2, h3⟩) | ⟨h2, h3⟩) | ⟨h2, h3⟩
      · have h2 := of_decide_eq_true h2
        obtain ⟨h2, h4⟩ := h2
        subst h2
        rw [h4, if_neg (by omega), if_pos (by omega)]
        split at hk <;> first | cases hk | skip
        all_goals (first | (rename_i heq; cases heq) | skip)
        split at hk
        · next ew =>
          simp only [zprim]
          rw [if_pos (by rw [h3, ew]; rfl)]
          exact hC _ _ _ _ hk
        · cases hk
      · have h2 := of_decide_eq_true h2
        obtain ⟨h2, h4⟩ := h2
        subst h2
        rw [h4, if_neg (by omega), if_pos (by omega)]
        split at hk <;> first | cases hk | skip
        all_goals (first | (rename_i heq; cases heq) | skip)
        split at hk
        · next ew =>
          simp only [zprim]
          rw [if_pos (by rw [h3, ew]; rfl)]
          exact hC _ _ _ _ hk
        · cases hk
      · have h2 := of_decide_eq_true h2
        obtain ⟨h2, h4⟩ := h2
        subst h2
        rw [h4, if_neg (by omega), if_pos (by omega)]
        split at hk <;> first | cases hk | skip
        all_goals (first | (rename_i heq; cases heq) | skip)
        split at hk
        · next ew =>
          split at hk
          · next e3 =>
            simp only [zprim]
            rw [if_pos (by rw [h3, ew]; rfl), if_pos e3]
            exact hC _ _ _ _ hk
          · cases hk
        · cases hk
      · have h2 := of_decide_eq_true h2
        obtain ⟨h2, h4⟩ := h2
        subst h2
        rw [h4, if_neg (by omega), if_pos (by omega)]
        split at hk <;> first | cases hk | skip
        all_goals (first | (rename_i heq; cases heq) | skip)
        split at hk
        · next ew =>
          split at hk
          · next e3 =>
            have e4 := (Bool.and_eq_true_iff.mp e3).1
            simp only [zprim]
            rw [if_pos (by rw [h3, ew]; rfl), if_neg (by rw [zseg_tag e4 100 (by omega)]; exact Bool.false_ne_true), if_pos e3]
            exact hC _ _ _ _ hk
          · cases hk
        · cases hk
    · cases h
set_option maxHeartbeats 4000000 in
theorem zop_ok {mi pc : Nat} {i o : Instr} {d : Nat × Nat × Nat × Nat} {ls : zLs} {st : List Value} {σ : zM} {k : zLs → List Value → zM → Option zR} {r : zR} (K : Nat → zLs → List Value → zM → Option zR) (h : zokop mi i o d = true) (hk : zopK o d ls st σ k = some r) (hC : ∀ ls st σ r, k ls st σ = some r → K (pc + zinc i) ls st σ = some r) :
    zint K zcall (zex mi pc i ls st σ) = some r := by
  cases i with
  | iconst n =>
    simp only [zokop] at h
    split at h
    · have h1 := of_decide_eq_true h
      subst h1
      exact hC _ _ _ _ hk
    · cases h
  | bipush n =>
    simp only [zokop] at h
    split at h
    · have h1 := of_decide_eq_true h
      refine hC _ _ _ _ ?_
      rw [h1]
      exact hk
    · cases h
  | sipush n =>
    simp only [zokop] at h
    split at h
    · have h1 := of_decide_eq_true h
      refine hC _ _ _ _ ?_
      rw [h1]
      exact hk
    · cases h
  | lconst n =>
    simp only [zokop] at h
    split at h
    · have h1 := of_decide_eq_true h
      refine hC _ _ _ _ ?_
      rw [h1]
      exact hk
    · cases h
  | ldc ix => exact zldc_ok h hk K hC
  | ldc_w ix => exact zldc_ok h hk K hC
  | ldc2_w ix =>
    simp only [zokop] at h
    simp only [zex]
    cases e : zLk (zKJ (zOC mi)) ix with
    | some v =>
      rw [e] at h
      simp only at h ⊢
      split at h
      · have h1 := of_decide_eq_true h
        subst h1
        exact hC _ _ _ _ hk
      · cases h
    | none =>
      rw [e] at h
      cases h
  | iload_n j =>
    simp only [zokop] at h
    split at h
    · have h1 := of_decide_eq_true h
      subst h1
      simp only [zopK, Bool.cond_eq_ite, zcb_ite] at hk
      simp only [zex, zldI]
      split at hk
      · next x e =>
        rw [e]
        exact hC _ _ _ _ hk
      · cases hk
    · cases h
  | istore_n j =>
    simp only [zokop] at h
    split at h
    · have h1 := of_decide_eq_true h
      subst h1
      simp only [zopK, Bool.cond_eq_ite, zcb_ite] at hk
      simp only [zex, zstI]
      split at hk
      · next e =>
        have e9 := (List.getElem?_eq_some_iff.mp e).1
        simp only [if_pos e9]
        exact hC _ _ _ _ hk
      · cases hk
    · cases h
  | iload j =>
    simp only [zokop] at h
    split at h
    · have h1 := of_decide_eq_true h
      subst h1
      simp only [zopK, Bool.cond_eq_ite, zcb_ite] at hk
      simp only [zex, zldI]
      split at hk
      · next x e =>
        rw [e]
        exact hC _ _ _ _ hk
      · cases hk
    · cases h
  | istore j =>
    simp only [zokop] at h
    split at h
    · have h1 := of_decide_eq_true h
      subst h1
      simp only [zopK, Bool.cond_eq_ite, zcb_ite] at hk
      simp only [zex, zstI]
      split at hk
      · next e =>
        have e9 := (List.getElem?_eq_some_iff.mp e).1
        simp only [if_pos e9]
        exact hC _ _ _ _ hk
      · cases hk
    · cases h
  | lload_n j =>
    simp only [zokop] at h
    split at h
    · have h1 := of_decide_eq_true h
      subst h1
      simp only [zopK, Bool.cond_eq_ite, zcb_ite] at hk
      simp only [zex, zldJ]
      split at hk
      · next x e =>
        rw [e]
        exact hC _ _ _ _ hk
      · cases hk
    · cases h
  | lstore_n j =>
    simp only [zokop] at h
    split at h
    · have h1 := of_decide_eq_true h
      subst h1
      simp only [zopK, Bool.cond_eq_ite, zcb_ite] at hk
      simp only [zex, zstJ]
      split at hk
      · next e =>
        have e9 := (List.getElem?_eq_some_iff.mp e).1
        simp only [if_pos e9]
        exact hC _ _ _ _ hk
      · cases hk
    · cases h
  | lload j =>
    simp only [zokop] at h
    split at h
    · have h1 := of_decide_eq_true h
      subst h1
      simp only [zopK, Bool.cond_eq_ite, zcb_ite] at hk
      simp only [zex, zldJ]
      split at hk
      · next x e =>
        rw [e]
        exact hC _ _ _ _ hk
      · cases hk
    · cases h
  | lstore j =>
    simp only [zokop] at h
    split at h
    · have h1 := of_decide_eq_true h
      subst h1
      simp only [zopK, Bool.cond_eq_ite, zcb_ite] at hk
      simp only [zex, zstJ]
      split at hk
      · next e =>
        have e9 := (List.getElem?_eq_some_iff.mp e).1
        simp only [if_pos e9]
        exact hC _ _ _ _ hk
      · cases hk
    · cases h
  | aload_n j =>
    simp only [zokop] at h
    split at h
    · have h1 := of_decide_eq_true h
      subst h1
      simp only [zopK, Bool.cond_eq_ite, zcb_ite] at hk
      simp only [zex, zldA]
      split at hk
      · next x e =>
        rw [e]
        exact hC _ _ _ _ hk
      · cases hk
    · cases h
  | astore_n j =>
    simp only [zokop] at h
    split at h
    · have h1 := of_decide_eq_true h
      subst h1
      simp only [zopK, Bool.cond_eq_ite, zcb_ite] at hk
      simp only [zex, zstA]
      split at hk
      · next e =>
        have e9 := (List.getElem?_eq_some_iff.mp e).1
        simp only [if_pos e9]
        exact hC _ _ _ _ hk
      · cases hk
    · cases h
  | aload j =>
    simp only [zokop] at h
    split at h
    · have h1 := of_decide_eq_true h
      subst h1
      simp only [zopK, Bool.cond_eq_ite, zcb_ite] at hk
      simp only [zex, zldA]
      split at hk
      · next x e =>
        rw [e]
        exact hC _ _ _ _ hk
      · cases hk
    · cases h
  | astore j =>
    simp only [zokop] at h
    split at h
    · have h1 := of_decide_eq_true h
      subst h1
      simp only [zopK, Bool.cond_eq_ite, zcb_ite] at hk
      simp only [zex, zstA]
      split at hk
      · next e =>
        have e9 := (List.getElem?_eq_some_iff.mp e).1
        simp only [if_pos e9]
        exact hC _ _ _ _ hk
      · cases hk
    · cases h
  | iinc j n =>
    simp only [zokop] at h
    split at h
    · have h1 := of_decide_eq_true h
      obtain ⟨h1, h2⟩ := h1
      subst h1
      subst h2
      simp only [zopK, Bool.cond_eq_ite, zcb_ite] at hk
      simp only [zex]
      split at hk
      · next x e =>
        rw [e]
        exact hC _ _ _ _ hk
      · cases hk
    · cases h
  | iadd =>
    simp only [zokop] at h
    split at h
    · simp only [zopK, Bool.cond_eq_ite, zcb_ite] at hk
      split at hk
      · exact hC _ _ _ _ hk
      · cases hk
    · cases h
  | isub =>
    simp only [zokop] at h
    split at h
    · simp only [zopK, Bool.cond_eq_ite, zcb_ite] at hk
      split at hk
      · exact hC _ _ _ _ hk
      · cases hk
    · cases h
  | imul =>
    simp only [zokop] at h
    split at h
    · simp only [zopK, Bool.cond_eq_ite, zcb_ite] at hk
      split at hk
      · exact hC _ _ _ _ hk
      · cases hk
    · cases h
  | iand =>
    simp only [zokop] at h
    split at h
    · simp only [zopK, Bool.cond_eq_ite, zcb_ite] at hk
      split at hk
      · exact hC _ _ _ _ hk
      · cases hk
    · cases h
  | ior =>
    simp only [zokop] at h
    split at h
    · simp only [zopK, Bool.cond_eq_ite, zcb_ite] at hk
      split at hk
      · exact hC _ _ _ _ hk
      · cases hk
    · cases h
  | ixor =>
    simp only [zokop] at h
    split at h
    · simp only [zopK, Bool.cond_eq_ite, zcb_ite] at hk
      split at hk
      · exact hC _ _ _ _ hk
      · cases hk
    · cases h
  | ishl =>
    simp only [zokop] at h
    split at h
    · simp only [zopK, Bool.cond_eq_ite, zcb_ite] at hk
      split at hk
      · exact hC _ _ _ _ hk
      · cases hk
    · cases h
  | ishr =>
    simp only [zokop] at h
    split at h
    · simp only [zopK, Bool.cond_eq_ite, zcb_ite] at hk
      split at hk
      · exact hC _ _ _ _ hk
      · cases hk
    · cases h
  | idiv =>
    simp only [zokop] at h
    split at h
    · simp only [zopK, Bool.cond_eq_ite, zcb_ite] at hk
      split at hk
      · split at hk
        · cases hk
        · next e =>
          simp only [zex, if_neg e]
          exact hC _ _ _ _ hk
      · cases hk
    · cases h
  | irem =>
    simp only [zokop] at h
    split at h
    · simp only [zopK, Bool.cond_eq_ite, zcb_ite] at hk
      split at hk
      · split at hk
        · cases hk
        · next e =>
          simp only [zex, if_neg e]
          exact hC _ _ _ _ hk
      · cases hk
    · cases h
  | ladd =>
    simp only [zokop] at h
    split at h
    · simp only [zopK, Bool.cond_eq_ite, zcb_ite] at hk
      split at hk
      · exact hC _ _ _ _ hk
      · cases hk
    · cases h
  | lsub =>
    simp only [zokop] at h
    split at h
    · simp only [zopK, Bool.cond_eq_ite, zcb_ite] at hk
      split at hk
      · exact hC _ _ _ _ hk
      · cases hk
    · cases h
  | lmul =>
    simp only [zokop] at h
    split at h
    · simp only [zopK, Bool.cond_eq_ite, zcb_ite] at hk
      split at hk
      · exact hC _ _ _ _ hk
      · cases hk
    · cases h
  | land =>
    simp only [zokop] at h
    split at h
    · simp only [zopK, Bool.cond_eq_ite, zcb_ite] at hk
      split at hk
      · exact hC _ _ _ _ hk
      · cases hk
    · cases h
  | lor =>
    simp only [zokop] at h
    split at h
    · simp only [zopK, Bool.cond_eq_ite, zcb_ite] at hk
      split at hk
      · exact hC _ _ _ _ hk
      · cases hk
    · cases h
  | ldiv =>
    simp only [zokop] at h
    split at h
    · simp only [zopK, Bool.cond_eq_ite, zcb_ite] at hk
      split at hk
      · split at hk
        · cases hk
        · next e =>
          simp only [zex, if_neg e]
          exact hC _ _ _ _ hk
      · cases hk
    · cases h
  | lrem =>
    simp only [zokop] at h
    split at h
    · simp only [zopK, Bool.cond_eq_ite, zcb_ite] at hk
      split at hk
      · split at hk
        · cases hk
        · next e =>
          simp only [zex, if_neg e]
          exact hC _ _ _ _ hk
      · cases hk
    · cases h
  | lshl =>
    simp only [zokop] at h
    split at h
    · simp only [zopK, Bool.cond_eq_ite, zcb_ite] at hk
      split at hk
      · exact hC _ _ _ _ hk
      · cases hk
    · cases h
  | lshr =>
    simp only [zokop] at h
    split at h
    · simp only [zopK, Bool.cond_eq_ite, zcb_ite] at hk
      split at hk
      · exact hC _ _ _ _ hk
      · cases hk
    · cases h
  | lcmp =>
    simp only [zokop] at h
    split at h
    · simp only [zopK, Bool.cond_eq_ite, zcb_ite] at hk
      split at hk
      · exact hC _ _ _ _ hk
      · cases hk
    · cases h
  | i2l =>
    simp only [zokop] at h
    split at h
    · simp only [zopK, Bool.cond_eq_ite, zcb_ite] at hk
      split at hk
      · exact hC _ _ _ _ hk
      · cases hk
    · cases h
  | l2i =>
    simp only [zokop] at h
    split at h
    · simp only [zopK, Bool.cond_eq_ite, zcb_ite] at hk
      split at hk
      · exact hC _ _ _ _ hk
      · cases hk
    · cases h
  | i2b =>
    simp only [zokop] at h
    split at h
    · simp only [zopK, Bool.cond_eq_ite, zcb_ite] at hk
      split at hk
      · exact hC _ _ _ _ hk
      · cases hk
    · cases h
  | i2s =>
    simp only [zokop] at h
    split at h
    · simp only [zopK, Bool.cond_eq_ite, zcb_ite] at hk
      split at hk
      · exact hC _ _ _ _ hk
      · cases hk
    · cases h
  | dup =>
    simp only [zokop] at h
    split at h
    · simp only [zopK, Bool.cond_eq_ite, zcb_ite] at hk
      split at hk
      · exact hC _ _ _ _ hk
      · exact hC _ _ _ _ hk
      · cases hk
    · cases h
  | dup2 =>
    simp only [zokop] at h
    split at h
    · simp only [zopK, Bool.cond_eq_ite, zcb_ite] at hk
      split at hk
      · exact hC _ _ _ _ hk
      · cases hk
    · cases h
  | pop =>
    simp only [zokop] at h
    split at h
    · simp only [zopK, Bool.cond_eq_ite, zcb_ite] at hk
      split at hk
      · exact hC _ _ _ _ hk
      · cases hk
    · cases h
  | arraylength =>
    simp only [zokop] at h
    split at h
    · simp only [zopK, Bool.cond_eq_ite, zcb_ite] at hk
      split at hk
      · next a rest =>
        simp only [zex]
        split at hk
        · split at hk
          · next e =>
            have e := of_decide_eq_true e
            rw [if_pos e]
            exact hC _ _ _ _ hk
          · cases hk
        · split at hk
          · next e =>
            cases e2 : zsh[a]? with
            | none => simp only [zrow, e2] at e; cases e
            | some q =>
              have hlt := zsh_lt e2
              simp only [zrow, e2, decide_eq_true_eq] at e
              simp only [zlng, e2] at hk
              rw [if_neg (by intro hh; subst hh; exact absurd hlt (by decide))]
              simp only [if_pos e]
              exact hC _ _ _ _ hk
          · cases hk
      · cases hk
    · cases h
  | iaload =>
    simp only [zokop] at h
    split at h
    · simp only [zopK, Bool.cond_eq_ite, zcb_ite] at hk
      split at hk
      · simp only [zex]
        split at hk
        · split at hk
          · next e =>
            have e := of_decide_eq_true e
            rw [if_pos e]
            split at hk
            · next e2 =>
              rw [if_pos e2]
              exact hC _ _ _ _ hk
            · cases hk
          · cases hk
        · split at hk
          · next e =>
            have hlt := (zarr_tag e).1
            rw [if_neg (by intro hh; subst hh; exact absurd hlt (by decide)), if_pos e]
            exact hC _ _ _ _ hk
          · cases hk
      · cases hk
    · cases h
  | baload =>
    simp only [zokop] at h
    split at h
    · simp only [zopK, Bool.cond_eq_ite, zcb_ite] at hk
      split at hk
      · simp only [zex]
        split at hk
        · split at hk
          · next e =>
            rw [if_pos e]
            exact hC _ _ _ _ hk
          · cases hk
        · split at hk
          · next e =>
            rw [if_neg (by rw [(zarr_tag e).2 101 (by omega)]; exact Bool.false_ne_true), if_pos e]
            exact hC _ _ _ _ hk
          · cases hk
      · cases hk
    · cases h
  | laload =>
    simp only [zokop] at h
    split at h
    · simp only [zopK, Bool.cond_eq_ite, zcb_ite] at hk
      split at hk
      · split at hk
        · next e =>
          simp only [zex, if_pos e]
          exact hC _ _ _ _ hk
        · cases hk
      · cases hk
    · cases h
  | aaload =>
    simp only [zokop] at h
    split at h
    · simp only [Bool.and_eq_true, decide_eq_true_eq] at h
      simp only [zopK, Bool.cond_eq_ite, zcb_ite] at hk
      split at hk
      · split at hk
        · next e =>
          simp only [zex]
          have hne : ∀ u, u ≠ d.1 → ∀ j, ¬ zarr _ u j = true := fun u hu j => by rw [(zarr_tag e).2 u hu j]; exact Bool.false_ne_true
          have h5 : d.1 = 104 ∨ d.1 = 105 ∨ d.1 = 106 ∨ d.1 = 107 ∨ d.1 = 108 := by omega
          rcases h5 with h5 | h5 | h5 | h5 | h5
          · rw [h5] at e hk
            rw [if_pos e]
            exact hC _ _ _ _ hk
          · rw [if_neg (hne 104 (by omega) _)]
            rw [h5] at e hk
            rw [if_pos e]
            exact hC _ _ _ _ hk
          · rw [if_neg (hne 104 (by omega) _), if_neg (hne 105 (by omega) _)]
            rw [h5] at e hk
            rw [if_pos e]
            exact hC _ _ _ _ hk
          · rw [if_neg (hne 104 (by omega) _), if_neg (hne 105 (by omega) _), if_neg (hne 106 (by omega) _)]
            rw [h5] at e hk
            rw [if_pos e]
            exact hC _ _ _ _ hk
          · rw [if_neg (hne 104 (by omega) _), if_neg (hne 105 (by omega) _), if_neg (hne 106 (by omega) _), if_neg (hne 107 (by omega) _)]
            rw [h5] at e hk
            rw [if_pos e]
            exact hC _ _ _ _ hk
        · cases hk
      · cases hk
    · cases h
  | iastore =>
    simp only [zokop] at h
    split at h
    · simp only [zopK, Bool.cond_eq_ite, zcb_ite] at hk
      split at hk
      · split at hk
        · next e =>
          simp only [zex, if_pos e]
          exact hC _ _ _ _ hk
        · cases hk
      · cases hk
    · cases h
  | lastore =>
    simp only [zokop] at h
    split at h
    · simp only [zopK, Bool.cond_eq_ite, zcb_ite] at hk
      split at hk
      · split at hk
        · next e =>
          simp only [zex, if_pos e]
          exact hC _ _ _ _ hk
        · cases hk
      · cases hk
    · cases h
  | bastore =>
    simp only [zokop] at h
    split at h
    · simp only [zopK, Bool.cond_eq_ite, zcb_ite] at hk
      split at hk
      · simp only [zex]
        split at hk
        · split at hk
          · next e =>
            rw [if_pos e]
            exact hC _ _ _ _ hk
          · cases hk
        · split at hk
          · next e =>
            rw [if_neg (by rw [(zarr_tag e).2 101 (by omega)]; exact Bool.false_ne_true), if_pos e]
            exact hC _ _ _ _ hk
          · cases hk
      · cases hk
    · cases h
  | getfield ix =>
    replace h : zgfK mi ix o d = true := h
    unfold zgfK at h
    simp only [zex]
    cases e : zLk (zFL (zOC mi)) ix with
    | none => rw [e] at h; cases h
    | some q =>
      rw [e] at h
      simp only at h
      split at h
      · next c =>
        simp only [Bool.and_eq_true] at h
        obtain ⟨h1, h2⟩ := h
        have h1 := of_decide_eq_true h1
        simp only [zopK, Bool.cond_eq_ite, zcb_ite] at hk
        split at hk
        · next a rest =>
          split at hk
          · next ho =>
            simp only
            rw [h1, if_pos ho]
            split at hk
            · next hd =>
              rw [hd] at h2
              simp only [Bool.and_eq_true, decide_eq_true_eq] at h2
              obtain ⟨h3, h4⟩ := h2
              rw [h3]
              unfold zval
              rcases h4 with h4 | h4 <;> rw [h4] <;> exact hC _ _ _ _ hk
            · next hd =>
              rw [hd] at h2
              simp only [Bool.and_eq_true, decide_eq_true_eq] at h2
              obtain ⟨h3, h4⟩ := h2
              rw [h3]
              unfold zval
              rw [h4]
              exact hC _ _ _ _ hk
            · next hd =>
              rw [hd] at h2
              simp only [Bool.and_eq_true, decide_eq_true_eq] at h2
              obtain ⟨h3, h4⟩ := h2
              unfold zval zrf
              rw [h3, h4]
              exact hC _ _ _ _ hk
            · next hd0 hd1 hd2 =>
              split at h2
              · next hd => exact absurd hd hd0
              · next hd => exact absurd hd hd1
              · next hd => exact absurd hd hd2
              · simp only [Bool.and_eq_true, decide_eq_true_eq] at h2
                obtain ⟨h3, h4⟩ := h2
                unfold zval zrf
                rw [h3, h4]
                exact hC _ _ _ _ hk
          · cases hk
        · cases hk
      · cases h
  | putfield ix =>
    replace h : zpfK mi ix o d = true := h
    unfold zpfK at h
    simp only [zex]
    cases e : zLk (zFL (zOC mi)) ix with
    | none => rw [e] at h; cases h
    | some q =>
      rw [e] at h
      simp only at h
      split at h
      · next c =>
        simp only [Bool.and_eq_true] at h
        obtain ⟨h1, h3, h2, h4⟩ := h
        have h1 := of_decide_eq_true h1
        have h3 := of_decide_eq_true h3
        cases e2 : zCl[c]? with
        | none => rw [e2] at h2; cases h2
        | some w =>
          rw [e2] at h2
          have hf : ¬ (w.2.1 d.2.1).2.2.2 = true := by
            intro hh
            simp only [hh] at h2
            cases h2
          simp only [zopK, Bool.cond_eq_ite, zcb_ite] at hk
          split at hk
          · next hd =>
            rw [hd] at h4
            have h4 := of_decide_eq_true h4
            split at hk
            · split at hk
              · next ho =>
                simp only
                rw [h1, if_pos ho, e2, h3]
                simp only [if_neg hf]
                rw [h4]
                exact hC _ _ _ _ hk
              · cases hk
            · cases hk
          · next hd =>
            rw [hd] at h4
            have h4 := of_decide_eq_true h4
            split at hk
            · split at hk
              · next ho =>
                simp only
                rw [h1, if_pos ho, e2, h3]
                simp only [if_neg hf]
                rw [h4]
                exact hC _ _ _ _ hk
              · cases hk
            · cases hk
          · next hd0 hd1 =>
            split at h4
            · next hd => exact absurd hd hd0
            · next hd => exact absurd hd hd1
            · have h4 := of_decide_eq_true h4
              split at hk
              · split at hk
                · next ho =>
                  split at hk
                  · next hz =>
                    simp only
                    rw [h1, if_pos ho, e2, h3]
                    simp only [if_neg hf]
                    rw [h4]
                    simp only [if_pos hz]
                    exact hC _ _ _ _ hk
                  · cases hk
                · cases hk
              · cases hk
      · cases h
  | invokevirtual ix =>
    replace h : zcallK mi ix o d = true := h
    unfold zcallK at h
    simp only [zex]
    cases e : zLk (zMK (zOC mi)) ix with
    | none => rw [e] at h; cases h
    | some q =>
      rw [e] at h
      simp only at h ⊢
      split at h
      · next mj =>
        simp only [Bool.and_eq_true] at h
        obtain ⟨h1, h2, h3, h4, h5, h6, h7, h8, h9⟩ := h
        have h1 := of_decide_eq_true h1
        have h2 := of_decide_eq_true h2
        have h7 := of_decide_eq_true h7
        have h8 := of_decide_eq_true h8
        simp only [zopK, Bool.cond_eq_ite, zcb_ite] at hk
        rw [if_pos h1, h2, h7]
        split at hk
        · next a as ea =>
          split at hk
          · next el =>
            split at hk
            · next ew =>
              split at hk
              · next eo =>
                rw [ea]
                simp only
                rw [if_pos (by rw [h8, eo, h3, ew, h4, h5, h6]; simp only [Bool.and_true, Bool.true_and]; exact el)]
                exact zcl_snd K h9 hk hC
              · cases hk
            · cases hk
          · cases hk
        · cases hk
      · next p =>
        simp only [Bool.and_eq_true, Bool.or_eq_true] at h
        obtain ⟨h1, h2⟩ := h
        have h1 := of_decide_eq_true h1
        simp only [zopK, Bool.cond_eq_ite, zcb_ite] at hk
        rcases h2 with ⟨h2, h3⟩ | ⟨h2, h3⟩
        · have h2 := of_decide_eq_true h2
          subst h2
          rw [if_neg (by omega), if_pos (by omega), ← h1]
          split at hk <;> first | cases hk | skip
          all_goals (first | (rename_i heq; cases heq) | skip)
          split at hk
          · next ew =>
            split at hk
            · next e3 =>
              simp only [zprim]
              rw [if_pos (by rw [h3, ew]; rfl), if_pos e3]
              exact hC _ _ _ _ hk
            · cases hk
          · cases hk
        · have h2 := of_decide_eq_true h2
          subst h2
          rw [if_neg (by omega), if_pos (by omega), ← h1]
          split at hk <;> first | cases hk | skip
          all_goals (first | (rename_i heq; cases heq) | skip)
          split at hk
          · next ew =>
            split at hk
            · next e3 =>
              simp only [zprim]
              rw [if_pos (by rw [h3, ew]; rfl), if_pos e3]
              exact hC _ _ _ _ hk
            · cases hk
          · cases hk
      · cases h
  | invokestatic ix => exact zcs_ok K h hk hC
  | _ => cases h
