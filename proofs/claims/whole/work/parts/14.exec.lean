theorem zsel_none {d : Nat} : ∀ {brs : List (Bool × Nat)}, (∀ b ∈ brs, b.1 = false) → zsel brs d = d
  | [], _ => rfl
  | b :: l, h => by
    unfold zsel
    rw [h b List.mem_cons_self, if_neg (by decide)]
    exact zsel_none (fun c hc => h c (List.mem_cons_of_mem _ hc))
theorem zsel_uniq {α : Type} {P : α → Prop} {dec : ∀ j, Decidable (P j)} {t : α → Nat} {d : Nat} {j0 : α} : ∀ {L : List α}, (∀ j ∈ L, P j → j = j0) → P j0 → j0 ∈ L → zsel (L.map (fun j => (@decide (P j) (dec j), t j))) d = t j0
  | [], _, _, h => by cases h
  | a :: L, hu, hp, hm => by
    rw [List.map_cons]
    unfold zsel
    by_cases ha : P a
    · rw [if_pos (decide_eq_true ha)]
      rw [hu a List.mem_cons_self ha]
    · rw [if_neg (fun q => ha (of_decide_eq_true q))]
      rcases List.mem_cons.mp hm with q | q
      · exact absurd (q ▸ hp) ha
      · exact zsel_uniq (fun j hj => hu j (List.mem_cons_of_mem _ hj)) hp q
theorem zsel_look {pc : Nat} {dflt : Int} {x : Int32} : ∀ (ps : List (Int × Int)), zsel (ps.map (fun q => (decide (x.toInt = q.1), ztg pc q.2))) (ztg pc dflt) = ztg pc (Op.lookupswitch.offset ps dflt x.toInt)
  | [] => rfl
  | (a, b) :: l => by
    rw [List.map_cons, Op.lookupswitch.offset_cons]
    unfold zsel
    by_cases h : x.toInt = a
    · rw [if_pos (decide_eq_true h), if_pos h.symm]
    · rw [if_neg (fun q => h (of_decide_eq_true q)), if_neg (fun q => h q.symm)]
      exact zsel_look l
theorem zoff_in {pc : Nat} {dflt : Int} {x : Int32} (hd : zto pc dflt = true) : ∀ (ps : List (Int × Int)), ps.all (fun q => zto pc q.2) = true → zto pc (Op.lookupswitch.offset ps dflt x.toInt) = true
  | [], _ => hd
  | (a, b) :: l, h => by
    rw [Op.lookupswitch.offset_cons]
    simp only [List.all_cons, Bool.and_eq_true] at h
    by_cases q : a = x.toInt
    · rw [if_pos q]; exact h.1
    · rw [if_neg q]; exact zoff_in hd l h.2
theorem zfty0 {ci k : Nat} (h : zfty ci k = 0) : zTy ci k = .int := by
  unfold zfty at h
  split at h <;> first | assumption | cases h
theorem zfty3 {ci k : Nat} (h : zfty ci k = 3) : zTy ci k = .boolean := by
  unfold zfty at h
  split at h <;> first | assumption | cases h
theorem zfty1 {ci k : Nat} (h : zfty ci k = 1) : zTy ci k = .long := by
  unfold zfty at h
  split at h <;> first | assumption | cases h
theorem zval_sI {σ : zM} {ci k a j : Nat} {x : Int32} (h : j ≠ k) : zval (zsI σ a k x) ci j a = zval σ ci j a := by
  have e1 : zI (zsI σ a k x) a j = zI σ a j := by simp [zI, zsI, h]
  unfold zval
  rw [e1, zJ_sI]
theorem zval_sJ {σ : zM} {ci k a j : Nat} {x : Int64} (h : j ≠ k) : zval (zsJ σ a k x) ci j a = zval σ ci j a := by
  have e1 : zJ (zsJ σ a k x) a j = zJ σ a j := by simp [zJ, zsJ, h]
  unfold zval
  rw [e1, zI_sJ]
theorem zval_0 {σ : zM} {G : zG} {ci k a : Nat} {x : Int32} (h : zfty ci k = 0) : Value.int x = zrv G (zval (zsI σ a k x) ci k a) := by
  unfold zval
  rw [h]
  simp [zI, zsI, zrv]
theorem zval_3 {σ : zM} {G : zG} {ci k a : Nat} {x : Int32} (h : zfty ci k = 3) : Value.int x = zrv G (zval (zsI σ a k x) ci k a) := by
  unfold zval
  rw [h]
  simp [zI, zsI, zrv]
theorem zval_1 {σ : zM} {G : zG} {ci k a : Nat} {x : Int64} (h : zfty ci k = 1) : Value.long x = zrv G (zval (zsJ σ a k x) ci k a) := by
  unfold zval
  rw [h]
  simp [zJ, zsJ, zrv]
theorem zfit_b {x : Int32} (h : vp_nar .boolean x = x) : fits .boolean (.int x) = true := by
  have h1 : x &&& 1 = x := h
  obtain ⟨j, hj, e⟩ := pk_andE x (m := 1) 1 (by decide)
  rw [h1] at e
  match j, hj, e with
  | 0, _, e => rw [e]; rfl
  | 1, _, e => rw [e]; rfl
theorem znar_b {x : Int32} (h : vp_nar .boolean x = x) : narrow .boolean (.int x) = .int x := by
  unfold vp_nar at h
  split at h
  · next y e => rw [e, h]
  · next e => exact absurd rfl (e _)
section ZEX
variable {G : zG} {mi pc : Nat} {ls : zLs} {st : List Value} {σ : zM} {o : zO}
set_option maxHeartbeats 4000000 in
theorem zex_ok {i : Instr} {len : Nat} (hdec : decode (zB mi) pc = .ok (i, len)) (hlen : zlen i len = true) (h : zex mi pc i ls st σ = some o) : zSO G mi pc ls st σ o := by
  cases i
  case iconst n =>
    obtain rfl : len = 1 := by simpa [zlen] using hlen
    simp only [zex] at h
    exact zS_pure (fun _ hC _ _ _ k => lv_iconst hC.1 hC.2.1 hdec rfl k) h
  case bipush n =>
    obtain rfl : len = 2 := by simpa [zlen] using hlen
    simp only [zex] at h
    exact zS_pure (fun _ hC _ _ _ k => lv_bipush hC.1 hC.2.1 hdec rfl k) h
  case sipush n =>
    obtain rfl : len = 3 := by simpa [zlen] using hlen
    simp only [zex] at h
    exact zS_pure (fun _ hC _ _ _ k => lv_sipush hC.1 hC.2.1 hdec rfl k) h
  case lconst n =>
    obtain rfl : len = 1 := by simpa [zlen] using hlen
    simp only [zex] at h
    exact zS_pure (fun _ hC _ _ _ k => lv_lconst hC.1 hC.2.1 hdec rfl k) h
  case ldc ix =>
    obtain rfl : len = 2 := by simpa [zlen] using hlen
    simp only [zex] at h
    split at h
    · next v e => exact zS_pure (fun _ hC _ _ _ k => lv_ldc hC.1 hC.2.1 hC.2.2.2.2.1 (hC.2.2.2.2.2.1 _ (zKI_in e)) hdec k) h
    · split at h
      · next v e =>
        refine zS_pure (fun _ hC _ _ _ k => va_ldcS (own := zCNm (zOC mi)) (tx := zSTR.getD v.1 "") (q := zad G (1000000 + v.1)) hC.1 hC.2.1 hC.2.2.2.2.1 ?_ hdec k) h
        rw [zad_str G (by have := zKS_lt e; omega)]
        exact hC.2.2.2.2.2.2.2.2.2.2.2.2.2.1 _ _ _ e
      · cases h
  case ldc_w ix =>
    obtain rfl : len = 3 := by simpa [zlen] using hlen
    simp only [zex] at h
    split at h
    · next v e => exact zS_pure (fun _ hC _ _ _ k => lv_ldcw hC.1 hC.2.1 hC.2.2.2.2.1 (hC.2.2.2.2.2.1 _ (zKI_in e)) hdec k) h
    · split at h
      · next v e =>
        refine zS_pure (fun _ hC _ _ _ k => zr_ldcwS (own := zCNm (zOC mi)) (tx := zSTR.getD v.1 "") (q := zad G (1000000 + v.1)) hC.1 hC.2.1 hC.2.2.2.2.1 ?_ hdec k) h
        rw [zad_str G (by have := zKS_lt e; omega)]
        exact hC.2.2.2.2.2.2.2.2.2.2.2.2.2.1 _ _ _ e
      · cases h
  case ldc2_w ix =>
    obtain rfl : len = 3 := by simpa [zlen] using hlen
    simp only [zex] at h
    split at h
    · next v e => exact zS_pure (fun _ hC _ _ _ k => lv_ldc2 hC.1 hC.2.1 hC.2.2.2.2.1 (hC.2.2.2.2.2.1 _ (zKJ_in e)) hdec k) h
    · cases h
  case iload_n n =>
    obtain rfl : len = 1 := by simpa [zlen] using hlen
    simp only [zex] at h
    exact zldI_ok (fun hx hb hl k => lv_iload_n hx hb hdec rfl hl k) h
  case iload n =>
    obtain rfl : len = 2 := by simpa [zlen] using hlen
    simp only [zex] at h
    exact zldI_ok (fun hx hb hl k => lv_iload hx hb hdec hl k) h
  case istore_n n =>
    obtain rfl : len = 1 := by simpa [zlen] using hlen
    simp only [zex] at h
    exact zstI_ok (fun hx hb hl hi k => lv_istore_n hx hb hdec rfl hl hi rfl k) h
  case istore n =>
    obtain rfl : len = 2 := by simpa [zlen] using hlen
    simp only [zex] at h
    exact zstI_ok (fun hx hb hl hi k => lv_istore hx hb hdec hl hi rfl k) h
  case lload_n n =>
    obtain rfl : len = 1 := by simpa [zlen] using hlen
    simp only [zex] at h
    exact zldJ_ok (fun hx hb hl k => lv_lload_n hx hb hdec rfl hl k) h
  case lload n =>
    obtain rfl : len = 2 := by simpa [zlen] using hlen
    simp only [zex] at h
    exact zldJ_ok (fun hx hb hl k => lv_lload hx hb hdec hl k) h
  case lstore_n n =>
    obtain rfl : len = 1 := by simpa [zlen] using hlen
    simp only [zex] at h
    exact zstJ_ok (fun hx hb hl hi k => lv_lstore_n hx hb hdec rfl hl hi rfl k) h
  case lstore n =>
    obtain rfl : len = 2 := by simpa [zlen] using hlen
    simp only [zex] at h
    exact zstJ_ok (fun hx hb hl hi k => lv_lstore hx hb hdec hl hi rfl k) h
  case aload_n n =>
    obtain rfl : len = 1 := by simpa [zlen] using hlen
    simp only [zex] at h
    exact zldA_ok (fun hx hb hl k => lv_aload_n hx hb hdec rfl hl k) h
  case aload n =>
    obtain rfl : len = 2 := by simpa [zlen] using hlen
    simp only [zex] at h
    exact zldA_ok (fun hx hb hl k => lv_aload hx hb hdec hl k) h
  case astore_n n =>
    obtain rfl : len = 1 := by simpa [zlen] using hlen
    simp only [zex] at h
    exact zstA_ok (fun hx hb hl hi k => lv_astore_n hx hb hdec rfl hl hi rfl k) h
  case astore n =>
    obtain rfl : len = 2 := by simpa [zlen] using hlen
    simp only [zex] at h
    exact zstA_ok (fun hx hb hl hi k => lv_astore hx hb hdec hl hi rfl k) h
  case iinc j n =>
    obtain rfl : len = 3 := by simpa [zlen] using hlen
    simp only [zex] at h
    split at h
    · next x e =>
      refine zS_local (fun hC hl k => ?_) h
      have hj : j < ls.length := (List.getElem?_eq_some_iff.mp e).1
      obtain ⟨q, hq⟩ := zlv_at (G := G) e
      exact lv_iinc (v := x + Int32.ofInt n) hC.1 hC.2.1 hdec (zhas_lv hl) hq rfl (by rw [← hl.2.2.1]; exact hj) rfl (fun lsB hB => k lsB (zhas_p1 (v := .int (x + Int32.ofInt n)) hl hj hB))
    · cases h
  case iadd =>
    obtain rfl : len = 1 := by simpa [zlen] using hlen
    simp only [zex] at h
    exact zbi_ok (fun hx hb k => lv_iadd hx hb hdec k) h
  case isub =>
    obtain rfl : len = 1 := by simpa [zlen] using hlen
    simp only [zex] at h
    exact zbi_ok (fun hx hb k => lv_isub hx hb hdec k) h
  case imul =>
    obtain rfl : len = 1 := by simpa [zlen] using hlen
    simp only [zex] at h
    exact zbi_ok (fun hx hb k => lv_imul hx hb hdec k) h
  case iand =>
    obtain rfl : len = 1 := by simpa [zlen] using hlen
    simp only [zex] at h
    exact zbi_ok (fun hx hb k => lv_iand hx hb hdec k) h
  case ior =>
    obtain rfl : len = 1 := by simpa [zlen] using hlen
    simp only [zex] at h
    exact zbi_ok (fun hx hb k => lv_ior hx hb hdec k) h
  case ixor =>
    obtain rfl : len = 1 := by simpa [zlen] using hlen
    simp only [zex] at h
    exact zbi_ok (fun hx hb k => lv_ixor hx hb hdec k) h
  case ishl =>
    obtain rfl : len = 1 := by simpa [zlen] using hlen
    simp only [zex] at h
    exact zbi_ok (fun hx hb k => lv_ishl hx hb hdec k) h
  case ishr =>
    obtain rfl : len = 1 := by simpa [zlen] using hlen
    simp only [zex] at h
    exact zbi_ok (fun hx hb k => lv_ishr hx hb hdec k) h
  case ladd =>
    obtain rfl : len = 1 := by simpa [zlen] using hlen
    simp only [zex] at h
    exact zbj_ok (fun hx hb k => lv_ladd hx hb hdec k) h
  case lsub =>
    obtain rfl : len = 1 := by simpa [zlen] using hlen
    simp only [zex] at h
    exact zbj_ok (fun hx hb k => lv_lsub hx hb hdec k) h
  case lmul =>
    obtain rfl : len = 1 := by simpa [zlen] using hlen
    simp only [zex] at h
    exact zbj_ok (fun hx hb k => lv_lmul hx hb hdec k) h
  case land =>
    obtain rfl : len = 1 := by simpa [zlen] using hlen
    simp only [zex] at h
    exact zbj_ok (fun hx hb k => lv_land hx hb hdec k) h
  case lor =>
    obtain rfl : len = 1 := by simpa [zlen] using hlen
    simp only [zex] at h
    exact zbj_ok (fun hx hb k => lv_lor hx hb hdec k) h
  case idiv =>
    obtain rfl : len = 1 := by simpa [zlen] using hlen
    simp only [zex] at h
    split at h
    · split at h
      · cases h
      · next hne => exact zS_pure (fun _ hC _ _ _ k => lv_idiv hC.1 hC.2.1 hdec hne k) h
    · cases h
  case irem =>
    obtain rfl : len = 1 := by simpa [zlen] using hlen
    simp only [zex] at h
    split at h
    · split at h
      · cases h
      · next hne => exact zS_pure (fun _ hC _ _ _ k => lv_irem hC.1 hC.2.1 hdec hne k) h
    · cases h
  case ldiv =>
    obtain rfl : len = 1 := by simpa [zlen] using hlen
    simp only [zex] at h
    split at h
    · split at h
      · cases h
      · next hne => exact zS_pure (fun _ hC _ _ _ k => lv_ldiv hC.1 hC.2.1 hdec hne k) h
    · cases h
  case lrem =>
    obtain rfl : len = 1 := by simpa [zlen] using hlen
    simp only [zex] at h
    split at h
    · split at h
      · cases h
      · next hne => exact zS_pure (fun _ hC _ _ _ k => lv_lrem hC.1 hC.2.1 hdec hne k) h
    · cases h
  case lshl =>
    obtain rfl : len = 1 := by simpa [zlen] using hlen
    simp only [zex] at h
    split at h
    · exact zS_pure (fun _ hC _ _ _ k => lv_lshl hC.1 hC.2.1 hdec rfl k) h
    · cases h
  case lshr =>
    obtain rfl : len = 1 := by simpa [zlen] using hlen
    simp only [zex] at h
    split at h
    · exact zS_pure (fun _ hC _ _ _ k => lv_lshr hC.1 hC.2.1 hdec rfl k) h
    · cases h
  case lcmp =>
    obtain rfl : len = 1 := by simpa [zlen] using hlen
    simp only [zex] at h
    split at h
    · exact zS_pure (fun _ hC _ _ _ k => W.lcmp hC.1 hC.2.1 hdec k) h
    · cases h
  case i2l =>
    obtain rfl : len = 1 := by simpa [zlen] using hlen
    simp only [zex] at h
    split at h
    · exact zS_pure (fun _ hC _ _ _ k => lv_i2l hC.1 hC.2.1 hdec rfl k) h
    · cases h
  case l2i =>
    obtain rfl : len = 1 := by simpa [zlen] using hlen
    simp only [zex] at h
    split at h
    · exact zS_pure (fun _ hC _ _ _ k => lv_l2i hC.1 hC.2.1 hdec rfl k) h
    · cases h
  case i2b =>
    obtain rfl : len = 1 := by simpa [zlen] using hlen
    simp only [zex] at h
    split at h
    · exact zS_pure (fun _ hC _ _ _ k => lv_i2b hC.1 hC.2.1 hdec rfl k) h
    · cases h
  case i2s =>
    obtain rfl : len = 1 := by simpa [zlen] using hlen
    simp only [zex] at h
    split at h
    · exact zS_pure (fun _ hC _ _ _ k => lv_i2s hC.1 hC.2.1 hdec rfl k) h
    · cases h
  case dup =>
    obtain rfl : len = 1 := by simpa [zlen] using hlen
    simp only [zex] at h
    split at h
    · split at h
      · next hc => exact zS_pure (fun _ hC _ _ _ k => lv_dup hC.1 hC.2.1 hdec (by rw [zrv_cat]; exact hc) k) h
      · cases h
    · cases h
  case dup2 =>
    obtain rfl : len = 1 := by simpa [zlen] using hlen
    simp only [zex] at h
    split at h
    · split at h
      · next hc => exact zS_pure (fun _ hC _ _ _ k => lv_dup2_11 hC.1 hC.2.1 hdec (by rw [zrv_cat]; exact hc.1) (by rw [zrv_cat]; exact hc.2) k) h
      · cases h
    · cases h
  case pop =>
    obtain rfl : len = 1 := by simpa [zlen] using hlen
    simp only [zex] at h
    split at h
    · split at h
      · next hc => exact zS_pure (fun _ hC _ _ _ k => lv_pop hC.1 hC.2.1 hdec (by rw [zrv_cat]; exact hc) k) h
      · cases h
    · cases h
  case ifCond cond off =>
    obtain rfl : len = 3 := by simpa [zlen] using hlen
    cases cond
    case eq =>
      simp only [zex] at h
      exact zif_ok (fun hx hb ht kt kf => lv_if_eq hx hb hdec ht (fun z => kt (decide_eq_true z)) (fun z => kf (fun q => z (of_decide_eq_true q)))) h
    case ne =>
      simp only [zex] at h
      exact zif_ok (fun hx hb ht kt kf => lv_if_ne hx hb hdec ht (fun z => kt (decide_eq_true z)) (fun z => kf (fun q => of_decide_eq_true q z))) h
    case lt =>
      simp only [zex] at h
      exact zif_ok (fun hx hb ht kt kf => lv_if_lt hx hb hdec ht (fun z => kt (decide_eq_true z)) (fun z => kf (fun q => z (of_decide_eq_true q)))) h
    case ge =>
      simp only [zex] at h
      exact zif_ok (fun hx hb ht kt kf => lv_if_ge hx hb hdec ht (fun z => kt (decide_eq_true z)) (fun z => kf (fun q => z (of_decide_eq_true q)))) h
    case gt =>
      simp only [zex] at h
      exact zif_ok (fun hx hb ht kt kf => lv_if_gt hx hb hdec ht (fun z => kt (decide_eq_true z)) (fun z => kf (fun q => z (of_decide_eq_true q)))) h
    case le =>
      simp only [zex] at h
      exact zif_ok (fun hx hb ht kt kf => lv_if_le hx hb hdec ht (fun z => kt (decide_eq_true z)) (fun z => kf (fun q => z (of_decide_eq_true q)))) h
  case if_icmp cond off =>
    obtain rfl : len = 3 := by simpa [zlen] using hlen
    cases cond
    case eq =>
      simp only [zex] at h
      exact zic_ok (fun hx hb ht kt kf => lv_icmp_eq hx hb hdec ht (fun z => kt (decide_eq_true z)) (fun z => kf (fun q => z (of_decide_eq_true q)))) h
    case ne =>
      simp only [zex] at h
      exact zic_ok (fun hx hb ht kt kf => lv_icmp_ne hx hb hdec ht (fun z => kt (decide_eq_true z)) (fun z => kf (fun q => of_decide_eq_true q z))) h
    case lt =>
      simp only [zex] at h
      exact zic_ok (fun hx hb ht kt kf => lv_icmp_lt hx hb hdec ht (fun z => kt (decide_eq_true z)) (fun z => kf (fun q => z (of_decide_eq_true q)))) h
    case ge =>
      simp only [zex] at h
      exact zic_ok (fun hx hb ht kt kf => lv_icmp_ge hx hb hdec ht (fun z => kt (decide_eq_true z)) (fun z => kf (fun q => z (of_decide_eq_true q)))) h
    case gt =>
      simp only [zex] at h
      exact zic_ok (fun hx hb ht kt kf => lv_icmp_gt hx hb hdec ht (fun z => kt (decide_eq_true z)) (fun z => kf (fun q => z (of_decide_eq_true q)))) h
    case le =>
      simp only [zex] at h
      exact zic_ok (fun hx hb ht kt kf => lv_icmp_le hx hb hdec ht (fun z => kt (decide_eq_true z)) (fun z => kf (fun q => z (of_decide_eq_true q)))) h
  case goto off =>
    obtain rfl : len = 3 := by simpa [zlen] using hlen
    simp only [zex] at h
    split at h
    · next ht => exact zS_pure (fun _ hC _ _ _ k => lv_goto hC.1 hC.2.1 hdec (zto_eq ht) k) h
    · cases h
  case tableswitch dflt lo hi offs =>
    simp only [zex] at h
    split at h
    · next x r =>
      split at h
      · next hc =>
        simp only [Bool.and_eq_true, decide_eq_true_eq] at hc
        obtain ⟨⟨h1, h2⟩, h3⟩ := hc
        cases h
        refine ⟨rfl, fun p l e R s m args below meth c H locs cells slots lsA Q hR hC hW hS hl kk => ?_⟩
        have k := kk H locs lsA hW hS hl
        by_cases hin : x.toInt < lo ∨ hi < x.toInt
        · refine lv_tableOut (tgt := ztg pc dflt) hC.1 hC.2.1 hdec hin (zto_eq h1) ?_
          rw [zsel_none (fun b hb => ?_)] at k
          · exact k
          · obtain ⟨j, hj, rfl⟩ := List.mem_map.mp hb
            have hj := List.mem_range.mp hj
            exact decide_eq_false (fun q => by omega)
        · have hj : (x.toInt - lo).toNat < offs.toList.length := by omega
          have ho : offs[(x.toInt - lo).toNat]? = some (offs.toList.getD (x.toInt - lo).toNat 0) := by
            rw [← Array.getElem?_toList, List.getD_eq_getElem?_getD, List.getElem?_eq_getElem hj]
            rfl
          refine lv_tableIn (tgt := ztg pc (offs.toList.getD (x.toInt - lo).toNat 0)) hC.1 hC.2.1 hdec (by omega) (by omega) ho (zto_eq ?_) ?_
          · refine List.all_eq_true.mp h2 _ ?_
            rw [List.getD_eq_getElem?_getD, List.getElem?_eq_getElem hj]
            exact List.getElem_mem hj
          · have e1 := zsel_uniq (P := fun j : Nat => x.toInt = lo + (j : Int)) (dec := fun j => inferInstance) (t := fun j => ztg pc (offs.toList.getD j 0)) (d := ztg pc dflt) (j0 := (x.toInt - lo).toNat) (L := List.range offs.toList.length) (fun j _ hj => by omega) (by omega) (List.mem_range.mpr hj)
            simp only at k
            rw [e1] at k
            exact k
      · cases h
    · cases h
  case lookupswitch dflt ps =>
    simp only [zex] at h
    split at h
    · next x r =>
      split at h
      · next hc =>
        simp only [Bool.and_eq_true] at hc
        obtain ⟨⟨h1, h2⟩, h3⟩ := hc
        cases h
        refine ⟨rfl, fun p l e R s m args below meth c H locs cells slots lsA Q hR hC hW hS hl kk => ?_⟩
        have k := kk H locs lsA hW hS hl
        simp only at k
        rw [zsel_look] at k
        exact lv_lookup hC.1 hC.2.1 hdec (by simpa using h3) rfl (zto_eq (zoff_in h1 _ h2)) k
      · cases h
    · cases h
  case getfield ix =>
    obtain rfl : len = 3 := by simpa [zlen] using hlen
    simp only [zex] at h
    split at h
    · next a r =>
      split at h
      · next q hq =>
        split at h
        · next ho => exact zS_pure (fun _ hC hW _ _ k => zr_get hC hW hdec hq ho k) h
        · cases h
      · cases h
    · cases h
  case putfield ix =>
    obtain rfl : len = 3 := by simpa [zlen] using hlen
    simp only [zex] at h
    split at h
    · next v a r =>
      split at h
      · next q hq =>
        split at h
        · next ho =>
          split at h
          · next cr hcr =>
            split at h
            · cases h
            · next hfin =>
              split at h
              · next x hz =>
                  refine zS_write (show _ from ?_) (fun _ hC hW hS _ k => ?_) h
                  · rfl
                  · exact zr_put (σ' := zsI σ a q.2.1 x) hC hW hS hdec hq ho hcr hfin (zfty0 hz) rfl rfl (zval_0 hz) (fun j hj => zval_sI hj) (fun j hj => ⟨zI_ne hj, rfl⟩) k
              · next x hz =>
                split at h
                · next hb =>
                    refine zS_write (show _ from ?_) (fun _ hC hW hS _ k => ?_) h
                    · rfl
                    · exact zr_put (σ' := zsI σ a q.2.1 x) hC hW hS hdec hq ho hcr hfin (zfty3 hz) (znar_b hb) (zfit_b hb) (zval_3 hz) (fun j hj => zval_sI hj) (fun j hj => ⟨zI_ne hj, rfl⟩) k
                · cases h
              · next x hz =>
                  refine zS_write (show _ from ?_) (fun _ hC hW hS _ k => ?_) h
                  · rfl
                  · exact zr_put (σ' := zsJ σ a q.2.1 x) hC hW hS hdec hq ho hcr hfin (zfty1 hz) rfl rfl (zval_1 hz) (fun j hj => zval_sJ hj) (fun j hj => ⟨rfl, zJ_ne hj⟩) k
              · cases h
          · cases h
        · cases h
      · cases h
    · cases h
  case arraylength =>
    obtain rfl : len = 1 := by simpa [zlen] using hlen
    simp only [zex] at h
    split at h
    · next a r =>
      split at h
      · next ha =>
        subst ha
        refine zS_pure (fun _ hC hW hS _ k => ?_) h
        have hX := hC.2.2.2.2.2.2.2.2.1
        have := va_slen (ls := _) (rest := r.map (zrv G)) hC.1 hC.2.1 hX hC.2.2.2.2.2.2.2.2.2.1 (Nat.not_le.mpr hC.2.2.2.2.2.2.2.2.2.2.1) hS hdec k
        rw [← zad_scr G] at this
        exact this
      · split at h
        · next q hq =>
          split at h
          · next h100 =>
            refine zS_pure (fun _ hC hW hS _ k => ?_) h
            have ht := of_decide_eq_true (List.all_eq_true.mp zsh_tags q (List.mem_of_getElem? hq))
            have hty := ztys_get G (i := q.1 - 100) (by omega)
            rw [show 100 + (q.1 - 100) = q.1 by omega] at hty
            have hw := zws_get (G := G) (σ := σ) hq
            have hgo : ∀ x : vp_A, x.1 = q.2 → zen G σ a q.1 q.2 = .inl (zgA G q.1, x) → W _ _ _ _ _ _ _ _ _ _ _ _ _ _ _ _ := fun x hx he => by
              rw [he] at hw
              exact va_alen (D := (zgC G, zgI G)) (ws := zws G σ) (cl := zCl) hC.1 hC.2.1 hC.2.2.2.2.2.2.2.1 hW a _ hw hty (by rw [hx]) hdec k
            have := hgo
            rw [← zad_sh (G := G) hq] at this
            by_cases c1 : q.1 < 103
            · exact this _ rfl (zen_I (by omega) c1)
            · by_cases c2 : q.1 = 103
              · exact this (q.2, .inr (.inl (zJ σ a))) rfl (by rw [c2]; exact zen_J)
              · exact this _ rfl (zen_R (by omega))
          · cases h
        · cases h
    · cases h
  case iaload =>
    obtain rfl : len = 1 := by simpa [zlen] using hlen
    simp only [zex] at h
    split at h
    · next i a r =>
      split at h
      · next ha =>
        subst ha
        split at h
        · next hin =>
          simp only [Bool.and_eq_true, decide_eq_true_eq] at hin
          refine zS_pure (fun _ hC hW hS _ k => ?_) h
          have hX := hC.2.2.2.2.2.2.2.2.1
          have hv : vp_in i σ.2.2.1 := by
            rintro (q | q)
            · exact absurd hin.1 (Int32.not_le.mpr q)
            · omega
          have := va_sld (rest := r.map (zrv G)) hC.1 hC.2.1 hX hC.2.2.2.2.2.2.2.2.2.1 (Nat.not_le.mpr hC.2.2.2.2.2.2.2.2.2.2.1) hS hv hdec k
          rw [← zad_scr G] at this
          exact this
        · cases h
      · split at h
        · next hz => exact zS_pure (fun _ hC hW _ _ k => zr_iald hC hW hdec hz k) h
        · cases h
    · cases h
  case baload =>
    obtain rfl : len = 1 := by simpa [zlen] using hlen
    simp only [zex] at h
    split at h
    · split at h
      · next hz => exact zS_pure (fun _ hC hW _ _ k => zr_bald hC hW hdec hz k) h
      · split at h
        · next hz => exact zS_pure (fun _ hC hW _ _ k => zr_zald hC hW hdec hz k) h
        · cases h
    · cases h
  case laload =>
    obtain rfl : len = 1 := by simpa [zlen] using hlen
    simp only [zex] at h
    split at h
    · split at h
      · next hz => exact zS_pure (fun _ hC hW _ _ k => zr_lald hC hW hdec hz k) h
      · cases h
    · cases h
  case aaload =>
    obtain rfl : len = 1 := by simpa [zlen] using hlen
    simp only [zex] at h
    split at h
    · split at h
      · next hz => exact zS_pure (fun _ hC hW _ _ k => zr_aald (by omega) (by omega) hC hW hdec hz k) h
      · split at h
        · next hz => exact zS_pure (fun _ hC hW _ _ k => zr_aald (by omega) (by omega) hC hW hdec hz k) h
        · split at h
          · next hz => exact zS_pure (fun _ hC hW _ _ k => zr_aald (by omega) (by omega) hC hW hdec hz k) h
          · split at h
            · next hz => exact zS_pure (fun _ hC hW _ _ k => zr_aald (by omega) (by omega) hC hW hdec hz k) h
            · split at h
              · next hz => exact zS_pure (fun _ hC hW _ _ k => zr_aald (by omega) (by omega) hC hW hdec hz k) h
              · cases h
    · cases h
  case iastore =>
    obtain rfl : len = 1 := by simpa [zlen] using hlen
    simp only [zex] at h
    split at h
    · split at h
      · next hz =>
          refine zS_write (show _ from ?_) (fun _ hC hW hS _ k => ?_) h
          · rfl
          · exact zr_iast hC hW hS hdec hz k
      · cases h
    · cases h
  case bastore =>
    obtain rfl : len = 1 := by simpa [zlen] using hlen
    simp only [zex] at h
    split at h
    · split at h
      · next hz =>
          refine zS_write (show _ from ?_) (fun _ hC hW hS _ k => ?_) h
          · rfl
          · exact zr_bast hC hW hS hdec hz k
      · split at h
        · next hz =>
            refine zS_write (show _ from ?_) (fun _ hC hW hS _ k => ?_) h
            · rfl
            · exact zr_zast hC hW hS hdec hz k
        · cases h
    · cases h
  case lastore =>
    obtain rfl : len = 1 := by simpa [zlen] using hlen
    simp only [zex] at h
    split at h
    · split at h
      · next hz =>
          refine zS_write (show _ from ?_) (fun _ hC hW hS _ k => ?_) h
          · rfl
          · exact zr_last hC hW hS hdec hz k
      · cases h
    · cases h
  case invokevirtual ix =>
    obtain rfl : len = 3 := by simpa [zlen] using hlen
    simp only [zex] at h
    split at h
    · next q hq =>
      obtain ⟨kind, mj, nest, x⟩ := q
      simp only at h hq
      split at h
      · next hk =>
        subst hk
        split at h
        · next oo as heq =>
          split at h
          · next hc =>
            simp only [Bool.and_eq_true, decide_eq_true_eq, Bool.not_eq_true'] at hc
            obtain ⟨⟨⟨⟨⟨⟨c1, c2⟩, c3⟩, c4⟩, c5⟩, c6⟩, c7⟩ := hc
            cases h
            refine ⟨⟨rfl, rfl, c6⟩, fun r σF hM p l e R s m args below meth c H locs cells slots lsA Q hR hC hW hS hl kk => ?_⟩
            have hst : st = as.reverse ++ .ref oo :: st.drop (zNA mj) := by
              have h9 := List.take_append_drop (zNA mj) st
              have h8 : st.take (zNA mj) = (.ref oo :: as).reverse := by rw [← heq, List.reverse_reverse]
              rw [h8] at h9
              rw [List.reverse_cons, List.append_assoc] at h9
              exact h9.symm
            have h7 : st.map (zrv G) = (as.map (zrv G)).reverse ++ .ref (zad G oo) :: (st.drop (zNA mj)).map (zrv G) := by
              conv => lhs; rw [hst]
              rw [List.map_append, List.map_reverse, List.map_cons]
              rfl
            rw [h7]
            exact zr_callV hR hC hW hS hl.1 hdec hq hM c1 c2 c3 c4 c5 c6 c7 kk
          · cases h
        · cases h
      · split at h
        · next h7 =>
          unfold zprim at h
          split at h
          · omega
          · omega
          · omega
          · next a r _ =>
            split at h
            · next hc =>
              simp only [Bool.and_eq_true] at hc
              split at h
              · next hi =>
                simp only [Bool.and_eq_true, decide_eq_true_eq] at hi
                obtain ⟨i1, i2⟩ := hi
                have i3 : a - 1000000 < zstr.length := Nat.sub_lt_left_of_lt_add i1 i2
                have i4 : a - 1000000 < 1000000 := Nat.lt_trans i3 (by rw [zstr_n]; exact (show 20 ≤ 1000000 from Nat.le_of_ble_eq_true rfl))
                have i5 : 1000000 + (a - 1000000) = a := Nat.add_sub_cancel' i1
                refine zS_pure (fun hR hC hW hS hl k => ?_) h
                have := zr_slen (G := G) hR hC hS hl.1 hdec hq hc.1 hc.2 (i := a - 1000000) i3 k
                rw [← zad_str G i4, i5] at this
                exact this
              · cases h
            · cases h
          · next i a r _ =>
            split at h
            · next hc =>
              simp only [Bool.and_eq_true] at hc
              split at h
              · next hi =>
                simp only [Bool.and_eq_true, decide_eq_true_eq] at hi
                obtain ⟨⟨⟨i1, i2⟩, i6⟩, i7⟩ := hi
                have i3 : a - 1000000 < zstr.length := Nat.sub_lt_left_of_lt_add i1 i2
                have i4 : a - 1000000 < 1000000 := Nat.lt_trans i3 (by rw [zstr_n]; exact (show 20 ≤ 1000000 from Nat.le_of_ble_eq_true rfl))
                have i5 : 1000000 + (a - 1000000) = a := Nat.add_sub_cancel' i1
                refine zS_pure (fun hR hC hW hS hl k => ?_) h
                have := zr_schar (G := G) hR hC hS hl.1 hdec hq hc.1 hc.2 (i := a - 1000000) i3 i6 i7 k
                rw [← zad_str G i4, i5] at this
                exact this
              · cases h
            · cases h
          · cases h
        · cases h
    · cases h
  case invokestatic ix =>
    obtain rfl : len = 3 := by simpa [zlen] using hlen
    simp only [zex] at h
    split at h
    · next q hq =>
      obtain ⟨kind, mj, nest, x⟩ := q
      simp only at h hq
      split at h
      · next hk =>
        subst hk
        split at h
        · next hc =>
          simp only [Bool.and_eq_true, decide_eq_true_eq] at hc
          obtain ⟨⟨⟨⟨c1, c2⟩, c3⟩, c4⟩, c5⟩ := hc
          cases h
          refine ⟨⟨rfl, rfl, c4⟩, fun r σF hM p l e R s m args below meth c H locs cells slots lsA Q hR hC hW hS hl kk => ?_⟩
          have h7 : st.map (zrv G) = (((st.take (zNA mj)).reverse).map (zrv G)).reverse ++ (st.drop (zNA mj)).map (zrv G) := by
            rw [List.map_reverse, List.reverse_reverse, ← List.map_append, List.take_append_drop]
          rw [h7]
          exact zr_callS hR hC hW hS hl.1 hdec hq hM c1 c2 c3 c4 (by rw [List.length_reverse]; exact c5) kk
        · cases h
      · split at h
        · next h46 =>
          unfold zprim at h
          split at h
          · next y x r _ =>
            split at h
            · next hc =>
              simp only [Bool.and_eq_true] at hc
              exact zS_pure (fun hR hC hW hS hl k => zr_min hR hC hl.1 hdec hq (zMK_pr hq (by show 3 ≤ 4; omega)) hc.1 hc.2 k) h
            · cases h
          · next y x r _ =>
            split at h
            · next hc =>
              simp only [Bool.and_eq_true] at hc
              exact zS_pure (fun hR hC hW hS hl k => zr_max hR hC hl.1 hdec hq (zMK_pr hq (by show 3 ≤ 5; omega)) hc.1 hc.2 k) h
            · cases h
          · next n dp a sp b r _ =>
            split at h
            · next hc =>
              simp only [Bool.and_eq_true] at hc
              split at h
              · next hz =>
                simp only [Bool.and_eq_true] at hz
                refine zS_write (show _ from ?_) (fun hR hC hW hS hl k => ?_) h
                · rfl
                · exact zr_copyI hR hC hW hS hl.1 hdec hq (zMK_pr hq (by show 3 ≤ 6; omega)) hc.1 hc.2 hz.1 hz.2 k
              · split at h
                · next hz =>
                  simp only [Bool.and_eq_true] at hz
                  refine zS_write (show _ from ?_) (fun hR hC hW hS hl k => ?_) h
                  · rfl
                  · exact zr_copyJ hR hC hW hS hl.1 hdec hq (zMK_pr hq (by show 3 ≤ 6; omega)) hc.1 hc.2 hz.1 hz.2 k
                · cases h
            · cases h
          · omega
          · omega
          · cases h
        · cases h
    · cases h
  case ireturn =>
    obtain rfl : len = 1 := by simpa [zlen] using hlen
    simp only [zex] at h
    split at h
    · next v =>
      split at h
      · next hz =>
        cases h
        exact ⟨rfl, fun p l e R s m args below meth c H locs cells slots lsA hC hW hS => W.iret hC.1 hC.2.1 (hC.2.2.2.1.trans hz) (fun t ht hw => ⟨rfl, by rw [ht]; exact hW, hS.F ht⟩) hS.2.2 hdec hC.2.2.2.2.2.2.1⟩
      · next hz =>
        split at h
        · next hb =>
          cases h
          exact ⟨rfl, fun p l e R s m args below meth c H locs cells slots lsA hC hW hS => W.zret (ty := .boolean) hC.1 hC.2.1 (hC.2.2.2.1.trans hz) (znar_b hb) (fun t ht hw => ⟨rfl, by rw [ht]; exact hW, hS.F ht⟩) hS.2.2 hdec hC.2.2.2.2.2.2.1⟩
        · cases h
      · cases h
    · cases h
  case lreturn =>
    obtain rfl : len = 1 := by simpa [zlen] using hlen
    simp only [zex] at h
    split at h
    · next v =>
      split at h
      · next hz =>
        cases h
        exact ⟨rfl, fun p l e R s m args below meth c H locs cells slots lsA hC hW hS => W.lret hC.1 hC.2.1 (hC.2.2.2.1.trans hz) (fun t ht hw => ⟨rfl, by rw [ht]; exact hW, hS.F ht⟩) hS.2.2 hdec hC.2.2.2.2.2.2.1⟩
      · cases h
    · cases h
  case return_ =>
    obtain rfl : len = 1 := by simpa [zlen] using hlen
    simp only [zex] at h
    split at h
    · split at h
      · next hz =>
        cases h
        exact ⟨rfl, fun p l e R s m args below meth c H locs cells slots lsA hC hW hS => W.vret hC.1 hC.2.1 (hC.2.2.2.1.trans hz) (fun t ht hw => ⟨rfl, by rw [ht]; exact hW, hS.F ht⟩) hS.2.2 hdec hC.2.2.2.2.2.2.1⟩
      · cases h
    · cases h
  all_goals (simp [zex] at h)
end ZEX
