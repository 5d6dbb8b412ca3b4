theorem ytot_1 (x : Nat × List Value) : ytot [x] = x.2.length := by simp [ytot]
theorem yclsz_len (ci : Nat) : (ynew ci (yclsz ci)).length = yclsz ci := by simp [ynew]
section YEX
variable {G : zG} {mi pc : Nat} {ls : zLs} {st : List Value} {C : yC} {o : yO}
set_option maxHeartbeats 4000000 in
theorem yex_ok {i : Instr} {len : Nat} (hlt : C.length < 900000) (hdec : decode (zB mi) pc = .ok (i, len)) (hlen : zlen i len = true) (h : yex mi pc i ls st C = some o) : ySO G mi pc ls st C o := by
  have hidx : ∀ {a : Nat} {q : Nat × List Value}, C[a]? = some q → a < 1000000 := fun {a q} h => by
    have := (List.getElem?_eq_some_iff.mp h).1
    omega
  have hzC : zad G C.length = zgB G + C.length := if_pos (by omega)
  cases i
  case iconst n =>
    obtain rfl : len = 1 := by simpa [zlen] using hlen
    simp only [yex] at h
    exact yS_pure (fun _ hC _ _ k => lv_iconst hC.1 hC.2.1 hdec rfl k) h
  case bipush n =>
    obtain rfl : len = 2 := by simpa [zlen] using hlen
    simp only [yex] at h
    exact yS_pure (fun _ hC _ _ k => lv_bipush hC.1 hC.2.1 hdec rfl k) h
  case sipush n =>
    obtain rfl : len = 3 := by simpa [zlen] using hlen
    simp only [yex] at h
    exact yS_pure (fun _ hC _ _ k => lv_sipush hC.1 hC.2.1 hdec rfl k) h
  case iload_n j =>
    obtain rfl : len = 1 := by simpa [zlen] using hlen
    simp only [yex] at h
    split at h
    · next x e => exact yS_pure (fun _ hC _ hl k => lv_iload_n hC.1 hC.2.1 hdec rfl (hl.2.2.2 _ _ e) k) h
    · cases h
  case aload_n j =>
    obtain rfl : len = 1 := by simpa [zlen] using hlen
    simp only [yex] at h
    split at h
    · next x e => exact yS_pure (fun _ hC _ hl k => lv_aload_n hC.1 hC.2.1 hdec rfl (hl.2.2.2 _ _ e) k) h
    · cases h
  case istore_n j =>
    obtain rfl : len = 1 := by simpa [zlen] using hlen
    simp only [yex] at h
    split at h
    · next x r =>
      split at h
      · next hi => exact yS_local (fun hC hl k => lv_istore_n hC.1 hC.2.1 hdec rfl (zhas_lv hl) (by rw [← hl.2.2.1]; exact hi) rfl (fun lsB hB => k lsB (zhas_p1 (v := .int x) hl hi hB))) h
      · cases h
    · cases h
  case astore_n j =>
    obtain rfl : len = 1 := by simpa [zlen] using hlen
    simp only [yex] at h
    split at h
    · next x r =>
      split at h
      · next hi => exact yS_local (fun hC hl k => lv_astore_n hC.1 hC.2.1 hdec rfl (zhas_lv hl) (by rw [← hl.2.2.1]; exact hi) rfl (fun lsB hB => k lsB (zhas_p1 (v := .ref x) hl hi hB))) h
      · cases h
    · cases h
  case iinc j n =>
    obtain rfl : len = 3 := by simpa [zlen] using hlen
    simp only [yex] at h
    split at h
    · next x e =>
      refine yS_local (fun hC hl k => ?_) h
      have hj : j < ls.length := (List.getElem?_eq_some_iff.mp e).1
      obtain ⟨q, hq⟩ := zlv_at (G := G) e
      exact lv_iinc (v := x + Int32.ofInt n) hC.1 hC.2.1 hdec (zhas_lv hl) hq rfl (by rw [← hl.2.2.1]; exact hj) rfl (fun lsB hB => k lsB (zhas_p1 (v := .int (x + Int32.ofInt n)) hl hj hB))
    · cases h
  case dup =>
    obtain rfl : len = 1 := by simpa [zlen] using hlen
    simp only [yex] at h
    split at h
    · split at h
      · next hc => exact yS_pure (fun _ hC _ _ k => lv_dup hC.1 hC.2.1 hdec (by rw [zrv_cat]; exact hc) k) h
      · cases h
    · cases h
  case if_icmp cond off =>
    obtain rfl : len = 3 := by simpa [zlen] using hlen
    cases cond
    case ge =>
      simp only [yex] at h
      split at h
      · next y x r =>
        split at h
        · next ht =>
          cases h
          refine ⟨yle_refl _, fun C0 CF p l e R s m args below meth c H locs lsA Q h0 hF hR hC hW hS hl kk => ?_⟩
          have k := kk H locs lsA hW hS hl
          refine lv_icmp_ge hC.1 hC.2.1 hdec (zto_eq ht) (fun hc => ?_) (fun hc => ?_)
          · simp only [zsel, decide_eq_true hc, if_true] at k
            exact k
          · simp only [zsel, decide_eq_false hc] at k
            exact k
        · cases h
      · cases h
    all_goals (simp [yex] at h)
  case goto off =>
    obtain rfl : len = 3 := by simpa [zlen] using hlen
    simp only [yex] at h
    split at h
    · next ht => exact yS_pure (fun _ hC _ _ k => lv_goto hC.1 hC.2.1 hdec (zto_eq ht) k) h
    · cases h
  case getfield ix =>
    obtain rfl : len = 3 := by simpa [zlen] using hlen
    simp only [yex] at h
    split at h
    · next a r =>
      split at h
      · next q hq =>
        split at h
        · next vs ho =>
          split at h
          · next v hv =>
            split at h
            · next hn => exact yS_pure (fun _ hC hW _ k => yr_get (hidx (yobj_sh ho).1) hC hW hdec hq ho hv hn k) h
            · cases h
          · cases h
        · cases h
      · cases h
    · cases h
  case putfield ix =>
    obtain rfl : len = 3 := by simpa [zlen] using hlen
    simp only [yex] at h
    split at h
    · next v a r =>
      split at h
      · next q hq =>
        split at h
        · next vs ho =>
          split at h
          · next hc =>
            obtain ⟨c1, c2, c3, c4, c5, c6⟩ := hc
            exact yS_write (q := (q.1, vs)) (yobj_sh ho).1 (by rw [List.length_set]) (fun hC hW hS k => yr_put (hidx (yobj_sh ho).1) hC hW hS hdec hq ho c1 c2 c3 c4 c5 c6 k) h
          · cases h
        · cases h
      · cases h
    · cases h
  case new ix =>
    obtain rfl : len = 3 := by simpa [zlen] using hlen
    simp only [yex] at h
    split at h
    · next q hq =>
      split at h
      · refine yS_make (fun hC hW hS hH hs hB hc1 hc2 kk => ?_) h
        rw [ytot_1] at hc2 kk
        simp only [yclsz_len] at hc2 kk
        refine yr_new (by omega) (by omega) (by omega) hC hW hS hH hdec hq hc1 hc2 (fun H' g1 g2 => ?_)
        have := kk H' g1 g2
        rw [List.map_cons] at this
        show W _ _ _ _ _ _ _ _ _ _ _ _ _ _ _ _
        rw [← hzC]
        exact this
      · cases h
    · cases h
  case newarray t =>
    obtain rfl : len = 2 := by simpa [zlen] using hlen
    simp only [yex] at h
    split at h
    · next n r =>
      split at h
      · next hc =>
        obtain ⟨c1, c2, c3⟩ := hc
        refine yS_make (fun hC hW hS hH hs hB hc1 hc2 kk => ?_) h
        rw [ytot_1] at hc2 kk
        simp only [List.length_replicate] at hc2 kk
        refine yr_newa (by omega) (by omega) hC hW hS hH hdec c1 c2 c3 hc1 hc2 (fun H' g1 g2 => ?_)
        have := kk H' g1 g2
        rw [← hzC]
        exact this
      · cases h
    · cases h
  case anewarray ix =>
    obtain rfl : len = 3 := by simpa [zlen] using hlen
    simp only [yex] at h
    split at h
    · next n r =>
      split at h
      · next q hq =>
        split at h
        · next hc =>
          obtain ⟨c1, c2, c3, c4⟩ := hc
          refine yS_make (fun hC hW hS hH hs hB hc1 hc2 kk => ?_) h
          rw [ytot_1] at hc2 kk
          simp only [List.length_replicate] at hc2 kk
          refine yr_newq (by omega) (by omega) hC hW hS hH hdec hq c2 c3 c1 c4 hc1 hc2 (fun H' g1 g2 => ?_)
          have := kk H' g1 g2
          rw [← hzC]
          exact this
        · cases h
      · cases h
    · cases h
  case multianewarray ix d =>
    obtain rfl : len = 4 := by simpa [zlen] using hlen
    simp only [yex] at h
    split at h
    · next k0 n r =>
      split at h
      · next q hq =>
        split at h
        · next hc =>
          obtain ⟨c1, c2, c3, c4, c5, c6, c7⟩ := hc
          subst c7
          refine yS_make (fun {C0 CF p l e R s m args below meth c H locs cells slots lsA Q} hC hW hS hH hs hB hc1 hc2 kk => ?_) h
          have etot : ∀ (a b : Nat) (x : List Value), ytot ((a, (List.range n.toNatClampNeg).map (fun j => Value.ref (C.length + 1 + j))) :: List.replicate n.toNatClampNeg (b, x)) = n.toNatClampNeg + n.toNatClampNeg * x.length := by
            intro a b x
            simp [ytot]
          rw [etot, List.length_replicate] at hc2 kk
          rw [List.length_cons, List.length_replicate] at hc1
          have hk2 : ∀ (H' : Heap), yW G (C ++ ((q.1, (List.range n.toNatClampNeg).map (fun j => Value.ref (C.length + 1 + j))) :: List.replicate n.toNatClampNeg (if q.1 = 107 then 100 else 103, List.replicate k0.toNatClampNeg (ydef (zety (if q.1 = 107 then 100 else 103)))))) H' → va_S (zA G) s.heap H' locs → W p l e R s m args below meth c H' locs (cells + 1 + n.toNatClampNeg) (slots + n.toNatClampNeg + n.toNatClampNeg * k0.toNatClampNeg) Q (F0 m (pc + 4) lsA (.ref (zgB G + C.length) :: r.map (zrv G))) := by
            intro H' g1 g2
            unfold yW at g1
            rw [yws_app] at g1
            have := kk H' g1 g2
            rw [← hzC]
            rw [List.length_cons, List.length_replicate] at this
            refine W.cs ?_ ?_ this
            · omega
            · omega
          have ht : q.1 = 107 ∨ q.1 = 108 := by omega
          have hprim : ∀ (ty : FieldType), (∀ X, ty ≠ .object X) → ∀ c1 c2 : ClassId, s.vm.findClass ("[" ++ ty.toString) = some c1 → va_RA s c2 ty → c1 = c2 := by
            intro ty hne d1 d2 g1 g2
            cases ty with
            | object X => exact absurd rfl (hne X)
            | _ => exact ysome_inj (x := s.vm.findClass _) g1 g2
          rcases ht with ht | ht
          · rw [ht] at hk2
            exact yr_mna (t0 := 100) (t := 107) (ty := .int) (by omega) hC hW hS hH hdec hq ht rfl (by omega) (by omega) rfl (hC.2.2.2.2.2.2.2.2.2.2 _ (by simp [yover])) zj_ai (by omega) (by omega) rfl (by decide) rfl rfl (hprim .int (fun X h => by cases h)) (hprim (.array .int) (fun X h => by cases h)) (fun K _ => ⟨(K, .inl (yint1 (List.replicate K (.int 0)))), by rw [yen_i, List.length_replicate]; rfl, fun cA => ycell_i cA K⟩) c1 c2 c5 c6 (by omega) hc2 hk2
          · rw [ht] at hk2
            exact yr_mna (t0 := 103) (t := 108) (ty := .long) (by omega) hC hW hS hH hdec hq ht rfl (by omega) (by omega) rfl (hC.2.2.2.2.2.2.2.2.2.2 _ (by simp [yover])) zj_al (by omega) (by omega) rfl (by decide) rfl rfl (hprim .long (fun X h => by cases h)) (hprim (.array .long) (fun X h => by cases h)) (fun K _ => ⟨(K, .inr (.inl (ylong1 (List.replicate K (.long 0))))), by
              unfold yen
              rw [if_neg (by show ¬ 103 < 100; omega), if_neg (by show ¬ 103 < 103; omega), if_pos (by show 103 = 103; rfl), List.length_replicate]; rfl, fun cA => ycell_l cA K⟩) c1 c2 c5 c6 (by omega) hc2 hk2
        · cases h
      · cases h
    · cases h
  case aastore =>
    obtain rfl : len = 1 := by simpa [zlen] using hlen
    simp only [yex] at h
    split at h
    · next v i a r =>
      split at h
      · next q w hq hw =>
        split at h
        · next hc =>
          obtain ⟨c1, c2, c3⟩ := hc
          obtain ⟨t, vs⟩ := q
          obtain ⟨ci, ws⟩ := w
          exact yS_write hq (by rw [List.length_set]) (fun hC hW hS k => yr_aast (hidx hq) (hidx hw) hC hW hS hdec hq hw c1 c2 c3 k) h
        · cases h
      · cases h
    · cases h
  case iastore =>
    obtain rfl : len = 1 := by simpa [zlen] using hlen
    simp only [yex] at h
    split at h
    · next x i a r =>
      split at h
      · next q hq =>
        split at h
        · next hc =>
          obtain ⟨c1, c2, c3⟩ := hc
          obtain ⟨t, vs⟩ := q
          simp only at c1
          subst c1
          exact yS_write hq (by rw [List.length_set]) (fun hC hW hS k => yr_iast (hidx hq) hC hW hS hdec hq c2 c3 k) h
        · cases h
      · cases h
    · cases h
  case arraylength =>
    obtain rfl : len = 1 := by simpa [zlen] using hlen
    simp only [yex] at h
    split at h
    · next a r =>
      split at h
      · next q hq =>
        split at h
        · next hc =>
          obtain ⟨t, vs⟩ := q
          simp only at hc
          subst hc
          exact yS_pure (fun _ hC hW _ k => yr_alen (hidx hq) hC hW hdec hq k) h
        · cases h
      · cases h
    · cases h
  case invokespecial ix =>
    obtain rfl : len = 3 := by simpa [zlen] using hlen
    simp only [yex] at h
    split at h
    · next q hq =>
      obtain ⟨kind, mj, nest, x⟩ := q
      simp only at h hq
      split at h
      · next hk =>
        subst hk
        split at h
        · next oo as heq =>
          split at h
          · next hc =>
            simp only [Bool.and_eq_true, decide_eq_true_eq, Bool.not_eq_true', beq_iff_eq] at hc
            obtain ⟨⟨⟨⟨⟨⟨⟨c1, c2⟩, c3⟩, c4⟩, c5⟩, c6⟩, c7⟩, c8⟩ := hc
            cases h
            refine ⟨⟨rfl, rfl, c5⟩, fun C' hle hM C0 CF p l e R s m args below meth c H locs lsA Q h0 hF hR hC hW hS hl kk => W_size fun hz => ?_⟩
            have hz := yW_size h0 hR.2.2.2.2 hW hS hz
            have hst : st = as.reverse ++ .ref oo :: st.drop (zNA mj) := by
              have h9 := List.take_append_drop (zNA mj) st
              have h8 : st.take (zNA mj) = (.ref oo :: as).reverse := by rw [← heq, List.reverse_reverse]
              rw [h8] at h9
              rw [List.reverse_cons, List.append_assoc] at h9
              exact h9.symm
            have h7 : st.map (zrv G) = (as.map (zrv G)).reverse ++ .ref (zad G oo) :: (st.drop (zNA mj)).map (zrv G) := by
              conv => lhs; rw [hst]
              rw [List.map_append, List.map_reverse, List.map_cons]
              rfl
            rw [h7]
            have a1 := h0.1
            have a2 := h0.2
            have a3 := hle.1
            have a4 := hle.2
            have a5 := hF.1
            have a6 := hF.2
            have a7 := hR.2.2.1
            have a8 := hR.2.2.2.1
            refine yr_callI ⟨hR.1, hR.2.1⟩ hC hW hS hz hl.1 hdec hq hM c1 c2 c3 c4 c5 c6 c7 ⟨by omega, by omega⟩ (fun H' locs' g1 g2 => W.cs ?_ ?_ (kk H' locs' g1 g2))
            · omega
            · omega
          · cases h
        · cases h
      · split at h
        · next hk =>
          subst hk
          split at h
          · next a r =>
            split at h
            · next hc =>
              simp only [Bool.and_eq_true] at hc
              refine yS_pure (fun hR hC hW hl k => ?_) h
              obtain ⟨k1, k2, k3⟩ := zMK_in hq
              have hr1 := hc.1
              unfold zroomP at hr1
              simp only [Bool.and_eq_true, decide_eq_true_eq] at hr1
              have hw := zwt_sum (G := G) hc.2
              have b1 := hR.1
              have b2 := hR.2
              exact W.objInit hC.1 hC.2.1 hC.2.2.2.2.1 (hC.2.2.2.2.2.1 _ (k2 (zMK_pr hq (by show 3 ≤ 3; omega)))) (hC.2.2.2.2.2.1 _ zj_oi) (hC.2.2.2.2.2.1 _ zj_oc) rfl (hl.1.trans hC.2.2.1.symm) (a := zad G a) (rest := r.map (zrv G)) rfl hdec (by omega) (by show 2 * 0 + _ + 12 ≤ _; omega) k
            · cases h
          · cases h
        · cases h
    · cases h
  case invokestatic ix =>
    obtain rfl : len = 3 := by simpa [zlen] using hlen
    simp only [yex] at h
    split at h
    · next q hq =>
      obtain ⟨kind, mj, nest, x⟩ := q
      simp only at h hq
      split at h
      · next hk =>
        subst hk
        split at h
        · next hc =>
          simp only [Bool.and_eq_true, decide_eq_true_eq, beq_iff_eq] at hc
          obtain ⟨⟨⟨⟨⟨c1, c2⟩, c3⟩, c4⟩, c5⟩, c6⟩ := hc
          cases h
          refine ⟨⟨rfl, rfl, c4⟩, fun C' hle hM C0 CF p l e R s m args below meth c H locs lsA Q h0 hF hR hC hW hS hl kk => W_size fun hz => ?_⟩
          have hz := yW_size h0 hR.2.2.2.2 hW hS hz
          have h7 : st.map (zrv G) = (((st.take (zNA mj)).reverse).map (zrv G)).reverse ++ (st.drop (zNA mj)).map (zrv G) := by
            rw [List.map_reverse, List.reverse_reverse, ← List.map_append, List.take_append_drop]
          rw [h7]
          have a1 := h0.1
          have a2 := h0.2
          have a3 := hle.1
          have a4 := hle.2
          have a5 := hF.1
          have a6 := hF.2
          have a7 := hR.2.2.1
          have a8 := hR.2.2.2.1
          refine yr_callS ⟨hR.1, hR.2.1⟩ hC hW hS hz hl.1 hdec hq hM c1 c2 c3 c4 (by rw [List.length_reverse]; exact c5) ⟨by omega, by omega⟩ (fun H' locs' g1 g2 => W.cs ?_ ?_ (kk H' locs' g1 g2))
          · omega
          · omega
        · cases h
      · cases h
    · cases h
  case return_ =>
    obtain rfl : len = 1 := by simpa [zlen] using hlen
    simp only [yex] at h
    split at h
    · split at h
      · next hz =>
        cases h
        exact ⟨rfl, fun p l e R s m args below meth c H locs cells slots lsA hC hW hS => W.vret hC.1 hC.2.1 (hC.2.2.2.1.trans hz) (fun t ht hw => ⟨rfl, by rw [ht]; exact hW, hS.F ht⟩) hS.2.2 hdec hC.2.2.2.2.2.2.1⟩
      · cases h
    · cases h
  all_goals (simp [yex] at h)
end YEX
