/-! THE LAW FROM ITS ENTRY TO ITS END: what is left is the abstract machine's run -/
theorem zslen_ok (i : Nat) : i < 19 → zslen.getD i 0 < 2 ^ 31 := by
  have h : (List.range 19).all (fun i => decide (zslen.getD i 0 < 2 ^ 31)) = true := by decide +kernel
  exact fun hi => of_decide_eq_true (List.all_eq_true.mp h i (List.mem_range.mpr hi))
theorem zstr_len : zstr.length = 19 := by decide +kernel
theorem zK_exists {args : Array Value} {s : State} {A : Nat → Prop} (hf : ∀ w ∈ zflat, w.before args s = true) (hA : ∀ a : Nat, a < s.heap.size → ¬ A a) :
    ∃ adK adV : Nat → Nat, (∀ i, (ztm i).eval args s none [] s = some (.ref (adK i))) ∧ ∀ i, i < 19 → va_O "java/lang/String" (adK i) A s s.heap ∧ va_OF "java/lang/String" "coder" "B" (.int 0) (adK i) A s s.heap ∧ va_OF "java/lang/String" "value" "[B" (.ref (adV i)) (adK i) A s s.heap ∧ va_T .byte (adV i) (zslen.getD i 0) (fun j => .int ((zstr.getD i []).getD j 0)) A s s.heap := by
  have hw : ∀ i, i < 19 → ∀ w ∈ zstrw i, w.before args s = true := fun i hi w hm => hf w (of_decide_eq_true (List.all_eq_true.mp (zstrw_all i hi) w hm))
  have h1 : ∀ i, i < 19 → ∃ q : Nat × Nat, (ztm i).eval args s none [] s = some (.ref q.1) ∧ va_O "java/lang/String" q.1 A s s.heap ∧ va_OF "java/lang/String" "coder" "B" (.int 0) q.1 A s s.heap ∧ va_OF "java/lang/String" "value" "[B" (.ref q.2) q.1 A s s.heap ∧ va_T .byte q.2 (zslen.getD i 0) (fun j => .int ((zstr.getD i []).getD j 0)) A s s.heap := by
    intro i hi
    have a1 : (Cond.exactly (ztm i) "java/lang/String").before args s = true := hw i hi _ (by simp [zstrw])
    have a2 : (Cond.eq (.field (ztm i) "java/lang/String" "coder" "B") (.int 0)).before args s = true := hw i hi _ (by simp [zstrw])
    have a3 : (Cond.arrayOf (.field (ztm i) "java/lang/String" "value" "[B") .byte).before args s = true := hw i hi _ (by simp [zstrw])
    have a4 : (Cond.eq (.length (.field (ztm i) "java/lang/String" "value" "[B")) (.int (Int32.ofNat (zslen.getD i 0)))).before args s = true := hw i hi _ (by simp only [zstrw, List.mem_append, List.mem_cons, true_or, or_true])
    have a5 : ∀ j, j < zslen.getD i 0 → (Cond.eq (.elem (.field (ztm i) "java/lang/String" "value" "[B") (.int (Int32.ofNat j))) (.int ((zstr.getD i []).getD j 0))).before args s = true := fun j hj => hw i hi _ (List.mem_append_right _ (List.mem_map.mpr ⟨j, List.mem_range.mpr hj, rfl⟩))
    obtain ⟨a, c, cA, kA, q1, q2, q3, q4, q5, q6, -⟩ := Cond.exactly_spec (args := args) (first := s) (o := none) (s := s) (idx := []) (t := ztm i) (cls := "java/lang/String") a1
    obtain ⟨t, ht, hT⟩ := va_Tof (f := fun j => .int ((zstr.getD i []).getD j 0)) (A := A) (zslen_ok i hi) a3 (va_eqt a4) (fun j hj => va_eqt (a5 j hj)) hA
    exact ⟨(a, t), q1, ⟨cA, q3, q5, by rw [q6]; exact q2, hA a (Array.getElem?_eq_some_iff.mp q3).1⟩, vk_OFof q1 (va_eqt a2) hA, vk_OFof q1 ht hA, hT⟩
  have h2 : ∀ i, ∃ q : Nat × Nat, (ztm i).eval args s none [] s = some (.ref q.1) ∧ (i < 19 → va_O "java/lang/String" q.1 A s s.heap ∧ va_OF "java/lang/String" "coder" "B" (.int 0) q.1 A s s.heap ∧ va_OF "java/lang/String" "value" "[B" (.ref q.2) q.1 A s s.heap ∧ va_T .byte q.2 (zslen.getD i 0) (fun j => .int ((zstr.getD i []).getD j 0)) A s s.heap) := by
    intro i
    by_cases hi : i < 19
    · obtain ⟨q, q1, q2⟩ := h1 i hi
      exact ⟨q, q1, fun _ => q2⟩
    · obtain ⟨q, q1, -⟩ := h1 18 (by omega)
      have e : ztm i = ztm 18 := by
        obtain ⟨n, rfl⟩ : ∃ n, i = n + 19 := ⟨i - 19, by omega⟩
        rfl
      exact ⟨q, by rw [e]; exact q1, fun h => absurd h hi⟩
  obtain ⟨ad, had⟩ := Classical.axiomOfChoice h2
  exact ⟨fun i => (ad i).1, fun i => (ad i).2, fun i => (had i).1, fun i hi => (had i).2 hi⟩
theorem zown_282 : zCNm (zOC 282) = "SlowOrderLaw" ∧ zB 282 = code ∧ zML 282 = 4 ∧ zRet 282 = ret ∧ (zY 282).name = "law" ∧ zFr 282 ≤ room_1.frames ∧ zLo 282 ≤ room_1.locals := ⟨rfl, rfl, rfl, rfl, rfl, by decide +kernel, by decide +kernel⟩
theorem zgo {p : Program} {e : Env} {s : State} {m : MethodId} {below : List Frame} {meth : Method} {c : Code} (l : Launch) {b L : Nat} {xs : Nat → Int32}
    (hx : p.tables.exec = Jvm.exec) (hb : c.code = code) (hret : meth.sig.returnType = ret) (hml : c.maxLocals = 4) (hown : s.vm.findClass "SlowOrderLaw" = some m.cls) (hts : ∀ w ∈ lw_tbl, w.before #[Value.ref b] s = true) (hX : va_X b L xs s s.heap) (hbl : b < s.heap.size) (hlocks : meth.locks = false) (hgv : (Jvm.Cond.and given_1 narrow_1).before #[Value.ref b] s = true) (hnm : meth.name = "law")
    (hlaw : ∃ σF, zev 282 16 [some (.ref 2000000), some (.ref 0), some (.ref 287), none] [] (zM0 (L, xs)) = some (some (.int 1), σF)) :
    W p l e room_1 s m #[Value.ref b] below meth c s.heap [] 0 0 (fun t => ∃ o, t.status = .running ∧ Ended t below o ∧ o = .returned (some (.int 1)) ∧ Framed s o t [] 600000 7302250) (entryFrame m ([Value.ref b] : List Value).toArray 4) := by
  obtain ⟨e1, e2, e3, e4, e5, e6, e7⟩ := zown_282
  have hflat : ∀ w ∈ zflat, w.before #[Value.ref b] s = true := flat_of_before _ hgv
  have hgood : ∀ w ∈ zgood, w.before #[Value.ref b] s = true := fun w hw => hts w (List.mem_filter.mp hw).1
  have hnest : ∀ w ∈ znest, va_Nw w s := by
    intro w hw
    have hk := (List.mem_filter.mp hw).2
    refine va_Nw.of ?_ (hts w (List.mem_filter.mp hw).1)
    cases w with
    | fieldLinkNest => rfl
    | methodLinkNest => rfl
    | _ => cases hk
  have hover : ∀ w ∈ yover, w.before #[] s = true := by
    intro w hw
    simp only [yover, List.mem_cons, List.not_mem_nil, or_false] at hw
    rcases hw with rfl | rfl | rfl | rfl | rfl
    · have h := hts _ zj_ov0
      simpa [Cond.before, Cond.holds, Cond.value] using h
    · have h := hts _ zj_ov1
      simpa [Cond.before, Cond.holds, Cond.value] using h
    · have h := hts _ zj_ov2
      simpa [Cond.before, Cond.holds, Cond.value] using h
    · have h := hts _ zj_ov3
      simpa [Cond.before, Cond.holds, Cond.value] using h
    · have h := hts _ zj_ov4
      simpa [Cond.before, Cond.holds, Cond.value] using h
  obtain ⟨cf, hcf⟩ := zmk_cls hts
  obtain ⟨ac, hac⟩ := zmk_arr hgood hover
  obtain ⟨adK, adV, hK1, hK2⟩ := zK_exists (A := fun q => s.heap.size ≤ q) hflat (fun a h => Nat.not_le.mpr h)
  obtain ⟨G, hG⟩ : ∃ G : zG, G = (s.heap.size, b, adK, fun k => (cf k).1, fun k => (cf k).2, ac) := ⟨_, rfl⟩
  have gB : zgB G = s.heap.size := by rw [hG]; rfl
  have gS : zgS G = b := by rw [hG]; rfl
  have gK : zgK G = adK := by rw [hG]; rfl
  have gC : zgC G = fun k => (cf k).1 := by rw [hG]; rfl
  have gI : zgI G = fun k => (cf k).2 := by rw [hG]; rfl
  have gA : zgA G = ac := by rw [hG]; rfl
  have hA : ∀ a : Nat, a < s.heap.size → ¬ zA G a := fun a h => by
    show ¬ zgB G ≤ a
    rw [gB]
    exact Nat.not_le.mpr h
  have hAe : zA G = fun q => s.heap.size ≤ q := by
    funext q
    show (zgB G ≤ q) = _
    rw [gB]
  have hKK : va_K (zgC G, zgI G) zCl (ztys G) s := by
    refine ⟨fun k q h => ?_, fun k q h => ?_⟩
    · show u_Kn s q.1 q.2.1 q.2.2 (zgC G k) (zgI G k)
      rw [gC, gI]
      exact hcf k q h
    · by_cases hk : k < 9
      · rw [ztys_get G hk] at h
        cases h
        show ArrOfT s (zgA G (100 + k)) (zety (100 + k)) ∧ va_RA s (zgA G (100 + k)) (zety (100 + k))
        rw [gA]
        exact hac k hk
      · rw [ztys, List.getElem?_map, List.getElem?_eq_none (by rw [List.length_range]; omega)] at h
        cases h
  have hcz : (Term.static "java/lang/String" "COMPACT_STRINGS" "Z").eval #[Value.ref b] s none [] s = some (.int 1) := va_eqi (hflat _ zj_compact)
  have hZ1 := hgood _ zq_is
  have hZ2 := hgood _ zq_ip
  have hKs : zKs G (L, xs) s := by
    refine ⟨hKK, by rw [gS]; exact hX, by rw [gS]; exact hbl, by rw [gS, gB]; exact hbl, by rw [gB]; exact Nat.le_refl _, hnest, fun oc ix q hq => ?_, ⟨adV, fun i hi => ?_⟩, va_Zof (hts _ zj_lc) hZ1 hcz hA, va_Zqof (hts _ zj_lp) hZ2 (hflat _ zj_sioobe) hA⟩
    · have hm := zLk_mem hq
      have h1 := of_decide_eq_true (List.all_eq_true.mp (zKS_ok oc) _ hm)
      have h2 := List.all_eq_true.mp (zsame_all oc) _ hm
      refine vk_R.of (A := #[Value.ref b]) (hts _ (List.mem_of_getElem? h1)) ?_
      rw [gK]
      simp only [zsame, Bool.or_eq_true] at h2
      rcases h2 with h2 | h2
      · have h3 := of_decide_eq_true h2
        rw [← h3]
        exact hK1 _
      · have h3 := hflat _ (of_decide_eq_true h2)
        exact va_eqI (by simpa [Cond.before, Cond.holds] using h3) (hK1 _)
    · rw [zstr_len] at hi
      rw [gK, hAe]
      exact hK2 i hi
  have hCtx0 : yCtx G 282 p s m #[Value.ref b] meth c := ⟨hx, by rw [hb, e2], by rw [hml, e3], by rw [hret, e4], by rw [e1]; exact hown, hgood, hlocks, by rw [hnm, e5], hKK, hnest, hover⟩
  have hCtx1 : zCtx G 282 (L, xs) p s m #[Value.ref b] meth c := ⟨hx, by rw [hb, e2], by rw [hml, e3], by rw [hret, e4], by rw [e1]; exact hown, hgood, hlocks, hKs⟩
  obtain ⟨σF, hev⟩ := hlaw
  have hrun := (zev_ok G hev).2
  have hto := (yto_ok (G := G) 20 0 _ _ _ _ _ _ yto_law).2 []
  have hR : yR G 282 [] yCF room_1 s := ⟨e6, e7, by rw [ylen_CF]; decide, by rw [ytot_CF]; decide, by rw [gB]; rfl⟩
  have hvals : ([Value.ref b] : List Value) = ([Value.ref 2000000] : List Value).map (zrv G) := by
    show [Value.ref b] = [Value.ref (zad G 2000000)]
    have : zad G 2000000 = b := by
      unfold zad
      rw [if_neg (by decide), if_neg (by decide), gS]
    rw [this]
  rw [hvals, lg_entry_eq, ← hvals, ← e3]
  have hent : zhas G ((lg_sl [Value.ref b] ++ List.replicate (zML 282 - (lg_sl [Value.ref b]).length) Slot.unset).toArray) (zML 282) [some (.ref 2000000), none, none, none] := by
    have h9 := zhas_entry G [Value.ref 2000000] (n := zML 282) (by rw [e3]; decide)
    rw [← hvals] at h9
    exact h9
  refine hto p l e room_1 s m #[Value.ref b] below meth c s.heap [] _ _ ⟨Nat.le_refl _, Nat.le_refl _⟩ hR hCtx0 (fun k q h => by cases k <;> cases h) va_S.rf hent ?_
  intro H' locs' lsB hW' hS' hl'
  refine W.widen (k := 600000) (n := 7302250) (by rw [ylen_CF]; decide) (by rw [ytot_CF]; decide) ?_
  have hmain := hrun p l e room_1 s m #[Value.ref b] below meth c H' locs' 600000 7302250 lsB ⟨e6, e7, Nat.le_refl _, Nat.le_refl _⟩ hCtx1 (yW_zW hW') hS' hl'
  intro T hT X
  obtain ⟨t, a1, o, b1, b2, b3, L', b4, b5⟩ := hmain T hT X
  refine ⟨t, a1, o, b1, b2, b3.1, b4.1, b4.2.1, b4.2.2.weaken (fun x hx hlt => ?_) (Nat.le_refl _) (Nat.le_refl _)⟩
  exact absurd (b5 x hx) (hA _ hlt)
