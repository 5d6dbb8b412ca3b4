/-! WORDS OUT OF THE LINKS -/
theorem zFL_in {oc ix : Nat} {e : Nat × Nat × Bool × Nat} (h : zLk (zFL oc) ix = some e) : ∃ (C : String) (T : u_T) (N : Nat), zCl[e.1]? = some (C, T, N) ∧ e.2.1 < N ∧ (T e.2.1).1 = C ∧
    (e.2.2.1 = false → Cond.fieldLink (zCNm oc) ix C (T e.2.1).2.1 (T e.2.1).2.2.1 ∈ zgood) ∧ (e.2.2.1 = true → Cond.fieldLinkNest (zCNm oc) ix C (T e.2.1).2.1 (T e.2.1).2.2.1 "SlowOrder" ∈ znest) := by
  have h1 := List.all_eq_true.mp (zFL_ok oc) (ix, e) (zLk_mem h)
  unfold zFok at h1
  cases hc : zCl[e.1]? with
  | none => simp [hc] at h1
  | some q =>
    obtain ⟨C, T, N⟩ := q
    simp only [hc, Bool.and_eq_true, decide_eq_true_eq] at h1
    obtain ⟨⟨h2, h3⟩, h4⟩ := h1
    refine ⟨C, T, N, rfl, h2, h3, fun hn => ?_, fun hn => ?_⟩
    · rw [hn] at h4
      exact zgood_in (List.mem_of_getElem? h4) rfl
    · rw [hn] at h4
      exact znest_in (List.mem_of_getElem? h4) rfl
theorem zMK_in {oc ix : Nat} {e : Nat × Nat × Bool × Nat} (h : zLk (zMK oc) ix = some e) : (e.1 ≤ 2 → e.2.1 < zNM) ∧ (e.2.2.1 = false → Cond.methodLink (zCNm oc) ix (zMKy (ix, e)) ∈ zgood) ∧ (e.2.2.1 = true → Cond.methodLinkNest (zCNm oc) ix (zMKy (ix, e)) "SlowOrder" ∈ znest) := by
  have h1 := List.all_eq_true.mp (zMK_ok oc) (ix, e) (zLk_mem h)
  unfold zMok at h1
  simp only [Bool.and_eq_true, decide_eq_true_eq] at h1
  refine ⟨h1.2, fun hn => ?_, fun hn => ?_⟩
  · have h2 := h1.1
    rw [hn] at h2
    exact zgood_in (List.mem_of_getElem? h2) rfl
  · have h2 := h1.1
    rw [hn] at h2
    exact znest_in (List.mem_of_getElem? h2) rfl
theorem zKI_in {oc ix : Nat} {e : Int × Nat} (h : zLk (zKI oc) ix = some e) : Cond.constant (zCNm oc) ix (Int32.ofInt e.1) ∈ zgood := by
  have h1 := List.all_eq_true.mp (zKI_ok oc) (ix, e) (zLk_mem h)
  unfold zKIok at h1
  exact zgood_in (List.mem_of_getElem? (of_decide_eq_true h1)) rfl
theorem zKJ_in {oc ix : Nat} {e : Int × Nat} (h : zLk (zKJ oc) ix = some e) : Cond.constantLong (zCNm oc) ix (Int64.ofInt e.1) ∈ zgood := by
  have h1 := List.all_eq_true.mp (zKJ_ok oc) (ix, e) (zLk_mem h)
  unfold zKJok at h1
  exact zgood_in (List.mem_of_getElem? (of_decide_eq_true h1)) rfl
theorem zKS_lt {oc ix : Nat} {e : Nat × Nat} (h : zLk (zKS oc) ix = some e) : e.1 < 19 := of_decide_eq_true (List.all_eq_true.mp (zks_all oc) (ix, e) (zLk_mem h))
theorem zad_str (G : zG) {i : Nat} (h : i < 1000000) : zad G (1000000 + i) = zgK G i := by
  unfold zad
  rw [if_neg (by omega), if_pos (by omega), show 1000000 + i - 1000000 = i by omega]
theorem zad_scr (G : zG) : zad G 2000000 = zgS G := by
  unfold zad
  rw [if_neg (by omega), if_neg (by omega)]
theorem zW_of {mj : Nat} (h : mj < 282) : (Cond.code (zY mj) (zB mj) (zML mj) (zRet mj) ∈ zgood) ∧ (zST mj = true → Cond.static (zY mj) ∈ zgood) ∧ (zST mj = false → Cond.instanceMethod (zY mj) ∈ zgood) ∧ Cond.initialized (zY mj).cls ∈ zgood ∧ (zST mj = false → (zY mj).name ≠ "<init>" → Cond.selects (zY mj).cls (zY mj) (zY mj) ∈ zgood) ∧ zCNm (zOC mj) = (zY mj).cls ∧
    ((parseMethodDescriptor (zY mj).desc).map (fun d => d.parameters.length + (bif zST mj then 0 else 1)) = some (zNA mj)) ∧ ((zY mj).cls ≠ "java/lang/invoke/MethodHandle" ∧ (zY mj).cls ≠ "java/lang/invoke/VarHandle") ∧ plainName (zY mj).cls = true := by
  have h1 := zW_all mj h
  unfold zWok at h1
  simp only [Bool.and_eq_true, decide_eq_true_eq, Bool.or_eq_true] at h1
  obtain ⟨⟨⟨⟨⟨⟨h2, h3⟩, h4⟩, h5⟩, h6⟩, h7⟩, h8⟩ := h1
  refine ⟨zgood_in (zc_all mj h) rfl, fun hs => ?_, fun hs => ?_, zgood_in (List.mem_of_getElem? h3) rfl, fun hs hn => ?_, h5, h6, h7, h8⟩
  · rw [hs] at h2
    exact zgood_in (List.mem_of_getElem? h2) rfl
  · rw [hs] at h2
    exact zgood_in (List.mem_of_getElem? h2) rfl
  · rcases h4 with (h4 | h4) | h4
    · rw [hs] at h4; cases h4
    · exact absurd h4 hn
    · exact zgood_in (List.mem_of_getElem? h4) rfl
theorem zCl_name {ci : Nat} {C : String} {T : u_T} {N : Nat} (h : zCl[ci]? = some (C, T, N)) : C = zCNm ci := by
  have hl : ci < 11 := (List.getElem?_eq_some_iff.mp h).1
  have key : ∀ k, k < 11 → (zCl[k]?).map (fun q => q.1) = some (zCNm k) := by decide +kernel
  have := key ci hl
  rw [h] at this
  exact Option.some.inj this
theorem zgood_u {ci : Nat} {q : vw_C} (h : zCl[ci]? = some q) : ∀ w ∈ u_ws q.1 q.2.1 q.2.2, w ∈ zgood := fun w hw => zgood_in ((zcl_all ci q h).1 w hw) (by
  obtain ⟨k, -, rfl⟩ := List.mem_map.mp hw
  unfold u_lay
  split <;> rfl)
section ZRW
variable {p : Program} {l : Launch} {e : Env} {R : Room} {s : State} {m : MethodId} {args : Array Value} {below : List Frame} {meth : Method} {c : Code} {H : Heap} {locs : List Loc} {cells slots : Nat} {Q : State → Prop}
variable {G : zG} {mi pc : Nat} {σ : zM} {τ : Nat × (Nat → Int32)} {lsA : Array Slot} {rest : List Value}
theorem zfs_get {ci n k a : Nat} (h : k < n) : ((List.range n).map (fun j => zrv G (zval σ ci j a)))[k]? = some (zrv G (zval σ ci k a)) := by
  rw [List.getElem?_map, List.getElem?_range h]
  rfl
theorem zr_get {ix a : Nat} {q : Nat × Nat × Bool × Nat} (hC : zCtx G mi τ p s m args meth c) (hW : zW G σ H) (hd : decode (zB mi) pc = .ok (.getfield ix, 3)) (hq : zLk (zFL (zOC mi)) ix = some q) (ho : zobj a q.1 = true)
    (k : W p l e R s m args below meth c H locs cells slots Q (F0 m (pc + 3) lsA (zrv G (zval σ q.1 q.2.1 a) :: rest))) : W p l e R s m args below meth c H locs cells slots Q (F0 m pc lsA (.ref (zad G a) :: rest)) := by
  obtain ⟨hx, hb, hml, hr, hown, hts, hlk, hKs⟩ := hC
  obtain ⟨C, T, N, hc, hk, hT, h1, h2⟩ := zFL_in hq
  obtain ⟨n, hsh, ht⟩ := zobj_sh ho
  obtain ⟨C', T', hc'⟩ := zsh_cl hsh ht
  cases hc.symm.trans hc'
  rw [zad_sh hsh]
  have he := zws_get (G := G) (σ := σ) hsh
  simp only [zen, ht, if_true] at he
  cases hn : q.2.2.1 with
  | false => exact va_get (D := (zgC G, zgI G)) (Ts := zgood) hx hb hts (zgood_u hc) hown hKs.1 hW a he hc q.2.1 hk (hts _ (h1 hn)) (fun x hx => by rw [hT] at hx; exact hx) (zfs_get hk) hd k
  | true => exact va_getN (D := (zgC G, zgI G)) (Ts := zgood) (host := "SlowOrder") hx hb hts (zgood_u hc) hown hKs.1 hW a he hc q.2.1 hk ((hKs.2.2.2.2.2.1 _ (h2 hn)).use rfl) (fun x hx => by rw [hT] at hx; exact hx) (zfs_get hk) hd k
theorem zfs_set {ci n k a : Nat} {σ' : zM} {v : Value} (hv : v = zrv G (zval σ' ci k a)) (ho : ∀ j, j ≠ k → zval σ' ci j a = zval σ ci j a) : ((List.range n).map (fun j => zrv G (zval σ ci j a))).set k v = (List.range n).map (fun j => zrv G (zval σ' ci j a)) := by
  apply List.ext_getElem?
  intro i
  by_cases hi : i < n
  · by_cases hk : i = k
    · subst hk
      rw [List.getElem?_set_self (by simpa using hi), zfs_get hi, hv]
    · rw [List.getElem?_set_ne (Ne.symm hk), zfs_get hi, zfs_get hi, ho i hk]
  · rw [List.getElem?_eq_none (by rw [List.length_set, List.length_map, List.length_range]; omega), List.getElem?_eq_none (by rw [List.length_map, List.length_range]; omega)]
theorem zr_put {ix a : Nat} {q : Nat × Nat × Bool × Nat} {r : vw_C} {ty : FieldType} {v : Value} {σ' : zM} (hC : zCtx G mi τ p s m args meth c) (hW : zW G σ H) (hS : va_S (zA G) s.heap H locs) (hd : decode (zB mi) pc = .ok (.putfield ix, 3)) (hq : zLk (zFL (zOC mi)) ix = some q) (ho : zobj a q.1 = true)
    (hcr : zCl[q.1]? = some r) (hfin : ¬ (r.2.1 q.2.1).2.2.2 = true) (hty : zTy q.1 q.2.1 = ty) (hn : narrow ty v = v) (hf : fits ty v = true) (hv : v = zrv G (zval σ' q.1 q.2.1 a)) (hov : ∀ j, j ≠ q.2.1 → zval σ' q.1 j a = zval σ q.1 j a) (hne : ∀ j, j ≠ a → zI σ' j = zI σ j ∧ zJ σ' j = zJ σ j)
    (k : ∀ (H' : Heap) (locs' : List Loc), zW G σ' H' → va_S (zA G) s.heap H' locs' → W p l e R s m args below meth c H' locs' cells slots Q (F0 m (pc + 3) lsA rest)) : W p l e R s m args below meth c H locs cells slots Q (F0 m pc lsA (v :: .ref (zad G a) :: rest)) := by
  obtain ⟨hx, hb, hml, hr, hown, hts, hlk, hKs⟩ := hC
  obtain ⟨C, T, N, hc, hk, hT, h1, h2⟩ := zFL_in hq
  cases hc.symm.trans hcr
  obtain ⟨n, hsh, ht⟩ := zobj_sh ho
  obtain ⟨C', T', hc'⟩ := zsh_cl hsh ht
  cases hc.symm.trans hc'
  obtain ⟨-, hnm, hok, -, -⟩ := zcl_all _ _ hc
  rw [zad_sh hsh]
  have he := zws_get (G := G) (σ := σ) hsh
  simp only [zen, ht, if_true] at he
  have hset : (zws G σ).set a (zgB G + a, .inr (q.1, ((List.range N).map (fun j => zrv G (zval σ q.1 j a))).set q.2.1 v)) = zws G σ' := by
    rw [zfs_set hv hov]
    refine zws_set ?_ (fun j hj => zent1_ne (hne j hj).1 (hne j hj).2)
    simp only [zent1, hsh, zen, ht, if_true]
  have hfin2 : (T q.2.1).2.2.2 = false := by
    cases hz : (T q.2.1).2.2.2 with
    | true => exact absurd hz hfin
    | false => rfl
  have kk : ∀ (H1 : Heap) (locs1 : List Loc), va_P (zgC G, zgI G) zCl ((zws G σ).set a (zgB G + a, .inr (q.1, ((List.range N).map (fun j => zrv G (zval σ q.1 j a))).set q.2.1 v))) H1 → va_D (zA G) ((zws G σ).set a (zgB G + a, .inr (q.1, ((List.range N).map (fun j => zrv G (zval σ q.1 j a))).set q.2.1 v))) → va_S (zA G) s.heap H1 locs1 → W p l e R s m args below meth c H1 locs1 cells slots Q (F0 m (pc + 3) lsA rest) := fun H1 locs1 g1 _ g3 => k H1 locs1 (by rw [hset] at g1; exact g1) g3
  cases hnn : q.2.2.1 with
  | false => exact va_put (D := (zgC G, zgI G)) (Ts := zgood) hx hb hts (zgood_u hc) (zTy q.1) hok hnm hown hKs.1 hW (zD G σ) hS a he hc q.2.1 hk (hts _ (h1 hnn)) (fun x hx => by rw [hT] at hx; exact hx) hfin2 (ty := ty) (by rw [hok _ hk, hty]) hn hf (by rw [List.length_map, List.length_range]; exact hk) hd kk
  | true => exact va_putN (D := (zgC G, zgI G)) (Ts := zgood) (host := "SlowOrder") hx hb hts (zgood_u hc) (zTy q.1) hok hnm hown hKs.1 hW (zD G σ) hS a he hc q.2.1 hk ((hKs.2.2.2.2.2.1 _ (h2 hnn)).use rfl) (fun x hx => by rw [hT] at hx; exact hx) hfin2 (ty := ty) (by rw [hok _ hk, hty]) hn hf (by rw [List.length_map, List.length_range]; exact hk) hd kk
theorem zen_I {k t n : Nat} (h1 : ¬ t < 100) (h2 : t < 103) : zen G σ k t n = .inl (zgA G t, (n, .inl (zI σ k))) := by
  unfold zen
  rw [if_neg h1, if_pos h2]
theorem zen_J {k n : Nat} : zen G σ k 103 n = .inl (zgA G 103, (n, .inr (.inl (zJ σ k)))) := by
  unfold zen
  rw [if_neg (by omega), if_neg (by omega), if_pos rfl]
theorem zen_R {k t n : Nat} (h : 103 < t) : zen G σ k t n = .inl (zgA G t, (n, .inr (.inr (.inr (.inr (fun i => some (zad G (zel t k i)))))))) := by
  unfold zen
  rw [if_neg (by omega), if_neg (by omega), if_neg (by omega)]
theorem zwsI {k t n : Nat} (h : zsh[k]? = some (t, n)) (h1 : ¬ t < 100) (h2 : t < 103) : (zws G σ)[k]? = some (zgB G + k, .inl (zgA G t, (n, .inl (zI σ k)))) := by
  rw [zws_get h, zen_I h1 h2]
theorem zwsJ {k n : Nat} (h : zsh[k]? = some (103, n)) : (zws G σ)[k]? = some (zgB G + k, .inl (zgA G 103, (n, .inr (.inl (zJ σ k))))) := by
  rw [zws_get h, zen_J]
theorem zr_iald {a : Nat} {i : Int32} (hC : zCtx G mi τ p s m args meth c) (hW : zW G σ H) (hd : decode (zB mi) pc = .ok (.iaload, 1)) (ha : zarr a 100 i = true)
    (k : W p l e R s m args below meth c H locs cells slots Q (F0 m (pc + 1) lsA (.int (zI σ a i.toNatClampNeg) :: rest))) : W p l e R s m args below meth c H locs cells slots Q (F0 m pc lsA (.int i :: .ref (zad G a) :: rest)) := by
  obtain ⟨n, hsh, hin⟩ := zarr_sh ha
  rw [zad_sh hsh]
  exact va_iald (D := (zgC G, zgI G)) hC.1 hC.2.1 hC.2.2.2.2.2.2.2.1 hW a 0 (zwsI hsh (by omega) (by omega)) (ztys_get G (i := 0) (by omega)) hin hd k
theorem zr_bald {a : Nat} {i : Int32} (hC : zCtx G mi τ p s m args meth c) (hW : zW G σ H) (hd : decode (zB mi) pc = .ok (.baload, 1)) (ha : zarr a 101 i = true)
    (k : W p l e R s m args below meth c H locs cells slots Q (F0 m (pc + 1) lsA (.int (zI σ a i.toNatClampNeg) :: rest))) : W p l e R s m args below meth c H locs cells slots Q (F0 m pc lsA (.int i :: .ref (zad G a) :: rest)) := by
  obtain ⟨n, hsh, hin⟩ := zarr_sh ha
  rw [zad_sh hsh]
  exact va_bald (D := (zgC G, zgI G)) hC.1 hC.2.1 hC.2.2.2.2.2.2.2.1 hW a 1 (zwsI hsh (by omega) (by omega)) (ztys_get G (i := 1) (by omega)) hin hd k
theorem zr_zald {a : Nat} {i : Int32} (hC : zCtx G mi τ p s m args meth c) (hW : zW G σ H) (hd : decode (zB mi) pc = .ok (.baload, 1)) (ha : zarr a 102 i = true)
    (k : W p l e R s m args below meth c H locs cells slots Q (F0 m (pc + 1) lsA (.int (zI σ a i.toNatClampNeg) :: rest))) : W p l e R s m args below meth c H locs cells slots Q (F0 m pc lsA (.int i :: .ref (zad G a) :: rest)) := by
  obtain ⟨n, hsh, hin⟩ := zarr_sh ha
  rw [zad_sh hsh]
  exact va_zald (D := (zgC G, zgI G)) hC.1 hC.2.1 hC.2.2.2.2.2.2.2.1 hW a 2 (zwsI hsh (by omega) (by omega)) (ztys_get G (i := 2) (by omega)) hin hd k
theorem zr_lald {a : Nat} {i : Int32} (hC : zCtx G mi τ p s m args meth c) (hW : zW G σ H) (hd : decode (zB mi) pc = .ok (.laload, 1)) (ha : zarr a 103 i = true)
    (k : W p l e R s m args below meth c H locs cells slots Q (F0 m (pc + 1) lsA (.long (zJ σ a i.toNatClampNeg) :: rest))) : W p l e R s m args below meth c H locs cells slots Q (F0 m pc lsA (.int i :: .ref (zad G a) :: rest)) := by
  obtain ⟨n, hsh, hin⟩ := zarr_sh ha
  rw [zad_sh hsh]
  exact va_lald (D := (zgC G, zgI G)) hC.1 hC.2.1 hC.2.2.2.2.2.2.2.1 hW a 3 (zwsJ hsh) (ztys_get G (i := 3) (by omega)) hin hd k
theorem zety_ref : ∀ j, j < 5 → (zety (100 + (4 + j))).isReference = true := by decide +kernel
theorem zr_aald {a t : Nat} {i : Int32} (ht : 104 ≤ t) (ht2 : t < 109) (hC : zCtx G mi τ p s m args meth c) (hW : zW G σ H) (hd : decode (zB mi) pc = .ok (.aaload, 1)) (ha : zarr a t i = true)
    (k : W p l e R s m args below meth c H locs cells slots Q (F0 m (pc + 1) lsA (.ref (zad G (zel t a i.toNatClampNeg)) :: rest))) : W p l e R s m args below meth c H locs cells slots Q (F0 m pc lsA (.int i :: .ref (zad G a) :: rest)) := by
  obtain ⟨n, hsh, hin⟩ := zarr_sh ha
  rw [zad_sh hsh]
  have he : (zws G σ)[a]? = some (zgB G + a, .inl (zgA G t, (n, .inr (.inr (.inr (.inr (fun i => some (zad G (zel t a i))))))))) := by rw [zws_get hsh, zen_R (by omega)]
  have hty := ztys_get G (i := t - 100) (by omega)
  rw [show 100 + (t - 100) = t by omega] at hty
  have hcell := hW a _ he
  have hcl : vp_cell (zgA G t) (n, .inr (.inr (.inr (.inr (fun i => some (zad G (zel t a i))))))) = arrV (zgA G t) n (fun j => .ref (zad G (zel t a j))) := rfl
  have hcell : H[zgB G + a]? = some (arrV (zgA G t) n (fun j => .ref (zad G (zel t a j)))) := by rw [← hcl]; exact hcell
  have hix : i.toNatClampNeg < n := by
    rcases Nat.lt_or_ge i.toNatClampNeg n with q | q
    · exact q
    · exact absurd (Or.inr q) hin
  have hrf : (zety t).isReference = true := by
    have := zety_ref (t - 104) (by omega)
    rwa [show 100 + (4 + (t - 104)) = t by omega] at this
  refine W.aald hC.1 hC.2.1 hcell ((hC.2.2.2.2.2.2.2.1.2 _ _ hty).1 _ _) hrf (fun z => by cases z) (by rw [arrV_size]; exact hin) (arrV_read _ _ hix) rfl rfl hd k
theorem zr_iast {a : Nat} {i x : Int32} (hC : zCtx G mi τ p s m args meth c) (hW : zW G σ H) (hS : va_S (zA G) s.heap H locs) (hd : decode (zB mi) pc = .ok (.iastore, 1)) (ha : zarr a 100 i = true)
    (k : ∀ (H' : Heap) (locs' : List Loc), zW G (zsI σ a i.toNatClampNeg x) H' → va_S (zA G) s.heap H' locs' → W p l e R s m args below meth c H' locs' cells slots Q (F0 m (pc + 1) lsA rest)) : W p l e R s m args below meth c H locs cells slots Q (F0 m pc lsA (.int x :: .int i :: .ref (zad G a) :: rest)) := by
  obtain ⟨n, hsh, hin⟩ := zarr_sh ha
  rw [zad_sh hsh]
  have hf : zI (zsI σ a i.toNatClampNeg x) a = upd (zI σ a) i.toNatClampNeg x := by
    funext j
    simp [zI, zsI, upd]
  have hset : (zws G σ).set a (zgB G + a, .inl (zgA G 100, (n, .inl (upd (zI σ a) i.toNatClampNeg x)))) = zws G (zsI σ a i.toNatClampNeg x) := by
    refine zws_set ?_ (fun j hj => zent1_ne (zI_ne hj) rfl)
    simp only [zent1, hsh]
    rw [zen_I (by omega) (by omega), hf]
  refine va_iast (D := (zgC G, zgI G)) hC.1 hC.2.1 hC.2.2.2.2.2.2.2.1 hW (zD G σ) hS a 0 (zwsI hsh (by omega) (by omega)) (ztys_get G (i := 0) (by omega)) hin hd (fun H1 locs1 g1 _ g3 => k H1 locs1 (by rw [hset] at g1; exact g1) g3)
theorem zr_bast {a : Nat} {i x : Int32} (hC : zCtx G mi τ p s m args meth c) (hW : zW G σ H) (hS : va_S (zA G) s.heap H locs) (hd : decode (zB mi) pc = .ok (.bastore, 1)) (ha : zarr a 101 i = true)
    (k : ∀ (H' : Heap) (locs' : List Loc), zW G (zsI σ a i.toNatClampNeg (vp_nar .byte x)) H' → va_S (zA G) s.heap H' locs' → W p l e R s m args below meth c H' locs' cells slots Q (F0 m (pc + 1) lsA rest)) : W p l e R s m args below meth c H locs cells slots Q (F0 m pc lsA (.int x :: .int i :: .ref (zad G a) :: rest)) := by
  obtain ⟨n, hsh, hin⟩ := zarr_sh ha
  rw [zad_sh hsh]
  have hf : zI (zsI σ a i.toNatClampNeg (vp_nar .byte x)) a = upd (zI σ a) i.toNatClampNeg (vp_nar .byte x) := by
    funext j
    simp [zI, zsI, upd]
  have hset : (zws G σ).set a (zgB G + a, .inl (zgA G 101, (n, .inl (upd (zI σ a) i.toNatClampNeg (vp_nar .byte x))))) = zws G (zsI σ a i.toNatClampNeg (vp_nar .byte x)) := by
    refine zws_set ?_ (fun j hj => zent1_ne (zI_ne hj) rfl)
    simp only [zent1, hsh]
    rw [zen_I (by omega) (by omega), hf]
  refine va_bast (D := (zgC G, zgI G)) hC.1 hC.2.1 hC.2.2.2.2.2.2.2.1 hW (zD G σ) hS a 1 (zwsI hsh (by omega) (by omega)) (ztys_get G (i := 1) (by omega)) hin hd (fun H1 locs1 g1 _ g3 => k H1 locs1 (by rw [hset] at g1; exact g1) g3)
theorem zr_zast {a : Nat} {i x : Int32} (hC : zCtx G mi τ p s m args meth c) (hW : zW G σ H) (hS : va_S (zA G) s.heap H locs) (hd : decode (zB mi) pc = .ok (.bastore, 1)) (ha : zarr a 102 i = true)
    (k : ∀ (H' : Heap) (locs' : List Loc), zW G (zsI σ a i.toNatClampNeg (vp_nar .boolean x)) H' → va_S (zA G) s.heap H' locs' → W p l e R s m args below meth c H' locs' cells slots Q (F0 m (pc + 1) lsA rest)) : W p l e R s m args below meth c H locs cells slots Q (F0 m pc lsA (.int x :: .int i :: .ref (zad G a) :: rest)) := by
  obtain ⟨n, hsh, hin⟩ := zarr_sh ha
  rw [zad_sh hsh]
  have hf : zI (zsI σ a i.toNatClampNeg (vp_nar .boolean x)) a = upd (zI σ a) i.toNatClampNeg (vp_nar .boolean x) := by
    funext j
    simp [zI, zsI, upd]
  have hset : (zws G σ).set a (zgB G + a, .inl (zgA G 102, (n, .inl (upd (zI σ a) i.toNatClampNeg (vp_nar .boolean x))))) = zws G (zsI σ a i.toNatClampNeg (vp_nar .boolean x)) := by
    refine zws_set ?_ (fun j hj => zent1_ne (zI_ne hj) rfl)
    simp only [zent1, hsh]
    rw [zen_I (by omega) (by omega), hf]
  refine va_zast (D := (zgC G, zgI G)) hC.1 hC.2.1 hC.2.2.2.2.2.2.2.1 hW (zD G σ) hS a 2 (zwsI hsh (by omega) (by omega)) (ztys_get G (i := 2) (by omega)) hin hd (fun H1 locs1 g1 _ g3 => k H1 locs1 (by rw [hset] at g1; exact g1) g3)
theorem zr_last {a : Nat} {i : Int32} {x : Int64} (hC : zCtx G mi τ p s m args meth c) (hW : zW G σ H) (hS : va_S (zA G) s.heap H locs) (hd : decode (zB mi) pc = .ok (.lastore, 1)) (ha : zarr a 103 i = true)
    (k : ∀ (H' : Heap) (locs' : List Loc), zW G (zsJ σ a i.toNatClampNeg x) H' → va_S (zA G) s.heap H' locs' → W p l e R s m args below meth c H' locs' cells slots Q (F0 m (pc + 1) lsA rest)) : W p l e R s m args below meth c H locs cells slots Q (F0 m pc lsA (.long x :: .int i :: .ref (zad G a) :: rest)) := by
  obtain ⟨n, hsh, hin⟩ := zarr_sh ha
  rw [zad_sh hsh]
  have hf : zJ (zsJ σ a i.toNatClampNeg x) a = vp_updL (zJ σ a) i.toNatClampNeg x := by
    funext j
    simp [zJ, zsJ, vp_updL]
  have hset : (zws G σ).set a (zgB G + a, .inl (zgA G 103, (n, .inr (.inl (vp_updL (zJ σ a) i.toNatClampNeg x))))) = zws G (zsJ σ a i.toNatClampNeg x) := by
    refine zws_set ?_ (fun j hj => zent1_ne rfl (zJ_ne hj))
    simp only [zent1, hsh]
    rw [zen_J, hf]
  refine va_last (D := (zgC G, zgI G)) hC.1 hC.2.1 hC.2.2.2.2.2.2.2.1 hW (zD G σ) hS a 3 (zwsJ hsh) (ztys_get G (i := 3) (by omega)) hin hd (fun H1 locs1 g1 _ g3 => k H1 locs1 (by rw [hset] at g1; exact g1) g3)
theorem zr_ldcwS {own tx : String} {index q : Nat} (hexec : p.tables.exec = Jvm.exec) (hb : c.code = zB mi) (hown : s.vm.findClass own = some m.cls) (hZ : vk_R own index tx q s) (hdg : decode (zB mi) pc = .ok (.ldc_w index, 3))
    (k : W p l e R s m args below meth c H locs cells slots Q (F0 m (pc + 3) lsA (.ref q :: rest))) : W p l e R s m args below meth c H locs cells slots Q (F0 m pc lsA rest) := by
  intro T hT X
  obtain ⟨t, a1, b1⟩ := k T hT X
  refine ⟨t, ?_, b1⟩
  obtain ⟨kC, cf, i, a', hk, hcf, hcp, -, hr, hev'⟩ := Cond.stringRef_spec (args := #[]) hown hZ.1
  cases hZ.2.symm.trans hev'
  obtain ⟨k', hk', he⟩ := X.warmed.alike.2.2 _ _ hk
  have hr' : k'.resolved[index]? = some (some (.string q)) := by
    rcases X.warmed.entry hk hk' index with h | ⟨h, -⟩
    · rw [h]; exact hr
    · rw [hr] at h; cases h
  have hdg' : decode c.code pc = .ok (.ldc_w index, 3) := by rw [hb]; exact hdg
  jvm_step X.here [hexec, hdg', ldc_w.wp_string (e := e) (s := T) (f := F0 m pc lsA rest) X.here.top hk' (by rw [he]; exact hcf) hcp hr']
  exact a1
end ZRW
