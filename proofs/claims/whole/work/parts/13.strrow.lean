/-! THE INSTRUCTIONS, ALL OF THEM -/
theorem zmp_0 : (zMK_0).all (fun e => decide (3 ≤ e.2.1 → e.2.2.2.1 = false)) = true := by decide +kernel
theorem zmp_1 : (zMK_1).all (fun e => decide (3 ≤ e.2.1 → e.2.2.2.1 = false)) = true := by decide +kernel
theorem zmp_2 : (zMK_2).all (fun e => decide (3 ≤ e.2.1 → e.2.2.2.1 = false)) = true := by decide +kernel
theorem zmp_3 : (zMK_3).all (fun e => decide (3 ≤ e.2.1 → e.2.2.2.1 = false)) = true := by decide +kernel
theorem zmp_4 : (zMK_4).all (fun e => decide (3 ≤ e.2.1 → e.2.2.2.1 = false)) = true := by decide +kernel
theorem zmp_5 : (zMK_5).all (fun e => decide (3 ≤ e.2.1 → e.2.2.2.1 = false)) = true := by decide +kernel
theorem zmp_6 : (zMK_6).all (fun e => decide (3 ≤ e.2.1 → e.2.2.2.1 = false)) = true := by decide +kernel
theorem zmp_7 : (zMK_7).all (fun e => decide (3 ≤ e.2.1 → e.2.2.2.1 = false)) = true := by decide +kernel
theorem zmp_8 : (zMK_8).all (fun e => decide (3 ≤ e.2.1 → e.2.2.2.1 = false)) = true := by decide +kernel
theorem zmp_9 : (zMK_9).all (fun e => decide (3 ≤ e.2.1 → e.2.2.2.1 = false)) = true := by decide +kernel
theorem zmp_10 : (zMK_10).all (fun e => decide (3 ≤ e.2.1 → e.2.2.2.1 = false)) = true := by decide +kernel
theorem zmp_11 : (zMK_11).all (fun e => decide (3 ≤ e.2.1 → e.2.2.2.1 = false)) = true := by decide +kernel
theorem zmp_12 : (zMK_12).all (fun e => decide (3 ≤ e.2.1 → e.2.2.2.1 = false)) = true := by decide +kernel
theorem zmp_all : ∀ oc, (zMK oc).all (fun e => decide (3 ≤ e.2.1 → e.2.2.2.1 = false)) = true := by
  intro oc
  match oc with
  | 0 => exact zmp_0
  | 1 => exact zmp_1
  | 2 => exact zmp_2
  | 3 => exact zmp_3
  | 4 => exact zmp_4
  | 5 => exact zmp_5
  | 6 => exact zmp_6
  | 7 => exact zmp_7
  | 8 => exact zmp_8
  | 9 => exact zmp_9
  | 10 => exact zmp_10
  | 11 => exact zmp_11
  | 12 => exact zmp_12
  | n + 13 => rfl
theorem zMK_pr {oc ix : Nat} {e : Nat × Nat × Bool × Nat} (h : zLk (zMK oc) ix = some e) (h3 : 3 ≤ e.1) : e.2.2.1 = false := of_decide_eq_true (List.all_eq_true.mp (zmp_all oc) (ix, e) (zLk_mem h)) h3
theorem zchars : zstr.all (fun l => l.all (fun b => decide (((b &&& 255).toUInt32 % 65536).toInt32 = b) && decide (narrow .char (.int b) = .int b)) && decide (l.length < 2 ^ 31)) = true := by decide +kernel
theorem zslen_at {i : Nat} (h : i < zstr.length) : zslen.getD i 0 = (zstr.getD i []).length := by
  unfold zslen
  rw [List.getD_eq_getElem?_getD, List.getD_eq_getElem?_getD, List.getElem?_map, List.getElem?_eq_getElem h]
  rfl
theorem zchar_at {i k : Nat} (h : i < zstr.length) (hk : k < (zstr.getD i []).length) : (((zstr.getD i []).getD k 0 &&& 255).toUInt32 % 65536).toInt32 = (zstr.getD i []).getD k 0 ∧ narrow .char (.int ((zstr.getD i []).getD k 0)) = .int ((zstr.getD i []).getD k 0) := by
  have h0 : zstr.getD i [] ∈ zstr := by
    rw [List.getD_eq_getElem?_getD, List.getElem?_eq_getElem h]
    exact List.getElem_mem h
  have h1 := List.all_eq_true.mp zchars _ h0
  simp only [Bool.and_eq_true] at h1
  have h2 : (zstr.getD i []).getD k 0 ∈ zstr.getD i [] := by
    rw [List.getD_eq_getElem?_getD (l := zstr.getD i []), List.getElem?_eq_getElem hk]
    exact List.getElem_mem hk
  have h3 := List.all_eq_true.mp h1.1 _ h2
  simp only [Bool.and_eq_true, decide_eq_true_eq] at h3
  exact h3
theorem zstr_lt {i : Nat} (h : i < zstr.length) : (zstr.getD i []).length < 2 ^ 31 := by
  have h0 : zstr.getD i [] ∈ zstr := by
    rw [List.getD_eq_getElem?_getD, List.getElem?_eq_getElem h]
    exact List.getElem_mem h
  have h1 := List.all_eq_true.mp zchars _ h0
  simp only [Bool.and_eq_true, decide_eq_true_eq] at h1
  exact h1.2
theorem zstr_n : zstr.length = 19 := rfl
section ZPS
variable {p : Program} {l : Launch} {e : Env} {R : Room} {s : State} {m : MethodId} {args : Array Value} {below : List Frame} {meth : Method} {c : Code} {H : Heap} {locs : List Loc} {cells slots : Nat} {Q : State → Prop}
variable {G : zG} {mi pc : Nat} {σ : zM} {τ : Nat × (Nat → Int32)} {lsA : Array Slot} {rest : List Value}
theorem zr_slen {ix i : Nat} {e1 : Nat × Bool × Nat} {st1 : List Value} (hR : zFr mi ≤ R.frames ∧ zLo mi ≤ R.locals ∧ cells ≤ R.cells ∧ slots ≤ R.slots) (hC : zCtx G mi τ p s m args meth c) (hS : va_S (zA G) s.heap H locs) (hl : lsA.size = zML mi) (hd : decode (zB mi) pc = .ok (.invokevirtual ix, 3)) (hq : zLk (zMK (zOC mi)) ix = some (7, e1)) (hroom : zroomP mi 2 32 = true) (hwt : zwt st1 = true) (hi : i < zstr.length)
    (k : W p l e R s m args below meth c H locs cells slots Q (F0 m (pc + 3) lsA (.int (nI (zstr.getD i []).length) :: st1.map (zrv G)))) : W p l e R s m args below meth c H locs cells slots Q (F0 m pc lsA (.ref (zgK G i) :: st1.map (zrv G))) := by
  obtain ⟨hx, hb, hml, hr, hown, hts, hlk, hKs⟩ := hC
  obtain ⟨k1, k2, k3⟩ := zMK_in hq
  have hk := hts _ (k2 (zMK_pr hq (by show 3 ≤ 7; omega)))
  obtain ⟨r1, r2⟩ := zroomP_of hroom hR
  obtain ⟨⟨adV, hV⟩, hZ, hq9⟩ := hKs.2.2.2.2.2.2.2
  have hlen := zstr_lt hi
  rw [← zslen_at hi] at hlen k
  refine zw_callh (va_runV (Ts := zgood) (own := zCNm (zOC mi)) (C := "java/lang/String") (As := []) (n := 0) ⟨hx, hb, hml, hown, hts⟩ (zq_len (G := G) (adV := adV) l hi hlen) ⟨callB_of (ws' := zgood) _ hts (zq_good zq_cle) rfl rfl rfl (hts _ zq_is) hk (by decide +kernel) ⟨r1, by show 8 + (1 + 11) + 20 ≤ R.locals; omega⟩, hts _ zq_sle, hts _ zq_lle⟩ ⟨fun a U g mk q => ⟨q.1, zSx_blind q.2⟩, zVS_recv hV hi hS, fun U hU hW => ⟨rfl, zSx_moved ⟨hV, hZ, hq9⟩ hS hU hW⟩⟩ rfl rfl hl rfl (zwt_of hwt) hd ⟨hR.2.2.1, hR.2.2.2⟩) (fun _ _ => Or.inr trivial) (fun L hL => ?_)
  subst hL
  exact k
theorem zr_schar {ix i : Nat} {e1 : Nat × Bool × Nat} {st1 : List Value} {x : Int32} (hR : zFr mi ≤ R.frames ∧ zLo mi ≤ R.locals ∧ cells ≤ R.cells ∧ slots ≤ R.slots) (hC : zCtx G mi τ p s m args meth c) (hS : va_S (zA G) s.heap H locs) (hl : lsA.size = zML mi) (hd : decode (zB mi) pc = .ok (.invokevirtual ix, 3)) (hq : zLk (zMK (zOC mi)) ix = some (8, e1)) (hroom : zroomP mi 5 101 = true) (hwt : zwt st1 = true) (hi : i < zstr.length) (hx0 : 0 ≤ x) (hx1 : x.toNatClampNeg < (zstr.getD i []).length)
    (k : W p l e R s m args below meth c H locs cells slots Q (F0 m (pc + 3) lsA (.int ((zstr.getD i []).getD x.toNatClampNeg 0) :: st1.map (zrv G)))) : W p l e R s m args below meth c H locs cells slots Q (F0 m pc lsA (.int x :: .ref (zgK G i) :: st1.map (zrv G))) := by
  obtain ⟨hx, hb, hml, hr, hown, hts, hlk, hKs⟩ := hC
  obtain ⟨k1, k2, k3⟩ := zMK_in hq
  have hk := hts _ (k2 (zMK_pr hq (by show 3 ≤ 8; omega)))
  obtain ⟨r1, r2⟩ := zroomP_of hroom hR
  obtain ⟨⟨adV, hV⟩, hZ, hq9⟩ := hKs.2.2.2.2.2.2.2
  have hlen := zstr_lt hi
  obtain ⟨j, hj, rfl⟩ := nI_of (Int32.not_lt.mpr hx0)
  rw [nI_clamp hj] at hx1 k
  obtain ⟨hc, hnr⟩ := zchar_at hi hx1
  refine zw_callh (va_runV (Ts := zgood) (own := zCNm (zOC mi)) (C := "java/lang/String") (As := [.int (nI j)]) (n := 1) ⟨hx, hb, hml, hown, hts⟩ (zq_char (G := G) (adV := adV) l hi (by rw [zslen_at hi]; exact hx1) (by rw [zslen_at hi]; exact hlen) hc hnr) ⟨callB_of (ws' := zgood) _ hts (zq_good zq_cch) rfl rfl rfl (hts _ zq_is) hk (by decide +kernel) ⟨Nat.le_trans (Nat.le_of_ble_eq_true rfl) r1, by show 8 + (2 + 11) + 64 ≤ R.locals; omega⟩, hts _ zq_sch, hts _ zq_lch⟩ ⟨fun a U g mk q => ⟨q.1, zSx_blind q.2⟩, zVS_recv hV hi hS, fun U hU hW => ⟨rfl, zSx_moved ⟨hV, hZ, hq9⟩ hS hU hW⟩⟩ rfl rfl hl rfl (zwt_of hwt) hd ⟨hR.2.2.1, hR.2.2.2⟩) (fun _ _ => Or.inr trivial) (fun L hL => ?_)
  subst hL
  exact k
end ZPS
