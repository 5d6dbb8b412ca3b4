/-! THE JDK'S OWN: Math.min, Math.max, System.arraycopy -/
theorem zin_at {w : Cond} (i : Nat) (h : lw_tbl[i]? = some w) : w ∈ lw_tbl := List.mem_of_getElem? h
set_option maxRecDepth 100000 in
theorem zj_minc : Cond.code Lib.Math.min.name Lib.Math.min.code 2 (some .int) ∈ lw_tbl := List.mem_of_getElem? (i := 681) rfl
set_option maxRecDepth 100000 in
theorem zj_maxc : Cond.code Lib.Math.max.name Lib.Math.max.code 2 (some .int) ∈ lw_tbl := List.mem_of_getElem? (i := 684) rfl
set_option maxRecDepth 100000 in
theorem zj_mins : Cond.static Lib.Math.min.name ∈ lw_tbl := List.mem_of_getElem? (i := 680) rfl
set_option maxRecDepth 100000 in
theorem zj_maxs : Cond.static Lib.Math.max.name ∈ lw_tbl := List.mem_of_getElem? (i := 683) rfl
set_option maxRecDepth 100000 in
theorem zj_mathi : Cond.initialized "java/lang/Math" ∈ lw_tbl := List.mem_of_getElem? (i := 179) rfl
set_option maxRecDepth 100000 in
theorem zj_sysi : Cond.initialized "java/lang/System" ∈ lw_tbl := List.mem_of_getElem? (i := 184) rfl
set_option maxRecDepth 100000 in
theorem zj_acs : Cond.static arraycopyName ∈ lw_tbl := List.mem_of_getElem? (i := 854) rfl
set_option maxRecDepth 100000 in
theorem zj_acn : Cond.native arraycopyName ∈ lw_tbl := List.mem_of_getElem? (i := 855) rfl
section ZPR
variable {p : Program} {l : Launch} {e : Env} {R : Room} {s : State} {m : MethodId} {args : Array Value} {below : List Frame} {meth : Method} {c : Code} {H : Heap} {locs : List Loc} {cells slots : Nat} {Q : State → Prop}
variable {G : zG} {mi pc : Nat} {σ : zM} {τ : Nat × (Nat → Int32)} {lsA : Array Slot} {rest : List Value}
theorem zroomP_of {f n : Nat} (h : zroomP mi f n = true) (hR : zFr mi ≤ R.frames ∧ zLo mi ≤ R.locals ∧ cells ≤ R.cells ∧ slots ≤ R.slots) : f ≤ R.frames ∧ 8 + n ≤ R.locals := by
  unfold zroomP at h
  simp only [Bool.and_eq_true, decide_eq_true_eq] at h
  exact ⟨Nat.le_trans h.1 hR.1, Nat.le_trans h.2 hR.2.1⟩
theorem zwt_sum {st : List Value} (h : zwt st = true) : ((st.map (zrv G)).map fun v => v.category).sum ≤ 8 := by
  unfold zwt at h
  simp only [decide_eq_true_eq] at h
  rw [List.map_map]
  have e : ((fun v : Value => v.category) ∘ zrv G) = fun v => v.category := funext fun v => zrv_cat G v
  rw [e]
  exact h
theorem zr_min {ix : Nat} {e1 : Nat × Bool × Nat} {st1 : List Value} {x y : Int32} (hR : zFr mi ≤ R.frames ∧ zLo mi ≤ R.locals ∧ cells ≤ R.cells ∧ slots ≤ R.slots) (hC : zCtx G mi τ p s m args meth c) (hl : lsA.size = zML mi) (hd : decode (zB mi) pc = .ok (.invokestatic ix, 3)) (hq : zLk (zMK (zOC mi)) ix = some (4, e1)) (hn : e1.2.1 = false) (hroom : zroomP mi 1 13 = true) (hwt : zwt st1 = true)
    (k : W p l e R s m args below meth c H locs cells slots Q (F0 m (pc + 3) lsA (.int (if y < x then y else x) :: st1.map (zrv G)))) : W p l e R s m args below meth c H locs cells slots Q (F0 m pc lsA (.int y :: .int x :: st1.map (zrv G))) := by
  obtain ⟨hx, hb, hml, hr, hown, hts, hlk, hKs⟩ := hC
  obtain ⟨k1, k2, k3⟩ := zMK_in hq
  have hk := hts _ (k2 hn)
  obtain ⟨r1, r2⟩ := zroomP_of hroom hR
  have := zwt_sum (G := G) hwt
  exact va_mmin hx hb (hml.trans hl.symm) hown hk (hts _ (zgood_in zj_mins rfl)) (hts _ (zgood_in zj_mathi rfl)) (hts _ (zgood_in zj_minc rfl)) r1 (by omega) hR.2.2.1 hR.2.2.2 hd k
theorem zr_max {ix : Nat} {e1 : Nat × Bool × Nat} {st1 : List Value} {x y : Int32} (hR : zFr mi ≤ R.frames ∧ zLo mi ≤ R.locals ∧ cells ≤ R.cells ∧ slots ≤ R.slots) (hC : zCtx G mi τ p s m args meth c) (hl : lsA.size = zML mi) (hd : decode (zB mi) pc = .ok (.invokestatic ix, 3)) (hq : zLk (zMK (zOC mi)) ix = some (5, e1)) (hn : e1.2.1 = false) (hroom : zroomP mi 1 13 = true) (hwt : zwt st1 = true)
    (k : W p l e R s m args below meth c H locs cells slots Q (F0 m (pc + 3) lsA (.int (if x < y then y else x) :: st1.map (zrv G)))) : W p l e R s m args below meth c H locs cells slots Q (F0 m pc lsA (.int y :: .int x :: st1.map (zrv G))) := by
  obtain ⟨hx, hb, hml, hr, hown, hts, hlk, hKs⟩ := hC
  obtain ⟨k1, k2, k3⟩ := zMK_in hq
  have hk := hts _ (k2 hn)
  obtain ⟨r1, r2⟩ := zroomP_of hroom hR
  have := zwt_sum (G := G) hwt
  exact va_mmax hx hb (hml.trans hl.symm) hown hk (hts _ (zgood_in zj_maxs rfl)) (hts _ (zgood_in zj_mathi rfl)) (hts _ (zgood_in zj_maxc rfl)) r1 (by omega) hR.2.2.1 hR.2.2.2 hd k
theorem zcI_ne {k sp q dp n j : Nat} (h : j ≠ q) : zI (zcI σ k sp q dp n) j = zI σ j := by
  funext i
  simp [zI, zcI, h]
theorem zcJ_ne {k sp q dp n j : Nat} (h : j ≠ q) : zJ (zcJ σ k sp q dp n) j = zJ σ j := by
  funext i
  simp [zJ, zcJ, h]
theorem zr_copyI {ix a b : Nat} {e1 : Nat × Bool × Nat} {st1 : List Value} {sp dp n : Int32} (hR : zFr mi ≤ R.frames ∧ zLo mi ≤ R.locals ∧ cells ≤ R.cells ∧ slots ≤ R.slots) (hC : zCtx G mi τ p s m args meth c) (hW : zW G σ H) (hS : va_S (zA G) s.heap H locs) (hl : lsA.size = zML mi) (hd : decode (zB mi) pc = .ok (.invokestatic ix, 3)) (hq : zLk (zMK (zOC mi)) ix = some (6, e1)) (hn : e1.2.1 = false) (hroom : zroomP mi 1 18 = true) (hwt : zwt st1 = true)
    (hb1 : zseg b 100 sp n = true) (ha1 : zseg a 100 dp n = true)
    (k : ∀ (H' : Heap) (locs' : List Loc), zW G (zcI σ b sp.toNatClampNeg a dp.toNatClampNeg n.toNatClampNeg) H' → va_S (zA G) s.heap H' locs' → W p l e R s m args below meth c H' locs' cells slots Q (F0 m (pc + 3) lsA (st1.map (zrv G)))) : W p l e R s m args below meth c H locs cells slots Q (F0 m pc lsA (.int n :: .int dp :: .ref (zad G a) :: .int sp :: .ref (zad G b) :: st1.map (zrv G))) := by
  obtain ⟨hx, hb, hml, hr, hown, hts, hlk, hKs⟩ := hC
  obtain ⟨k1, k2, k3⟩ := zMK_in hq
  have hk := hts _ (k2 hn)
  obtain ⟨r1, r2⟩ := zroomP_of hroom hR
  have := zwt_sum (G := G) hwt
  obtain ⟨nb, hb2, hb3, hb4, hb5⟩ := zseg_sh hb1
  obtain ⟨na, ha2, ha3, ha4, ha5⟩ := zseg_sh ha1
  rw [zad_sh hb2, zad_sh ha2]
  have hf : zI (zcI σ b sp.toNatClampNeg a dp.toNatClampNeg n.toNatClampNeg) a = va_cpy (zI σ b) (zI σ a) sp.toNatClampNeg dp.toNatClampNeg n.toNatClampNeg := by
    funext j
    simp [zI, zcI, va_cpy]
  have hset : (zws G σ).set a (zgB G + a, .inl (zgA G 100, (na, .inl (va_cpy (zI σ b) (zI σ a) sp.toNatClampNeg dp.toNatClampNeg n.toNatClampNeg)))) = zws G (zcI σ b sp.toNatClampNeg a dp.toNatClampNeg n.toNatClampNeg) := by
    refine zws_set ?_ (fun j hj => zent1_ne (zcI_ne hj) rfl)
    simp only [zent1, ha2]
    rw [zen_I (by omega) (by omega), hf]
  have hnw : nativeFrameWords "java/lang/System" "arraycopy" 5 = 7 := by decide
  exact va_copyi (D := (zgC G, zgI G)) hx hb (hml.trans hl.symm) hown hk (hts _ (zgood_in zj_acn rfl)) (hts _ (zgood_in zj_acs rfl)) (hts _ (zgood_in zj_sysi rfl)) hKs.1 hW (zD G σ) hS b a 0 0 (zwsI hb2 (by omega) (by omega)) (zwsI ha2 (by omega) (by omega)) (ztys_get G (i := 0) (by omega)) (ztys_get G (i := 0) (by omega)) rfl hb3 ha3 hb4 hb5 ha5 (fun i _ => rfl) r1 (by rw [hnw]; omega) hd (fun H1 locs1 g1 _ g3 => k H1 locs1 (by rw [hset] at g1; exact g1) g3)
theorem zr_copyJ {ix a b : Nat} {e1 : Nat × Bool × Nat} {st1 : List Value} {sp dp n : Int32} (hR : zFr mi ≤ R.frames ∧ zLo mi ≤ R.locals ∧ cells ≤ R.cells ∧ slots ≤ R.slots) (hC : zCtx G mi τ p s m args meth c) (hW : zW G σ H) (hS : va_S (zA G) s.heap H locs) (hl : lsA.size = zML mi) (hd : decode (zB mi) pc = .ok (.invokestatic ix, 3)) (hq : zLk (zMK (zOC mi)) ix = some (6, e1)) (hn : e1.2.1 = false) (hroom : zroomP mi 1 18 = true) (hwt : zwt st1 = true)
    (hb1 : zseg b 103 sp n = true) (ha1 : zseg a 103 dp n = true)
    (k : ∀ (H' : Heap) (locs' : List Loc), zW G (zcJ σ b sp.toNatClampNeg a dp.toNatClampNeg n.toNatClampNeg) H' → va_S (zA G) s.heap H' locs' → W p l e R s m args below meth c H' locs' cells slots Q (F0 m (pc + 3) lsA (st1.map (zrv G)))) : W p l e R s m args below meth c H locs cells slots Q (F0 m pc lsA (.int n :: .int dp :: .ref (zad G a) :: .int sp :: .ref (zad G b) :: st1.map (zrv G))) := by
  obtain ⟨hx, hb, hml, hr, hown, hts, hlk, hKs⟩ := hC
  obtain ⟨k1, k2, k3⟩ := zMK_in hq
  have hk := hts _ (k2 hn)
  obtain ⟨r1, r2⟩ := zroomP_of hroom hR
  have := zwt_sum (G := G) hwt
  obtain ⟨nb, hb2, hb3, hb4, hb5⟩ := zseg_sh hb1
  obtain ⟨na, ha2, ha3, ha4, ha5⟩ := zseg_sh ha1
  rw [zad_sh hb2, zad_sh ha2]
  have hf : zJ (zcJ σ b sp.toNatClampNeg a dp.toNatClampNeg n.toNatClampNeg) a = va_cpy (zJ σ b) (zJ σ a) sp.toNatClampNeg dp.toNatClampNeg n.toNatClampNeg := by
    funext j
    simp [zJ, zcJ, va_cpy]
  have hset : (zws G σ).set a (zgB G + a, .inl (zgA G 103, (na, .inr (.inl (va_cpy (zJ σ b) (zJ σ a) sp.toNatClampNeg dp.toNatClampNeg n.toNatClampNeg))))) = zws G (zcJ σ b sp.toNatClampNeg a dp.toNatClampNeg n.toNatClampNeg) := by
    refine zws_set ?_ (fun j hj => zent1_ne rfl (zcJ_ne hj))
    simp only [zent1, ha2]
    rw [zen_J, hf]
  have hnw : nativeFrameWords "java/lang/System" "arraycopy" 5 = 7 := by decide
  exact va_copyl (D := (zgC G, zgI G)) hx hb (hml.trans hl.symm) hown hk (hts _ (zgood_in zj_acn rfl)) (hts _ (zgood_in zj_acs rfl)) (hts _ (zgood_in zj_sysi rfl)) hKs.1 hW (zD G σ) hS b a 3 3 (zwsJ hb2) (zwsJ ha2) (ztys_get G (i := 3) (by omega)) (ztys_get G (i := 3) (by omega)) rfl hb3 ha3 hb4 hb5 ha5 (fun i _ => rfl) r1 (by rw [hnw]; omega) hd (fun H1 locs1 g1 _ g3 => k H1 locs1 (by rw [hset] at g1; exact g1) g3)
end ZPR
