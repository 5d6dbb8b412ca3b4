/-! THE STRING CONSTANTS: length and charAt, walked -/
def zq_yco : MethodName := ⟨"java/lang/String", "coder", "()B"⟩
theorem zq_dco_0 : decode prog_14_method_152_code 0 = .ok (.getstatic 38, 3) := by decide +kernel
theorem zq_dco_3 : decode prog_14_method_152_code 3 = .ok (.ifCond .eq (10), 3) := by decide +kernel
theorem zq_dco_6 : decode prog_14_method_152_code 6 = .ok (.aload_n 0, 1) := by decide +kernel
theorem zq_dco_7 : decode prog_14_method_152_code 7 = .ok (.getfield 15, 3) := by decide +kernel
theorem zq_dco_10 : decode prog_14_method_152_code 10 = .ok (.goto (4), 3) := by decide +kernel
theorem zq_dco_13 : decode prog_14_method_152_code 13 = .ok (.iconst (1), 1) := by decide +kernel
theorem zq_dco_14 : decode prog_14_method_152_code 14 = .ok (.ireturn, 1) := by decide +kernel
set_option maxRecDepth 100000 in
theorem zq_cco : Cond.code zq_yco prog_14_method_152_code 1 (some .byte) ∈ zgood := zgood_in (List.mem_of_getElem? (i := 714) rfl) rfl
theorem zq_sco : Cond.instanceMethod zq_yco ∈ zgood := zgood_in (List.mem_of_getElem? (i := 712) (by decide +kernel)) rfl
theorem zq_lco : Cond.selects "java/lang/String" zq_yco zq_yco ∈ zgood := zgood_in (List.mem_of_getElem? (i := 713) (by decide +kernel)) rfl
def zq_yle : MethodName := ⟨"java/lang/String", "length", "()I"⟩
theorem zq_dle_0 : decode prog_14_method_54_code 0 = .ok (.aload_n 0, 1) := by decide +kernel
theorem zq_dle_1 : decode prog_14_method_54_code 1 = .ok (.getfield 9, 3) := by decide +kernel
theorem zq_dle_4 : decode prog_14_method_54_code 4 = .ok (.arraylength, 1) := by decide +kernel
theorem zq_dle_5 : decode prog_14_method_54_code 5 = .ok (.aload_n 0, 1) := by decide +kernel
theorem zq_dle_6 : decode prog_14_method_54_code 6 = .ok (.invokevirtual 335, 3) := by decide +kernel
theorem zq_dle_9 : decode prog_14_method_54_code 9 = .ok (.ishr, 1) := by decide +kernel
theorem zq_dle_10 : decode prog_14_method_54_code 10 = .ok (.ireturn, 1) := by decide +kernel
set_option maxRecDepth 100000 in
theorem zq_cle : Cond.code zq_yle prog_14_method_54_code 1 (some .int) ∈ zgood := zgood_in (List.mem_of_getElem? (i := 710) rfl) rfl
theorem zq_sle : Cond.instanceMethod zq_yle ∈ zgood := zgood_in (List.mem_of_getElem? (i := 708) (by decide +kernel)) rfl
theorem zq_lle : Cond.selects "java/lang/String" zq_yle zq_yle ∈ zgood := zgood_in (List.mem_of_getElem? (i := 709) (by decide +kernel)) rfl
def zq_yla : MethodName := ⟨"java/lang/String", "isLatin1", "()Z"⟩
theorem zq_dla_0 : decode prog_14_method_154_code 0 = .ok (.getstatic 38, 3) := by decide +kernel
theorem zq_dla_3 : decode prog_14_method_154_code 3 = .ok (.ifCond .eq (14), 3) := by decide +kernel
theorem zq_dla_6 : decode prog_14_method_154_code 6 = .ok (.aload_n 0, 1) := by decide +kernel
theorem zq_dla_7 : decode prog_14_method_154_code 7 = .ok (.getfield 15, 3) := by decide +kernel
theorem zq_dla_10 : decode prog_14_method_154_code 10 = .ok (.ifCond .ne (7), 3) := by decide +kernel
theorem zq_dla_13 : decode prog_14_method_154_code 13 = .ok (.iconst (1), 1) := by decide +kernel
theorem zq_dla_14 : decode prog_14_method_154_code 14 = .ok (.goto (4), 3) := by decide +kernel
theorem zq_dla_17 : decode prog_14_method_154_code 17 = .ok (.iconst (0), 1) := by decide +kernel
theorem zq_dla_18 : decode prog_14_method_154_code 18 = .ok (.ireturn, 1) := by decide +kernel
set_option maxRecDepth 100000 in
theorem zq_cla : Cond.code zq_yla prog_14_method_154_code 1 (some .boolean) ∈ zgood := zgood_in (List.mem_of_getElem? (i := 724) rfl) rfl
theorem zq_sla : Cond.instanceMethod zq_yla ∈ zgood := zgood_in (List.mem_of_getElem? (i := 722) (by decide +kernel)) rfl
theorem zq_lla : Cond.selects "java/lang/String" zq_yla zq_yla ∈ zgood := zgood_in (List.mem_of_getElem? (i := 723) (by decide +kernel)) rfl
def zq_ypc : MethodName := ⟨"jdk/internal/util/Preconditions", "checkIndex", "(IILjava/util/function/BiFunction;)I"⟩
theorem zq_dpc_0 : decode prog_19_method_11_code 0 = .ok (.iload_n 0, 1) := by decide +kernel
theorem zq_dpc_1 : decode prog_19_method_11_code 1 = .ok (.ifCond .lt (8), 3) := by decide +kernel
theorem zq_dpc_4 : decode prog_19_method_11_code 4 = .ok (.iload_n 0, 1) := by decide +kernel
theorem zq_dpc_5 : decode prog_19_method_11_code 5 = .ok (.iload_n 1, 1) := by decide +kernel
theorem zq_dpc_6 : decode prog_19_method_11_code 6 = .ok (.if_icmp .lt (10), 3) := by decide +kernel
theorem zq_dpc_16 : decode prog_19_method_11_code 16 = .ok (.iload_n 0, 1) := by decide +kernel
theorem zq_dpc_17 : decode prog_19_method_11_code 17 = .ok (.ireturn, 1) := by decide +kernel
set_option maxRecDepth 100000 in
theorem zq_cpc : Cond.code zq_ypc prog_19_method_11_code 3 (some .int) ∈ zgood := zgood_in (List.mem_of_getElem? (i := 735) rfl) rfl
theorem zq_spc : Cond.static zq_ypc ∈ zgood := zgood_in (List.mem_of_getElem? (i := 734) (by decide +kernel)) rfl
def zq_yci : MethodName := ⟨"java/lang/String", "checkIndex", "(II)V"⟩
theorem zq_dci_0 : decode prog_14_method_155_code 0 = .ok (.iload_n 0, 1) := by decide +kernel
theorem zq_dci_1 : decode prog_14_method_155_code 1 = .ok (.iload_n 1, 1) := by decide +kernel
theorem zq_dci_2 : decode prog_14_method_155_code 2 = .ok (.getstatic 1053, 3) := by decide +kernel
theorem zq_dci_5 : decode prog_14_method_155_code 5 = .ok (.invokestatic 1059, 3) := by decide +kernel
theorem zq_dci_8 : decode prog_14_method_155_code 8 = .ok (.pop, 1) := by decide +kernel
theorem zq_dci_9 : decode prog_14_method_155_code 9 = .ok (.return_, 1) := by decide +kernel
set_option maxRecDepth 100000 in
theorem zq_cci : Cond.code zq_yci prog_14_method_155_code 2 none ∈ zgood := zgood_in (List.mem_of_getElem? (i := 730) rfl) rfl
theorem zq_sci : Cond.static zq_yci ∈ zgood := zgood_in (List.mem_of_getElem? (i := 729) (by decide +kernel)) rfl
def zq_yl1 : MethodName := ⟨"java/lang/StringLatin1", "charAt", "([BI)C"⟩
theorem zq_dl1_0 : decode prog_15_method_2_code 0 = .ok (.iload_n 1, 1) := by decide +kernel
theorem zq_dl1_1 : decode prog_15_method_2_code 1 = .ok (.aload_n 0, 1) := by decide +kernel
theorem zq_dl1_2 : decode prog_15_method_2_code 2 = .ok (.arraylength, 1) := by decide +kernel
theorem zq_dl1_3 : decode prog_15_method_2_code 3 = .ok (.invokestatic 9, 3) := by decide +kernel
theorem zq_dl1_6 : decode prog_15_method_2_code 6 = .ok (.aload_n 0, 1) := by decide +kernel
theorem zq_dl1_7 : decode prog_15_method_2_code 7 = .ok (.iload_n 1, 1) := by decide +kernel
theorem zq_dl1_8 : decode prog_15_method_2_code 8 = .ok (.baload, 1) := by decide +kernel
theorem zq_dl1_9 : decode prog_15_method_2_code 9 = .ok (.sipush (255), 3) := by decide +kernel
theorem zq_dl1_12 : decode prog_15_method_2_code 12 = .ok (.iand, 1) := by decide +kernel
theorem zq_dl1_13 : decode prog_15_method_2_code 13 = .ok (.i2c, 1) := by decide +kernel
theorem zq_dl1_14 : decode prog_15_method_2_code 14 = .ok (.ireturn, 1) := by decide +kernel
set_option maxRecDepth 100000 in
theorem zq_cl1 : Cond.code zq_yl1 prog_15_method_2_code 2 (some .char) ∈ zgood := zgood_in (List.mem_of_getElem? (i := 727) rfl) rfl
theorem zq_sl1 : Cond.static zq_yl1 ∈ zgood := zgood_in (List.mem_of_getElem? (i := 726) (by decide +kernel)) rfl
def zq_ych : MethodName := ⟨"java/lang/String", "charAt", "(I)C"⟩
theorem zq_dch_0 : decode prog_14_method_56_code 0 = .ok (.aload_n 0, 1) := by decide +kernel
theorem zq_dch_1 : decode prog_14_method_56_code 1 = .ok (.invokevirtual 492, 3) := by decide +kernel
theorem zq_dch_4 : decode prog_14_method_56_code 4 = .ok (.ifCond .eq (12), 3) := by decide +kernel
theorem zq_dch_7 : decode prog_14_method_56_code 7 = .ok (.aload_n 0, 1) := by decide +kernel
theorem zq_dch_8 : decode prog_14_method_56_code 8 = .ok (.getfield 9, 3) := by decide +kernel
theorem zq_dch_11 : decode prog_14_method_56_code 11 = .ok (.iload_n 1, 1) := by decide +kernel
theorem zq_dch_12 : decode prog_14_method_56_code 12 = .ok (.invokestatic 495, 3) := by decide +kernel
theorem zq_dch_15 : decode prog_14_method_56_code 15 = .ok (.ireturn, 1) := by decide +kernel
set_option maxRecDepth 100000 in
theorem zq_cch : Cond.code zq_ych prog_14_method_56_code 2 (some .char) ∈ zgood := zgood_in (List.mem_of_getElem? (i := 720) rfl) rfl
theorem zq_sch : Cond.instanceMethod zq_ych ∈ zgood := zgood_in (List.mem_of_getElem? (i := 718) (by decide +kernel)) rfl
theorem zq_lch : Cond.selects "java/lang/String" zq_ych zq_ych ∈ zgood := zgood_in (List.mem_of_getElem? (i := 719) (by decide +kernel)) rfl
theorem zq_mco : Cond.methodLink "java/lang/String" 335 zq_yco ∈ zgood := zgood_in (List.mem_of_getElem? (i := 711) (by decide +kernel)) rfl
theorem zq_mla : Cond.methodLink "java/lang/String" 492 zq_yla ∈ zgood := zgood_in (List.mem_of_getElem? (i := 721) (by decide +kernel)) rfl
theorem zq_ml1 : Cond.methodLink "java/lang/String" 495 zq_yl1 ∈ zgood := zgood_in (List.mem_of_getElem? (i := 725) (by decide +kernel)) rfl
theorem zq_mci : Cond.methodLink "java/lang/StringLatin1" 9 zq_yci ∈ zgood := zgood_in (List.mem_of_getElem? (i := 728) (by decide +kernel)) rfl
theorem zq_mpc : Cond.methodLink "java/lang/String" 1059 zq_ypc ∈ zgood := zgood_in (List.mem_of_getElem? (i := 733) (by decide +kernel)) rfl
theorem zq_fv : Cond.fieldLink "java/lang/String" (9 : Nat) "java/lang/String" "value" "[B" ∈ zgood := zgood_in (List.mem_of_getElem? (i := 1998) (by decide +kernel)) rfl
theorem zq_fc : Cond.fieldLink "java/lang/String" (15 : Nat) "java/lang/String" "coder" "B" ∈ zgood := zgood_in (List.mem_of_getElem? (i := 1999) (by decide +kernel)) rfl
theorem zq_gc : Cond.fieldLink "java/lang/String" (38 : Nat) "java/lang/String" "COMPACT_STRINGS" "Z" ∈ zgood := zgood_in (List.mem_of_getElem? (i := 715) (by decide +kernel)) rfl
theorem zq_gp : Cond.fieldLink "java/lang/String" (1053 : Nat) "jdk/internal/util/Preconditions" "SIOOBE_FORMATTER" "Ljava/util/function/BiFunction;" ∈ zgood := zgood_in (List.mem_of_getElem? (i := 731) (by decide +kernel)) rfl
theorem zq_is : Cond.initialized "java/lang/String" ∈ zgood := zgood_in (List.mem_of_getElem? (i := 180) (by decide +kernel)) rfl
theorem zq_il : Cond.initialized "java/lang/StringLatin1" ∈ zgood := zgood_in (List.mem_of_getElem? (i := 181) (by decide +kernel)) rfl
theorem zq_ip : Cond.initialized "jdk/internal/util/Preconditions" ∈ zgood := zgood_in (List.mem_of_getElem? (i := 182) (by decide +kernel)) rfl
def zSx (G : zG) (adV : Nat → Nat) (U : State) : Prop := zVS G adV (zA G) U U.heap ∧ va_Z "java/lang/String" "COMPACT_STRINGS" "Z" (.int 1) (zA G) U U.heap ∧ va_Zq "jdk/internal/util/Preconditions" "SIOOBE_FORMATTER" "Ljava/util/function/BiFunction;" (zA G) U U.heap
theorem zSx_blind {G : zG} {adV : Nat → Nat} {U : State} {g : JFrame} {mk : MethodId} {a : Array Value} (h : zSx G adV U) : zSx G adV (U.calling g mk a) :=
  ⟨zVS.moved (u := U) (U := U.calling g mk a) (Vm.Alike.refl U.vm) h.1, va_Z.moved (u := U) (U := U.calling g mk a) (Vm.Alike.refl U.vm) h.2.1, va_Zq.moved (u := U) (U := U.calling g mk a) (Vm.Alike.refl U.vm) h.2.2⟩
theorem zSx_moved {G : zG} {adV : Nat → Nat} {s U : State} {H : Heap} {locs : List Loc} (h : zSx G adV s) (hS : va_S (zA G) s.heap H locs) (hU : U.heap = H) (hW : s.WarmedH U.vm) : zSx G adV U :=
  ⟨by rw [hU]; exact (h.1.kept hS.2.1).moved hW.alike, by rw [hU]; exact (h.2.1.kept hS.2.1).moved hW.alike, by rw [hU]; exact (h.2.2.kept hS.2.1).moved hW.alike⟩
def zQh (r : Option Value) : Array Value → State → Outcome → State → Prop := fun _ st o t => o = .returned r ∧ t.heap = st.heap
abbrev zNo : Addr → Prop := fun _ => False
theorem zw_callh {p : Program} {l : Launch} {e : Env} {R : Room} {s : State} {m : MethodId} {args : Array Value} {below : List Frame} {meth : Method} {c : Code} {H : Heap} {locs : List Loc} {cells slots : Nat} {Q : State → Prop} {pc : Nat} {lsA : Array Slot} {rest : List Value} {r : Option Value} {st0 : List Value} {a : Array Value} (hr : va_Run p l e R s m args below meth c H locs cells slots 0 0 (F0 m pc lsA st0) rest (zQh r a) zNo) (hlocs : ∀ q ∈ locs, s.heap.size ≤ q.base ∨ True)
    (kk : ∀ L : List Loc, L = locs → W p l e R s m args below meth c H L cells slots Q (F0 m (pc + 3) lsA (r.toList ++ rest))) : W p l e R s m args below meth c H locs cells slots Q (F0 m pc lsA st0) := by
  intro T hT X
  obtain ⟨v, st₀, t, T', L, h0, X', hL, e1, e2, ⟨hv, hh⟩, st⟩ := hr T hT X
  cases hv
  have hL0 : L = [] := List.eq_nil_iff_forall_not_mem.mpr (fun q hq => hL q hq)
  subst hL0
  rw [List.append_nil] at X'
  obtain ⟨t2, a1, b1⟩ := kk locs rfl T' (by rw [e1, hh, h0]) X'
  exact ⟨t2, st t2 a1, b1⟩
theorem zgW {ws : Cond} : GoodIn zgood zgood := zgood_good
theorem zq_good {w : Cond} (h : w ∈ zgood) : GoodIn zgood (w :: zgood) := fun v hv => by
  rcases List.mem_cons.mp hv with q | q
  · rw [q]; exact zgood_good _ h
  · exact zgood_good _ q
section ZQ
variable {G : zG} {adV : Nat → Nat}
set_option maxRecDepth 100000 in
theorem zq_coder (l : Launch) {i : Nat} (hi : i < zstr.length) : Met l zq_yco (Cond.code zq_yco prog_14_method_152_code 1 (some .byte) :: zgood) (k2_rm 0 0) (va_Pc [.ref (zgK G i)] (zSx G adV)) (zQh (some (.int 0))) 0 0 zNo := by
  refine Met.ofW (cc := prog_14_method_152_code) (maxL := 1) (ret := some .byte) (by decide) rfl ?_
  intro p e s m args below meth c s₁ B hml hv
  obtain ⟨rfl, hV, hZ, hq⟩ := hv
  have hx := B.exec
  have hb := B.bytes
  have hr := B.returns
  have hts : ∀ w ∈ zgood, w.before _ s = true := fun w hw => atoms_spec (ws := Cond.code zq_yco prog_14_method_152_code 1 (some .byte) :: zgood) B.pre w (List.mem_cons_of_mem _ hw)
  have hown : s.vm.findClass "java/lang/String" = some m.cls := findClass_of_methodNamed B.named
  have hlocks := B.notSynchronized
  have hS : va_S (zA G) s.heap s.heap [] := va_S.rf
  have hl := lv_entry ([.ref (zgK G i)]) (n := 1) (Nat.le_of_ble_eq_true rfl)
  rw [lg_entry_eq]
  generalize (lg_sl ([.ref (zgK G i)]) ++ List.replicate (1 - (lg_sl ([.ref (zgK G i)])).length) Slot.unset).toArray = ls at hl ⊢
  have hl : lv_has ls 1 [(0, .ref (zgK G i))] := hl
  refine va_gets hx hb hZ hS hown (hts _ zq_gc) (fun _ h => h) zq_dco_0 ?_
  refine lv_if_eq (tgt := 13) hx hb zq_dco_3 (by decide) (fun z => absurd z (by decide)) (fun _ => ?_)
  refine lv_aload_n hx hb zq_dco_6 rfl (lv_at hl 0 rfl) ?_
  refine vk_getf hx hb (hV i hi).2.1 hS hown (hts _ zq_fc) (fun _ h => h) zq_dco_7 ?_
  refine lv_goto (tgt := 14) hx hb zq_dco_10 (by decide) ?_
  exact W.zret (ty := .byte) hx hb hr rfl (fun t ht hW => ⟨rfl, ht⟩) (fun q h => by cases h) zq_dco_14
set_option maxRecDepth 100000 in
theorem zq_latin (l : Launch) {i : Nat} (hi : i < zstr.length) : Met l zq_yla (Cond.code zq_yla prog_14_method_154_code 1 (some .boolean) :: zgood) (k2_rm 0 0) (va_Pc [.ref (zgK G i)] (zSx G adV)) (zQh (some (.int 1))) 0 0 zNo := by
  refine Met.ofW (cc := prog_14_method_154_code) (maxL := 1) (ret := some .boolean) (by decide) rfl ?_
  intro p e s m args below meth c s₁ B hml hv
  obtain ⟨rfl, hV, hZ, hq⟩ := hv
  have hx := B.exec
  have hb := B.bytes
  have hr := B.returns
  have hts : ∀ w ∈ zgood, w.before _ s = true := fun w hw => atoms_spec (ws := Cond.code zq_yla prog_14_method_154_code 1 (some .boolean) :: zgood) B.pre w (List.mem_cons_of_mem _ hw)
  have hown : s.vm.findClass "java/lang/String" = some m.cls := findClass_of_methodNamed B.named
  have hlocks := B.notSynchronized
  have hS : va_S (zA G) s.heap s.heap [] := va_S.rf
  have hl := lv_entry ([.ref (zgK G i)]) (n := 1) (Nat.le_of_ble_eq_true rfl)
  rw [lg_entry_eq]
  generalize (lg_sl ([.ref (zgK G i)]) ++ List.replicate (1 - (lg_sl ([.ref (zgK G i)])).length) Slot.unset).toArray = ls at hl ⊢
  have hl : lv_has ls 1 [(0, .ref (zgK G i))] := hl
  refine va_gets hx hb hZ hS hown (hts _ zq_gc) (fun _ h => h) zq_dla_0 ?_
  refine lv_if_eq (tgt := 17) hx hb zq_dla_3 (by decide) (fun z => absurd z (by decide)) (fun _ => ?_)
  refine lv_aload_n hx hb zq_dla_6 rfl (lv_at hl 0 rfl) ?_
  refine vk_getf hx hb (hV i hi).2.1 hS hown (hts _ zq_fc) (fun _ h => h) zq_dla_7 ?_
  refine lv_if_ne (tgt := 17) hx hb zq_dla_10 (by decide) (fun z => absurd rfl z) (fun _ => ?_)
  refine lv_iconst (v := 1) hx hb zq_dla_13 (by decide) ?_
  refine lv_goto (tgt := 18) hx hb zq_dla_14 (by decide) ?_
  exact W.zret (ty := .boolean) hx hb hr rfl (fun t ht hW => ⟨rfl, ht⟩) (fun q h => by cases h) zq_dla_18
set_option maxRecDepth 100000 in
theorem zq_len (l : Launch) {i : Nat} (hi : i < zstr.length) (hn : zslen.getD i 0 < 2 ^ 31) : Met l zq_yle (Cond.code zq_yle prog_14_method_54_code 1 (some .int) :: zgood) (k2_rm 1 20) (va_Pc [.ref (zgK G i)] (zSx G adV)) (zQh (some (.int (nI (zslen.getD i 0))))) 0 0 zNo := by
  refine Met.ofW (cc := prog_14_method_54_code) (maxL := 1) (ret := some .int) (by decide) rfl ?_
  intro p e s m args below meth c s₁ B hml hv
  obtain ⟨rfl, hx0⟩ := hv
  obtain ⟨hV, hZ, hq⟩ := id hx0
  have hx := B.exec
  have hb := B.bytes
  have hr := B.returns
  have hts : ∀ w ∈ zgood, w.before _ s = true := fun w hw => atoms_spec (ws := Cond.code zq_yle prog_14_method_54_code 1 (some .int) :: zgood) B.pre w (List.mem_cons_of_mem _ hw)
  have hown : s.vm.findClass "java/lang/String" = some m.cls := findClass_of_methodNamed B.named
  have hlocks := B.notSynchronized
  have hS : va_S (zA G) s.heap s.heap [] := va_S.rf
  have hl := lv_entry ([.ref (zgK G i)]) (n := 1) (Nat.le_of_ble_eq_true rfl)
  rw [lg_entry_eq]
  generalize (lg_sl ([.ref (zgK G i)]) ++ List.replicate (1 - (lg_sl ([.ref (zgK G i)])).length) Slot.unset).toArray = ls at hl ⊢
  have hl : lv_has ls 1 [(0, .ref (zgK G i))] := hl
  refine lv_aload_n hx hb zq_dle_0 rfl (lv_at hl 0 rfl) ?_
  refine vk_getf hx hb (hV i hi).2.2.1 hS hown (hts _ zq_fv) (fun _ h => h) zq_dle_1 ?_
  refine va_tlen (v := nI (zslen.getD i 0)) hx hb (hV i hi).2.2.2 hS rfl zq_dle_4 ?_
  refine lv_aload_n hx hb zq_dle_5 rfl (lv_at hl 0 rfl) ?_
  refine zw_callh (va_runV (Ts := zgood) (own := "java/lang/String") (C := "java/lang/String") (As := []) (n := 0) ⟨hx, hb, hml, hown, hts⟩ (zq_coder (G := G) (adV := adV) l hi) ⟨callB_of (ws' := zgood) _ hts (zq_good zq_cco) rfl rfl rfl (hts _ zq_is) (hts _ zq_mco) (by decide +kernel) ⟨Nat.le_of_ble_eq_true rfl, Nat.le_of_ble_eq_true rfl⟩, hts _ zq_sco, hts _ zq_lco⟩ ⟨fun a U g mk q => ⟨q.1, zSx_blind q.2⟩, zVS_recv hV hi hS, fun U hU hW => ⟨rfl, zSx_moved hx0 hS hU hW⟩⟩ rfl rfl hl.1 rfl (lv_room (Nat.le_of_ble_eq_true rfl)) zq_dle_6 ⟨Nat.le_refl _, Nat.le_refl _⟩) (fun _ _ => Or.inr trivial) (fun L hL => ?_)
  subst hL
  refine lv_ishr hx hb zq_dle_9 ?_
  rw [sc_shr0 hn]
  exact W.iret hx hb hr (fun t ht hW => ⟨rfl, ht⟩) (fun q h => by cases h) zq_dle_10
set_option maxRecDepth 100000 in
theorem zq_pre (l : Launch) {k n : Nat} (hk : k < n) (hn : n < 2 ^ 31) (w : Value) (hw : w.category = 1) : Met l zq_ypc (Cond.code zq_ypc prog_19_method_11_code 3 (some .int) :: zgood) (k2_rm 0 0) (va_Pc [.int (nI k), .int (nI n), w] (fun _ => True)) (zQh (some (.int (nI k)))) 0 0 zNo := by
  refine Met.ofW (cc := prog_19_method_11_code) (maxL := 3) (ret := some .int) (by decide) rfl ?_
  intro p e s m args below meth c s₁ B hml hv
  obtain ⟨rfl, -⟩ := hv
  have hx := B.exec
  have hb := B.bytes
  have hr := B.returns
  have hlocks := B.notSynchronized
  have hlen : (lg_sl ([.int (nI k), .int (nI n), w])).length ≤ 3 := by
    cases w <;> first | exact Nat.le_of_ble_eq_true rfl | (exact absurd (show (2 : Nat) = 1 from hw) (by decide))
  have hl := lv_entry ([.int (nI k), .int (nI n), w]) (n := 3) hlen
  rw [lg_entry_eq]
  generalize (lg_sl ([.int (nI k), .int (nI n), w]) ++ List.replicate (3 - (lg_sl ([.int (nI k), .int (nI n), w])).length) Slot.unset).toArray = ls at hl ⊢
  have hl : lv_has ls 3 [(0, .int (nI k)), (1, .int (nI n)), (2, w)] := hl
  refine lv_iload_n hx hb zq_dpc_0 rfl (lv_at hl 0 rfl) ?_
  refine lv_if_lt (tgt := 9) hx hb zq_dpc_1 (by decide) (fun z => absurd z (nI_pos (by omega))) (fun _ => ?_)
  refine lv_iload_n hx hb zq_dpc_4 rfl (lv_at hl 0 rfl) ?_
  refine lv_iload_n hx hb zq_dpc_5 rfl (lv_at hl 1 rfl) ?_
  refine lv_icmp_lt (tgt := 16) hx hb zq_dpc_6 (by decide) (fun _ => ?_) (fun z => absurd (nI_lt hk hn) z)
  refine lv_iload_n hx hb zq_dpc_16 rfl (lv_at hl 0 rfl) ?_
  exact W.iret hx hb hr (fun t ht hW => ⟨rfl, ht⟩) (fun q h => by cases h) zq_dpc_17
set_option maxRecDepth 100000 in
theorem zq_chk (l : Launch) {k n : Nat} (hk : k < n) (hn : n < 2 ^ 31) : Met l zq_yci (Cond.code zq_yci prog_14_method_155_code 2 none :: zgood) (k2_rm 1 22) (va_Pc [.int (nI k), .int (nI n)] (zSx G adV)) (zQh none) 0 0 zNo := by
  refine Met.ofW (cc := prog_14_method_155_code) (maxL := 2) (ret := none) (by decide) rfl ?_
  intro p e s m args below meth c s₁ B hml hv
  obtain ⟨rfl, hx0⟩ := hv
  obtain ⟨hV, hZ, hq⟩ := id hx0
  have hx := B.exec
  have hb := B.bytes
  have hr := B.returns
  have hts : ∀ w ∈ zgood, w.before _ s = true := fun w hw => atoms_spec (ws := Cond.code zq_yci prog_14_method_155_code 2 none :: zgood) B.pre w (List.mem_cons_of_mem _ hw)
  have hown : s.vm.findClass "java/lang/String" = some m.cls := findClass_of_methodNamed B.named
  have hlocks := B.notSynchronized
  have hS : va_S (zA G) s.heap s.heap [] := va_S.rf
  have hl := lv_entry ([.int (nI k), .int (nI n)]) (n := 2) (Nat.le_of_ble_eq_true rfl)
  rw [lg_entry_eq]
  generalize (lg_sl ([.int (nI k), .int (nI n)]) ++ List.replicate (2 - (lg_sl ([.int (nI k), .int (nI n)])).length) Slot.unset).toArray = ls at hl ⊢
  have hl : lv_has ls 2 [(0, .int (nI k)), (1, .int (nI n))] := hl
  refine lv_iload_n hx hb zq_dci_0 rfl (lv_at hl 0 rfl) ?_
  refine lv_iload_n hx hb zq_dci_1 rfl (lv_at hl 1 rfl) ?_
  have go : ∀ w : Value, w.category = 1 → W p l e (headSpec (Cond.code zq_yci prog_14_method_155_code 2 none :: zgood) (k2_rm 1 22)).room s m (([.int (nI k), .int (nI n)] : List Value).toArray) below meth c s.heap [] 0 0 (MQ below (zQh none) (([.int (nI k), .int (nI n)] : List Value).toArray) s 0 0 zNo) (F0 m 5 ls [w, .int (nI n), .int (nI k)]) := by
    intro w hw
    refine zw_callh (va_runS (Ts := zgood) (own := "java/lang/String") (As := [.int (nI k), .int (nI n), w]) (rest := []) (n := 3) ⟨hx, hb, hml, hown, hts⟩ (zq_pre l hk hn w hw) ⟨callB_of (ws' := zgood) _ hts (zq_good zq_cpc) rfl rfl rfl (hts _ zq_ip) (hts _ zq_mpc) (by decide +kernel) ⟨Nat.le_of_ble_eq_true rfl, Nat.le_of_ble_eq_true rfl⟩, hts _ zq_spc⟩ ⟨fun a U g mk q => ⟨q.1, trivial⟩, fun U hU hW => ⟨rfl, trivial⟩⟩ rfl rfl hl.1 rfl (lv_room (Nat.le_of_ble_eq_true rfl)) zq_dci_5 ⟨Nat.le_refl _, Nat.le_refl _⟩) (fun _ _ => Or.inr trivial) (fun L hL => ?_)
    subst hL
    refine lv_pop hx hb zq_dci_8 rfl ?_
    exact W.vret hx hb hr (fun t ht hW => ⟨rfl, ht⟩) (fun q h => by cases h) zq_dci_9
  rcases hq with hq | ⟨t, hq⟩
  · exact va_gets hx hb hq hS hown (hts _ zq_gp) (fun _ h => h) zq_dci_2 (go _ rfl)
  · exact va_gets hx hb hq hS hown (hts _ zq_gp) (fun _ h => h) zq_dci_2 (go _ rfl)
set_option maxRecDepth 100000 in
theorem zq_lat (l : Launch) {i k : Nat} (hi : i < zstr.length) (hk : k < zslen.getD i 0) (hn : zslen.getD i 0 < 2 ^ 31) (hc : (((zstr.getD i []).getD k 0 &&& 255).toUInt32 % 65536).toInt32 = (zstr.getD i []).getD k 0) (hnr : narrow .char (.int ((zstr.getD i []).getD k 0)) = .int ((zstr.getD i []).getD k 0)) : Met l zq_yl1 (Cond.code zq_yl1 prog_15_method_2_code 2 (some .char) :: zgood) (k2_rm 2 43) (va_Pc [.ref (adV i), .int (nI k)] (zSx G adV)) (zQh (some (.int ((zstr.getD i []).getD k 0)))) 0 0 zNo := by
  refine Met.ofW (cc := prog_15_method_2_code) (maxL := 2) (ret := some .char) (by decide) rfl ?_
  intro p e s m args below meth c s₁ B hml hv
  obtain ⟨rfl, hx0⟩ := hv
  obtain ⟨hV, hZ, hq⟩ := id hx0
  have hx := B.exec
  have hb := B.bytes
  have hr := B.returns
  have hts : ∀ w ∈ zgood, w.before _ s = true := fun w hw => atoms_spec (ws := Cond.code zq_yl1 prog_15_method_2_code 2 (some .char) :: zgood) B.pre w (List.mem_cons_of_mem _ hw)
  have hown : s.vm.findClass "java/lang/StringLatin1" = some m.cls := findClass_of_methodNamed B.named
  have hlocks := B.notSynchronized
  have hS : va_S (zA G) s.heap s.heap [] := va_S.rf
  have hl := lv_entry ([.ref (adV i), .int (nI k)]) (n := 2) (Nat.le_of_ble_eq_true rfl)
  rw [lg_entry_eq]
  generalize (lg_sl ([.ref (adV i), .int (nI k)]) ++ List.replicate (2 - (lg_sl ([.ref (adV i), .int (nI k)])).length) Slot.unset).toArray = ls at hl ⊢
  have hl : lv_has ls 2 [(0, .ref (adV i)), (1, .int (nI k))] := hl
  refine lv_iload_n hx hb zq_dl1_0 rfl (lv_at hl 1 rfl) ?_
  refine lv_aload_n hx hb zq_dl1_1 rfl (lv_at hl 0 rfl) ?_
  refine va_tlen (v := nI (zslen.getD i 0)) hx hb (hV i hi).2.2.2 hS rfl zq_dl1_2 ?_
  refine zw_callh (va_runS (Ts := zgood) (own := "java/lang/StringLatin1") (As := [.int (nI k), .int (nI (zslen.getD i 0))]) (rest := []) (n := 2) ⟨hx, hb, hml, hown, hts⟩ (zq_chk (G := G) (adV := adV) l hk hn) ⟨callB_of (ws' := zgood) _ hts (zq_good zq_cci) rfl rfl rfl (hts _ zq_is) (hts _ zq_mci) (by decide +kernel) ⟨Nat.le_of_ble_eq_true rfl, Nat.le_of_ble_eq_true rfl⟩, hts _ zq_sci⟩ ⟨fun a U g mk q => ⟨q.1, zSx_blind q.2⟩, fun U hU hW => ⟨rfl, zSx_moved hx0 hS hU hW⟩⟩ rfl rfl hl.1 rfl (lv_room (Nat.le_of_ble_eq_true rfl)) zq_dl1_3 ⟨Nat.le_refl _, Nat.le_refl _⟩) (fun _ _ => Or.inr trivial) (fun L hL => ?_)
  subst hL
  refine lv_aload_n hx hb zq_dl1_6 rfl (lv_at hl 0 rfl) ?_
  refine lv_iload_n hx hb zq_dl1_7 rfl (lv_at hl 1 rfl) ?_
  refine va_tb hx hb (hV i hi).2.2.2 hS (vp_in_nI hk hn) rfl zq_dl1_8 ?_
  rw [nI_clamp (Nat.lt_trans hk hn)]
  refine lv_sipush (v := 255) hx hb zq_dl1_9 (by decide) ?_
  refine lv_iand hx hb zq_dl1_12 ?_
  refine lv_i2c (v := (zstr.getD i []).getD k 0) hx hb zq_dl1_13 hc ?_
  exact W.zret (ty := .char) hx hb hr hnr (fun t ht hW => ⟨rfl, ht⟩) (fun q h => by cases h) zq_dl1_14
set_option maxRecDepth 100000 in
theorem zq_char (l : Launch) {i k : Nat} (hi : i < zstr.length) (hk : k < zslen.getD i 0) (hn : zslen.getD i 0 < 2 ^ 31) (hc : (((zstr.getD i []).getD k 0 &&& 255).toUInt32 % 65536).toInt32 = (zstr.getD i []).getD k 0) (hnr : narrow .char (.int ((zstr.getD i []).getD k 0)) = .int ((zstr.getD i []).getD k 0)) : Met l zq_ych (Cond.code zq_ych prog_14_method_56_code 2 (some .char) :: zgood) (k2_rm 3 64) (va_Pc [.ref (zgK G i), .int (nI k)] (zSx G adV)) (zQh (some (.int ((zstr.getD i []).getD k 0)))) 0 0 zNo := by
  refine Met.ofW (cc := prog_14_method_56_code) (maxL := 2) (ret := some .char) (by decide) rfl ?_
  intro p e s m args below meth c s₁ B hml hv
  obtain ⟨rfl, hx0⟩ := hv
  obtain ⟨hV, hZ, hq⟩ := id hx0
  have hx := B.exec
  have hb := B.bytes
  have hr := B.returns
  have hts : ∀ w ∈ zgood, w.before _ s = true := fun w hw => atoms_spec (ws := Cond.code zq_ych prog_14_method_56_code 2 (some .char) :: zgood) B.pre w (List.mem_cons_of_mem _ hw)
  have hown : s.vm.findClass "java/lang/String" = some m.cls := findClass_of_methodNamed B.named
  have hlocks := B.notSynchronized
  have hS : va_S (zA G) s.heap s.heap [] := va_S.rf
  have hl := lv_entry ([.ref (zgK G i), .int (nI k)]) (n := 2) (Nat.le_of_ble_eq_true rfl)
  rw [lg_entry_eq]
  generalize (lg_sl ([.ref (zgK G i), .int (nI k)]) ++ List.replicate (2 - (lg_sl ([.ref (zgK G i), .int (nI k)])).length) Slot.unset).toArray = ls at hl ⊢
  have hl : lv_has ls 2 [(0, .ref (zgK G i)), (1, .int (nI k))] := hl
  refine lv_aload_n hx hb zq_dch_0 rfl (lv_at hl 0 rfl) ?_
  refine zw_callh (va_runV (Ts := zgood) (own := "java/lang/String") (C := "java/lang/String") (As := []) (rest := []) (n := 0) ⟨hx, hb, hml, hown, hts⟩ (zq_latin (G := G) (adV := adV) l hi) ⟨callB_of (ws' := zgood) _ hts (zq_good zq_cla) rfl rfl rfl (hts _ zq_is) (hts _ zq_mla) (by decide +kernel) ⟨Nat.le_of_ble_eq_true rfl, Nat.le_of_ble_eq_true rfl⟩, hts _ zq_sla, hts _ zq_lla⟩ ⟨fun a U g mk q => ⟨q.1, zSx_blind q.2⟩, zVS_recv hV hi hS, fun U hU hW => ⟨rfl, zSx_moved hx0 hS hU hW⟩⟩ rfl rfl hl.1 rfl (lv_room (Nat.le_of_ble_eq_true rfl)) zq_dch_1 ⟨Nat.le_refl _, Nat.le_refl _⟩) (fun _ _ => Or.inr trivial) (fun L hL => ?_)
  subst hL
  refine lv_if_eq (tgt := 16) hx hb zq_dch_4 (by decide) (fun z => absurd z (by decide)) (fun _ => ?_)
  refine lv_aload_n hx hb zq_dch_7 rfl (lv_at hl 0 rfl) ?_
  refine vk_getf hx hb (hV i hi).2.2.1 hS hown (hts _ zq_fv) (fun _ h => h) zq_dch_8 ?_
  refine lv_iload_n hx hb zq_dch_11 rfl (lv_at hl 1 rfl) ?_
  refine zw_callh (va_runS (Ts := zgood) (own := "java/lang/String") (As := [.ref (adV i), .int (nI k)]) (rest := []) (n := 2) ⟨hx, hb, hml, hown, hts⟩ (zq_lat (G := G) (adV := adV) l hi hk hn hc hnr) ⟨callB_of (ws' := zgood) _ hts (zq_good zq_cl1) rfl rfl rfl (hts _ zq_il) (hts _ zq_ml1) (by decide +kernel) ⟨Nat.le_of_ble_eq_true rfl, Nat.le_of_ble_eq_true rfl⟩, hts _ zq_sl1⟩ ⟨fun a U g mk q => ⟨q.1, zSx_blind q.2⟩, fun U hU hW => ⟨rfl, zSx_moved hx0 hS hU hW⟩⟩ rfl rfl hl.1 rfl (lv_room (Nat.le_of_ble_eq_true rfl)) zq_dch_12 ⟨Nat.le_refl _, Nat.le_refl _⟩) (fun _ _ => Or.inr trivial) (fun L hL => ?_)
  subst hL
  exact W.zret (ty := .char) hx hb hr hnr (fun t ht hW => ⟨rfl, ht⟩) (fun q h => by cases h) zq_dch_15
end ZQ
