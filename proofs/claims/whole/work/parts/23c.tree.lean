/-! THE LISTS ARE THE CODE -/
def zbits : List Bool → Nat
  | [] => 0
  | b :: l => (if b then 1 else 0) + 2 * zbits l
theorem zmN_bits : ∀ (b : List Bool) (ls : zLs), b.length = ls.length → zmN (zbits b) ls = zmask b ls
  | [], [], _ => rfl
  | [], _ :: _, h => by cases h
  | _ :: _, [], h => by cases h
  | b :: l, v :: r, h => by
    have ih := zmN_bits l r (Nat.succ.inj h)
    cases b
    · have e : (0 + 2 * zbits l) % 2 = 0 := by omega
      show (match (0 + 2 * zbits l) % 2 with
        | 1 => v
        | _ => none) :: zmN ((0 + 2 * zbits l) / 2) r = none :: zmask l r
      rw [e, show (0 + 2 * zbits l) / 2 = zbits l by omega, ih]
      rfl
    · have e : (1 + 2 * zbits l) % 2 = 1 := by omega
      show (match (1 + 2 * zbits l) % 2 with
        | 1 => v
        | _ => none) :: zmN ((1 + 2 * zbits l) / 2) r = v :: zmask l r
      rw [e, show (1 + 2 * zbits l) / 2 = zbits l by omega, ih]
      rfl
def zchS (K : Nat → List zP → Bool) (d : Nat) : List (Int × Nat) → List zP → Bool
  | [], t => match t with
    | o :: t => match o.1 with
      | .nop => K d t
      | _ => false
    | [] => false
  | e :: l, t => match t with
    | o :: t => match o.1 with
      | .goto n => decide (n = e.1) && (decide ((Int32.ofInt e.1).toInt = e.1) && (K e.2 t && zchS K d l (t.drop o.2.1)))
      | _ => false
    | [] => false
def zchI (mi : Nat) (K : Nat → List zP → Bool) (pc : Nat) (t : List zP) : Bool := match zdec mi pc with
  | none => false
  | some q => match q.1 with
    | .goto off => zto pc off && K (ztg pc off) t
    | .if_icmp c off => match t with
      | o :: t => match o.1 with
        | .if_icmp c' _ => decide (c = c') && (zto pc off && (K (ztg pc off) (t.drop o.2.1) && K (pc + 3) t))
        | _ => false
      | [] => false
    | .ifCond c off => match t with
      | o :: t => match o.1 with
        | .ifCond c' _ => decide (c = c') && (zto pc off && (K (ztg pc off) (t.drop o.2.1) && K (pc + 3) t))
        | _ => false
      | [] => false
    | .tableswitch dflt lo hi offs => (zto pc dflt && offs.toList.all (fun o => zto pc o) && decide (hi + 1 = lo + offs.toList.length)) && zchS K (ztg pc dflt) ((List.range offs.toList.length).map (fun (j : Nat) => (lo + (j : Int), ztg pc (offs.toList.getD j 0)))) t
    | .lookupswitch dflt ps => (zto pc dflt && ps.toList.all (fun q => zto pc q.2) && (ps.toList.zip (ps.toList.drop 1)).all (fun q => decide (q.1.1 < q.2.1))) && zchS K (ztg pc dflt) (ps.toList.map (fun q => (q.1, ztg pc q.2))) t
    | .ireturn => match t with
      | o :: _ => match o.1 with
        | .ireturn => match zRet mi with
          | some .int => decide (o.2.1 = 0)
          | some .boolean => decide (o.2.1 = 1)
          | _ => false
        | _ => false
      | [] => false
    | .lreturn => match t with
      | o :: _ => match o.1 with
        | .lreturn => match zRet mi with
          | some .long => true
          | _ => false
        | _ => false
      | [] => false
    | .return_ => match t with
      | o :: _ => match o.1 with
        | .return_ => match zRet mi with
          | none => true
          | _ => false
        | _ => false
      | [] => false
    | i => match t with
      | o :: t => zokop mi i o.1 o.2 && K (pc + zinc i) t
      | [] => false
def zchk (mi : Nat) : Nat → Bool → Nat → List zP → Bool
  | 0 => fun _ _ _ => false
  | n + 1 => fun first pc t => match (if first then none else zcut mi pc) with
    | some b => match t with
      | o :: _ => match o.1 with
        | .ldc_w q => decide (q = pc) && (decide (o.2.1 = zbits b) && decide (o.2.2.1 = b.length))
        | _ => false
      | [] => false
    | none => zchI mi (zchk mi n false) pc t
noncomputable def zcon (mi k pc : Nat) (ls : zLs) (st : List Value) (σ : zM) : Option zR := match zcut mi pc with
  | some b => if b.length = ls.length then zev mi pc (zmask b ls) st σ else none
  | none => zblk (zev mi) zcall mi k pc ls st σ
theorem zck_mono {c : ClassFile.Cond} {x y : Int32} {A B A' B' : Option zR} (hA : zle A A') (hB : zle B B') : zle (zck c x y A B) (zck c x y A' B') := by
  intro r h
  cases c <;> simp only [zck] at h ⊢ <;> split at h <;> rename_i e <;> first | (rw [if_pos e]; exact hA r h) | (rw [if_neg e]; exact hB r h)
theorem zop_last {mi n : Nat} {o : zP} {t : List zP} {i : Instr} {ls : zLs} {st : List Value} {σ : zM} {r : zR} (h : zokop mi i o.1 o.2 = true) (hk : zevT mi (n + 1) (o :: t) ls st σ = some r) : zopK o.1 o.2 ls st σ (fun ls st σ => zevT mi n t ls st σ) = some r := by
  obtain ⟨o1, o2⟩ := o
  cases o1 <;> first | exact hk | skip
  all_goals (exfalso; cases i <;> simp only [zokop, zldcK, zcallK, zcallS, zgfK, zpfK] at h)
  all_goals (first | cases h | skip)
  all_goals (repeat' (split at h))
  all_goals (first | cases h | skip)
theorem zchS_ok {mi : Nat} {K : Nat → List zP → Bool} {C : Nat → zLs → List Value → zM → Option zR} (hK : ∀ pc t n ls st σ r, K pc t = true → zevT mi n t ls st σ = some r → C pc ls st σ = some r) (d : Nat) (x : Int32) (rest : List Value) (ls : zLs) (σ : zM) : ∀ (l : List (Int × Nat)) (t : List zP) (n : Nat) (r : zR), zchS K d l t = true → zevT mi n t ls (.int x :: rest) σ = some r → (l.map (fun e => (decide (x.toInt = e.1), e.2))).foldr (fun b e => if b.1 = true then C b.2 ls rest σ else e) (C d ls rest σ) = some r
  | [], t, n, r, h, hk => by
    cases t with
    | nil => cases h
    | cons o t =>
      obtain ⟨o1, o2⟩ := o
      simp only [zchS] at h
      split at h
      · cases n with
        | zero => cases hk
        | succ n => exact hK _ _ n _ _ _ _ h hk
      · cases h
  | e :: l, t, n, r, h, hk => by
    cases t with
    | nil => cases h
    | cons o t =>
      obtain ⟨o1, o2⟩ := o
      simp only [zchS] at h
      split at h
      · next v =>
        simp only [Bool.and_eq_true, decide_eq_true_eq] at h
        obtain ⟨h1, h2, h3, h4⟩ := h
        subst h1
        cases n with
        | zero => cases hk
        | succ n =>
          simp only [zevT] at hk
          rw [List.map_cons, List.foldr_cons]
          by_cases hx : x = Int32.ofInt e.1
          · rw [if_pos hx] at hk
            rw [if_pos (decide_eq_true (by rw [hx, h2]))]
            exact hK _ _ n _ _ _ _ h3 hk
          · rw [if_neg hx] at hk
            have hne : ¬ x.toInt = e.1 := fun hh => hx (by rw [← hh]; exact (Int32.ofInt_toInt x).symm)
            rw [if_neg (by rw [decide_eq_true_eq]; exact hne)]
            exact zchS_ok hK d x rest ls σ l _ n r h4 hk
      · cases h
theorem zsw_st {mi : Nat} {K : Nat → List zP → Bool} {d : Nat} {l : List (Int × Nat)} {t : List zP} {n : Nat} {ls : zLs} {st : List Value} {σ : zM} {r : zR} (h : zchS K d l t = true) (hk : zevT mi n t ls st σ = some r) : ∃ x rest, st = .int x :: rest := by
  cases n with
  | zero => cases hk
  | succ n =>
    cases t with
    | nil => cases hk
    | cons o t =>
      obtain ⟨o1, o2⟩ := o
      cases l with
      | nil =>
        simp only [zchS] at h
        split at h
        · simp only [zevT] at hk
          split at hk
          · exact ⟨_, _, rfl⟩
          · cases hk
        · cases h
      | cons e l =>
        simp only [zchS] at h
        split at h
        · simp only [zevT] at hk
          split at hk
          · exact ⟨_, _, rfl⟩
          · cases hk
        · cases h
theorem zchI_ok {mi : Nat} {K : Nat → List zP → Bool} {C : Nat → zLs → List Value → zM → Option zR} (hK : ∀ pc t n ls st σ r, K pc t = true → zevT mi n t ls st σ = some r → C pc ls st σ = some r) {pc n : Nat} {t : List zP} {ls : zLs} {st : List Value} {σ : zM} {r : zR} (h : zchI mi K pc t = true) (hk : zevT mi n t ls st σ = some r) : zint C zcall (zst mi pc ls st σ) = some r := by
  unfold zchI at h
  unfold zst
  cases hd : zdec mi pc with
  | none => rw [hd] at h; cases h
  | some q =>
    obtain ⟨i, len⟩ := q
    rw [hd] at h
    simp only at h ⊢
    split at h
    · next off =>
      simp only [Bool.and_eq_true] at h
      simp only [zex, if_pos h.1]
      exact hK _ _ _ _ _ _ _ h.2 hk
    · next c off =>
      cases t with
      | nil => cases h
      | cons o t =>
        obtain ⟨o1, o2⟩ := o
        simp only at h
        split at h
        · simp only [Bool.and_eq_true, decide_eq_true_eq] at h
          obtain ⟨h1, h2, h3, h4⟩ := h
          subst h1
          cases n with
          | zero => cases hk
          | succ n =>
            simp only [zevT] at hk
            split at hk
            · next y x rest =>
              have h9 := zck_mono (fun r h => hK _ _ _ _ _ _ _ h3 h) (fun r h => hK _ _ _ _ _ _ _ h4 h) r hk
              cases c <;> simp only [zex, zic, zbr, zint, if_pos h2, List.foldr, decide_eq_true_eq] <;> exact h9
            · cases hk
        · cases h
    · next c off =>
      cases t with
      | nil => cases h
      | cons o t =>
        obtain ⟨o1, o2⟩ := o
        simp only at h
        split at h
        · simp only [Bool.and_eq_true, decide_eq_true_eq] at h
          obtain ⟨h1, h2, h3, h4⟩ := h
          subst h1
          cases n with
          | zero => cases hk
          | succ n =>
            simp only [zevT] at hk
            split at hk
            · next x rest =>
              have h9 := zck_mono (fun r h => hK _ _ _ _ _ _ _ h3 h) (fun r h => hK _ _ _ _ _ _ _ h4 h) r hk
              cases c <;> simp only [zex, zif, zbr, zint, if_pos h2, List.foldr, decide_eq_true_eq] <;> exact h9
            · cases hk
        · cases h
    · next dflt lo hi offs =>
      rw [Bool.and_eq_true] at h
      obtain ⟨h1, h2⟩ := h
      cases t with
      | nil =>
        cases hl : ((List.range offs.toList.length).map (fun (j : Nat) => (lo + (j : Int), ztg pc (offs.toList.getD j 0)))) with
        | nil => rw [hl] at h2; cases h2
        | cons a b => rw [hl] at h2; cases h2
      | cons o t =>
        have hst : ∃ x rest, st = .int x :: rest := zsw_st h2 hk
        obtain ⟨x, rest, rfl⟩ := hst
        have h9 := zchS_ok hK _ x rest ls σ _ _ _ _ h2 hk
        simp only [zex, if_pos h1, zint]
        rw [List.map_map] at h9
        exact h9
    · next dflt ps =>
      rw [Bool.and_eq_true] at h
      obtain ⟨h1, h2⟩ := h
      cases t with
      | nil =>
        cases hl : (ps.toList.map (fun q => (q.1, ztg pc q.2))) with
        | nil => rw [hl] at h2; cases h2
        | cons a b => rw [hl] at h2; cases h2
      | cons o t =>
        have hst : ∃ x rest, st = .int x :: rest := zsw_st h2 hk
        obtain ⟨x, rest, rfl⟩ := hst
        have h9 := zchS_ok hK _ x rest ls σ _ _ _ _ h2 hk
        simp only [zex, if_pos h1, zint]
        rw [List.map_map] at h9
        exact h9
    · cases t with
      | nil => cases h
      | cons o t =>
        obtain ⟨o1, o2⟩ := o
        simp only at h
        split at h
        · cases n with
          | zero => cases hk
          | succ n =>
            simp only [zevT] at hk
            split at hk
            · next v =>
              simp only [zex]
              split at h
              · next e =>
                simp only [of_decide_eq_true h] at hk
                rw [e]
                exact hk
              · next e =>
                simp only [of_decide_eq_true h] at hk
                rw [e]
                split at hk
                · next hz =>
                  simp only [if_pos hz]
                  exact hk
                · cases hk
              · cases h
            · cases hk
        · cases h
    · cases t with
      | nil => cases h
      | cons o t =>
        obtain ⟨o1, o2⟩ := o
        simp only at h
        split at h
        · cases n with
          | zero => cases hk
          | succ n =>
            simp only [zevT] at hk
            split at hk
            · next v =>
              simp only [zex]
              split at h
              · next e =>
                rw [e]
                exact hk
              · cases h
            · cases hk
        · cases h
    · cases t with
      | nil => cases h
      | cons o t =>
        obtain ⟨o1, o2⟩ := o
        simp only at h
        split at h
        · cases n with
          | zero => cases hk
          | succ n =>
            simp only [zevT] at hk
            split at hk
            · simp only [zex]
              split at h
              · next e =>
                rw [e]
                exact hk
              · cases h
            · cases hk
        · cases h
    · cases t with
      | nil => cases h
      | cons o t =>
        simp only [Bool.and_eq_true] at h
        cases n with
        | zero => cases hk
        | succ n => exact zop_ok C h.1 (zop_last h.1 hk) (fun ls st σ r hh => hK _ _ _ _ _ _ _ h.2 hh)
theorem zchk_ok (mi : Nat) : ∀ n first pc t n' ls st σ r, zchk mi n first pc t = true → zevT mi n' t ls st σ = some r → (if first = true then zblk (zev mi) zcall mi n pc ls st σ else zcon mi n pc ls st σ) = some r
  | 0, _, _, _, _, _, _, _, _, h, _ => by cases h
  | n + 1, first, pc, t, n', ls, st, σ, r, h, hk => by
    have hK : ∀ pc t n' ls st σ r, zchk mi n false pc t = true → zevT mi n' t ls st σ = some r → zcon mi n pc ls st σ = some r := fun pc t n' ls st σ r h hk => zchk_ok mi n false pc t n' ls st σ r h hk
    have hblk : ∀ t n', zchI mi (zchk mi n false) pc t = true → zevT mi n' t ls st σ = some r → zblk (zev mi) zcall mi (n + 1) pc ls st σ = some r := fun t n' h hk => zchI_ok hK h hk
    unfold zchk at h
    cases first with
    | true => exact hblk _ _ h hk
    | false =>
      simp only [Bool.false_eq_true, if_false] at h ⊢
      unfold zcon
      cases e : zcut mi pc with
      | none =>
        rw [e] at h
        exact hblk _ _ h hk
      | some b =>
        rw [e] at h
        cases t with
        | nil => cases h
        | cons o t =>
          obtain ⟨o1, o2⟩ := o
          simp only at h
          split at h
          · simp only [Bool.and_eq_true, decide_eq_true_eq] at h
            obtain ⟨h1, h2, h3⟩ := h
            subst h1
            cases n' with
            | zero => cases hk
            | succ n' =>
              simp only [zevT] at hk
              split at hk
              · next el =>
                have el := of_decide_eq_true el
                rw [h3] at el
                rw [h2, zmN_bits _ _ el.symm] at hk
                simp only [if_pos el.symm]
                exact hk
              · cases hk
          · cases h
/-- a stretch from its start -/
theorem zgoT {mi pc : Nat} {t : List zP} (h : zchk mi 2000 true pc t = true) (n : Nat) {ls : zLs} {st : List Value} {σ : zM} {r : zR} (hk : zevT mi n t ls st σ = some r) : zev mi pc ls st σ = some r := by
  rw [zev_blk]
  exact zchk_ok mi 2000 true pc t n ls st σ r h hk
