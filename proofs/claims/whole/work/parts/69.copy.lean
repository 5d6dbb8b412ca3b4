/-! CALLS: image, restore: the class copies -/
theorem zcI_N (σ : zM) (k sp q dp n b m : Nat) : zN (zcI σ k sp q dp n) b m = if b = q ∧ dp ≤ m ∧ m < dp + n then zN σ k (sp + (m - dp)) else zN σ b m := by
  show (if b = q ∧ dp ≤ m ∧ m < dp + n then _ else _ : Int32).toInt = _
  split <;> rfl
theorem mf.zcI {S : Nat → Prop} {σ0 σ : zM} (h : mf S σ0 σ) (k sp q dp n : Nat) (hq : S q) : mf S σ0 (zcI σ k sp q dp n) := ⟨fun a ha j => by rw [zcI_N, if_neg (fun p => ha (by rw [p.1]; exact hq))]; exact h.1 a ha j, fun a ha j => h.2.1 a ha j, h.2.2⟩
/-- the fields in L copied from q to p -/
def cp (w : Nat) (L : List Nat) (σ0 τ : zM) (p q : Nat) : Prop := mf (fun b => p ≤ b ∧ b < p + w) σ0 τ ∧ ∀ k, zN τ p k = if k ∈ L then zN σ0 q k else zN σ0 p k
theorem cp.st {w : Nat} {L : List Nat} {σ0 τ : zM} {p q : Nat} (h : cp w L σ0 τ p q) (hw : 0 < w) (hq : q < p ∨ p + w ≤ q) (j : Nat) : cp w (j :: L) σ0 (zsI τ p j (zI τ q j)) p q := by
  have m1 := mm_lo σ0 q j
  have m2 := mm_hi σ0 q j
  rw [mm_r, mm_w, h.1.1 q (by omega)]
  refine ⟨h.1.zw p _ _ ⟨by omega, by omega⟩, fun k => ?_⟩
  by_cases z : k = j
  · rw [mm_at rfl z (by omega) (by omega), if_pos (by rw [z]; exact List.mem_cons_self ..), z]
  · rw [mm_nj z, h.2 k]
    by_cases w : k ∈ L
    · rw [if_pos w, if_pos (List.mem_cons_of_mem _ w)]
    · rw [if_neg w, if_neg (fun y => by
        rcases List.mem_cons.mp y with y | y
        · exact z y
        · exact w y)]
theorem cp.row {w : Nat} {L : List Nat} {σ0 τ : zM} {p q : Nat} (h : cp w L σ0 τ p q) (r : Nat) (r1 : 1 ≤ r) (r2 : r < w) (n : Nat) : cp w L σ0 (zcI τ (q + r) 0 (p + r) 0 n) p q := ⟨h.1.zcI _ _ _ _ _ ⟨by omega, by omega⟩, fun k => by rw [zcI_N, if_neg (by omega)]; exact h.2 k⟩
theorem cp_0 {w : Nat} {σ : zM} {p q : Nat} : cp w [] σ σ p q := ⟨mf.rf, fun _ => rfl⟩
theorem mm_boo (σ : zM) (q : Nat) (h : zN σ q 9 = 0 ∨ zN σ q 9 = 1) : vp_nar .boolean (zI σ q 9) = zI σ q 9 := by
  rw [mm_r]
  rcases h with e | e <;> rw [e] <;> rfl
theorem zq_s {q : Nat} (h : isOrd q) : zseg (q + 1) 100 (Int32.ofInt 0) (Int32.ofInt 3) = true := by
  obtain ⟨p, k, hp, hk, rfl⟩ := h
  exact zseg_of (zo_ord p hp.m k hk).2 (by decide) (by decide) (by decide) (by decide)
theorem sp_48 {σ : zM} {p q : Nat} (hp : isOrd p) (hq : isOrd q) (hpq : q + 2 ≤ p ∨ p + 2 ≤ q) (hb : zN σ q 9 = 0 ∨ zN σ q 9 = 1) : zwp (zcall 48 [.ref p, .ref q] σ) (fun v τ => v = none ∧ mf (fun b => p ≤ b ∧ b < p + 2) σ τ ∧ (∀ k, k < 8 ∨ 9 ≤ k ∧ k < 13 → zN τ p k = zN σ q k) ∧ ∀ m, m < 3 → zN τ (p + 1) m = zN σ (q + 1) m) := by
  have o1 := zq_o hp
  have o2 := zq_o hq
  have hd : q < p ∨ p + 2 ≤ q := by omega
  refine zwp_of (fun r h => zcc_48 (ze_48_0 _ _ _ r h)) ?_
  iterate 8 refine zwp_cd o2 (zwp_cd o1 (zwp_let ?_))
  have h8 := (((((((cp_0 (w := 2) (σ := σ) (p := p) (q := q)).st (by decide) hd 0).st (by decide) hd 1).st (by decide) hd 2).st (by decide) hd 3).st (by decide) hd 4).st (by decide) hd 5).st (by decide) hd 6 |>.st (by decide) hd 7
  refine zwp_cd o2 (zwp_cd o1 (zwp_cd (by rw [zq_s hp, zq_s hq]; rfl) ?_))
  rw [show (Int32.ofInt 0).toNatClampNeg = 0 from rfl, show (Int32.ofInt 3).toNatClampNeg = 3 from rfl]
  revert h8
  generalize (zsI (zsI (zsI (zsI (zsI (zsI (zsI (zsI σ p 0 _) p 1 _) p 2 _) p 3 _) p 4 _) p 5 _) p 6 _) p 7 _) = τ8
  intro h8
  refine zwp_let ?_
  have h9 := h8.row 1 (by decide) (by decide) 3
  have hr : ∀ m, m < 3 → zN (zcI τ8 (q + 1) 0 (p + 1) 0 3) (p + 1) m = zN σ (q + 1) m := fun m hm => by
    rw [zcI_N, if_pos ⟨rfl, by omega, by omega⟩, h8.1.1 (q + 1) (by omega), Nat.sub_zero, Nat.zero_add]
  revert h9 hr
  generalize zcI τ8 (q + 1) 0 (p + 1) 0 3 = τ9
  intro h9 hr
  refine zwp_cd o2 (zwp_cd o1 (zwp_t (mm_boo τ9 q (by rw [h9.1.1 q (by omega)]; exact hb)) ?_))
  refine zwp_let (zwp_cd o2 (zwp_cd o1 (zwp_let (zwp_cd o2 (zwp_cd o1 (zwp_let (zwp_cd o2 (zwp_cd o1 (zwp_let ?_)))))))))
  have h13 := (((h9.st (by decide) hd 9).st (by decide) hd 10).st (by decide) hd 11).st (by decide) hd 12
  refine zwp_ret ⟨rfl, h13.1, fun k hk => ?_, fun m hm => ?_⟩
  · rw [h13.2 k, if_pos]
    simp only [List.mem_cons]
    omega
  · simp only [zs_n]
    rw [mm_ne (by omega), mm_ne (by omega), mm_ne (by omega), mm_ne (by omega)]
    exact hr m hm
