/-! CALLS: image, restore: the class copies a Realm, whole -/
theorem sp_75 {σ : zM} {W : Int → Int} {p q : Nat} (hp : isRealm p) (hq : isRealm q) (hne : p ≠ q) (hW : WOK W) (hL : cL σ q W) : zwp (zcall 75 [.ref p, .ref q] σ) (fun v τ => v = none ∧ mf (fun b => p ≤ b ∧ b < p + 30) σ τ ∧ cL τ p W) := by
  have o1 := zr_o hp
  have o2 := zr_o hq
  have hd := isR_d hp hq hne
  have hd9 : q < p ∨ p + 9 ≤ q := by omega
  have h5 := hW.2.2.1
  refine zwp_of (fun r h => zcc_75 (ze_75_0 _ _ _ r h)) ?_
  iterate 8 refine zwp_cd o2 (zwp_cd o1 (zwp_let ?_))
  have h8 := (((((((cp_0 (w := 9) (σ := σ) (p := p) (q := q)).st (by decide) hd9 0).st (by decide) hd9 1).st (by decide) hd9 2).st (by decide) hd9 3).st (by decide) hd9 4).st (by decide) hd9 5).st (by decide) hd9 6 |>.st (by decide) hd9 7
  revert h8
  generalize (zsI (zsI (zsI (zsI (zsI (zsI (zsI (zsI σ p 0 _) p 1 _) p 2 _) p 3 _) p 4 _) p 5 _) p 6 _) p 7 _) = t0
  intro h8
  have r0 : rwc σ t0 p q 0 := ⟨h8, fun r r1 r2 => by omega⟩
  refine zwp_cd o2 (zwp_cd o1 (zwp_cd (by
    have a := zr_s hq 1 (by decide) (by decide)
    have b := zr_s hp 1 (by decide) (by decide)
    change zseg (q + 1) 100 (Int32.ofInt 0) (Int32.ofInt 12) = true at a
    change zseg (p + 1) 100 (Int32.ofInt 0) (Int32.ofInt 12) = true at b
    rw [a, b]
    rfl) (zwp_let ?_)))
  have r1 : rwc σ (zcI t0 (q + 1) (Int32.ofInt 0).toNatClampNeg (p + 1) (Int32.ofInt 0).toNatClampNeg (Int32.ofInt 12).toNatClampNeg) p q 1 := r0.st (by decide) hd
  revert r1
  generalize zcI t0 (q + 1) (Int32.ofInt 0).toNatClampNeg (p + 1) (Int32.ofInt 0).toNatClampNeg (Int32.ofInt 12).toNatClampNeg = t1
  intro r1
  refine zwp_cd o2 (zwp_cd o1 (zwp_cd (by
    have a := zr_s hq 2 (by decide) (by decide)
    have b := zr_s hp 2 (by decide) (by decide)
    change zseg (q + 2) 100 (Int32.ofInt 0) (Int32.ofInt 12) = true at a
    change zseg (p + 2) 100 (Int32.ofInt 0) (Int32.ofInt 12) = true at b
    rw [a, b]
    rfl) (zwp_let ?_)))
  have r2 : rwc σ (zcI t1 (q + 2) (Int32.ofInt 0).toNatClampNeg (p + 2) (Int32.ofInt 0).toNatClampNeg (Int32.ofInt 12).toNatClampNeg) p q 2 := r1.st (by decide) hd
  revert r2
  generalize zcI t1 (q + 2) (Int32.ofInt 0).toNatClampNeg (p + 2) (Int32.ofInt 0).toNatClampNeg (Int32.ofInt 12).toNatClampNeg = t2
  intro r2
  refine zwp_cd o2 (zwp_cd o1 (zwp_cd (by
    have a := zr_s hq 3 (by decide) (by decide)
    have b := zr_s hp 3 (by decide) (by decide)
    change zseg (q + 3) 100 (Int32.ofInt 0) (Int32.ofInt 12) = true at a
    change zseg (p + 3) 100 (Int32.ofInt 0) (Int32.ofInt 12) = true at b
    rw [a, b]
    rfl) (zwp_let ?_)))
  have r3 : rwc σ (zcI t2 (q + 3) (Int32.ofInt 0).toNatClampNeg (p + 3) (Int32.ofInt 0).toNatClampNeg (Int32.ofInt 12).toNatClampNeg) p q 3 := r2.st (by decide) hd
  revert r3
  generalize zcI t2 (q + 3) (Int32.ofInt 0).toNatClampNeg (p + 3) (Int32.ofInt 0).toNatClampNeg (Int32.ofInt 12).toNatClampNeg = t3
  intro r3
  refine zwp_cd o2 (zwp_cd o1 (zwp_cd (by
    have a := zr_s hq 4 (by decide) (by decide)
    have b := zr_s hp 4 (by decide) (by decide)
    change zseg (q + 4) 100 (Int32.ofInt 0) (Int32.ofInt 8) = true at a
    change zseg (p + 4) 100 (Int32.ofInt 0) (Int32.ofInt 8) = true at b
    rw [a, b]
    rfl) (zwp_let ?_)))
  have r4 : rwc σ (zcI t3 (q + 4) (Int32.ofInt 0).toNatClampNeg (p + 4) (Int32.ofInt 0).toNatClampNeg (Int32.ofInt 8).toNatClampNeg) p q 4 := r3.st (by decide) hd
  revert r4
  generalize zcI t3 (q + 4) (Int32.ofInt 0).toNatClampNeg (p + 4) (Int32.ofInt 0).toNatClampNeg (Int32.ofInt 8).toNatClampNeg = t4
  intro r4
  refine zwp_cd o2 (zwp_cd o1 (zwp_cd (by
    have a := zr_s hq 5 (by decide) (by decide)
    have b := zr_s hp 5 (by decide) (by decide)
    change zseg (q + 5) 100 (Int32.ofInt 0) (Int32.ofInt 8) = true at a
    change zseg (p + 5) 100 (Int32.ofInt 0) (Int32.ofInt 8) = true at b
    rw [a, b]
    rfl) (zwp_let ?_)))
  have r5 : rwc σ (zcI t4 (q + 5) (Int32.ofInt 0).toNatClampNeg (p + 5) (Int32.ofInt 0).toNatClampNeg (Int32.ofInt 8).toNatClampNeg) p q 5 := r4.st (by decide) hd
  revert r5
  generalize zcI t4 (q + 5) (Int32.ofInt 0).toNatClampNeg (p + 5) (Int32.ofInt 0).toNatClampNeg (Int32.ofInt 8).toNatClampNeg = t5
  intro r5
  refine zwp_cd o2 (zwp_cd o1 (zwp_cd (by
    have a := zr_s hq 6 (by decide) (by decide)
    have b := zr_s hp 6 (by decide) (by decide)
    change zseg (q + 6) 100 (Int32.ofInt 0) (Int32.ofInt 8) = true at a
    change zseg (p + 6) 100 (Int32.ofInt 0) (Int32.ofInt 8) = true at b
    rw [a, b]
    rfl) (zwp_let ?_)))
  have r6 : rwc σ (zcI t5 (q + 6) (Int32.ofInt 0).toNatClampNeg (p + 6) (Int32.ofInt 0).toNatClampNeg (Int32.ofInt 8).toNatClampNeg) p q 6 := r5.st (by decide) hd
  revert r6
  generalize zcI t5 (q + 6) (Int32.ofInt 0).toNatClampNeg (p + 6) (Int32.ofInt 0).toNatClampNeg (Int32.ofInt 8).toNatClampNeg = t6
  intro r6
  refine zwp_cd o2 (zwp_cd o1 (zwp_cd (by
    have a := zr_s hq 7 (by decide) (by decide)
    have b := zr_s hp 7 (by decide) (by decide)
    change zseg (q + 7) 100 (Int32.ofInt 0) (Int32.ofInt 6) = true at a
    change zseg (p + 7) 100 (Int32.ofInt 0) (Int32.ofInt 6) = true at b
    rw [a, b]
    rfl) (zwp_let ?_)))
  have r7 : rwc σ (zcI t6 (q + 7) (Int32.ofInt 0).toNatClampNeg (p + 7) (Int32.ofInt 0).toNatClampNeg (Int32.ofInt 6).toNatClampNeg) p q 7 := r6.st (by decide) hd
  revert r7
  generalize zcI t6 (q + 7) (Int32.ofInt 0).toNatClampNeg (p + 7) (Int32.ofInt 0).toNatClampNeg (Int32.ofInt 6).toNatClampNeg = t7
  intro r7
  refine zwp_cd o2 (zwp_cd o1 (zwp_cd (by
    have a := zr_s hq 8 (by decide) (by decide)
    have b := zr_s hp 8 (by decide) (by decide)
    change zseg (q + 8) 100 (Int32.ofInt 0) (Int32.ofInt 6) = true at a
    change zseg (p + 8) 100 (Int32.ofInt 0) (Int32.ofInt 6) = true at b
    rw [a, b]
    rfl) (zwp_let ?_)))
  have r8 : rwc σ (zcI t7 (q + 8) (Int32.ofInt 0).toNatClampNeg (p + 8) (Int32.ofInt 0).toNatClampNeg (Int32.ofInt 6).toNatClampNeg) p q 8 := r7.st (by decide) hd
  revert r8
  generalize zcI t7 (q + 8) (Int32.ofInt 0).toNatClampNeg (p + 8) (Int32.ofInt 0).toNatClampNeg (Int32.ofInt 6).toNatClampNeg = t8
  intro r8
  have h70 : 0 ≤ W 5 ∧ W 5 ≤ 10 := by omega
  refine zwp_mono (lp_75 (σ0 := σ) hp hq hne h70.1 h70.2 hL (fun o o0 o1 => (hW.2.2.2.2 o o0 o1).1.2.2.2.2.2.1) (W 5).toNat 0 t8 (by omega) (r8.1.1.mono (by omega)) (fun k hk => ?_) r8.2 (fun o o0 o1 => by omega)) ?_
  · rw [r8.1.2 k, if_pos]
    simp only [List.mem_cons]
    omega
  · rintro v τ ⟨rfl, hf, g1, g2, g3⟩
    exact ⟨rfl, hf, cL_of hL hW.1.1.2.2.2.1 hW.1.2.2.2.2 h5.2.1 g1 g2 g3⟩
