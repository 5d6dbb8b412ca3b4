/-! THE LAW: each of its turns -/
/-- the going on after a turn -/
def lwK (L : Nat) (xs : Nat → Int32) (i : Nat) (Q : Option Value → zM → Prop) : Prop := ∀ τ W S n, LI τ W S n → τ.2.2 = (L, xs) → zwp (zev 282 1790 [some (.ref 2000000), some (.ref 0), some (.ref 287), some (.int (Int32.ofInt (i : Int)))] [] τ) Q
theorem lw_346 {σ : zM} {L i : Nat} {xs : Nat → Int32} {W : Int → Int} {S : sls} {n : Int} {Q : Option Value → zM → Prop} (h : LI σ W S n) (hs : σ.2.2 = (L, xs)) (hi : i + 8 ≤ L) (hL : L ≤ 4096) (hk : lwK L xs i Q) : zwp (zev 282 346 [some (.ref 2000000), some (.ref 0), some (.ref 287), some (.int (Int32.ofInt (i : Int)))] [] σ) Q := by
  refine zwp_of (fun r h => ze_282_346 _ _ r h) ?_
  refine zwp_cd (tCd hs hi hL (by decide) (by decide)) ?_
  refine zwp_cd (tCd hs hi hL (by decide) (by decide)) ?_
  rw [tXd hs hi hL (j := 1) (by decide) (by decide), tXd hs hi hL (j := 2) (by decide) (by decide)]
  refine zwp_IV (cq_hours h.1.2.1 h.2.1 xlo xhi xlo xhi) ?_
  intro τ1 g1
  have h1 := h.c g1
  have hs1 : τ1.2.2 = (L, xs) := g1.1.2.2.trans hs
  refine zwp_cd (tCd hs1 hi hL (by decide) (by decide)) ?_
  refine zwp_cd (tCd hs1 hi hL (by decide) (by decide)) ?_
  rw [tXd hs1 hi hL (j := 1) (by decide) (by decide), tXd hs1 hi hL (j := 2) (by decide) (by decide)]
  refine zwp_IV (rq_hours h1.1 xlo xhi xlo xhi) ?_
  intro τ2 g2
  exact zwp_t rfl (hk τ2 W S n (h1.r g2) (g2.1.2.2.trans hs1))
theorem lw_379 {σ : zM} {L i : Nat} {xs : Nat → Int32} {W : Int → Int} {S : sls} {n : Int} {Q : Option Value → zM → Prop} (h : LI σ W S n) (hs : σ.2.2 = (L, xs)) (hi : i + 8 ≤ L) (hL : L ≤ 4096) (hk : lwK L xs i Q) : zwp (zev 282 379 [some (.ref 2000000), some (.ref 0), some (.ref 287), some (.int (Int32.ofInt (i : Int)))] [] σ) Q := by
  refine zwp_of (fun r h => ze_282_379 _ _ r h) ?_
  refine zwp_cd (tCd hs hi hL (by decide) (by decide)) ?_
  refine zwp_cd (tCd hs hi hL (by decide) (by decide)) ?_
  refine zwp_cd (tCd hs hi hL (by decide) (by decide)) ?_
  rw [tXd hs hi hL (j := 1) (by decide) (by decide), tXd hs hi hL (j := 2) (by decide) (by decide), tXd hs hi hL (j := 3) (by decide) (by decide)]
  refine zwp_IV (cq_way h.1.2.1 h.2.1 xlo xhi xlo xhi xlo xhi) ?_
  intro τ1 g1
  have h1 := h.c g1
  have hs1 : τ1.2.2 = (L, xs) := g1.1.2.2.trans hs
  refine zwp_cd (tCd hs1 hi hL (by decide) (by decide)) ?_
  refine zwp_cd (tCd hs1 hi hL (by decide) (by decide)) ?_
  refine zwp_cd (tCd hs1 hi hL (by decide) (by decide)) ?_
  rw [tXd hs1 hi hL (j := 1) (by decide) (by decide), tXd hs1 hi hL (j := 2) (by decide) (by decide), tXd hs1 hi hL (j := 3) (by decide) (by decide)]
  refine zwp_IV (rq_way h1.1 xlo xhi xlo xhi xlo xhi) ?_
  intro τ2 g2
  exact zwp_t rfl (hk τ2 W S n (h1.r g2) (g2.1.2.2.trans hs1))
theorem lw_422 {σ : zM} {L i : Nat} {xs : Nat → Int32} {W : Int → Int} {S : sls} {n : Int} {Q : Option Value → zM → Prop} (h : LI σ W S n) (hs : σ.2.2 = (L, xs)) (hi : i + 8 ≤ L) (hL : L ≤ 4096) (hk : lwK L xs i Q) : zwp (zev 282 422 [some (.ref 2000000), some (.ref 0), some (.ref 287), some (.int (Int32.ofInt (i : Int)))] [] σ) Q := by
  refine zwp_of (fun r h => ze_282_422 _ _ r h) ?_
  refine zwp_cd (tCd hs hi hL (by decide) (by decide)) ?_
  refine zwp_cd (tCd hs hi hL (by decide) (by decide)) ?_
  rw [tXd hs hi hL (j := 1) (by decide) (by decide), tXd hs hi hL (j := 2) (by decide) (by decide)]
  refine zwp_IV (cq_order h.1.2.1 h.2.1 xlo xhi xlo xhi) ?_
  intro τ1 g1
  have h1 := h.c g1
  have hs1 : τ1.2.2 = (L, xs) := g1.1.2.2.trans hs
  refine zwp_cd (tCd hs1 hi hL (by decide) (by decide)) ?_
  refine zwp_cd (tCd hs1 hi hL (by decide) (by decide)) ?_
  rw [tXd hs1 hi hL (j := 1) (by decide) (by decide), tXd hs1 hi hL (j := 2) (by decide) (by decide)]
  refine zwp_IV (rq_order h1.1 xlo xhi xlo xhi) ?_
  intro τ2 g2
  exact zwp_t rfl (hk τ2 W S n (h1.r g2) (g2.1.2.2.trans hs1))
theorem lw_455 {σ : zM} {L i : Nat} {xs : Nat → Int32} {W : Int → Int} {S : sls} {n : Int} {Q : Option Value → zM → Prop} (h : LI σ W S n) (hs : σ.2.2 = (L, xs)) (hi : i + 8 ≤ L) (hL : L ≤ 4096) (hk : lwK L xs i Q) : zwp (zev 282 455 [some (.ref 2000000), some (.ref 0), some (.ref 287), some (.int (Int32.ofInt (i : Int)))] [] σ) Q := by
  refine zwp_of (fun r h => ze_282_455 _ _ r h) ?_
  refine zwp_cd (tCd hs hi hL (by decide) (by decide)) ?_
  rw [tXd hs hi hL (j := 1) (by decide) (by decide)]
  refine zwp_IV (cq_comes h.1.2.1 h.2.1 xlo xhi) ?_
  intro τ1 g1
  have h1 := h.c g1
  have hs1 : τ1.2.2 = (L, xs) := g1.1.2.2.trans hs
  refine zwp_cd (tCd hs1 hi hL (by decide) (by decide)) ?_
  rw [tXd hs1 hi hL (j := 1) (by decide) (by decide)]
  refine zwp_IV (rq_comes h1.1 xlo xhi) ?_
  intro τ2 g2
  exact zwp_t rfl (hk τ2 W S n (h1.r g2) (g2.1.2.2.trans hs1))
theorem lw_478 {σ : zM} {L i : Nat} {xs : Nat → Int32} {W : Int → Int} {S : sls} {n : Int} {Q : Option Value → zM → Prop} (h : LI σ W S n) (hs : σ.2.2 = (L, xs)) (hi : i + 8 ≤ L) (hL : L ≤ 4096) (hk : lwK L xs i Q) : zwp (zev 282 478 [some (.ref 2000000), some (.ref 0), some (.ref 287), some (.int (Int32.ofInt (i : Int)))] [] σ) Q := by
  refine zwp_of (fun r h => ze_282_478 _ _ r h) ?_
  refine zwp_cd (tCd hs hi hL (by decide) (by decide)) ?_
  refine zwp_cd (tCd hs hi hL (by decide) (by decide)) ?_
  rw [tXd hs hi hL (j := 1) (by decide) (by decide), tXd hs hi hL (j := 2) (by decide) (by decide)]
  refine zwp_IV (cq_rider h.1.2.1 h.2.1 xlo xhi xlo xhi) ?_
  intro τ1 g1
  have h1 := h.c g1
  have hs1 : τ1.2.2 = (L, xs) := g1.1.2.2.trans hs
  refine zwp_cd (tCd hs1 hi hL (by decide) (by decide)) ?_
  refine zwp_cd (tCd hs1 hi hL (by decide) (by decide)) ?_
  rw [tXd hs1 hi hL (j := 1) (by decide) (by decide), tXd hs1 hi hL (j := 2) (by decide) (by decide)]
  refine zwp_IV (rq_rider h1.1 xlo xhi xlo xhi) ?_
  intro τ2 g2
  exact zwp_t rfl (hk τ2 W S n (h1.r g2) (g2.1.2.2.trans hs1))
theorem lw_511 {σ : zM} {L i : Nat} {xs : Nat → Int32} {W : Int → Int} {S : sls} {n : Int} {Q : Option Value → zM → Prop} (h : LI σ W S n) (hs : σ.2.2 = (L, xs)) (hi : i + 8 ≤ L) (hL : L ≤ 4096) (hk : lwK L xs i Q) : zwp (zev 282 511 [some (.ref 2000000), some (.ref 0), some (.ref 287), some (.int (Int32.ofInt (i : Int)))] [] σ) Q := by
  refine zwp_of (fun r h => ze_282_511 _ _ r h) ?_
  refine zwp_cd (tCd hs hi hL (by decide) (by decide)) ?_
  refine zwp_cd (tCd hs hi hL (by decide) (by decide)) ?_
  rw [tXd hs hi hL (j := 1) (by decide) (by decide), tXd hs hi hL (j := 2) (by decide) (by decide)]
  refine zwp_IV (cq_passes h.1.2.1 h.2.1 xlo xhi xlo xhi) ?_
  intro τ1 g1
  have h1 := h.c g1
  have hs1 : τ1.2.2 = (L, xs) := g1.1.2.2.trans hs
  refine zwp_cd (tCd hs1 hi hL (by decide) (by decide)) ?_
  refine zwp_cd (tCd hs1 hi hL (by decide) (by decide)) ?_
  rw [tXd hs1 hi hL (j := 1) (by decide) (by decide), tXd hs1 hi hL (j := 2) (by decide) (by decide)]
  refine zwp_IV (rq_passes h1.1 xlo xhi xlo xhi) ?_
  intro τ2 g2
  exact zwp_t rfl (hk τ2 W S n (h1.r g2) (g2.1.2.2.trans hs1))
theorem lw_544 {σ : zM} {L i : Nat} {xs : Nat → Int32} {W : Int → Int} {S : sls} {n : Int} {Q : Option Value → zM → Prop} (h : LI σ W S n) (hs : σ.2.2 = (L, xs)) (hi : i + 8 ≤ L) (hL : L ≤ 4096) (hk : lwK L xs i Q) : zwp (zev 282 544 [some (.ref 2000000), some (.ref 0), some (.ref 287), some (.int (Int32.ofInt (i : Int)))] [] σ) Q := by
  refine zwp_of (fun r h => ze_282_544 _ _ r h) ?_
  refine zwp_cd (tCd hs hi hL (by decide) (by decide)) ?_
  refine zwp_cd (tCd hs hi hL (by decide) (by decide)) ?_
  refine zwp_cd (tCd hs hi hL (by decide) (by decide)) ?_
  rw [tXd hs hi hL (j := 1) (by decide) (by decide), tXd hs hi hL (j := 2) (by decide) (by decide), tXd hs hi hL (j := 3) (by decide) (by decide)]
  refine zwp_IV (cq_holds h.1.2.1 h.2.1 xlo xhi xlo xhi xlo xhi) ?_
  intro τ1 g1
  have h1 := h.c g1
  have hs1 : τ1.2.2 = (L, xs) := g1.1.2.2.trans hs
  refine zwp_cd (tCd hs1 hi hL (by decide) (by decide)) ?_
  refine zwp_cd (tCd hs1 hi hL (by decide) (by decide)) ?_
  refine zwp_cd (tCd hs1 hi hL (by decide) (by decide)) ?_
  rw [tXd hs1 hi hL (j := 1) (by decide) (by decide), tXd hs1 hi hL (j := 2) (by decide) (by decide), tXd hs1 hi hL (j := 3) (by decide) (by decide)]
  refine zwp_IV (rq_holds h1.1 xlo xhi xlo xhi xlo xhi) ?_
  intro τ2 g2
  exact zwp_t rfl (hk τ2 W S n (h1.r g2) (g2.1.2.2.trans hs1))
theorem lw_587 {σ : zM} {L i : Nat} {xs : Nat → Int32} {W : Int → Int} {S : sls} {n : Int} {Q : Option Value → zM → Prop} (h : LI σ W S n) (hs : σ.2.2 = (L, xs)) (hi : i + 8 ≤ L) (hL : L ≤ 4096) (hk : lwK L xs i Q) : zwp (zev 282 587 [some (.ref 2000000), some (.ref 0), some (.ref 287), some (.int (Int32.ofInt (i : Int)))] [] σ) Q := by
  refine zwp_of (fun r h => ze_282_587 _ _ r h) ?_
  refine zwp_cd (tCd hs hi hL (by decide) (by decide)) ?_
  refine zwp_cd (tCd hs hi hL (by decide) (by decide)) ?_
  refine zwp_cd (tCd hs hi hL (by decide) (by decide)) ?_
  rw [tXd hs hi hL (j := 1) (by decide) (by decide), tXd hs hi hL (j := 2) (by decide) (by decide), tXd hs hi hL (j := 3) (by decide) (by decide)]
  refine zwp_IV (cq_whose h.1.2.1 h.2.1 xlo xhi xlo xhi xlo xhi) ?_
  intro τ1 g1
  have h1 := h.c g1
  have hs1 : τ1.2.2 = (L, xs) := g1.1.2.2.trans hs
  refine zwp_cd (tCd hs1 hi hL (by decide) (by decide)) ?_
  refine zwp_cd (tCd hs1 hi hL (by decide) (by decide)) ?_
  refine zwp_cd (tCd hs1 hi hL (by decide) (by decide)) ?_
  rw [tXd hs1 hi hL (j := 1) (by decide) (by decide), tXd hs1 hi hL (j := 2) (by decide) (by decide), tXd hs1 hi hL (j := 3) (by decide) (by decide)]
  refine zwp_IV (rq_whose h1.1 xlo xhi xlo xhi xlo xhi) ?_
  intro τ2 g2
  exact zwp_t rfl (hk τ2 W S n (h1.r g2) (g2.1.2.2.trans hs1))
theorem lw_630 {σ : zM} {L i : Nat} {xs : Nat → Int32} {W : Int → Int} {S : sls} {n : Int} {Q : Option Value → zM → Prop} (h : LI σ W S n) (hs : σ.2.2 = (L, xs)) (hi : i + 8 ≤ L) (hL : L ≤ 4096) (hk : lwK L xs i Q) : zwp (zev 282 630 [some (.ref 2000000), some (.ref 0), some (.ref 287), some (.int (Int32.ofInt (i : Int)))] [] σ) Q := by
  refine zwp_of (fun r h => ze_282_630 _ _ r h) ?_
  refine zwp_cd (tCd hs hi hL (by decide) (by decide)) ?_
  refine zwp_cd (tCd hs hi hL (by decide) (by decide)) ?_
  rw [tXd hs hi hL (j := 1) (by decide) (by decide), tXd hs hi hL (j := 2) (by decide) (by decide)]
  refine zwp_IV (cq_undone h.1.2.1 h.2.1 xlo xhi xlo xhi) ?_
  intro τ1 g1
  have h1 := h.c g1
  have hs1 : τ1.2.2 = (L, xs) := g1.1.2.2.trans hs
  refine zwp_cd (tCd hs1 hi hL (by decide) (by decide)) ?_
  refine zwp_cd (tCd hs1 hi hL (by decide) (by decide)) ?_
  rw [tXd hs1 hi hL (j := 1) (by decide) (by decide), tXd hs1 hi hL (j := 2) (by decide) (by decide)]
  refine zwp_IV (rq_undone h1.1 xlo xhi xlo xhi) ?_
  intro τ2 g2
  exact zwp_t rfl (hk τ2 W S n (h1.r g2) (g2.1.2.2.trans hs1))
theorem lw_663 {σ : zM} {L i : Nat} {xs : Nat → Int32} {W : Int → Int} {S : sls} {n : Int} {Q : Option Value → zM → Prop} (h : LI σ W S n) (hs : σ.2.2 = (L, xs)) (hi : i + 8 ≤ L) (hL : L ≤ 4096) (hk : lwK L xs i Q) : zwp (zev 282 663 [some (.ref 2000000), some (.ref 0), some (.ref 287), some (.int (Int32.ofInt (i : Int)))] [] σ) Q := by
  refine zwp_of (fun r h => ze_282_663 _ _ r h) ?_
  refine zwp_cd (tCd hs hi hL (by decide) (by decide)) ?_
  refine zwp_cd (tCd hs hi hL (by decide) (by decide)) ?_
  rw [tXd hs hi hL (j := 1) (by decide) (by decide), tXd hs hi hL (j := 2) (by decide) (by decide)]
  refine zwp_IV (cq_changes h.1.2.1 h.2.1 xlo xhi xlo xhi) ?_
  intro τ1 g1
  have h1 := h.c g1
  have hs1 : τ1.2.2 = (L, xs) := g1.1.2.2.trans hs
  refine zwp_cd (tCd hs1 hi hL (by decide) (by decide)) ?_
  refine zwp_cd (tCd hs1 hi hL (by decide) (by decide)) ?_
  rw [tXd hs1 hi hL (j := 1) (by decide) (by decide), tXd hs1 hi hL (j := 2) (by decide) (by decide)]
  refine zwp_IV (rq_changes h1.1 xlo xhi xlo xhi) ?_
  intro τ2 g2
  exact zwp_t rfl (hk τ2 W S n (h1.r g2) (g2.1.2.2.trans hs1))
theorem lw_696 {σ : zM} {L i : Nat} {xs : Nat → Int32} {W : Int → Int} {S : sls} {n : Int} {Q : Option Value → zM → Prop} (h : LI σ W S n) (hs : σ.2.2 = (L, xs)) (hi : i + 8 ≤ L) (hL : L ≤ 4096) (hk : lwK L xs i Q) : zwp (zev 282 696 [some (.ref 2000000), some (.ref 0), some (.ref 287), some (.int (Int32.ofInt (i : Int)))] [] σ) Q := by
  refine zwp_of (fun r h => ze_282_696 _ _ r h) ?_
  refine zwp_cd (tCd hs hi hL (by decide) (by decide)) ?_
  rw [tXd hs hi hL (j := 1) (by decide) (by decide)]
  refine zwp_IV (cq_discord h.1.2.1 h.2.1 xlo xhi) ?_
  intro τ1 g1
  have h1 := h.c g1
  have hs1 : τ1.2.2 = (L, xs) := g1.1.2.2.trans hs
  refine zwp_cd (tCd hs1 hi hL (by decide) (by decide)) ?_
  rw [tXd hs1 hi hL (j := 1) (by decide) (by decide)]
  refine zwp_IV (rq_discord h1.1 xlo xhi) ?_
  intro τ2 g2
  exact zwp_t rfl (hk τ2 W S n (h1.r g2) (g2.1.2.2.trans hs1))
theorem lw_719 {σ : zM} {L i : Nat} {xs : Nat → Int32} {W : Int → Int} {S : sls} {n : Int} {Q : Option Value → zM → Prop} (h : LI σ W S n) (hs : σ.2.2 = (L, xs)) (hi : i + 8 ≤ L) (hL : L ≤ 4096) (hk : lwK L xs i Q) : zwp (zev 282 719 [some (.ref 2000000), some (.ref 0), some (.ref 287), some (.int (Int32.ofInt (i : Int)))] [] σ) Q := by
  refine zwp_of (fun r h => ze_282_719 _ _ r h) ?_
  refine zwp_cd (tCd hs hi hL (by decide) (by decide)) ?_
  rw [tXd hs hi hL (j := 1) (by decide) (by decide)]
  refine zwp_IV (cq_peace h.1.2.1 h.2.1 xlo xhi) ?_
  intro τ1 g1
  have h1 := h.c g1
  have hs1 : τ1.2.2 = (L, xs) := g1.1.2.2.trans hs
  refine zwp_cd (tCd hs1 hi hL (by decide) (by decide)) ?_
  rw [tXd hs1 hi hL (j := 1) (by decide) (by decide)]
  refine zwp_IV (rq_peace h1.1 xlo xhi) ?_
  intro τ2 g2
  exact zwp_t rfl (hk τ2 W S n (h1.r g2) (g2.1.2.2.trans hs1))
theorem lw_742 {σ : zM} {L i : Nat} {xs : Nat → Int32} {W : Int → Int} {S : sls} {n : Int} {Q : Option Value → zM → Prop} (h : LI σ W S n) (hs : σ.2.2 = (L, xs)) (hi : i + 8 ≤ L) (hL : L ≤ 4096) (hk : lwK L xs i Q) : zwp (zev 282 742 [some (.ref 2000000), some (.ref 0), some (.ref 287), some (.int (Int32.ofInt (i : Int)))] [] σ) Q := by
  refine zwp_of (fun r h => ze_282_742 _ _ r h) ?_
  refine zwp_cd (tCd hs hi hL (by decide) (by decide)) ?_
  rw [tXd hs hi hL (j := 1) (by decide) (by decide)]
  refine zwp_IV (cq_just h.1.2.1 h.2.1 xlo xhi) ?_
  intro τ1 g1
  have h1 := h.c g1
  have hs1 : τ1.2.2 = (L, xs) := g1.1.2.2.trans hs
  refine zwp_cd (tCd hs1 hi hL (by decide) (by decide)) ?_
  rw [tXd hs1 hi hL (j := 1) (by decide) (by decide)]
  refine zwp_IV (rq_just h1.1 xlo xhi) ?_
  intro τ2 g2
  exact zwp_t rfl (hk τ2 W S n (h1.r g2) (g2.1.2.2.trans hs1))
theorem lw_821 {σ : zM} {L i : Nat} {xs : Nat → Int32} {W : Int → Int} {S : sls} {n : Int} {Q : Option Value → zM → Prop} (h : LI σ W S n) (hs : σ.2.2 = (L, xs)) (hi : i + 8 ≤ L) (hL : L ≤ 4096) (hk : lwK L xs i Q) : zwp (zev 282 821 [some (.ref 2000000), some (.ref 0), some (.ref 287), some (.int (Int32.ofInt (i : Int)))] [] σ) Q := by
  refine zwp_of (fun r h => ze_282_821 _ _ r h) ?_
  refine zwp_cd (tCd hs hi hL (by decide) (by decide)) ?_
  refine zwp_cd (tCd hs hi hL (by decide) (by decide)) ?_
  rw [tXd hs hi hL (j := 1) (by decide) (by decide), tXd hs hi hL (j := 2) (by decide) (by decide)]
  refine zwp_IV (cq_latest h.1.2.1 h.2.1 xlo xhi xlo xhi) ?_
  intro τ1 g1
  have h1 := h.c g1
  have hs1 : τ1.2.2 = (L, xs) := g1.1.2.2.trans hs
  refine zwp_cd (tCd hs1 hi hL (by decide) (by decide)) ?_
  refine zwp_cd (tCd hs1 hi hL (by decide) (by decide)) ?_
  rw [tXd hs1 hi hL (j := 1) (by decide) (by decide), tXd hs1 hi hL (j := 2) (by decide) (by decide)]
  refine zwp_IV (rq_latest h1.1 xlo xhi xlo xhi) ?_
  intro τ2 g2
  exact zwp_t rfl (hk τ2 W S n (h1.r g2) (g2.1.2.2.trans hs1))
theorem lw_854 {σ : zM} {L i : Nat} {xs : Nat → Int32} {W : Int → Int} {S : sls} {n : Int} {Q : Option Value → zM → Prop} (h : LI σ W S n) (hs : σ.2.2 = (L, xs)) (hi : i + 8 ≤ L) (hL : L ≤ 4096) (hk : lwK L xs i Q) : zwp (zev 282 854 [some (.ref 2000000), some (.ref 0), some (.ref 287), some (.int (Int32.ofInt (i : Int)))] [] σ) Q := by
  refine zwp_of (fun r h => ze_282_854 _ _ r h) ?_
  refine zwp_cd (tCd hs hi hL (by decide) (by decide)) ?_
  refine zwp_cd (tCd hs hi hL (by decide) (by decide)) ?_
  rw [tXd hs hi hL (j := 1) (by decide) (by decide), tXd hs hi hL (j := 2) (by decide) (by decide)]
  refine zwp_IV (cq_earliest h.1.2.1 h.2.1 xlo xhi xlo xhi) ?_
  intro τ1 g1
  have h1 := h.c g1
  have hs1 : τ1.2.2 = (L, xs) := g1.1.2.2.trans hs
  refine zwp_cd (tCd hs1 hi hL (by decide) (by decide)) ?_
  refine zwp_cd (tCd hs1 hi hL (by decide) (by decide)) ?_
  rw [tXd hs1 hi hL (j := 1) (by decide) (by decide), tXd hs1 hi hL (j := 2) (by decide) (by decide)]
  refine zwp_IV (rq_earliest h1.1 xlo xhi xlo xhi) ?_
  intro τ2 g2
  exact zwp_t rfl (hk τ2 W S n (h1.r g2) (g2.1.2.2.trans hs1))
theorem lw_887 {σ : zM} {L i : Nat} {xs : Nat → Int32} {W : Int → Int} {S : sls} {n : Int} {Q : Option Value → zM → Prop} (h : LI σ W S n) (hs : σ.2.2 = (L, xs)) (hi : i + 8 ≤ L) (hL : L ≤ 4096) (hk : lwK L xs i Q) : zwp (zev 282 887 [some (.ref 2000000), some (.ref 0), some (.ref 287), some (.int (Int32.ofInt (i : Int)))] [] σ) Q := by
  refine zwp_of (fun r h => ze_282_887 _ _ r h) ?_
  refine zwp_cd (tCd hs hi hL (by decide) (by decide)) ?_
  refine zwp_cd (tCd hs hi hL (by decide) (by decide)) ?_
  rw [tXd hs hi hL (j := 1) (by decide) (by decide), tXd hs hi hL (j := 2) (by decide) (by decide)]
  refine zwp_IV (cq_ways h.1.2.1 h.2.1 xlo xhi xlo xhi) ?_
  intro τ1 g1
  have h1 := h.c g1
  have hs1 : τ1.2.2 = (L, xs) := g1.1.2.2.trans hs
  refine zwp_cd (tCd hs1 hi hL (by decide) (by decide)) ?_
  refine zwp_cd (tCd hs1 hi hL (by decide) (by decide)) ?_
  rw [tXd hs1 hi hL (j := 1) (by decide) (by decide), tXd hs1 hi hL (j := 2) (by decide) (by decide)]
  refine zwp_IV (rq_ways h1.1 xlo xhi xlo xhi) ?_
  intro τ2 g2
  exact zwp_t rfl (hk τ2 W S n (h1.r g2) (g2.1.2.2.trans hs1))
theorem lw_920 {σ : zM} {L i : Nat} {xs : Nat → Int32} {W : Int → Int} {S : sls} {n : Int} {Q : Option Value → zM → Prop} (h : LI σ W S n) (hs : σ.2.2 = (L, xs)) (hi : i + 8 ≤ L) (hL : L ≤ 4096) (hk : lwK L xs i Q) : zwp (zev 282 920 [some (.ref 2000000), some (.ref 0), some (.ref 287), some (.int (Int32.ofInt (i : Int)))] [] σ) Q := by
  refine zwp_of (fun r h => ze_282_920 _ _ r h) ?_
  refine zwp_cd (tCd hs hi hL (by decide) (by decide)) ?_
  refine zwp_cd (tCd hs hi hL (by decide) (by decide)) ?_
  refine zwp_cd (tCd hs hi hL (by decide) (by decide)) ?_
  rw [tXd hs hi hL (j := 1) (by decide) (by decide), tXd hs hi hL (j := 2) (by decide) (by decide), tXd hs hi hL (j := 3) (by decide) (by decide)]
  refine zwp_IV (cq_best h.1.2.1 h.2.1 xlo xhi xlo xhi xlo xhi) ?_
  intro τ1 g1
  have h1 := h.c g1
  have hs1 : τ1.2.2 = (L, xs) := g1.1.2.2.trans hs
  refine zwp_cd (tCd hs1 hi hL (by decide) (by decide)) ?_
  refine zwp_cd (tCd hs1 hi hL (by decide) (by decide)) ?_
  refine zwp_cd (tCd hs1 hi hL (by decide) (by decide)) ?_
  rw [tXd hs1 hi hL (j := 1) (by decide) (by decide), tXd hs1 hi hL (j := 2) (by decide) (by decide), tXd hs1 hi hL (j := 3) (by decide) (by decide)]
  refine zwp_IV (rq_best h1.1 xlo xhi xlo xhi xlo xhi) ?_
  intro τ2 g2
  exact zwp_t rfl (hk τ2 W S n (h1.r g2) (g2.1.2.2.trans hs1))
theorem lw_963 {σ : zM} {L i : Nat} {xs : Nat → Int32} {W : Int → Int} {S : sls} {n : Int} {Q : Option Value → zM → Prop} (h : LI σ W S n) (hs : σ.2.2 = (L, xs)) (hi : i + 8 ≤ L) (hL : L ≤ 4096) (hk : lwK L xs i Q) : zwp (zev 282 963 [some (.ref 2000000), some (.ref 0), some (.ref 287), some (.int (Int32.ofInt (i : Int)))] [] σ) Q := by
  refine zwp_of (fun r h => ze_282_963 _ _ r h) ?_
  refine zwp_cd (tCd hs hi hL (by decide) (by decide)) ?_
  refine zwp_cd (tCd hs hi hL (by decide) (by decide)) ?_
  refine zwp_cd (tCd hs hi hL (by decide) (by decide)) ?_
  refine zwp_cd (tCd hs hi hL (by decide) (by decide)) ?_
  refine zwp_cd (tCd hs hi hL (by decide) (by decide)) ?_
  rw [tXd hs hi hL (j := 1) (by decide) (by decide), tXd hs hi hL (j := 2) (by decide) (by decide), tXd hs hi hL (j := 3) (by decide) (by decide), tXd hs hi hL (j := 4) (by decide) (by decide), tXd hs hi hL (j := 5) (by decide) (by decide)]
  refine zwp_IV (cq_delay h.1.2.1 h.2.1 xlo xhi xlo xhi xlo xhi xlo xhi xlo xhi) ?_
  intro τ1 g1
  have h1 := h.c g1
  have hs1 : τ1.2.2 = (L, xs) := g1.1.2.2.trans hs
  refine zwp_cd (tCd hs1 hi hL (by decide) (by decide)) ?_
  refine zwp_cd (tCd hs1 hi hL (by decide) (by decide)) ?_
  refine zwp_cd (tCd hs1 hi hL (by decide) (by decide)) ?_
  refine zwp_cd (tCd hs1 hi hL (by decide) (by decide)) ?_
  refine zwp_cd (tCd hs1 hi hL (by decide) (by decide)) ?_
  rw [tXd hs1 hi hL (j := 1) (by decide) (by decide), tXd hs1 hi hL (j := 2) (by decide) (by decide), tXd hs1 hi hL (j := 3) (by decide) (by decide), tXd hs1 hi hL (j := 4) (by decide) (by decide), tXd hs1 hi hL (j := 5) (by decide) (by decide)]
  refine zwp_IV (rq_delay h1.1 xlo xhi xlo xhi xlo xhi xlo xhi xlo xhi) ?_
  intro τ2 g2
  exact zwp_t rfl (hk τ2 W S n (h1.r g2) (g2.1.2.2.trans hs1))
theorem lw_1026 {σ : zM} {L i : Nat} {xs : Nat → Int32} {W : Int → Int} {S : sls} {n : Int} {Q : Option Value → zM → Prop} (h : LI σ W S n) (hs : σ.2.2 = (L, xs)) (hi : i + 8 ≤ L) (hL : L ≤ 4096) (hk : lwK L xs i Q) : zwp (zev 282 1026 [some (.ref 2000000), some (.ref 0), some (.ref 287), some (.int (Int32.ofInt (i : Int)))] [] σ) Q := by
  refine zwp_of (fun r h => ze_282_1026 _ _ r h) ?_
  refine zwp_cd (tCd hs hi hL (by decide) (by decide)) ?_
  refine zwp_cd (tCd hs hi hL (by decide) (by decide)) ?_
  refine zwp_cd (tCd hs hi hL (by decide) (by decide)) ?_
  refine zwp_cd (tCd hs hi hL (by decide) (by decide)) ?_
  refine zwp_cd (tCd hs hi hL (by decide) (by decide)) ?_
  rw [tXd hs hi hL (j := 1) (by decide) (by decide), tXd hs hi hL (j := 2) (by decide) (by decide), tXd hs hi hL (j := 3) (by decide) (by decide), tXd hs hi hL (j := 4) (by decide) (by decide), tXd hs hi hL (j := 5) (by decide) (by decide)]
  refine zwp_IV (cq_queen h.1.2.1 h.2.1 xlo xhi xlo xhi xlo xhi xlo xhi xlo xhi) ?_
  intro τ1 g1
  have h1 := h.c g1
  have hs1 : τ1.2.2 = (L, xs) := g1.1.2.2.trans hs
  refine zwp_cd (tCd hs1 hi hL (by decide) (by decide)) ?_
  refine zwp_cd (tCd hs1 hi hL (by decide) (by decide)) ?_
  refine zwp_cd (tCd hs1 hi hL (by decide) (by decide)) ?_
  refine zwp_cd (tCd hs1 hi hL (by decide) (by decide)) ?_
  refine zwp_cd (tCd hs1 hi hL (by decide) (by decide)) ?_
  rw [tXd hs1 hi hL (j := 1) (by decide) (by decide), tXd hs1 hi hL (j := 2) (by decide) (by decide), tXd hs1 hi hL (j := 3) (by decide) (by decide), tXd hs1 hi hL (j := 4) (by decide) (by decide), tXd hs1 hi hL (j := 5) (by decide) (by decide)]
  refine zwp_IV (rq_queen h1.1 xlo xhi xlo xhi xlo xhi xlo xhi xlo xhi) ?_
  intro τ2 g2
  exact zwp_t rfl (hk τ2 W S n (h1.r g2) (g2.1.2.2.trans hs1))
theorem lw_1089 {σ : zM} {L i : Nat} {xs : Nat → Int32} {W : Int → Int} {S : sls} {n : Int} {Q : Option Value → zM → Prop} (h : LI σ W S n) (hs : σ.2.2 = (L, xs)) (hi : i + 8 ≤ L) (hL : L ≤ 4096) (hk : lwK L xs i Q) : zwp (zev 282 1089 [some (.ref 2000000), some (.ref 0), some (.ref 287), some (.int (Int32.ofInt (i : Int)))] [] σ) Q := by
  refine zwp_of (fun r h => ze_282_1089 _ _ r h) ?_
  refine zwp_cd (tCd hs hi hL (by decide) (by decide)) ?_
  rw [tXd hs hi hL (j := 1) (by decide) (by decide)]
  refine zwp_IV (cq_wish h.1.2.1 h.2.1 xlo xhi) ?_
  intro τ1 g1
  have h1 := h.c g1
  have hs1 : τ1.2.2 = (L, xs) := g1.1.2.2.trans hs
  refine zwp_cd (tCd hs1 hi hL (by decide) (by decide)) ?_
  rw [tXd hs1 hi hL (j := 1) (by decide) (by decide)]
  refine zwp_IV (rq_wish h1.1 xlo xhi) ?_
  intro τ2 g2
  exact zwp_t rfl (hk τ2 W S n (h1.r g2) (g2.1.2.2.trans hs1))
theorem lw_1112 {σ : zM} {L i : Nat} {xs : Nat → Int32} {W : Int → Int} {S : sls} {n : Int} {Q : Option Value → zM → Prop} (h : LI σ W S n) (hs : σ.2.2 = (L, xs)) (hi : i + 8 ≤ L) (hL : L ≤ 4096) (hk : lwK L xs i Q) : zwp (zev 282 1112 [some (.ref 2000000), some (.ref 0), some (.ref 287), some (.int (Int32.ofInt (i : Int)))] [] σ) Q := by
  refine zwp_of (fun r h => ze_282_1112 _ _ r h) ?_
  refine zwp_IV (cq_rest h.1.2.1 h.2.1 ) ?_
  intro τ1 g1
  have h1 := h.c g1
  have hs1 : τ1.2.2 = (L, xs) := g1.1.2.2.trans hs
  refine zwp_IV (rq_rest h1.1 ) ?_
  intro τ2 g2
  exact zwp_t rfl (hk τ2 W S n (h1.r g2) (g2.1.2.2.trans hs1))
theorem lw_1125 {σ : zM} {L i : Nat} {xs : Nat → Int32} {W : Int → Int} {S : sls} {n : Int} {Q : Option Value → zM → Prop} (h : LI σ W S n) (hs : σ.2.2 = (L, xs)) (hi : i + 8 ≤ L) (hL : L ≤ 4096) (hk : lwK L xs i Q) : zwp (zev 282 1125 [some (.ref 2000000), some (.ref 0), some (.ref 287), some (.int (Int32.ofInt (i : Int)))] [] σ) Q := by
  refine zwp_of (fun r h => ze_282_1125 _ _ r h) ?_
  refine zwp_cd (tCd hs hi hL (by decide) (by decide)) ?_
  rw [tXd hs hi hL (j := 1) (by decide) (by decide)]
  refine zwp_IV (cq_rests h.1.2.1 h.2.1 xlo xhi) ?_
  intro τ1 g1
  have h1 := h.c g1
  have hs1 : τ1.2.2 = (L, xs) := g1.1.2.2.trans hs
  refine zwp_cd (tCd hs1 hi hL (by decide) (by decide)) ?_
  rw [tXd hs1 hi hL (j := 1) (by decide) (by decide)]
  refine zwp_IV (rq_rests h1.1 xlo xhi) ?_
  intro τ2 g2
  exact zwp_t rfl (hk τ2 W S n (h1.r g2) (g2.1.2.2.trans hs1))
theorem lw_1148 {σ : zM} {L i : Nat} {xs : Nat → Int32} {W : Int → Int} {S : sls} {n : Int} {Q : Option Value → zM → Prop} (h : LI σ W S n) (hs : σ.2.2 = (L, xs)) (hi : i + 8 ≤ L) (hL : L ≤ 4096) (hk : lwK L xs i Q) : zwp (zev 282 1148 [some (.ref 2000000), some (.ref 0), some (.ref 287), some (.int (Int32.ofInt (i : Int)))] [] σ) Q := by
  refine zwp_of (fun r h => ze_282_1148 _ _ r h) ?_
  refine zwp_cd (tCd hs hi hL (by decide) (by decide)) ?_
  refine zwp_cd (tCd hs hi hL (by decide) (by decide)) ?_
  rw [tXd hs hi hL (j := 1) (by decide) (by decide), tXd hs hi hL (j := 2) (by decide) (by decide)]
  refine zwp_IV (cq_sent h.1.2.1 h.2.1 xlo xhi xlo xhi) ?_
  intro τ1 g1
  have h1 := h.c g1
  have hs1 : τ1.2.2 = (L, xs) := g1.1.2.2.trans hs
  refine zwp_cd (tCd hs1 hi hL (by decide) (by decide)) ?_
  refine zwp_cd (tCd hs1 hi hL (by decide) (by decide)) ?_
  rw [tXd hs1 hi hL (j := 1) (by decide) (by decide), tXd hs1 hi hL (j := 2) (by decide) (by decide)]
  refine zwp_IV (rq_sent h1.1 xlo xhi xlo xhi) ?_
  intro τ2 g2
  exact zwp_t rfl (hk τ2 W S n (h1.r g2) (g2.1.2.2.trans hs1))
theorem lw_1181 {σ : zM} {L i : Nat} {xs : Nat → Int32} {W : Int → Int} {S : sls} {n : Int} {Q : Option Value → zM → Prop} (h : LI σ W S n) (hs : σ.2.2 = (L, xs)) (hi : i + 8 ≤ L) (hL : L ≤ 4096) (hk : lwK L xs i Q) : zwp (zev 282 1181 [some (.ref 2000000), some (.ref 0), some (.ref 287), some (.int (Int32.ofInt (i : Int)))] [] σ) Q := by
  refine zwp_of (fun r h => ze_282_1181 _ _ r h) ?_
  refine zwp_IV (cq_cross h.1.2.1 h.2.1 ) ?_
  intro τ1 g1
  have h1 := h.c g1
  have hs1 : τ1.2.2 = (L, xs) := g1.1.2.2.trans hs
  refine zwp_IV (rq_cross h1.1 ) ?_
  intro τ2 g2
  exact zwp_t rfl (hk τ2 W S n (h1.r g2) (g2.1.2.2.trans hs1))
theorem lw_1194 {σ : zM} {L i : Nat} {xs : Nat → Int32} {W : Int → Int} {S : sls} {n : Int} {Q : Option Value → zM → Prop} (h : LI σ W S n) (hs : σ.2.2 = (L, xs)) (hi : i + 8 ≤ L) (hL : L ≤ 4096) (hk : lwK L xs i Q) : zwp (zev 282 1194 [some (.ref 2000000), some (.ref 0), some (.ref 287), some (.int (Int32.ofInt (i : Int)))] [] σ) Q := by
  refine zwp_of (fun r h => ze_282_1194 _ _ r h) ?_
  refine zwp_cd (tCd hs hi hL (by decide) (by decide)) ?_
  refine zwp_cd (tCd hs hi hL (by decide) (by decide)) ?_
  rw [tXd hs hi hL (j := 1) (by decide) (by decide), tXd hs hi hL (j := 2) (by decide) (by decide)]
  refine zwp_IV (cq_meets h.1.2.1 h.2.1 xlo xhi xlo xhi) ?_
  intro τ1 g1
  have h1 := h.c g1
  have hs1 : τ1.2.2 = (L, xs) := g1.1.2.2.trans hs
  refine zwp_cd (tCd hs1 hi hL (by decide) (by decide)) ?_
  refine zwp_cd (tCd hs1 hi hL (by decide) (by decide)) ?_
  rw [tXd hs1 hi hL (j := 1) (by decide) (by decide), tXd hs1 hi hL (j := 2) (by decide) (by decide)]
  refine zwp_IV (rq_meets h1.1 xlo xhi xlo xhi) ?_
  intro τ2 g2
  exact zwp_t rfl (hk τ2 W S n (h1.r g2) (g2.1.2.2.trans hs1))
theorem lw_1227 {σ : zM} {L i : Nat} {xs : Nat → Int32} {W : Int → Int} {S : sls} {n : Int} {Q : Option Value → zM → Prop} (h : LI σ W S n) (hs : σ.2.2 = (L, xs)) (hi : i + 8 ≤ L) (hL : L ≤ 4096) (hk : lwK L xs i Q) : zwp (zev 282 1227 [some (.ref 2000000), some (.ref 0), some (.ref 287), some (.int (Int32.ofInt (i : Int)))] [] σ) Q := by
  refine zwp_of (fun r h => ze_282_1227 _ _ r h) ?_
  refine zwp_cd (tCd hs hi hL (by decide) (by decide)) ?_
  rw [tXd hs hi hL (j := 1) (by decide) (by decide)]
  refine zwp_IV (cq_forged h.1.2.1 h.2.1 h.2.2.2.2.1.2.1 h.2.2.2.2.1.1 xlo xhi) ?_
  intro τ1 g1
  have h1 := h.c g1
  have hs1 : τ1.2.2 = (L, xs) := g1.1.2.2.trans hs
  refine zwp_cd (tCd hs1 hi hL (by decide) (by decide)) ?_
  rw [tXd hs1 hi hL (j := 1) (by decide) (by decide)]
  refine zwp_IV (rq_forged h1.1 h1.2.2.2.2.1.2.2 h1.2.2.2.2.1.1 xlo xhi) ?_
  intro τ2 g2
  exact zwp_t rfl (hk τ2 W S n (h1.r g2) (g2.1.2.2.trans hs1))
theorem lw_1250 {σ : zM} {L i : Nat} {xs : Nat → Int32} {W : Int → Int} {S : sls} {n : Int} {Q : Option Value → zM → Prop} (h : LI σ W S n) (hs : σ.2.2 = (L, xs)) (hi : i + 8 ≤ L) (hL : L ≤ 4096) (hk : lwK L xs i Q) : zwp (zev 282 1250 [some (.ref 2000000), some (.ref 0), some (.ref 287), some (.int (Int32.ofInt (i : Int)))] [] σ) Q := by
  refine zwp_of (fun r h => ze_282_1250 _ _ r h) ?_
  refine zwp_cd (tCd hs hi hL (by decide) (by decide)) ?_
  refine zwp_cd (tCd hs hi hL (by decide) (by decide)) ?_
  rw [tXd hs hi hL (j := 1) (by decide) (by decide), tXd hs hi hL (j := 2) (by decide) (by decide)]
  refine zwp_IV (cq_agree h.1.2.1 h.2.1 h.2.2.2.2.1.2.1 h.2.2.2.2.1.1 xlo xhi xlo xhi) ?_
  intro τ1 g1
  have h1 := h.c g1
  have hs1 : τ1.2.2 = (L, xs) := g1.1.2.2.trans hs
  refine zwp_cd (tCd hs1 hi hL (by decide) (by decide)) ?_
  refine zwp_cd (tCd hs1 hi hL (by decide) (by decide)) ?_
  rw [tXd hs1 hi hL (j := 1) (by decide) (by decide), tXd hs1 hi hL (j := 2) (by decide) (by decide)]
  refine zwp_IV (rq_agree h1.1 h1.2.2.2.2.1.2.2 h1.2.2.2.2.1.1 xlo xhi xlo xhi) ?_
  intro τ2 g2
  exact zwp_t rfl (hk τ2 W S n (h1.r g2) (g2.1.2.2.trans hs1))
theorem lw_1283 {σ : zM} {L i : Nat} {xs : Nat → Int32} {W : Int → Int} {S : sls} {n : Int} {Q : Option Value → zM → Prop} (h : LI σ W S n) (hs : σ.2.2 = (L, xs)) (hi : i + 8 ≤ L) (hL : L ≤ 4096) (hk : lwK L xs i Q) : zwp (zev 282 1283 [some (.ref 2000000), some (.ref 0), some (.ref 287), some (.int (Int32.ofInt (i : Int)))] [] σ) Q := by
  refine zwp_of (fun r h => ze_282_1283 _ _ r h) ?_
  refine zwp_cd (tCd hs hi hL (by decide) (by decide)) ?_
  refine zwp_cd (tCd hs hi hL (by decide) (by decide)) ?_
  refine zwp_cd (tCd hs hi hL (by decide) (by decide)) ?_
  rw [tXd hs hi hL (j := 1) (by decide) (by decide), tXd hs hi hL (j := 2) (by decide) (by decide), tXd hs hi hL (j := 3) (by decide) (by decide)]
  refine zwp_IV (cq_when h.1.2.1 h.2.1 h.2.2.2.2.1.2.1 h.2.2.2.2.1.1 xlo xhi xlo xhi xlo xhi) ?_
  intro τ1 g1
  have h1 := h.c g1
  have hs1 : τ1.2.2 = (L, xs) := g1.1.2.2.trans hs
  refine zwp_cd (tCd hs1 hi hL (by decide) (by decide)) ?_
  refine zwp_cd (tCd hs1 hi hL (by decide) (by decide)) ?_
  refine zwp_cd (tCd hs1 hi hL (by decide) (by decide)) ?_
  rw [tXd hs1 hi hL (j := 1) (by decide) (by decide), tXd hs1 hi hL (j := 2) (by decide) (by decide), tXd hs1 hi hL (j := 3) (by decide) (by decide)]
  refine zwp_IV (rq_when h1.1 h1.2.2.2.2.1.2.2 h1.2.2.2.2.1.1 xlo xhi xlo xhi xlo xhi) ?_
  intro τ2 g2
  exact zwp_t rfl (hk τ2 W S n (h1.r g2) (g2.1.2.2.trans hs1))
theorem lw_1326 {σ : zM} {L i : Nat} {xs : Nat → Int32} {W : Int → Int} {S : sls} {n : Int} {Q : Option Value → zM → Prop} (h : LI σ W S n) (hs : σ.2.2 = (L, xs)) (hi : i + 8 ≤ L) (hL : L ≤ 4096) (hk : lwK L xs i Q) : zwp (zev 282 1326 [some (.ref 2000000), some (.ref 0), some (.ref 287), some (.int (Int32.ofInt (i : Int)))] [] σ) Q := by
  refine zwp_of (fun r h => ze_282_1326 _ _ r h) ?_
  refine zwp_cd (tCd hs hi hL (by decide) (by decide)) ?_
  refine zwp_cd (tCd hs hi hL (by decide) (by decide)) ?_
  refine zwp_cd (tCd hs hi hL (by decide) (by decide)) ?_
  refine zwp_cd (tCd hs hi hL (by decide) (by decide)) ?_
  refine zwp_cd (tCd hs hi hL (by decide) (by decide)) ?_
  rw [tXd hs hi hL (j := 1) (by decide) (by decide), tXd hs hi hL (j := 2) (by decide) (by decide), tXd hs hi hL (j := 3) (by decide) (by decide), tXd hs hi hL (j := 4) (by decide) (by decide), tXd hs hi hL (j := 5) (by decide) (by decide)]
  refine zwp_IV (cq_sure h.1.2.1 h.2.1 h.2.2.2.2.1.2.1 h.2.2.2.2.1.1 xlo xhi xlo xhi xlo xhi xlo xhi xlo xhi) ?_
  intro τ1 g1
  have h1 := h.c g1
  have hs1 : τ1.2.2 = (L, xs) := g1.1.2.2.trans hs
  refine zwp_cd (tCd hs1 hi hL (by decide) (by decide)) ?_
  refine zwp_cd (tCd hs1 hi hL (by decide) (by decide)) ?_
  refine zwp_cd (tCd hs1 hi hL (by decide) (by decide)) ?_
  refine zwp_cd (tCd hs1 hi hL (by decide) (by decide)) ?_
  refine zwp_cd (tCd hs1 hi hL (by decide) (by decide)) ?_
  rw [tXd hs1 hi hL (j := 1) (by decide) (by decide), tXd hs1 hi hL (j := 2) (by decide) (by decide), tXd hs1 hi hL (j := 3) (by decide) (by decide), tXd hs1 hi hL (j := 4) (by decide) (by decide), tXd hs1 hi hL (j := 5) (by decide) (by decide)]
  refine zwp_IV (rq_sure h1.1 h1.2.2.2.2.1.2.2 h1.2.2.2.2.1.1 xlo xhi xlo xhi xlo xhi xlo xhi xlo xhi) ?_
  intro τ2 g2
  exact zwp_t rfl (hk τ2 W S n (h1.r g2) (g2.1.2.2.trans hs1))
theorem lw_1389 {σ : zM} {L i : Nat} {xs : Nat → Int32} {W : Int → Int} {S : sls} {n : Int} {Q : Option Value → zM → Prop} (h : LI σ W S n) (hs : σ.2.2 = (L, xs)) (hi : i + 8 ≤ L) (hL : L ≤ 4096) (hk : lwK L xs i Q) : zwp (zev 282 1389 [some (.ref 2000000), some (.ref 0), some (.ref 287), some (.int (Int32.ofInt (i : Int)))] [] σ) Q := by
  refine zwp_of (fun r h => ze_282_1389 _ _ r h) ?_
  refine zwp_cd (tCd hs hi hL (by decide) (by decide)) ?_
  rw [tXd hs hi hL (j := 1) (by decide) (by decide)]
  refine zwp_IV (cq_matters h.1.2.1 h.2.1 xlo xhi) ?_
  intro τ1 g1
  have h1 := h.c g1
  have hs1 : τ1.2.2 = (L, xs) := g1.1.2.2.trans hs
  refine zwp_cd (tCd hs1 hi hL (by decide) (by decide)) ?_
  rw [tXd hs1 hi hL (j := 1) (by decide) (by decide)]
  refine zwp_IV (rq_matters h1.1 xlo xhi) ?_
  intro τ2 g2
  exact zwp_t rfl (hk τ2 W S n (h1.r g2) (g2.1.2.2.trans hs1))
theorem lw_1412 {σ : zM} {L i : Nat} {xs : Nat → Int32} {W : Int → Int} {S : sls} {n : Int} {Q : Option Value → zM → Prop} (h : LI σ W S n) (hs : σ.2.2 = (L, xs)) (hi : i + 8 ≤ L) (hL : L ≤ 4096) (hk : lwK L xs i Q) : zwp (zev 282 1412 [some (.ref 2000000), some (.ref 0), some (.ref 287), some (.int (Int32.ofInt (i : Int)))] [] σ) Q := by
  refine zwp_of (fun r h => ze_282_1412 _ _ r h) ?_
  refine zwp_cd (tCd hs hi hL (by decide) (by decide)) ?_
  refine zwp_cd (tCd hs hi hL (by decide) (by decide)) ?_
  refine zwp_cd (tCd hs hi hL (by decide) (by decide)) ?_
  rw [tXd hs hi hL (j := 1) (by decide) (by decide), tXd hs hi hL (j := 2) (by decide) (by decide), tXd hs hi hL (j := 3) (by decide) (by decide)]
  refine zwp_IV (cq_year h.1.2.1 h.2.1 xlo xhi xlo xhi xlo xhi) ?_
  intro τ1 g1
  have h1 := h.c g1
  have hs1 : τ1.2.2 = (L, xs) := g1.1.2.2.trans hs
  refine zwp_cd (tCd hs1 hi hL (by decide) (by decide)) ?_
  refine zwp_cd (tCd hs1 hi hL (by decide) (by decide)) ?_
  refine zwp_cd (tCd hs1 hi hL (by decide) (by decide)) ?_
  rw [tXd hs1 hi hL (j := 1) (by decide) (by decide), tXd hs1 hi hL (j := 2) (by decide) (by decide), tXd hs1 hi hL (j := 3) (by decide) (by decide)]
  refine zwp_IV (rq_year h1.1 xlo xhi xlo xhi xlo xhi) ?_
  intro τ2 g2
  exact zwp_t rfl (hk τ2 W S n (h1.r g2) (g2.1.2.2.trans hs1))
theorem lw_1455 {σ : zM} {L i : Nat} {xs : Nat → Int32} {W : Int → Int} {S : sls} {n : Int} {Q : Option Value → zM → Prop} (h : LI σ W S n) (hs : σ.2.2 = (L, xs)) (hi : i + 8 ≤ L) (hL : L ≤ 4096) (hk : lwK L xs i Q) : zwp (zev 282 1455 [some (.ref 2000000), some (.ref 0), some (.ref 287), some (.int (Int32.ofInt (i : Int)))] [] σ) Q := by
  refine zwp_of (fun r h => ze_282_1455 _ _ r h) ?_
  refine zwp_cd (tCd hs hi hL (by decide) (by decide)) ?_
  refine zwp_cd (tCd hs hi hL (by decide) (by decide)) ?_
  refine zwp_cd (tCd hs hi hL (by decide) (by decide)) ?_
  refine zwp_cd (tCd hs hi hL (by decide) (by decide)) ?_
  refine zwp_cd (tCd hs hi hL (by decide) (by decide)) ?_
  refine zwp_cd (tCd hs hi hL (by decide) (by decide)) ?_
  refine zwp_cd (tCd hs hi hL (by decide) (by decide)) ?_
  rw [tXd hs hi hL (j := 1) (by decide) (by decide), tXd hs hi hL (j := 2) (by decide) (by decide), tXd hs hi hL (j := 3) (by decide) (by decide), tXd hs hi hL (j := 4) (by decide) (by decide), tXd hs hi hL (j := 5) (by decide) (by decide), tXd hs hi hL (j := 6) (by decide) (by decide), tXd hs hi hL (j := 7) (by decide) (by decide)]
  refine zwp_IV (cq_years h.1.2.1 h.2.1 xlo xhi xlo xhi xlo xhi xlo xhi xlo xhi xlo xhi xlo xhi) ?_
  intro τ1 g1
  have h1 := h.c g1
  have hs1 : τ1.2.2 = (L, xs) := g1.1.2.2.trans hs
  refine zwp_cd (tCd hs1 hi hL (by decide) (by decide)) ?_
  refine zwp_cd (tCd hs1 hi hL (by decide) (by decide)) ?_
  refine zwp_cd (tCd hs1 hi hL (by decide) (by decide)) ?_
  refine zwp_cd (tCd hs1 hi hL (by decide) (by decide)) ?_
  refine zwp_cd (tCd hs1 hi hL (by decide) (by decide)) ?_
  refine zwp_cd (tCd hs1 hi hL (by decide) (by decide)) ?_
  refine zwp_cd (tCd hs1 hi hL (by decide) (by decide)) ?_
  rw [tXd hs1 hi hL (j := 1) (by decide) (by decide), tXd hs1 hi hL (j := 2) (by decide) (by decide), tXd hs1 hi hL (j := 3) (by decide) (by decide), tXd hs1 hi hL (j := 4) (by decide) (by decide), tXd hs1 hi hL (j := 5) (by decide) (by decide), tXd hs1 hi hL (j := 6) (by decide) (by decide), tXd hs1 hi hL (j := 7) (by decide) (by decide)]
  refine zwp_IV (rq_years h1.1 xlo xhi xlo xhi xlo xhi xlo xhi xlo xhi xlo xhi xlo xhi) ?_
  intro τ2 g2
  exact zwp_t rfl (hk τ2 W S n (h1.r g2) (g2.1.2.2.trans hs1))
theorem w220_s {W : Int → Int} {o h : Int} (hW : WOK W) (h2 : w220 W) : WOK (Wsends W o h) ∧ w220 (Wsends W o h) := by
  have h5 := hW.2.2.1
  unfold Wsends
  by_cases q : inO W o ∧ inH W h
  · rw [if_pos q]
    refine ⟨WOK_6 hW q.1.1 q.1.2 q.2.1 q.2.2, fun j hj => ?_⟩
    have := q.1.2
    exact (if_neg (by omega)).trans (h2 j hj)
  · rw [if_neg q]
    exact ⟨hW, h2⟩
theorem w220_l {W : Int → Int} {x : Int} (hW : WOK W) (h2 : w220 W) : WOK (Wsl W x) ∧ w220 (Wsl W x) := by
  unfold Wsl
  by_cases q : inS W x
  · rw [if_pos q]
    exact ⟨sl_WOK hW q.2.1 q.2.2, fun j hj => (if_neg (by omega)).trans (h2 j hj)⟩
  · rw [if_neg q]
    exact ⟨hW, h2⟩
theorem lw_788 {σ : zM} {L i : Nat} {xs : Nat → Int32} {W : Int → Int} {S : sls} {n : Int} {Q : Option Value → zM → Prop} (h : LI σ W S n) (hs : σ.2.2 = (L, xs)) (hi : i + 8 ≤ L) (hL : L ≤ 4096) (hk : lwK L xs i Q) : zwp (zev 282 788 [some (.ref 2000000), some (.ref 0), some (.ref 287), some (.int (Int32.ofInt (i : Int)))] [] σ) Q := by
  refine zwp_of (fun r h => ze_282_788 _ _ r h) ?_
  refine zwp_cd (tCd hs hi hL (by decide) (by decide)) ?_
  refine zwp_cd (tCd hs hi hL (by decide) (by decide)) ?_
  rw [tXd hs hi hL (j := 1) (by decide) (by decide), tXd hs hi hL (j := 2) (by decide) (by decide)]
  refine zwp_IV (cq_sends h.1.2.1 h.2.1 xlo xhi xlo xhi) ?_
  intro τ1 g1
  have hs1 : τ1.2.2 = (L, xs) := g1.1.2.2.trans hs
  refine zwp_cd (tCd hs1 hi hL (by decide) (by decide)) ?_
  refine zwp_cd (tCd hs1 hi hL (by decide) (by decide)) ?_
  rw [tXd hs1 hi hL (j := 1) (by decide) (by decide), tXd hs1 hi hL (j := 2) (by decide) (by decide)]
  refine zwp_IV (rq_sends (h.1.m g1.1 ⟨by omega, by omega⟩) xlo xhi xlo xhi) ?_
  intro τ2 g2
  have hw : WOK (Wsends W (xA xs i 1) (xA xs i 2)) ∧ w220 (Wsends W (xA xs i 1) (xA xs i 2)) := w220_s h.1.2.1 h.2.2.1
  exact zwp_t rfl (hk τ2 _ S n (h.w hw.1 hw.2 g1 g2) (g2.1.2.2.trans hs1))
theorem lw_765 {σ : zM} {L i : Nat} {xs : Nat → Int32} {W : Int → Int} {S : sls} {n : Int} {Q : Option Value → zM → Prop} (h : LI σ W S n) (hs : σ.2.2 = (L, xs)) (hi : i + 8 ≤ L) (hL : L ≤ 4096) (hk : lwK L xs i Q) : zwp (zev 282 765 [some (.ref 2000000), some (.ref 0), some (.ref 287), some (.int (Int32.ofInt (i : Int)))] [] σ) Q := by
  refine zwp_of (fun r h => ze_282_765 _ _ r h) ?_
  refine zwp_cd (tCd hs hi hL (by decide) (by decide)) ?_
  rw [tXd hs hi hL (j := 1) (by decide) (by decide)]
  refine zwp_IV (cq_seal h.1.2.1 h.2.1 xlo xhi) ?_
  intro τ1 g1
  have hs1 : τ1.2.2 = (L, xs) := g1.1.2.2.trans hs
  refine zwp_cd (tCd hs1 hi hL (by decide) (by decide)) ?_
  rw [tXd hs1 hi hL (j := 1) (by decide) (by decide)]
  refine zwp_IV (rq_seal (h.1.m g1.1 ⟨by omega, by omega⟩) xlo xhi) ?_
  intro τ2 g2
  have hw : WOK (Wsl W (xA xs i 1)) ∧ w220 (Wsl W (xA xs i 1)) := w220_l h.1.2.1 h.2.2.1
  exact zwp_t rfl (hk τ2 _ S n (h.w hw.1 hw.2 g1 g2) (g2.1.2.2.trans hs1))
theorem lw_1611 {σ : zM} {L i : Nat} {xs : Nat → Int32} {W : Int → Int} {S : sls} {n : Int} {Q : Option Value → zM → Prop} (h : LI σ W S n) (hs : σ.2.2 = (L, xs)) (hi : i + 8 ≤ L) (hL : L ≤ 4096) (hk : lwK L xs i Q) : zwp (zev 282 1611 [some (.ref 2000000), some (.ref 0), some (.ref 287), some (.int (Int32.ofInt (i : Int)))] [] σ) Q := by
  refine zwp_of (fun r h => ze_282_1611 _ _ r h) ?_
  refine zwp_cd (tCd hs hi hL (by decide) (by decide)) ?_
  refine zwp_cd (tCd hs hi hL (by decide) (by decide)) ?_
  refine zwp_cd (tCd hs hi hL (by decide) (by decide)) ?_
  rw [tXd hs hi hL (j := 1) (by decide) (by decide), tXd hs hi hL (j := 2) (by decide) (by decide), tXd hs hi hL (j := 3) (by decide) (by decide)]
  refine zwp_IV (cq_row h.2.2.2.2.1.2.1 xlo xhi xlo xhi xlo xhi) ?_
  intro τ1 g1
  have hs1 : τ1.2.2 = (L, xs) := g1.1.2.2.trans hs
  refine zwp_cd (tCd hs1 hi hL (by decide) (by decide)) ?_
  refine zwp_cd (tCd hs1 hi hL (by decide) (by decide)) ?_
  refine zwp_cd (tCd hs1 hi hL (by decide) (by decide)) ?_
  rw [tXd hs1 hi hL (j := 1) (by decide) (by decide), tXd hs1 hi hL (j := 2) (by decide) (by decide), tXd hs1 hi hL (j := 3) (by decide) (by decide)]
  refine zwp_IV (rq_row (h.2.2.2.2.1.2.2.m g1.1 fun b b0 b1 p => by unfold slcS at p; omega) xlo xhi xlo xhi xlo xhi) ?_
  intro τ2 g2
  exact zwp_t rfl (hk τ2 W _ n (h.s (Srow_W h.2.2.2.2.1.1) g1 g2) (g2.1.2.2.trans hs1))
theorem lw_1727 {σ : zM} {L i : Nat} {xs : Nat → Int32} {W : Int → Int} {S : sls} {n : Int} {Q : Option Value → zM → Prop} (h : LI σ W S n) (hs : σ.2.2 = (L, xs)) (hi : i + 8 ≤ L) (hL : L ≤ 4096) (hk : lwK L xs i Q) : zwp (zev 282 1727 [some (.ref 2000000), some (.ref 0), some (.ref 287), some (.int (Int32.ofInt (i : Int)))] [] σ) Q := by
  refine zwp_of (fun r h => ze_282_1727 _ _ r h) ?_
  refine zwp_cd (tCd hs hi hL (by decide) (by decide)) ?_
  refine zwp_cd (tCd hs hi hL (by decide) (by decide)) ?_
  refine zwp_cd (tCd hs hi hL (by decide) (by decide)) ?_
  refine zwp_cd (tCd hs hi hL (by decide) (by decide)) ?_
  refine zwp_cd (tCd hs hi hL (by decide) (by decide)) ?_
  rw [tXd hs hi hL (j := 1) (by decide) (by decide), tXd hs hi hL (j := 2) (by decide) (by decide), tXd hs hi hL (j := 3) (by decide) (by decide), tXd hs hi hL (j := 4) (by decide) (by decide), tXd hs hi hL (j := 5) (by decide) (by decide)]
  refine zwp_IV (cq_paste h.2.2.2.2.1.1 h.2.2.2.2.1.2.1 xlo xhi xlo xhi xlo xhi xlo xhi xlo xhi) ?_
  intro τ1 g1
  have hs1 : τ1.2.2 = (L, xs) := g1.1.2.2.trans hs
  refine zwp_cd (tCd hs1 hi hL (by decide) (by decide)) ?_
  refine zwp_cd (tCd hs1 hi hL (by decide) (by decide)) ?_
  refine zwp_cd (tCd hs1 hi hL (by decide) (by decide)) ?_
  refine zwp_cd (tCd hs1 hi hL (by decide) (by decide)) ?_
  refine zwp_cd (tCd hs1 hi hL (by decide) (by decide)) ?_
  rw [tXd hs1 hi hL (j := 1) (by decide) (by decide), tXd hs1 hi hL (j := 2) (by decide) (by decide), tXd hs1 hi hL (j := 3) (by decide) (by decide), tXd hs1 hi hL (j := 4) (by decide) (by decide), tXd hs1 hi hL (j := 5) (by decide) (by decide)]
  refine zwp_IV (rq_paste h.2.2.2.2.1.1 (h.2.2.2.2.1.2.2.m g1.1 fun b b0 b1 p => by unfold slcS at p; omega) xlo xhi xlo xhi xlo xhi xlo xhi xlo xhi) ?_
  intro τ2 g2
  exact zwp_t rfl (hk τ2 W _ n (h.s (Sps_W h.2.2.2.2.1.1) g1 g2) (g2.1.2.2.trans hs1))
theorem lw_1654 {σ : zM} {L i : Nat} {xs : Nat → Int32} {W : Int → Int} {S : sls} {n : Int} {Q : Option Value → zM → Prop} (h : LI σ W S n) (hs : σ.2.2 = (L, xs)) (hi : i + 8 ≤ L) (hL : L ≤ 4096) (hk : lwK L xs i Q) : zwp (zev 282 1654 [some (.ref 2000000), some (.ref 0), some (.ref 287), some (.int (Int32.ofInt (i : Int)))] [] σ) Q := by
  refine zwp_of (fun r h => ze_282_1654 _ _ r h) ?_
  refine zwp_cd (tCd hs hi hL (by decide) (by decide)) ?_
  refine zwp_cd (tCd hs hi hL (by decide) (by decide)) ?_
  refine zwp_cd (tCd hs hi hL (by decide) (by decide)) ?_
  refine zwp_cd (tCd hs hi hL (by decide) (by decide)) ?_
  rw [tXd hs hi hL (j := 1) (by decide) (by decide), tXd hs hi hL (j := 2) (by decide) (by decide), tXd hs hi hL (j := 3) (by decide) (by decide), tXd hs hi hL (j := 4) (by decide) (by decide)]
  refine zwp_IV (cq_write h.2.2.2.2.1.1 h.2.2.2.2.1.2.1 xlo xhi xlo xhi) ?_
  intro τ1 g1
  have hs1 : τ1.2.2 = (L, xs) := g1.1.2.2.trans hs
  refine zwp_cd (tCd hs1 hi hL (by decide) (by decide)) ?_
  refine zwp_cd (tCd hs1 hi hL (by decide) (by decide)) ?_
  refine zwp_cd (tCd hs1 hi hL (by decide) (by decide)) ?_
  refine zwp_cd (tCd hs1 hi hL (by decide) (by decide)) ?_
  rw [tXd hs1 hi hL (j := 1) (by decide) (by decide), tXd hs1 hi hL (j := 2) (by decide) (by decide), tXd hs1 hi hL (j := 3) (by decide) (by decide), tXd hs1 hi hL (j := 4) (by decide) (by decide)]
  refine zwp_IV (rq_write h.2.2.2.2.1.1 (h.2.2.2.2.1.2.2.m g1.1 fun b b0 b1 p => by unfold slcS at p; omega) xlo xhi xlo xhi) ?_
  intro τ2 g2
  exact zwp_t rfl (hk τ2 W _ n (h.s (Swr_W h.2.2.2.2.1.1) g1 g2) (g2.1.2.2.trans hs1))
theorem lw_1542 {σ : zM} {L i : Nat} {xs : Nat → Int32} {W : Int → Int} {S : sls} {n : Int} {Q : Option Value → zM → Prop} (h : LI σ W S n) (hs : σ.2.2 = (L, xs)) (hi : i + 8 ≤ L) (hL : L ≤ 4096) (hk : lwK L xs i Q) : zwp (zev 282 1542 [some (.ref 2000000), some (.ref 0), some (.ref 287), some (.int (Int32.ofInt (i : Int)))] [] σ) Q := by
  refine zwp_of (fun r h => ze_282_1542 _ _ r h) ?_
  refine zwp_cd (tCd hs hi hL (by decide) (by decide)) ?_
  rw [tXd hs hi hL (j := 1) (by decide) (by decide)]
  refine zwp_IV (cq_count h.2.1 h.2.2.2.2.1.2.1 xlo xhi) ?_
  rintro τ1 rfl
  refine zwp_cd (tCd hs hi hL (by decide) (by decide)) ?_
  rw [tXd hs hi hL (j := 1) (by decide) (by decide)]
  refine zwp_IV (rq_count h.1.1 h.2.2.2.2.1.2.2 xlo xhi) ?_
  rintro τ2 rfl
  have ht := h.2.2.2.2.2.2.1.2.1
  exact zwp_t (by rw [ht.1, ht.2]) (hk _ W S n h hs)
theorem lw_323 {σ : zM} {L i : Nat} {xs : Nat → Int32} {W : Int → Int} {S : sls} {n : Int} {Q : Option Value → zM → Prop} (h : LI σ W S n) (hs : σ.2.2 = (L, xs)) (hi : i + 8 ≤ L) (hL : L ≤ 4096) (hk : lwK L xs i Q) : zwp (zev 282 323 [some (.ref 2000000), some (.ref 0), some (.ref 287), some (.int (Int32.ofInt (i : Int)))] [] σ) Q := by
  refine zwp_of (fun r h => ze_282_323 _ _ r h) ?_
  refine zwp_cd (tCd hs hi hL (by decide) (by decide)) ?_
  rw [tXd hs hi hL (j := 1) (by decide) (by decide)]
  refine zwp_IV (cq_fault xlo xhi) ?_
  rintro τ1 rfl
  refine zwp_cd (tCd hs hi hL (by decide) (by decide)) ?_
  rw [tXd hs hi hL (j := 1) (by decide) (by decide)]
  refine zwp_IV (rq_fault xlo xhi) ?_
  rintro τ2 rfl
  have ht := h.2.2.2.2.2.2.2
  exact zwp_t (by rw [ht.1, ht.2]) (hk _ W S n h hs)
theorem lw_287 {σ : zM} {L i : Nat} {xs : Nat → Int32} {W : Int → Int} {S : sls} {n : Int} {Q : Option Value → zM → Prop} (h : LI σ W S n) (hs : σ.2.2 = (L, xs)) (hi : i + 8 ≤ L) (hL : L ≤ 4096) (hk : lwK L xs i Q) : zwp (zev 282 287 [some (.ref 2000000), some (.ref 0), some (.ref 287), some (.int (Int32.ofInt (i : Int)))] [] σ) Q := by
  refine zwp_of (fun r h => ze_282_287 _ _ r h) ?_
  refine zwp_cd (tCd hs hi hL (by decide) (by decide)) ?_
  rw [tXd hs hi hL (j := 1) (by decide) (by decide)]
  obtain ⟨hB, hC, h2, hb, hS, hI, ⟨hn, ⟨ht0, ht5⟩, ht⟩, hF⟩ := h
  refine zwp_IV (cq_end hn.1 hn.2 ht0 xlo xhi) ?_
  intro τ1 e1
  have f1 : mf (fun b => b = 0) σ τ1 := by
    rw [e1]
    by_cases q : 0 ≤ xA xs i 1 ∧ xA xs i 1 ≤ n
    · rw [if_pos q]
      exact mf.rf.zw 0 _ _ rfl
    · rw [if_neg q]
      exact mf.rf
  have hs1 : τ1.2.2 = (L, xs) := f1.2.2.trans hs
  refine zwp_cd (tCd hs1 hi hL (by decide) (by decide)) ?_
  rw [tXd hs1 hi hL (j := 1) (by decide) (by decide)]
  refine zwp_IV (rq_end hn.1 hn.2 ((f1.1 287 (by decide) 5).trans ht5) xlo xhi) ?_
  intro τ2 e2
  have f2 : mf (fun b => b = 0 ∨ b = 287) σ τ2 := by
    refine (f1.mono fun b hb => .inl hb).tr ?_
    rw [e2]
    by_cases q : 0 ≤ xA xs i 1 ∧ xA xs i 1 ≤ n
    · rw [if_pos q]
      exact mf.rf.zw 287 _ _ (.inr rfl)
    · rw [if_neg q]
      exact mf.rf
  have k7 : ∀ k, k ≠ 5 → zN τ2 287 k = zN σ 287 k := fun k hk => by
    rw [e2]
    by_cases q : 0 ≤ xA xs i 1 ∧ xA xs i 1 ≤ n
    · rw [if_pos q, mm_nj hk]
      exact f1.1 287 (by decide) k
    · rw [if_neg q]
      exact f1.1 287 (by decide) k
  have hb2 : LB τ2 S (if 0 ≤ xA xs i 1 ∧ xA xs i 1 ≤ n then xA xs i 1 else n) := by
    refine ⟨fun j hj => (f2.1 293 (by omega) j).trans (hb j hj), ⟨hS.1, hS.2.1.m f2 fun b b0 b1 p => by omega, hS.2.2.m f2 fun b b0 b1 p => by omega⟩, hI.m f2 fun b b0 p => by omega, ?_, hF.m (f2.1 2 (by omega)) (k7 12 (by decide)) (k7 13 (by decide))⟩
    by_cases q : 0 ≤ xA xs i 1 ∧ xA xs i 1 ≤ n
    · rw [if_pos q] at e1 e2 ⊢
      refine ⟨by omega, ⟨?_, ?_⟩, fun j hj => ?_⟩
      · rw [e2, mm_ne (by decide), e1, mm_at rfl rfl (by omega) (by omega)]
      · rw [e2, mm_at rfl rfl (by omega) (by omega)]
      · rw [f2.1 1 (by omega), f2.1 291 (by omega)]
        exact ht j (by omega)
    · rw [if_neg q] at e1 e2 ⊢
      rw [e2, e1]
      exact ⟨hn, ⟨ht0, ht5⟩, ht⟩
  refine zwp_t rfl (hk τ2 W S _ ⟨⟨(f2.wv 288 (by omega)).trans hB.1, hB.2.1, (k7 24 (by decide)).trans hB.2.2.1, (k7 25 (by decide)).trans hB.2.2.2⟩, hC.m hB.2.1 f2 fun b b0 b1 p => by omega, h2, hb2⟩ (f2.2.2.trans hs))
theorem lw_224 {σ : zM} {L i : Nat} {xs : Nat → Int32} {W : Int → Int} {S : sls} {n : Int} {Q : Option Value → zM → Prop} (h : LI σ W S n) (hs : σ.2.2 = (L, xs)) (hi : i + 8 ≤ L) (hL : L ≤ 4096) (hk : lwK L xs i Q) : zwp (zev 282 224 [some (.ref 2000000), some (.ref 0), some (.ref 287), some (.int (Int32.ofInt (i : Int)))] [] σ) Q := by
  refine zwp_of (fun r h => ze_282_224 _ _ r h) ?_
  refine zwp_cd (tCd hs hi hL (by decide) (by decide)) ?_
  refine zwp_cd (tCd hs hi hL (by decide) (by decide)) ?_
  refine zwp_cd (tCd hs hi hL (by decide) (by decide)) ?_
  refine zwp_cd (tCd hs hi hL (by decide) (by decide)) ?_
  refine zwp_cd (tCd hs hi hL (by decide) (by decide)) ?_
  rw [tXd hs hi hL (j := 1) (by decide) (by decide), tXd hs hi hL (j := 2) (by decide) (by decide), tXd hs hi hL (j := 3) (by decide) (by decide), tXd hs hi hL (j := 4) (by decide) (by decide), tXd hs hi hL (j := 5) (by decide) (by decide)]
  obtain ⟨hB, hC, h2, hb, hS, hI, ⟨hn, ⟨ht0, ht5⟩, ht⟩, hF⟩ := h
  refine zwp_IV (cq_feed hn.1 hn.2 ht0) ?_
  rintro τ1 ⟨⟨f1, k0⟩, c1, c2⟩
  have hs1 : τ1.2.2 = (L, xs) := f1.2.2.trans hs
  refine zwp_cd (tCd hs1 hi hL (by decide) (by decide)) ?_
  refine zwp_cd (tCd hs1 hi hL (by decide) (by decide)) ?_
  refine zwp_cd (tCd hs1 hi hL (by decide) (by decide)) ?_
  refine zwp_cd (tCd hs1 hi hL (by decide) (by decide)) ?_
  refine zwp_cd (tCd hs1 hi hL (by decide) (by decide)) ?_
  rw [tXd hs1 hi hL (j := 1) (by decide) (by decide), tXd hs1 hi hL (j := 2) (by decide) (by decide), tXd hs1 hi hL (j := 3) (by decide) (by decide), tXd hs1 hi hL (j := 4) (by decide) (by decide), tXd hs1 hi hL (j := 5) (by decide) (by decide)]
  refine zwp_IV (rq_feed hn.1 hn.2 ((f1.1 287 (by omega) 5).trans ht5)) ?_
  rintro τ2 ⟨f2, k2, d1, d2⟩
  have f : mf (fun b => b = 0 ∨ b = 1 ∨ b = 291 ∨ b = 292 ∨ b = 287) σ τ2 := (f1.mono (by omega)).tr (f2.mono (by omega))
  have k7 : ∀ k, k ≠ 5 → zN τ2 287 k = zN σ 287 k := fun k hk => (k2 k hk).trans (f1.1 287 (by omega) k)
  have hb2 : LB τ2 S (if n + 20 ≤ 2000 then n + 20 else n) := by
    refine ⟨fun j hj => (f.1 293 (by omega) j).trans (hb j hj), ⟨hS.1, hS.2.1.m f fun b b0 b1 p => by omega, hS.2.2.m f fun b b0 b1 p => by omega⟩, hI.m f fun b b0 p => by omega, ?_, hF.m (f.1 2 (by omega)) (k7 12 (by decide)) (k7 13 (by decide))⟩
    by_cases q : n + 20 ≤ 2000
    · rw [if_pos q]
      obtain ⟨p1, p2⟩ := c1 q
      obtain ⟨q1, q2⟩ := d1 q
      refine ⟨by omega, ⟨(f2.1 0 (by omega) 1).trans p1, q1⟩, fun j hj => ?_⟩
      rw [f2.1 1 (by omega), p2 j, q2 j, f1.1 291 (by omega)]
      by_cases z : n ≤ j ∧ (j : Int) < n + (20 : Nat)
      · rw [if_pos z, if_pos z]
        exact ⟨rfl, byA_r8⟩
      · rw [if_neg z, if_neg z]
        exact ht j (by omega)
    · rw [if_neg q, d2 q, c2 q]
      exact ⟨hn, ⟨ht0, ht5⟩, ht⟩
  exact zwp_t rfl (hk τ2 W S _ ⟨⟨(f.wv 288 (by omega)).trans hB.1, hB.2.1, (k7 24 (by decide)).trans hB.2.2.1, (k7 25 (by decide)).trans hB.2.2.2⟩, hC.m hB.2.1 f fun b b0 b1 p => by omega, h2, hb2⟩ (f.2.2.trans hs))
theorem lw_1565 {σ : zM} {L i : Nat} {xs : Nat → Int32} {W : Int → Int} {S : sls} {n : Int} {Q : Option Value → zM → Prop} (h : LI σ W S n) (hs : σ.2.2 = (L, xs)) (hi : i + 8 ≤ L) (hL : L ≤ 4096) (hk : lwK L xs i Q) : zwp (zev 282 1565 [some (.ref 2000000), some (.ref 0), some (.ref 287), some (.int (Int32.ofInt (i : Int)))] [] σ) Q := by
  refine zwp_of (fun r h => ze_282_1565 _ _ r h) ?_
  refine zwp_cd (tCd hs hi hL (by decide) (by decide)) ?_
  rw [tXd hs hi hL (j := 1) (by decide) (by decide)]
  obtain ⟨hB, hC, h2, hb, hS, hI, hT, hF⟩ := h
  have hW := hB.2.1
  have h5 := hW.2.2.1
  refine zwp_IV (cq_image hW hC xlo xhi) ?_
  rintro τ1 ⟨f1, c1, c2⟩
  have hs1 : τ1.2.2 = (L, xs) := f1.2.2.trans hs
  refine zwp_cd (tCd hs1 hi hL (by decide) (by decide)) ?_
  rw [tXd hs1 hi hL (j := 1) (by decide) (by decide)]
  have x0 : -2147483648 ≤ xA xs i 1 := xlo
  have x1 : xA xs i 1 < 2147483648 := xhi
  generalize xA xs i 1 = k at f1 c1 c2 x0 x1 ⊢
  have hw1 : wv τ1 288 = W := by
    by_cases q : isIm k
    · exact (f1.wv 288 (by omega)).trans hB.1
    · rw [c2 q]
      exact hB.1
  refine zwp_IV (rq_image hw1 h2 x0 x1) ?_
  rintro τ2 ⟨f2, d1, d2⟩
  refine zwp_t rfl ?_
  by_cases q : isIm k
  · obtain ⟨p1, p2⟩ := c1 q
    obtain ⟨q1, q2, q3⟩ := d1 q
    have f : mf (fun b => 196 ≤ b ∧ b ≤ 286 ∨ 289 ≤ b ∧ b ≤ 290) σ τ2 := (f1.mono (by omega)).tr (f2.mono (by omega))
    refine hk τ2 W S n ⟨hB.m f ⟨by omega, by omega⟩, hC.m hW f fun b b0 b1 p => by omega, h2, fun j hj => (f.1 293 (by omega) j).trans (hb j hj), ⟨hS.1, hS.2.1.m f fun b b0 b1 p => by omega, hS.2.2.m f fun b b0 b1 p => by omega⟩, fun l hl => ?_, hT.m (f.1 0 (by omega) _) (f.1 1 (by omega)) (f.1 291 (by omega)) (f.1 287 (by omega) _), hF.m (f.1 2 (by omega)) (f.1 287 (by omega) _) (f.1 287 (by omega) _)⟩ (f.2.2.trans hs)
    by_cases z : l = k
    · subst z
      rw [q1, if_pos rfl, f2.1 286 (by omega), p2, if_pos rfl, q2]
      exact ⟨rfl, fun _ => ⟨hW, p1.fr (by omega) fun a a0 a1 => f2.1 a (by omega)⟩⟩
    · obtain ⟨i1, i2⟩ := hI l hl
      have e := imA_m (k := l) (f1.1 289 (by omega))
      rw [q1, if_neg (by omega), f1.1 290 (by omega), f2.1 286 (by omega), p2, if_neg (by omega), q3 l hl.1 z, e]
      refine ⟨i1, fun w => ?_⟩
      obtain ⟨a, b⟩ := i2 w
      exact ⟨a, b.fr (by have := a.2.2.1; omega) fun x x0 x1 k' => (f2.1 x (by omega) k').trans (f1.1 x (by omega) k')⟩
  · rw [d2 q, c2 q]
    exact hk σ W S n ⟨hB, hC, h2, hb, hS, hI, hT, hF⟩ hs
theorem lw_1588 {σ : zM} {L i : Nat} {xs : Nat → Int32} {W : Int → Int} {S : sls} {n : Int} {Q : Option Value → zM → Prop} (h : LI σ W S n) (hs : σ.2.2 = (L, xs)) (hi : i + 8 ≤ L) (hL : L ≤ 4096) (hk : lwK L xs i Q) : zwp (zev 282 1588 [some (.ref 2000000), some (.ref 0), some (.ref 287), some (.int (Int32.ofInt (i : Int)))] [] σ) Q := by
  refine zwp_of (fun r h => ze_282_1588 _ _ r h) ?_
  refine zwp_cd (tCd hs hi hL (by decide) (by decide)) ?_
  rw [tXd hs hi hL (j := 1) (by decide) (by decide)]
  obtain ⟨hB, hC, h2, hLB⟩ := h
  have hI := hLB.2.2.1
  have hW := hB.2.1
  refine zwp_IV (cq_restore (V := imA σ (xA xs i 1)) hC xlo xhi fun q z => (hI _ q).2 z) ?_
  rintro τ1 ⟨f1, c1⟩
  have hs1 : τ1.2.2 = (L, xs) := f1.2.2.trans hs
  refine zwp_cd (tCd hs1 hi hL (by decide) (by decide)) ?_
  rw [tXd hs1 hi hL (j := 1) (by decide) (by decide)]
  have x0 : -2147483648 ≤ xA xs i 1 := xlo
  have x1 : xA xs i 1 < 2147483648 := xhi
  generalize xA xs i 1 = k at c1 x0 x1 ⊢
  refine zwp_IV (rq_restore ((f1.wv 288 (by omega)).trans hB.1) h2 x0 x1) ?_
  rintro τ2 ⟨f2, d1⟩
  have e9 : zN τ1 290 k.toNat = zN σ 290 k.toNat := f1.1 290 (by omega) _
  have eA : imA τ1 k = imA σ k := imA_m (f1.1 289 (by omega))
  have eE : Erc σ k = Ere τ1 k := by
    unfold Erc Ere
    by_cases q : isIm k
    · rw [if_pos q, if_pos q, e9, (hI k q).1]
    · rw [if_neg q, if_neg q]
  refine zwp_t (by rw [eE]) ?_
  rw [e9, eA] at d1
  have hfin : ∀ W', ctC τ1 W' → wv τ2 288 = W' → WOK W' → w220 W' → zwp (zev 282 1790 [some (.ref 2000000), some (.ref 0), some (.ref 287), some (.int (Int32.ofInt (i : Int)))] [] τ2) Q := fun W' a b c d => by
    have hr0 := hB.m f1 ⟨by omega, by omega⟩
    exact hk τ2 W' S n ⟨⟨b, c, (f2.1 287 (by omega) _).trans hr0.2.2.1, (f2.1 287 (by omega) _).trans hr0.2.2.2⟩, a.m c f2 fun b b0 b1 p => by omega, d, (hLB.c f1 fun b hb => hb).r f2 (fun b hb => by omega) (f2.1 287 (by omega) _) (f2.1 287 (by omega) _) (f2.1 287 (by omega) _)⟩ (f2.2.2.trans hs1)
  by_cases q : isIm k ∧ zN σ 286 k.toNat ≠ 0
  · rw [if_pos q] at c1
    rw [if_pos ⟨q.1, by rw [(hI k q.1).1]; exact q.2⟩] at d1
    refine hfin _ c1 d1 ((hI k q.1).2 q.2).1 fun j hj => ?_
    unfold imA
    exact if_neg (by omega)
  · rw [if_neg q] at c1
    rw [if_neg (fun p => q ⟨p.1, by rw [← (hI k p.1).1]; exact p.2⟩)] at d1
    exact hfin _ c1 d1 hW h2
theorem lw_310 {σ : zM} {L i : Nat} {xs : Nat → Int32} {W : Int → Int} {S : sls} {n : Int} {Q : Option Value → zM → Prop} (h : LI σ W S n) (hs : σ.2.2 = (L, xs)) (hi : i + 8 ≤ L) (hL : L ≤ 4096) (hk : lwK L xs i Q) : zwp (zev 282 310 [some (.ref 2000000), some (.ref 0), some (.ref 287), some (.int (Int32.ofInt (i : Int)))] [] σ) Q := by
  refine zwp_of (fun r h => ze_282_310 _ _ r h) ?_
  obtain ⟨hB, hC, h2, hb, hS, hI, ⟨hn, ⟨ht0, ht5⟩, ht⟩, hF⟩ := h
  have hW := hB.2.1
  have hT : tpC σ 1 (fun a => zN σ 1 a.toNat) n := ⟨hn, fun a a0 a1 => by
    have := ht a.toNat (by omega)
    exact ⟨rfl, this.2⟩⟩
  refine zwp_IV (cq_realm hW hC hT ht0) ?_
  rintro τ1 ⟨f1, k0, y0, c1, c2, e8, e9⟩
  have hs1 : τ1.2.2 = (L, xs) := f1.2.2.trans hs
  have hT1 : tpC τ1 291 (fun a => zN σ 1 a.toNat) n := ⟨hn, fun a a0 a1 => by
    have := ht a.toNat (by omega)
    exact ⟨(f1.1 291 (by omega) _).trans this.1.symm, this.2⟩⟩
  generalize (fun a : Int => zN σ 1 a.toNat) = T at hT hT1 c1 c2 e8 e9 ⊢
  refine zwp_IV (sp_197 hT1 ((f1.1 287 (by omega) 5).trans ht5) (fun j hj => (f1.1 293 (by omega) j).trans (hb j hj)) (fun j hj => (f1.1 288 (by omega) j).trans ((wv_k hB.1 j).trans (h2 j (by omega))))) ?_
  rintro τ2 ⟨f2, k7, y5, z3, z8, d1, d2⟩
  refine zwp_t rfl ?_
  have f : mf (fun b => b = 0 ∨ b = 2 ∨ 3 ≤ b ∧ b < 187 ∨ 287 ≤ b ∧ b ≤ 288 ∨ b = 293) σ τ2 := (f1.mono (by omega)).tr (f2.mono (by omega))
  have kk : ∀ k, k < 5 ∨ k = 6 ∨ 14 ≤ k → zN τ2 287 k = zN σ 287 k := fun k hk => (k7 k hk).trans (f1.1 287 (by omega) k)
  have hfin : ∀ W', ctC τ1 W' → wv τ2 288 = W' → WOK W' → w220 W' → zN τ2 2 8 = zN τ2 287 12 → zN τ2 2 9 = zN τ2 287 13 → zwp (zev 282 1790 [some (.ref 2000000), some (.ref 0), some (.ref 287), some (.int (Int32.ofInt (i : Int)))] [] τ2) Q := fun W' a b c d g8 g9 => by
    refine hk τ2 W' S 0 ⟨⟨b, c, (kk 24 (by omega)).trans hB.2.2.1, (kk 25 (by omega)).trans hB.2.2.2⟩, a.m c f2 fun b b0 b1 p => by omega, d, z3, ⟨hS.1, hS.2.1.m f fun b b0 b1 p => by omega, hS.2.2.m f fun b b0 b1 p => by omega⟩, hI.m f fun b b0 p => by omega, ⟨by omega, ⟨(f2.1 0 (by omega) 1).trans y0, y5⟩, fun i hi => by omega⟩, g8, g9⟩ (f.2.2.trans hs)
  have n2 : ∀ k, zN τ2 2 k = zN τ1 2 k := f2.1 2 (by omega)
  by_cases q : (rTxt T n).1 = 0
  · obtain ⟨r1, r2⟩ := c1 q
    obtain ⟨s1, s2, s3⟩ := d2 q
    rw [if_pos q] at e8 e9
    refine hfin _ r2 s3 r1 (fun j hj => ?_) ((n2 8).trans (e8.trans s1.symm)) ((n2 9).trans (e9.trans s2.symm))
    rw [← s3]
    exact z8 _ (by omega)
  · obtain ⟨s1, s2, s3⟩ := d1 q
    rw [if_neg q] at e8 e9
    refine hfin W (c2 q) ?_ hW h2 ((n2 8).trans (e8.trans s1.symm)) ((n2 9).trans (e9.trans s2.symm))
    have e : wv τ2 288 = wv τ1 288 := wv_eq s3
    exact e.trans ((f1.wv 288 (by omega)).trans hB.1)
theorem lw_18 {σ : zM} {L i : Nat} {xs : Nat → Int32} {W : Int → Int} {S : sls} {n : Int} {Q : Option Value → zM → Prop} (h : LI σ W S n) (hs : σ.2.2 = (L, xs)) (hi : i + 8 ≤ L) (hL : L ≤ 4096) (hk : lwK L xs i Q) : zwp (zev 282 18 [some (.ref 2000000), some (.ref 0), some (.ref 287), some (.int (Int32.ofInt (i : Int)))] [] σ) Q := by
  have z0 : (0 : Int) ≤ 0 := by decide
  refine zwp_of (fun r h => ze_282_18 _ _ r h) ?_
  rw [hs]
  refine zwp_f ?_ ?_
  · show ¬ (Int32.ofNat L - Int32.ofInt 8 < Int32.ofInt (i : Int))
    rw [mm_nat, mm_sub, mm_lt (by omega) (by omega) (by omega) (by omega)]
    omega
  refine zwp_cd ?_ ?_
  · rw [Bool.and_eq_true, decide_eq_true_eq, decide_eq_true_eq, mm_z, mm_le (by omega) (by omega) (by omega) (by omega), mm_cl (by omega) (by omega)]
    refine ⟨by omega, ?_⟩
    show (i : Int).toNat < L
    omega
  refine zwp_ite (fun _ => lw_224 h hs hi hL hk) (fun _ => ?_)
  refine zwp_ite (fun _ => lw_287 h hs hi hL hk) (fun _ => ?_)
  refine zwp_ite (fun _ => lw_310 h hs hi hL hk) (fun _ => ?_)
  refine zwp_ite (fun _ => lw_323 h hs hi hL hk) (fun _ => ?_)
  refine zwp_ite (fun _ => lw_346 h hs hi hL hk) (fun _ => ?_)
  refine zwp_ite (fun _ => lw_379 h hs hi hL hk) (fun _ => ?_)
  refine zwp_ite (fun _ => lw_422 h hs hi hL hk) (fun _ => ?_)
  refine zwp_ite (fun _ => lw_455 h hs hi hL hk) (fun _ => ?_)
  refine zwp_ite (fun _ => lw_478 h hs hi hL hk) (fun _ => ?_)
  refine zwp_ite (fun _ => lw_511 h hs hi hL hk) (fun _ => ?_)
  refine zwp_ite (fun _ => lw_544 h hs hi hL hk) (fun _ => ?_)
  refine zwp_ite (fun _ => lw_587 h hs hi hL hk) (fun _ => ?_)
  refine zwp_ite (fun _ => lw_630 h hs hi hL hk) (fun _ => ?_)
  refine zwp_ite (fun _ => lw_663 h hs hi hL hk) (fun _ => ?_)
  refine zwp_ite (fun _ => lw_696 h hs hi hL hk) (fun _ => ?_)
  refine zwp_ite (fun _ => lw_719 h hs hi hL hk) (fun _ => ?_)
  refine zwp_ite (fun _ => lw_742 h hs hi hL hk) (fun _ => ?_)
  refine zwp_ite (fun _ => lw_765 h hs hi hL hk) (fun _ => ?_)
  refine zwp_ite (fun _ => lw_788 h hs hi hL hk) (fun _ => ?_)
  refine zwp_ite (fun _ => lw_821 h hs hi hL hk) (fun _ => ?_)
  refine zwp_ite (fun _ => lw_854 h hs hi hL hk) (fun _ => ?_)
  refine zwp_ite (fun _ => lw_887 h hs hi hL hk) (fun _ => ?_)
  refine zwp_ite (fun _ => lw_920 h hs hi hL hk) (fun _ => ?_)
  refine zwp_ite (fun _ => lw_963 h hs hi hL hk) (fun _ => ?_)
  refine zwp_ite (fun _ => lw_1026 h hs hi hL hk) (fun _ => ?_)
  refine zwp_ite (fun _ => lw_1089 h hs hi hL hk) (fun _ => ?_)
  refine zwp_ite (fun _ => lw_1112 h hs hi hL hk) (fun _ => ?_)
  refine zwp_ite (fun _ => lw_1125 h hs hi hL hk) (fun _ => ?_)
  refine zwp_ite (fun _ => lw_1148 h hs hi hL hk) (fun _ => ?_)
  refine zwp_ite (fun _ => lw_1181 h hs hi hL hk) (fun _ => ?_)
  refine zwp_ite (fun _ => lw_1194 h hs hi hL hk) (fun _ => ?_)
  refine zwp_ite (fun _ => lw_1227 h hs hi hL hk) (fun _ => ?_)
  refine zwp_ite (fun _ => lw_1250 h hs hi hL hk) (fun _ => ?_)
  refine zwp_ite (fun _ => lw_1283 h hs hi hL hk) (fun _ => ?_)
  refine zwp_ite (fun _ => lw_1326 h hs hi hL hk) (fun _ => ?_)
  refine zwp_ite (fun _ => lw_1389 h hs hi hL hk) (fun _ => ?_)
  refine zwp_ite (fun _ => lw_1412 h hs hi hL hk) (fun _ => ?_)
  refine zwp_ite (fun _ => lw_1455 h hs hi hL hk) (fun _ => ?_)
  refine zwp_ite (fun _ => lw_1542 h hs hi hL hk) (fun _ => ?_)
  refine zwp_ite (fun _ => lw_1565 h hs hi hL hk) (fun _ => ?_)
  refine zwp_ite (fun _ => lw_1588 h hs hi hL hk) (fun _ => ?_)
  refine zwp_ite (fun _ => lw_1611 h hs hi hL hk) (fun _ => ?_)
  refine zwp_ite (fun _ => lw_1654 h hs hi hL hk) (fun _ => ?_)
  refine zwp_ite (fun _ => lw_1727 h hs hi hL hk) (fun _ => ?_)
  exact hk σ W S n h hs
theorem lw_run {L : Nat} {xs : Nat → Int32} (hL : L ≤ 4096) : ∀ (m i : Nat) (σ : zM) (W : Int → Int) (S : sls) (n : Int), L < i + 8 * m → i ≤ 5000 → LI σ W S n → σ.2.2 = (L, xs) → zwp (zev 282 18 [some (.ref 2000000), some (.ref 0), some (.ref 287), some (.int (Int32.ofInt (i : Int)))] [] σ) (fun v _ => v = some (.int 1))
  | m, i, σ, W, S, n, hm, hi5, h, hs => by
    by_cases q : i + 8 ≤ L
    · cases m with
      | zero => omega
      | succ m =>
        refine lw_18 h hs q hL fun τ W' S' n' h' hs' => ?_
        refine zwp_of (fun r h => ze_282_1790 _ _ r h) ?_
        rw [mm_add]
        exact lw_run hL m (i + 8) τ W' S' n' (by omega) (by omega) h' hs'
    · refine zwp_of (fun r h => ze_282_18 _ _ r h) ?_
      rw [hs]
      refine zwp_t ?_ ?_
      · show Int32.ofNat L - Int32.ofInt 8 < Int32.ofInt (i : Int)
        rw [mm_nat, mm_sub, mm_lt (by omega) (by omega) (by omega) (by omega)]
        omega
      · exact zwp_t rfl (zwp_ret rfl)
