/-! SLOTS: write, paste -/
def cutv (d : Int) (y : Int64) : Int64 := if d = 0 then y.toInt32.toInt8.toInt32.toInt64 else if d = 1 then y.toInt32.toInt16.toInt32.toInt64 else if d = 2 then y.toInt32.toInt64 else y
theorem bmd (x : Int) (m : Nat) : x.bmod m = if x % m < (m + 1) / 2 then x % m else x % m - m := rfl
theorem sh_eq (y k : Int64) (n : Nat) (hk : k.toBitVec.smod 64 = BitVec.ofNat 64 n) (hn : n < 64) : ((y <<< k) >>> k).toInt = (y.toInt * 2 ^ n).bmod (2 ^ 64) / 2 ^ n := by
  rw [← Int64.toInt_toBitVec, Int64.toBitVec_shiftRight, Int64.toBitVec_shiftLeft, hk]
  rw [BitVec.sshiftRight_eq', BitVec.toInt_sshiftRight, BitVec.shiftLeft_eq', BitVec.toInt_shiftLeft]
  have e : (BitVec.ofNat 64 n).toNat = n := by
    rw [BitVec.toNat_ofNat]
    omega
  have h2 : (((y.toBitVec.toNat * 2 ^ n : Nat) : Int)).bmod (2 ^ 64) = (y.toInt * 2 ^ n).bmod (2 ^ 64) := by
    rw [← Int64.toInt_toBitVec, BitVec.toInt_eq_toNat_bmod, Int.bmod_mul_bmod, Int.natCast_mul, Int.natCast_pow]
    rfl
  rw [e, Int.shiftRight_eq_div_pow, Nat.shiftLeft_eq, h2, Int.natCast_pow]
  rfl
theorem cut0 (y : Int64) : (y <<< (56 : Int64)) >>> (56 : Int64) = y.toInt32.toInt8.toInt32.toInt64 := by
  apply Int64.toInt_inj.mp
  rw [sh_eq y 56 56 (by decide) (by decide), Int32.toInt_toInt64, Int8.toInt_toInt32, Int32.toInt_toInt8, Int64.toInt_toInt32]
  simp only [bmd]
  omega
theorem cut1 (y : Int64) : (y <<< (48 : Int64)) >>> (48 : Int64) = y.toInt32.toInt16.toInt32.toInt64 := by
  apply Int64.toInt_inj.mp
  rw [sh_eq y 48 48 (by decide) (by decide), Int32.toInt_toInt64, Int16.toInt_toInt32, Int32.toInt_toInt16, Int64.toInt_toInt32]
  simp only [bmd]
  omega
theorem cut2 (y : Int64) : (y <<< (32 : Int64)) >>> (32 : Int64) = y.toInt32.toInt64 := by
  apply Int64.toInt_inj.mp
  rw [sh_eq y 32 32 (by decide) (by decide), Int32.toInt_toInt64, Int64.toInt_toInt32]
  simp only [bmd]
  omega
theorem cut3 (y : Int64) : (y <<< (0 : Int64)) >>> (0 : Int64) = y := by
  apply Int64.toInt_inj.mp
  rw [sh_eq y 0 0 (by decide) (by decide)]
  have := Int64.le_toInt y
  have := Int64.toInt_lt y
  simp only [bmd]
  omega
theorem sp_275 {d : Int} {y : Int64} {σ : zM} (d0 : 0 ≤ d) (d1 : d ≤ 3) : zcall 275 [.long y, .int (Int32.ofInt d)] σ = some (some (.long (cutv d y)), σ) := by
  refine zcc_275 (ze_275_0 _ _ _ _ ?_)
  have : d = 0 ∨ d = 1 ∨ d = 2 ∨ d = 3 := by omega
  rcases this with rfl | rfl | rfl | rfl
  · rw [show (((Int32.ofInt 64) - ((Int32.ofInt 8) <<< (Int32.ofInt 0 &&& 31))).toInt64 &&& 63) = (56 : Int64) by decide, cut0]
    rfl
  · rw [show (((Int32.ofInt 64) - ((Int32.ofInt 8) <<< (Int32.ofInt 1 &&& 31))).toInt64 &&& 63) = (48 : Int64) by decide, cut1]
    rfl
  · rw [show (((Int32.ofInt 64) - ((Int32.ofInt 8) <<< (Int32.ofInt 2 &&& 31))).toInt64 &&& 63) = (32 : Int64) by decide, cut2]
    rfl
  · rw [show (((Int32.ofInt 64) - ((Int32.ofInt 8) <<< (Int32.ofInt 3 &&& 31))).toInt64 &&& 63) = (0 : Int64) by decide, cut3]
    rfl
