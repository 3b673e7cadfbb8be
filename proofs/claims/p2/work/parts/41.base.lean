/-! numbers by their integers -/
theorem zle {a b : Int32} : a ≤ b ↔ a.toInt ≤ b.toInt := Int32.le_iff_toInt_le
theorem zlt {a b : Int32} : a < b ↔ a.toInt < b.toInt := Int32.lt_iff_toInt_lt
theorem zeq {a b : Int32} : a = b ↔ a.toInt = b.toInt := Int32.toInt_inj.symm
theorem bm32 {n : Int} (h1 : -2147483648 ≤ n) (h2 : n < 2147483648) : n.bmod (2 ^ 32) = n := by
  rw [Int.bmod_def]; split <;> omega
theorem zadd {x y : Int32} (h1 : -2147483648 ≤ x.toInt + y.toInt) (h2 : x.toInt + y.toInt < 2147483648) : (x + y).toInt = x.toInt + y.toInt := by rw [Int32.toInt_add, bm32 h1 h2]
theorem zsub {x y : Int32} (h1 : -2147483648 ≤ x.toInt - y.toInt) (h2 : x.toInt - y.toInt < 2147483648) : (x - y).toInt = x.toInt - y.toInt := by rw [Int32.toInt_sub, bm32 h1 h2]
theorem zmul {x y : Int32} (h1 : -2147483648 ≤ x.toInt * y.toInt) (h2 : x.toInt * y.toInt < 2147483648) : (x * y).toInt = x.toInt * y.toInt := by rw [Int32.toInt_mul, bm32 h1 h2]
theorem znat (x : Int32) : x.toInt = if 2 * x.toBitVec.toNat < 2 ^ 32 then (x.toBitVec.toNat : Int) else x.toBitVec.toNat - 2 ^ 32 := BitVec.toInt_eq_toNat_cond x.toBitVec
theorem zmask (x : Int32) {m : Int32} (k : Nat) (hk : k ≤ 30) (hm : m.toBitVec.toNat = 2 ^ k - 1) : (x &&& m).toInt = (x.toBitVec.toNat % 2 ^ k : Nat) := by
  have h1 : x.toBitVec.toNat % 2 ^ k < 2 ^ k := Nat.mod_lt _ (Nat.two_pow_pos k)
  have h2 : 2 ^ k ≤ 2 ^ 30 := Nat.pow_le_pow_right (by omega) hk
  rw [pk_and x k hm, nI_toInt (by omega)]
theorem zpm (x : Int32) : x + (-1) = x - 1 := (Int32.sub_eq_add_neg x 1).symm
theorem zcl (x : Int32) : x.toNatClampNeg = x.toInt.toNat := rfl
theorem znI {n : Nat} (h : n < 2147483648) : (nI n).toInt = n := nI_toInt (by omega)
theorem zm1 : (-1 : Int32).toInt = -1 := by decide
theorem zm2 : (-2 : Int32).toInt = -2 := by decide
theorem zlo (x : Int32) : -2147483648 ≤ x.toInt := by have := x.le_toInt; omega
theorem zhi (x : Int32) : x.toInt < 2147483648 := by have := x.toInt_lt; omega
theorem zb8 (x : Int32) : ((x.toInt8).toInt32).toInt = if x.toInt % 256 < 128 then x.toInt % 256 else x.toInt % 256 - 256 := by
  rw [Int8.toInt_toInt32, Int32.toInt_toInt8]
  rfl
theorem zand255 (x : Int32) : (x &&& 255).toInt = x.toInt % 256 := by
  rw [zmask x 8 (by decide) (by decide), znat x]; split <;> omega
theorem zand127 (x : Int32) : (x &&& 127).toInt = x.toInt % 128 := by
  rw [zmask x 7 (by decide) (by decide), znat x]; split <;> omega
theorem zand63 (x : Int32) : (x &&& 63).toInt = x.toInt % 64 := by
  rw [zmask x 6 (by decide) (by decide), znat x]; split <;> omega
theorem zand31 (x : Int32) : (x &&& 31).toInt = x.toInt % 32 := by
  rw [zmask x 5 (by decide) (by decide), znat x]; split <;> omega
theorem zand15 (x : Int32) : (x &&& 15).toInt = x.toInt % 16 := by
  rw [zmask x 4 (by decide) (by decide), znat x]; split <;> omega
theorem zand7 (x : Int32) : (x &&& 7).toInt = x.toInt % 8 := by
  rw [zmask x 3 (by decide) (by decide), znat x]; split <;> omega
theorem lshr (x n : Int64) {k : Nat} (hn : (n.toBitVec.smod 64).toNat = k) : (x >>> n).toInt = x.toInt / 2 ^ k := by
  show (x >>> n).toBitVec.toInt = _
  rw [Int64.toBitVec_shiftRight]
  show (x.toBitVec.sshiftRight (n.toBitVec.smod 64).toNat).toInt = _
  rw [hn, BitVec.toInt_sshiftRight, Int.shiftRight_eq_div_pow]
  rfl
def b8 (x : Int32) : Int32 := (x.toInt8).toInt32
theorem b8_toInt (x : Int32) : (b8 x).toInt = if x.toInt % 256 < 128 then x.toInt % 256 else x.toInt % 256 - 256 := zb8 x
theorem b8_b8 (x : Int32) : b8 (b8 x) = b8 x := by
  rw [zeq]; simp only [b8_toInt]; split <;> split <;> omega
theorem b8_and (x : Int32) : b8 (x &&& 255) = b8 x := by
  rw [zeq]; simp only [b8_toInt, zand255]; split <;> split <;> omega
theorem b8_eq {x y : Int32} (h : x.toInt % 256 = y.toInt % 256) : b8 x = b8 y := by
  rw [zeq]; simp only [b8_toInt, h]
theorem upd_same (f : Nat → Int32) (k : Nat) (x : Int32) : upd f k x k = x := if_pos rfl
theorem upd_ne {f : Nat → Int32} {k j : Nat} {x : Int32} (h : j ≠ k) : upd f k x j = f j := if_neg h
theorem zz_test (size : Int32) (h0 : 0 ≤ size.toInt) (h1 : size.toInt < 1500) : ¬ (1500 ≤ size + 1 - 1) ∧ ¬ size = -1 := by
  ((try simp (disch := ((try simp (disch := ((try simp only [zm1, zm2, Int32.reduceToInt]); omega)) only [zle, zlt, zeq, zadd, zsub, zmul, zcl, znI, zm1, zm2, Int32.reduceToInt]); omega)) only [zle, zlt, zeq, zadd, zsub, zmul, zcl, znI, zm1, zm2, Int32.reduceToInt]) <;> omega)
