/-! ===== bits: masks are natural numbers ===== -/
theorem bt_bv (a : Nat) : (Int32.ofInt (a : Int)).toBitVec = BitVec.ofNat 32 a := by
  show BitVec.ofInt 32 (a : Int) = _
  exact BitVec.ofInt_natCast 32 a
theorem bt_int {x : Int32} {m : Nat} (h : x.toBitVec = BitVec.ofNat 32 m) (hm : m < 2147483648) : x.toInt = (m : Int) := by
  show x.toBitVec.toInt = _
  rw [h, BitVec.toInt_eq_toNat_bmod, BitVec.toNat_ofNat, Nat.mod_eq_of_lt (by omega)]
  apply Int.bmod_eq_of_le <;> omega
theorem bt_and (a b : Nat) (ha : a < 2147483648) : rs_and a b = ((a &&& b : Nat) : Int) := by
  unfold rs_and
  refine bt_int (m := a &&& b) ?_ (Nat.lt_of_le_of_lt Nat.and_le_left ha)
  rw [Int32.toBitVec_and, bt_bv, bt_bv, BitVec.ofNat_and]
theorem bt_or_lt {a b : Nat} (ha : a < 2147483648) (hb : b < 2147483648) : a ||| b < 2147483648 := Nat.or_lt_two_pow (n := 31) ha hb
theorem bt_or (a b : Nat) (ha : a < 2147483648) (hb : b < 2147483648) : rs_or a b = ((a ||| b : Nat) : Int) := by
  unfold rs_or
  refine bt_int (m := a ||| b) ?_ (bt_or_lt ha hb)
  rw [Int32.toBitVec_or, bt_bv, bt_bv, BitVec.ofNat_or]
theorem bt_xor (a b : Nat) (ha : a < 2147483648) (hb : b < 2147483648) : rs_xor a b = ((a ^^^ b : Nat) : Int) := by
  unfold rs_xor
  refine bt_int (m := a ^^^ b) ?_ (Nat.xor_lt_two_pow (n := 31) ha hb)
  rw [Int32.toBitVec_xor, bt_bv, bt_bv, BitVec.ofNat_xor]
theorem bt_shl1 : ∀ k : Nat, k < 31 → rs_shl 1 (k : Int) = ((2 ^ k : Nat) : Int) := by decide +kernel
theorem bt_smod : ∀ k : Nat, k < 32 → ((Int32.ofInt (k : Int) &&& 31).toBitVec.smod 32).toNat = k := by decide +kernel
theorem bt_shr {a : Int} (ha : rs_R a) (k : Nat) (hk : k < 32) : rs_shr a k = a / 2 ^ k := by
  unfold rs_shr
  show ((Int32.ofInt a >>> (Int32.ofInt (k : Int) &&& 31)).toBitVec).toInt = _
  rw [Int32.toBitVec_shiftRight]
  show ((Int32.ofInt a).toBitVec.sshiftRight ((Int32.ofInt (k : Int) &&& 31).toBitVec.smod 32).toNat).toInt = _
  rw [bt_smod k hk, BitVec.toInt_sshiftRight]
  have : (Int32.ofInt a).toBitVec.toInt = a := rs_ti ha
  rw [this, Int.shiftRight_eq_div_pow]
  norm_cast
theorem bt_shrN (a k : Nat) (ha : a < 2147483648) (hk : k < 32) : rs_shr (a : Int) k = ((a >>> k : Nat) : Int) := by
  rw [bt_shr (by unfold rs_R; omega) k hk, Nat.shiftRight_eq_div_pow]
  norm_cast
/-- the bit k of a mask, as the class and the reference read it -/
theorem bt_has (a k : Nat) (ha : a < 2147483648) (hk : k < 32) : rs_and (rs_shr (a : Int) k) 1 = if a.testBit k then 1 else 0 := by
  rw [bt_shrN a k ha hk]
  have h1 : a >>> k < 2147483648 := Nat.lt_of_le_of_lt (Nat.shiftRight_le a k) ha
  have h2 := bt_and (a >>> k) 1 h1
  rw [show ((1 : Nat) : Int) = 1 from rfl] at h2
  rw [h2, Nat.testBit_eq_decide_div_mod_eq, Nat.and_one_is_mod, Nat.shiftRight_eq_div_pow]
  by_cases h : a / 2 ^ k % 2 = 1
  · rw [h]; simp
  · have : a / 2 ^ k % 2 = 0 := by omega
    rw [this]; simp
theorem bt_R {a : Nat} (h : a < 2147483648) : rs_R (a : Int) := by unfold rs_R; omega
