/-! bits of small numbers: sets as natural numbers -/
theorem nb_tb (a : Nat) : (Int32.ofInt (a : Int)).toBitVec = BitVec.ofNat 32 a := by rw [Int32.ofInt_eq_ofNat]; rfl
theorem nb_ti {x : BitVec 32} (h : x.toNat < 2 ^ 31) : x.toInt = (x.toNat : Int) := BitVec.toInt_eq_toNat_of_lt (by omega)
theorem nb_tn {a : Nat} (h : a < 2 ^ 31) : (BitVec.ofNat 32 a).toNat = a := by rw [BitVec.toNat_ofNat]; exact Nat.mod_eq_of_lt (by omega)
theorem nb_and {a b : Nat} (ha : a < 2 ^ 31) (hb : b < 2 ^ 31) : fr_and a b = ((a &&& b : Nat) : Int) := by
  unfold fr_and
  show ((Int32.ofInt (a : Int) &&& Int32.ofInt (b : Int)).toBitVec).toInt = _
  have e : ((Int32.ofInt (a : Int) &&& Int32.ofInt (b : Int)).toBitVec).toNat = a &&& b := by
    rw [Int32.toBitVec_and, BitVec.toNat_and, nb_tb, nb_tb, nb_tn ha, nb_tn hb]
  rw [nb_ti (by rw [e]; exact Nat.lt_of_le_of_lt Nat.and_le_left ha), e]
theorem nb_or {a b : Nat} (ha : a < 2 ^ 31) (hb : b < 2 ^ 31) : fr_or a b = ((a ||| b : Nat) : Int) := by
  unfold fr_or
  show ((Int32.ofInt (a : Int) ||| Int32.ofInt (b : Int)).toBitVec).toInt = _
  have e : ((Int32.ofInt (a : Int) ||| Int32.ofInt (b : Int)).toBitVec).toNat = a ||| b := by
    rw [Int32.toBitVec_or, BitVec.toNat_or, nb_tb, nb_tb, nb_tn ha, nb_tn hb]
  rw [nb_ti (by rw [e]; exact Nat.or_lt_two_pow ha hb), e]
theorem nb_xor {a b : Nat} (ha : a < 2 ^ 31) (hb : b < 2 ^ 31) : fr_xor a b = ((a ^^^ b : Nat) : Int) := by
  unfold fr_xor
  show ((Int32.ofInt (a : Int) ^^^ Int32.ofInt (b : Int)).toBitVec).toInt = _
  have e : ((Int32.ofInt (a : Int) ^^^ Int32.ofInt (b : Int)).toBitVec).toNat = a ^^^ b := by
    rw [Int32.toBitVec_xor, BitVec.toNat_xor, nb_tb, nb_tb, nb_tn ha, nb_tn hb]
  rw [nb_ti (by rw [e]; exact Nat.xor_lt_two_pow ha hb), e]
theorem nb_sm : ∀ k, k < 32 → ((Int32.ofInt (k : Nat) &&& 31).toBitVec.smod 32).toNat = k := by decide +kernel
theorem nb_shr {a k : Nat} (ha : a < 2 ^ 31) (hk : k < 32) : fr_shr a k = ((a >>> k : Nat) : Int) := by
  unfold fr_shr
  show ((Int32.ofInt (a : Int) >>> (Int32.ofInt (k : Int) &&& 31)).toBitVec).toInt = _
  have e : ((Int32.ofInt (a : Int) >>> (Int32.ofInt (k : Int) &&& 31)).toBitVec).toNat = a >>> k := by
    rw [Int32.toBitVec_shiftRight, BitVec.sshiftRight_eq', nb_sm k hk, BitVec.sshiftRight_eq_of_msb_false, BitVec.toNat_ushiftRight, nb_tb, nb_tn ha]
    rw [nb_tb, BitVec.msb_eq_false_iff_two_mul_lt, nb_tn ha]
    omega
  rw [nb_ti (by rw [e]; exact Nat.lt_of_le_of_lt (Nat.shiftRight_le a k) ha), e]
theorem nb_shl : ∀ k, k < 31 → fr_shl 1 (k : Nat) = ((2 ^ k : Nat) : Int) := by decide +kernel
theorem nb_in {a k : Nat} (ha : a < 2 ^ 31) (hk : k < 32) : sp_in a k ↔ a.testBit k = true := by
  unfold sp_in
  have h1 : a >>> k < 2 ^ 31 := Nat.lt_of_le_of_lt (Nat.shiftRight_le a k) ha
  rw [nb_shr ha hk, show (1 : Int) = ((1 : Nat) : Int) from rfl, nb_and h1 (by decide), Nat.testBit, Nat.and_comm]
  have h2 := Nat.and_one_is_mod (a >>> k)
  rw [Nat.and_comm] at h2
  rw [h2]
  constructor
  · intro h
    have : a >>> k % 2 = 1 := by omega
    rw [this]; rfl
  · intro h
    have h3 : a >>> k % 2 ≠ 0 := by simpa using h
    have h4 := Nat.mod_lt (a >>> k) (show 0 < 2 by decide)
    omega
