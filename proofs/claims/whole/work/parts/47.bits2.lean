/-! bits of ints -/
theorem bx_b0 (x : Int) : fr_and x 1 = 1 ↔ (Int32.ofInt x).toBitVec.getLsbD 0 = true := by
  unfold fr_and
  show ((Int32.ofInt x &&& Int32.ofInt 1).toBitVec).toInt = 1 ↔ _
  have e : ((Int32.ofInt x &&& Int32.ofInt 1).toBitVec).toNat = (Int32.ofInt x).toBitVec.toNat % 2 := by
    rw [Int32.toBitVec_and, BitVec.toNat_and, show (Int32.ofInt 1).toBitVec.toNat = 1 from by decide, Nat.and_one_is_mod]
  rw [nb_ti (by omega), e, BitVec.getLsbD, Nat.testBit_zero, decide_eq_true_iff]
  omega
theorem bx_in (a : Int) {k : Int} (h : 0 ≤ k ∧ k < 32) : sp_in a k ↔ (Int32.ofInt a).toBitVec.getLsbD k.toNat = true := by
  obtain ⟨n, rfl⟩ := Int.eq_ofNat_of_zero_le h.1
  have hn : n < 32 := by omega
  unfold sp_in
  rw [bx_b0]
  unfold fr_shr
  rw [Int32.ofInt_toInt, Int32.toBitVec_shiftRight, BitVec.sshiftRight_eq', nb_sm n hn, BitVec.getLsbD_sshiftRight]
  simp [hn]
theorem bx_and (a b : Int) {k : Int} (h : 0 ≤ k ∧ k < 32) : sp_in (fr_and a b) k ↔ sp_in a k ∧ sp_in b k := by
  rw [bx_in _ h, bx_in _ h, bx_in _ h]; unfold fr_and
  rw [Int32.ofInt_toInt, Int32.toBitVec_and, BitVec.getLsbD_and, Bool.and_eq_true]
theorem bx_or (a b : Int) {k : Int} (h : 0 ≤ k ∧ k < 32) : sp_in (fr_or a b) k ↔ sp_in a k ∨ sp_in b k := by
  rw [bx_in _ h, bx_in _ h, bx_in _ h]; unfold fr_or
  rw [Int32.ofInt_toInt, Int32.toBitVec_or, BitVec.getLsbD_or, Bool.or_eq_true]
theorem bx_not (a : Int) {k : Int} (h : 0 ≤ k ∧ k < 32) : sp_in (fr_xor a (-1)) k ↔ ¬ sp_in a k := by
  rw [bx_in _ h, bx_in _ h]; unfold fr_xor
  have hn : k.toNat < 32 := by omega
  rw [Int32.ofInt_toInt, Int32.toBitVec_xor, BitVec.getLsbD_xor, show (Int32.ofInt (-1)).toBitVec = BitVec.allOnes 32 from by decide, BitVec.getLsbD_allOnes]
  simp [hn]
theorem bx_one_ : ∀ c : Fin 31, ∀ k : Fin 32, sp_in (fr_shl 1 (c.val : Nat)) (k.val : Nat) ↔ k.val = c.val := by
  unfold sp_in
  decide +kernel
theorem bx_one {c k : Int} (hc : 0 ≤ c ∧ c < 31) (h : 0 ≤ k ∧ k < 32) : sp_in (fr_shl 1 c) k ↔ k = c := by
  have e := bx_one_ ⟨c.toNat, by omega⟩ ⟨k.toNat, by omega⟩
  simp only [Int.toNat_of_nonneg hc.1, Int.toNat_of_nonneg h.1] at e
  rw [e]; omega
theorem bx_all_ : ∀ c : Fin 7, ∀ k : Fin 32, sp_in (fr_shl 1 (c.val : Nat) - 1) (k.val : Nat) ↔ k.val < c.val := by
  unfold sp_in
  decide +kernel
theorem bx_all {c k : Int} (hc : 0 ≤ c ∧ c ≤ 6) (h : 0 ≤ k ∧ k < 32) : sp_in (fr_shl 1 c - 1) k ↔ k < c := by
  have e := bx_all_ ⟨c.toNat, by omega⟩ ⟨k.toNat, by omega⟩
  simp only [Int.toNat_of_nonneg hc.1, Int.toNat_of_nonneg h.1] at e
  rw [e]; omega
theorem bx_zero {k : Int} (h : 0 ≤ k ∧ k < 32) : ¬ sp_in 0 k := by
  rw [bx_in _ h]; rw [show (Int32.ofInt 0).toBitVec = 0#32 from by decide]; simp
theorem bx_ext {a b : Int} (ha : -2147483648 ≤ a ∧ a ≤ 2147483647) (hb : -2147483648 ≤ b ∧ b ≤ 2147483647) (h : ∀ k : Int, 0 ≤ k → k < 32 → (sp_in a k ↔ sp_in b k)) : a = b := by
  have e : (Int32.ofInt a).toBitVec = (Int32.ofInt b).toBitVec := by
    apply BitVec.eq_of_getLsbD_eq
    intro i hi
    have := h (i : Int) (by omega) (by omega)
    rw [bx_in _ (by omega), bx_in _ (by omega)] at this
    simp only [Int.toNat_natCast] at this
    exact Bool.eq_iff_iff.mpr this
  have e2 : (Int32.ofInt a) = (Int32.ofInt b) := Int32.toBitVec_inj.mp e
  have e3 := congrArg Int32.toInt e2
  rw [Int32.toInt_ofInt_of_le (by omega) (by omega), Int32.toInt_ofInt_of_le (by omega) (by omega)] at e3
  exact e3
theorem bx_hi {a k : Int} (ha : 0 ≤ a ∧ a ≤ 31) (h : 5 ≤ k ∧ k < 32) : ¬ sp_in a k := by
  have e : ∀ a : Fin 32, ∀ k : Fin 32, 5 ≤ k.val → ¬ sp_in (a.val : Nat) (k.val : Nat) := by unfold sp_in; decide +kernel
  have := e ⟨a.toNat, by omega⟩ ⟨k.toNat, by omega⟩ (by simp only; omega)
  simp only [Int.toNat_of_nonneg ha.1, Int.toNat_of_nonneg (show 0 ≤ k by omega)] at this
  exact this
theorem bx_lt {a m : Int} (hm : 0 ≤ m ∧ m ≤ 5) (ha : 0 ≤ a ∧ a ≤ 31) (h : ∀ k : Int, 0 ≤ k → k < 5 → sp_in a k → k < m) : a ≤ fr_shl 1 m - 1 := by
  have e : ∀ m : Fin 6, ∀ a : Fin 32, (∀ k : Fin 5, sp_in (a.val : Nat) (k.val : Nat) → k.val < m.val) → ((a.val : Nat) : Int) ≤ fr_shl 1 (m.val : Nat) - 1 := by unfold sp_in; decide +kernel
  have := e ⟨m.toNat, by omega⟩ ⟨a.toNat, by omega⟩ (fun k hk => by simp only [Int.toNat_of_nonneg ha.1] at hk; have := h _ (by omega) (by omega) hk; simp only; omega)
  simp only [Int.toNat_of_nonneg ha.1, Int.toNat_of_nonneg hm.1] at this
  exact this
