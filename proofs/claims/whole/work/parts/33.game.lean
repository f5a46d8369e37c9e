/-! a game: its states' bits, its value -/
theorem gm_cast {st : Int} (h : 0 ≤ st ∧ st < 4096) : ∃ a : Nat, st = (a : Int) ∧ a < 4096 := ⟨st.toNat, by omega, by omega⟩
theorem gm_small {a : Nat} (h : a < 4096) : a < 2 ^ 31 := by omega
theorem gm_tk {a t : Nat} (ha : a < 4096) (ht : t < 6) : sp_in (fr_and a 63) t ↔ a.testBit t = true := by
  rw [show (63 : Int) = ((63 : Nat) : Int) from rfl, nb_and (gm_small ha) (by decide), nb_in (Nat.lt_of_le_of_lt Nat.and_le_left (gm_small ha)) (by omega), Nat.testBit_and]
  have : (63 : Nat).testBit t = true := by rw [show (63 : Nat) = 2 ^ 6 - 1 from rfl, Nat.testBit_two_pow_sub_one]; simpa using ht
  rw [this, Bool.and_true]
theorem gm_us {a c : Nat} (ha : a < 4096) (hc : c < 5) : sp_in (fr_and (fr_shr a 6) 31) c ↔ a.testBit (6 + c) = true := by
  have h6 : a >>> 6 < 2 ^ 31 := Nat.lt_of_le_of_lt (Nat.shiftRight_le a 6) (gm_small ha)
  rw [show (6 : Int) = ((6 : Nat) : Int) from rfl, nb_shr (gm_small ha) (by decide), show (31 : Int) = ((31 : Nat) : Int) from rfl, nb_and h6 (by decide), nb_in (Nat.lt_of_le_of_lt Nat.and_le_left h6) (by omega), Nat.testBit_and, Nat.testBit_shiftRight]
  have : (31 : Nat).testBit c = true := by rw [show (31 : Nat) = 2 ^ 5 - 1 from rfl, Nat.testBit_two_pow_sub_one]; simpa using hc
  rw [this, Bool.and_true]
theorem gm_sd {a : Nat} (ha : a < 4096) : (a : Int) < 2048 ↔ a.testBit 11 = false := by
  rw [Nat.testBit_eq_decide_div_mod_eq]
  simp only [decide_eq_false_iff_not]
  omega
theorem gm_sh64 : ∀ c, c < 5 → fr_shl 64 (c : Nat) = ((2 ^ (6 + c) : Nat) : Int) := by decide +kernel
theorem gm_or_lt {a b : Nat} (ha : a < 4096) (hb : b < 4096) : a ||| b < 4096 := Nat.or_lt_two_pow (n := 12) ha hb
theorem gm_xor_lt {a b : Nat} (ha : a < 4096) (hb : b < 4096) : a ^^^ b < 4096 := Nat.xor_lt_two_pow (n := 12) ha hb
theorem gm_bh {a t c : Nat} (ha : a < 4096) (ht : t < 6) (hc : c < 5) : sp_bh a ((5 * t + c : Nat) : Int) = (((a ^^^ 2048) ||| 2 ^ t ||| 2 ^ (6 + c) : Nat) : Int) ∧ ((a ^^^ 2048) ||| 2 ^ t ||| 2 ^ (6 + c)) < 4096 := by
  have d1 : (((5 * t + c : Nat) : Int)).tdiv 5 = (t : Int) := by rw [Int.tdiv_eq_ediv_of_nonneg (by omega)]; omega
  have d2 : (((5 * t + c : Nat) : Int)).tmod 5 = (c : Int) := by rw [Int.tmod_eq_emod_of_nonneg (by omega)]; omega
  have h1 : a ^^^ 2048 < 4096 := gm_xor_lt ha (by decide)
  have h2 : 2 ^ t < 4096 := Nat.lt_of_lt_of_le (Nat.pow_lt_pow_right (by decide) ht) (by decide)
  have h3 : 2 ^ (6 + c) < 4096 := Nat.lt_of_lt_of_le (Nat.pow_lt_pow_right (by decide) (show 6 + c < 11 by omega)) (by decide)
  have h4 := gm_or_lt h1 h2
  have h5 := gm_or_lt h4 h3
  refine ⟨?_, h5⟩
  unfold sp_bh
  rw [if_neg (by omega), d1, d2, nb_shl t (by omega), gm_sh64 c hc, show (2048 : Int) = ((2048 : Nat) : Int) from rfl, nb_xor (gm_small ha) (by decide), nb_or (gm_small h1) (gm_small h2), nb_or (gm_small h4) (gm_small h3)]
theorem gm_b30 {a : Nat} (ha : a < 4096) : sp_bh a 30 = ((a ^^^ 2048 : Nat) : Int) ∧ a ^^^ 2048 < 4096 := by
  unfold sp_bh
  rw [if_pos rfl, show (2048 : Int) = ((2048 : Nat) : Int) from rfl, nb_xor (gm_small ha) (by decide)]
  exact ⟨rfl, gm_xor_lt ha (by decide)⟩
theorem gm_x11 (a i : Nat) : (a ^^^ 2048).testBit i = (a.testBit i ^^ decide (i = 11)) := by
  rw [Nat.testBit_xor, show (2048 : Nat) = 2 ^ 11 from rfl, Nat.testBit_two_pow]
  congr 1
  simp [eq_comm]
theorem gm_bit {a t c i : Nat} : ((a ^^^ 2048) ||| 2 ^ t ||| 2 ^ (6 + c)).testBit i = ((a.testBit i ^^ decide (i = 11)) || decide (i = t) || decide (i = 6 + c)) := by
  rw [Nat.testBit_or, Nat.testBit_or, gm_x11, Nat.testBit_two_pow, Nat.testBit_two_pow]
  congr 2
  · congr 1; simp [eq_comm]
  · simp [eq_comm]
/-- behind a sending: what is taken, used, whose turn -/
theorem gm_beh {st y : Int} (hs : 0 ≤ st ∧ st < 4096) (hy : 0 ≤ y ∧ y < 30) : (0 ≤ sp_bh st y ∧ sp_bh st y < 4096) ∧ (∀ u, 0 ≤ u → u < 6 → (sp_in (fr_and (sp_bh st y) 63) u ↔ sp_in (fr_and st 63) u ∨ u = y.tdiv 5)) ∧ (∀ d, 0 ≤ d → d < 5 → (sp_in (fr_and (fr_shr (sp_bh st y) 6) 31) d ↔ sp_in (fr_and (fr_shr st 6) 31) d ∨ d = y.tmod 5)) ∧ (sp_bh st y < 2048 ↔ ¬ st < 2048) := by
  obtain ⟨a, rfl, ha⟩ := gm_cast hs
  obtain ⟨d1, d2, d3, d4⟩ := fr_d5 (y := y) (by omega)
  have d5 := d4 hy.2
  obtain ⟨t, ht⟩ : ∃ t : Nat, y.tdiv 5 = t := ⟨(y.tdiv 5).toNat, by omega⟩
  obtain ⟨c, hc⟩ : ∃ c : Nat, y.tmod 5 = c := ⟨(y.tmod 5).toNat, by omega⟩
  rw [ht, hc]
  have ey : y = ((5 * t + c : Nat) : Int) := by omega
  obtain ⟨b1, b2⟩ := gm_bh ha (show t < 6 by omega) (show c < 5 by omega)
  rw [ey, b1]
  refine ⟨by omega, fun u u0 u1 => ?_, fun d d0 d1 => ?_, ?_⟩
  · obtain ⟨u', rfl⟩ : ∃ u' : Nat, u = u' := ⟨u.toNat, by omega⟩
    rw [gm_tk b2 (by omega), gm_tk ha (by omega), gm_bit, show decide (u' = 11) = false by simp; omega, show decide (u' = 6 + c) = false by simp; omega, Bool.xor_false, Bool.or_false, Bool.or_eq_true, decide_eq_true_iff, Int.ofNat_inj]
  · obtain ⟨d', rfl⟩ : ∃ d' : Nat, d = d' := ⟨d.toNat, by omega⟩
    rw [gm_us b2 (by omega), gm_us ha (by omega), gm_bit, show decide (6 + d' = 11) = false by simp; omega, show decide (6 + d' = t) = false by simp; omega, Bool.xor_false, Bool.or_false, Bool.or_eq_true, decide_eq_true_iff, Int.ofNat_inj, Nat.add_left_cancel_iff]
  · rw [gm_sd b2, gm_sd ha, gm_bit, show decide (11 = t) = false by simp; omega, show decide (11 = 6 + c) = false by simp; omega]
    simp
theorem gm_pas {st : Int} (hs : 0 ≤ st ∧ st < 4096) : (0 ≤ sp_bh st 30 ∧ sp_bh st 30 < 4096) ∧ (∀ u, 0 ≤ u → u < 6 → (sp_in (fr_and (sp_bh st 30) 63) u ↔ sp_in (fr_and st 63) u)) ∧ (∀ d, 0 ≤ d → d < 5 → (sp_in (fr_and (fr_shr (sp_bh st 30) 6) 31) d ↔ sp_in (fr_and (fr_shr st 6) 31) d)) ∧ (sp_bh st 30 < 2048 ↔ ¬ st < 2048) := by
  obtain ⟨a, rfl, ha⟩ := gm_cast hs
  obtain ⟨b1, b2⟩ := gm_b30 ha
  rw [b1]
  refine ⟨by omega, fun u u0 u1 => ?_, fun d d0 d1 => ?_, ?_⟩
  · obtain ⟨u', rfl⟩ : ∃ u' : Nat, u = u' := ⟨u.toNat, by omega⟩
    rw [gm_tk b2 (by omega), gm_tk ha (by omega), gm_x11, show decide (u' = 11) = false by simp; omega, Bool.xor_false]
  · obtain ⟨d', rfl⟩ : ∃ d' : Nat, d = d' := ⟨d.toNat, by omega⟩
    rw [gm_us b2 (by omega), gm_us ha (by omega), gm_x11, show decide (6 + d' = 11) = false by simp; omega, Bool.xor_false]
  · rw [gm_sd b2, gm_sd ha, gm_x11]
    simp
