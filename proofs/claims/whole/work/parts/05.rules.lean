section RULES
variable {l : Launch} {κ : fr_Ka} {mi : fr_Mi} {k : Nat} {Q : Option Value → fr_Me → Prop} {pc : Nat} {ls : List (Option Value)} {st : List Value} {μ : fr_Me}
def fr_and (a b : Int) : Int := (Int32.ofInt a &&& Int32.ofInt b).toInt
def fr_or (a b : Int) : Int := (Int32.ofInt a ||| Int32.ofInt b).toInt
def fr_xor (a b : Int) : Int := (Int32.ofInt a ^^^ Int32.ofInt b).toInt
def fr_shl (a b : Int) : Int := (Int32.ofInt a <<< (Int32.ofInt b &&& 31)).toInt
def fr_shr (a b : Int) : Int := (Int32.ofInt a >>> (Int32.ofInt b &&& 31)).toInt
def fr_land (a b : Int) : Int := (Int64.ofInt a &&& Int64.ofInt b).toInt
def fr_lor (a b : Int) : Int := (Int64.ofInt a ||| Int64.ofInt b).toInt
def fr_lshl (a b : Int) : Int := (Int64.ofInt a <<< ((Int32.ofInt b).toInt64 &&& 63)).toInt
theorem fr_ofle {a : Int} (h : -2147483648 ≤ a ∧ a ≤ 2147483647) : (Int32.ofInt a).toInt = a := Int32.toInt_ofInt_of_le (by omega) (by omega)
theorem fr_oflj {a : Int} (h : -9223372036854775808 ≤ a ∧ a ≤ 9223372036854775807) : (Int64.ofInt a).toInt = a := Int64.toInt_ofInt_of_le (by omega) (by omega)
theorem fr_lt_iff {a b : Int} (ha : -2147483648 ≤ a ∧ a ≤ 2147483647) (hb : -2147483648 ≤ b ∧ b ≤ 2147483647) : Int32.ofInt a < Int32.ofInt b ↔ a < b := by rw [Int32.lt_iff_toInt_lt, fr_ofle ha, fr_ofle hb]
theorem fr_le_iff {a b : Int} (ha : -2147483648 ≤ a ∧ a ≤ 2147483647) (hb : -2147483648 ≤ b ∧ b ≤ 2147483647) : Int32.ofInt a ≤ Int32.ofInt b ↔ a ≤ b := by rw [Int32.le_iff_toInt_le, fr_ofle ha, fr_ofle hb]
theorem fr_eq_iff {a b : Int} (ha : -2147483648 ≤ a ∧ a ≤ 2147483647) (hb : -2147483648 ≤ b ∧ b ≤ 2147483647) : Int32.ofInt a = Int32.ofInt b ↔ a = b := by rw [← Int32.toInt_inj, fr_ofle ha, fr_ofle hb]

theorem fr_iadd {a b : Int} (hd : decode mi.2.1 pc = .ok (.iadd, 1)) (kk : fr_A l κ mi k Q (pc + 1) ls (fr_i (a + b) :: st) μ) : fr_A l κ mi k Q pc ls (fr_i b :: fr_i a :: st) μ := by
  intro p e s m args below meth c hF H locs lsA hI hL hl
  refine lv_iadd hF.1 hF.2.1 hd ?_
  have K := kk p e s m args below meth c hF H locs lsA hI hL hl
  rw [fr_i, Int32.ofInt_add] at K; exact K

theorem fr_isub {a b : Int} (hd : decode mi.2.1 pc = .ok (.isub, 1)) (kk : fr_A l κ mi k Q (pc + 1) ls (fr_i (a - b) :: st) μ) : fr_A l κ mi k Q pc ls (fr_i b :: fr_i a :: st) μ := by
  intro p e s m args below meth c hF H locs lsA hI hL hl
  refine lv_isub hF.1 hF.2.1 hd ?_
  have K := kk p e s m args below meth c hF H locs lsA hI hL hl
  rw [fr_i, Int32.ofInt_sub] at K; exact K

theorem fr_imul {a b : Int} (hd : decode mi.2.1 pc = .ok (.imul, 1)) (kk : fr_A l κ mi k Q (pc + 1) ls (fr_i (a * b) :: st) μ) : fr_A l κ mi k Q pc ls (fr_i b :: fr_i a :: st) μ := by
  intro p e s m args below meth c hF H locs lsA hI hL hl
  refine lv_imul hF.1 hF.2.1 hd ?_
  have K := kk p e s m args below meth c hF H locs lsA hI hL hl
  rw [fr_i, Int32.ofInt_mul] at K; exact K

theorem fr_iand {a b : Int} (hd : decode mi.2.1 pc = .ok (.iand, 1)) (kk : fr_A l κ mi k Q (pc + 1) ls (fr_i (fr_and a b) :: st) μ) : fr_A l κ mi k Q pc ls (fr_i b :: fr_i a :: st) μ := by
  intro p e s m args below meth c hF H locs lsA hI hL hl
  refine lv_iand hF.1 hF.2.1 hd ?_
  have K := kk p e s m args below meth c hF H locs lsA hI hL hl
  rw [fr_i, fr_and, Int32.ofInt_toInt] at K; exact K

theorem fr_ior {a b : Int} (hd : decode mi.2.1 pc = .ok (.ior, 1)) (kk : fr_A l κ mi k Q (pc + 1) ls (fr_i (fr_or a b) :: st) μ) : fr_A l κ mi k Q pc ls (fr_i b :: fr_i a :: st) μ := by
  intro p e s m args below meth c hF H locs lsA hI hL hl
  refine lv_ior hF.1 hF.2.1 hd ?_
  have K := kk p e s m args below meth c hF H locs lsA hI hL hl
  rw [fr_i, fr_or, Int32.ofInt_toInt] at K; exact K

theorem fr_ixor {a b : Int} (hd : decode mi.2.1 pc = .ok (.ixor, 1)) (kk : fr_A l κ mi k Q (pc + 1) ls (fr_i (fr_xor a b) :: st) μ) : fr_A l κ mi k Q pc ls (fr_i b :: fr_i a :: st) μ := by
  intro p e s m args below meth c hF H locs lsA hI hL hl
  refine lv_ixor hF.1 hF.2.1 hd ?_
  have K := kk p e s m args below meth c hF H locs lsA hI hL hl
  rw [fr_i, fr_xor, Int32.ofInt_toInt] at K; exact K

theorem fr_ishl {a b : Int} (hd : decode mi.2.1 pc = .ok (.ishl, 1)) (kk : fr_A l κ mi k Q (pc + 1) ls (fr_i (fr_shl a b) :: st) μ) : fr_A l κ mi k Q pc ls (fr_i b :: fr_i a :: st) μ := by
  intro p e s m args below meth c hF H locs lsA hI hL hl
  refine lv_ishl hF.1 hF.2.1 hd ?_
  have K := kk p e s m args below meth c hF H locs lsA hI hL hl
  rw [fr_i, fr_shl, Int32.ofInt_toInt] at K; exact K

theorem fr_ishr {a b : Int} (hd : decode mi.2.1 pc = .ok (.ishr, 1)) (kk : fr_A l κ mi k Q (pc + 1) ls (fr_i (fr_shr a b) :: st) μ) : fr_A l κ mi k Q pc ls (fr_i b :: fr_i a :: st) μ := by
  intro p e s m args below meth c hF H locs lsA hI hL hl
  refine lv_ishr hF.1 hF.2.1 hd ?_
  have K := kk p e s m args below meth c hF H locs lsA hI hL hl
  rw [fr_i, fr_shr, Int32.ofInt_toInt] at K; exact K

theorem fr_idiv {a b : Int} (hd : decode mi.2.1 pc = .ok (.idiv, 1)) (ha : -2147483648 ≤ a ∧ a ≤ 2147483647) (hb : -2147483648 ≤ b ∧ b ≤ 2147483647) (hn : b ≠ 0) (hm : b ≠ -1) (kk : fr_A l κ mi k Q (pc + 1) ls (fr_i (a.tdiv b) :: st) μ) : fr_A l κ mi k Q pc ls (fr_i b :: fr_i a :: st) μ := by
  intro p e s m args below meth c hF H locs lsA hI hL hl
  refine lv_idiv hF.1 hF.2.1 hd (fun h => hn ((fr_eq_iff hb (by omega)).mp h)) ?_
  have K := kk p e s m args below meth c hF H locs lsA hI hL hl
  rw [fr_i, show Int32.ofInt (a.tdiv b) = Int32.ofInt a / Int32.ofInt b from Int32.ofInt_tdiv (show (-2147483648 : Int) ≤ a from ha.1) (show a ≤ (2147483647 : Int) from ha.2) (show (-2147483648 : Int) ≤ b from hb.1) (show b ≤ (2147483647 : Int) from hb.2)] at K; exact K

theorem fr_irem {a b : Int} (hd : decode mi.2.1 pc = .ok (.irem, 1)) (ha : -2147483648 ≤ a ∧ a ≤ 2147483647) (hb : -2147483648 ≤ b ∧ b ≤ 2147483647) (hn : b ≠ 0) (kk : fr_A l κ mi k Q (pc + 1) ls (fr_i (a.tmod b) :: st) μ) : fr_A l κ mi k Q pc ls (fr_i b :: fr_i a :: st) μ := by
  intro p e s m args below meth c hF H locs lsA hI hL hl
  refine lv_irem hF.1 hF.2.1 hd (fun h => hn ((fr_eq_iff hb (by omega)).mp h)) ?_
  have K := kk p e s m args below meth c hF H locs lsA hI hL hl
  rw [fr_i, Int.tmod_def, Int32.ofInt_sub, Int.mul_comm, Int32.ofInt_mul, show Int32.ofInt (a.tdiv b) = Int32.ofInt a / Int32.ofInt b from Int32.ofInt_tdiv (show (-2147483648 : Int) ≤ a from ha.1) (show a ≤ (2147483647 : Int) from ha.2) (show (-2147483648 : Int) ≤ b from hb.1) (show b ≤ (2147483647 : Int) from hb.2)] at K; exact K

theorem fr_ladd {a b : Int} (hd : decode mi.2.1 pc = .ok (.ladd, 1)) (kk : fr_A l κ mi k Q (pc + 1) ls (fr_j (a + b) :: st) μ) : fr_A l κ mi k Q pc ls (fr_j b :: fr_j a :: st) μ := by
  intro p e s m args below meth c hF H locs lsA hI hL hl
  refine lv_ladd hF.1 hF.2.1 hd ?_
  have K := kk p e s m args below meth c hF H locs lsA hI hL hl
  rw [fr_j, Int64.ofInt_add] at K; exact K

theorem fr_lsub {a b : Int} (hd : decode mi.2.1 pc = .ok (.lsub, 1)) (kk : fr_A l κ mi k Q (pc + 1) ls (fr_j (a - b) :: st) μ) : fr_A l κ mi k Q pc ls (fr_j b :: fr_j a :: st) μ := by
  intro p e s m args below meth c hF H locs lsA hI hL hl
  refine lv_lsub hF.1 hF.2.1 hd ?_
  have K := kk p e s m args below meth c hF H locs lsA hI hL hl
  rw [fr_j, Int64.ofInt_sub] at K; exact K

theorem fr_lmul {a b : Int} (hd : decode mi.2.1 pc = .ok (.lmul, 1)) (kk : fr_A l κ mi k Q (pc + 1) ls (fr_j (a * b) :: st) μ) : fr_A l κ mi k Q pc ls (fr_j b :: fr_j a :: st) μ := by
  intro p e s m args below meth c hF H locs lsA hI hL hl
  refine lv_lmul hF.1 hF.2.1 hd ?_
  have K := kk p e s m args below meth c hF H locs lsA hI hL hl
  rw [fr_j, Int64.ofInt_mul] at K; exact K

theorem fr_landR {a b : Int} (hd : decode mi.2.1 pc = .ok (.land, 1)) (kk : fr_A l κ mi k Q (pc + 1) ls (fr_j (fr_land a b) :: st) μ) : fr_A l κ mi k Q pc ls (fr_j b :: fr_j a :: st) μ := by
  intro p e s m args below meth c hF H locs lsA hI hL hl
  refine lv_land hF.1 hF.2.1 hd ?_
  have K := kk p e s m args below meth c hF H locs lsA hI hL hl
  rw [fr_j, fr_land, Int64.ofInt_toInt] at K; exact K

theorem fr_lorR {a b : Int} (hd : decode mi.2.1 pc = .ok (.lor, 1)) (kk : fr_A l κ mi k Q (pc + 1) ls (fr_j (fr_lor a b) :: st) μ) : fr_A l κ mi k Q pc ls (fr_j b :: fr_j a :: st) μ := by
  intro p e s m args below meth c hF H locs lsA hI hL hl
  refine lv_lor hF.1 hF.2.1 hd ?_
  have K := kk p e s m args below meth c hF H locs lsA hI hL hl
  rw [fr_j, fr_lor, Int64.ofInt_toInt] at K; exact K

theorem fr_lshlR {a b : Int} (hd : decode mi.2.1 pc = .ok (.lshl, 1)) (kk : fr_A l κ mi k Q (pc + 1) ls (fr_j (fr_lshl a b) :: st) μ) : fr_A l κ mi k Q pc ls (fr_i b :: fr_j a :: st) μ := by
  intro p e s m args below meth c hF H locs lsA hI hL hl
  refine lv_lshl hF.1 hF.2.1 hd rfl ?_
  have K := kk p e s m args below meth c hF H locs lsA hI hL hl
  rw [fr_j, fr_lshl, Int64.ofInt_toInt] at K; exact K
theorem fr_ineg {a : Int} (hd : decode mi.2.1 pc = .ok (.ineg, 1)) (kk : fr_A l κ mi k Q (pc + 1) ls (fr_i (-a) :: st) μ) : fr_A l κ mi k Q pc ls (fr_i a :: st) μ := by
  intro p e s m args below meth c hF H locs lsA hI hL hl
  refine lv_ineg hF.1 hF.2.1 hd ?_
  have K := kk p e s m args below meth c hF H locs lsA hI hL hl
  rw [fr_i, Int32.ofInt_neg] at K; exact K
theorem fr_iconst {n : Int} (hd : decode mi.2.1 pc = .ok (.iconst n, 1)) (kk : fr_A l κ mi k Q (pc + 1) ls (fr_i n :: st) μ) : fr_A l κ mi k Q pc ls st μ := by
  intro p e s m args below meth c hF H locs lsA hI hL hl
  exact lv_iconst hF.1 hF.2.1 hd rfl (kk p e s m args below meth c hF H locs lsA hI hL hl)
theorem fr_bipush {n : Int} (hd : decode mi.2.1 pc = .ok (.bipush n, 2)) (hv : (Int8.ofInt n).toInt32 = Int32.ofInt n) (kk : fr_A l κ mi k Q (pc + 2) ls (fr_i n :: st) μ) : fr_A l κ mi k Q pc ls st μ := by
  intro p e s m args below meth c hF H locs lsA hI hL hl
  exact lv_bipush hF.1 hF.2.1 hd hv (kk p e s m args below meth c hF H locs lsA hI hL hl)
theorem fr_sipush {n : Int} (hd : decode mi.2.1 pc = .ok (.sipush n, 3)) (hv : (Int16.ofInt n).toInt32 = Int32.ofInt n) (kk : fr_A l κ mi k Q (pc + 3) ls (fr_i n :: st) μ) : fr_A l κ mi k Q pc ls st μ := by
  intro p e s m args below meth c hF H locs lsA hI hL hl
  exact lv_sipush hF.1 hF.2.1 hd hv (kk p e s m args below meth c hF H locs lsA hI hL hl)
theorem fr_lconst0 (hd : decode mi.2.1 pc = .ok (.lconst 0, 1)) (kk : fr_A l κ mi k Q (pc + 1) ls (fr_j 0 :: st) μ) : fr_A l κ mi k Q pc ls st μ := by
  intro p e s m args below meth c hF H locs lsA hI hL hl
  exact lv_lconst hF.1 hF.2.1 hd rfl (kk p e s m args below meth c hF H locs lsA hI hL hl)
theorem fr_lconst1 (hd : decode mi.2.1 pc = .ok (.lconst 1, 1)) (kk : fr_A l κ mi k Q (pc + 1) ls (fr_j 1 :: st) μ) : fr_A l κ mi k Q pc ls st μ := by
  intro p e s m args below meth c hF H locs lsA hI hL hl
  exact lv_lconst hF.1 hF.2.1 hd rfl (kk p e s m args below meth c hF H locs lsA hI hL hl)
def fr_cn (own : String) (idx : Nat) (z : Int) : Prop := Cond.constant own idx (Int32.ofInt z) ∈ fr_tb
def fr_cl (own : String) (idx : Nat) (z : Int) : Prop := Cond.constantLong own idx (Int64.ofInt z) ∈ fr_tb
theorem fr_ldc {idx : Nat} {z : Int} (hd : decode mi.2.1 pc = .ok (.ldc idx, 2)) (hc : fr_cn mi.1.cls idx z) (kk : fr_A l κ mi k Q (pc + 2) ls (fr_i z :: st) μ) : fr_A l κ mi k Q pc ls st μ := by
  intro p e s m args below meth c hF H locs lsA hI hL hl
  exact lv_ldc hF.1 hF.2.1 hF.2.2.2.2.1 (hF.2.2.2.2.2.1 _ hc) hd (kk p e s m args below meth c hF H locs lsA hI hL hl)
theorem fr_ldcw {idx : Nat} {z : Int} (hd : decode mi.2.1 pc = .ok (.ldc_w idx, 3)) (hc : fr_cn mi.1.cls idx z) (kk : fr_A l κ mi k Q (pc + 3) ls (fr_i z :: st) μ) : fr_A l κ mi k Q pc ls st μ := by
  intro p e s m args below meth c hF H locs lsA hI hL hl
  exact lv_ldcw hF.1 hF.2.1 hF.2.2.2.2.1 (hF.2.2.2.2.2.1 _ hc) hd (kk p e s m args below meth c hF H locs lsA hI hL hl)
theorem fr_ldc2 {idx : Nat} {z : Int} (hd : decode mi.2.1 pc = .ok (.ldc2_w idx, 3)) (hc : fr_cl mi.1.cls idx z) (kk : fr_A l κ mi k Q (pc + 3) ls (fr_j z :: st) μ) : fr_A l κ mi k Q pc ls st μ := by
  intro p e s m args below meth c hF H locs lsA hI hL hl
  exact lv_ldc2 hF.1 hF.2.1 hF.2.2.2.2.1 (hF.2.2.2.2.2.1 _ hc) hd (kk p e s m args below meth c hF H locs lsA hI hL hl)
theorem fr_i2l {a : Int} (hd : decode mi.2.1 pc = .ok (.i2l, 1)) (ha : -2147483648 ≤ a ∧ a ≤ 2147483647) (kk : fr_A l κ mi k Q (pc + 1) ls (fr_j a :: st) μ) : fr_A l κ mi k Q pc ls (fr_i a :: st) μ := by
  intro p e s m args below meth c hF H locs lsA hI hL hl
  refine lv_i2l (v := Int64.ofInt a) hF.1 hF.2.1 hd ?_ (kk p e s m args below meth c hF H locs lsA hI hL hl)
  rw [← Int64.toInt_inj, Int32.toInt_toInt64, fr_ofle ha, fr_oflj (by omega)]
theorem fr_l2i {a : Int} (hd : decode mi.2.1 pc = .ok (.l2i, 1)) (kk : fr_A l κ mi k Q (pc + 1) ls (fr_i a :: st) μ) : fr_A l κ mi k Q pc ls (fr_j a :: st) μ := by
  intro p e s m args below meth c hF H locs lsA hI hL hl
  exact lv_l2i (v := Int32.ofInt a) hF.1 hF.2.1 hd (by simp) (kk p e s m args below meth c hF H locs lsA hI hL hl)
theorem fr_i2b {a : Int} (hd : decode mi.2.1 pc = .ok (.i2b, 1)) (kk : fr_A l κ mi k Q (pc + 1) ls (fr_i (a.bmod 256) :: st) μ) : fr_A l κ mi k Q pc ls (fr_i a :: st) μ := by
  intro p e s m args below meth c hF H locs lsA hI hL hl
  exact lv_i2b (v := Int32.ofInt (a.bmod 256)) hF.1 hF.2.1 hd (by rw [Int32.toInt8_ofInt, ← Int32.ofInt_int8ToInt, Int8.toInt_ofInt]) (kk p e s m args below meth c hF H locs lsA hI hL hl)
theorem fr_i2s {a : Int} (hd : decode mi.2.1 pc = .ok (.i2s, 1)) (kk : fr_A l κ mi k Q (pc + 1) ls (fr_i (a.bmod 65536) :: st) μ) : fr_A l κ mi k Q pc ls (fr_i a :: st) μ := by
  intro p e s m args below meth c hF H locs lsA hI hL hl
  exact lv_i2s (v := Int32.ofInt (a.bmod 65536)) hF.1 hF.2.1 hd (by rw [Int32.toInt16_ofInt, ← Int32.ofInt_int16ToInt, Int16.toInt_ofInt]) (kk p e s m args below meth c hF H locs lsA hI hL hl)
theorem fr_lcmpR {a b : Int} (hd : decode mi.2.1 pc = .ok (.lcmp, 1)) (ha : -9223372036854775808 ≤ a ∧ a ≤ 9223372036854775807) (hb : -9223372036854775808 ≤ b ∧ b ≤ 9223372036854775807) (kk : fr_A l κ mi k Q (pc + 1) ls (fr_i (if a < b then -1 else if a = b then 0 else 1) :: st) μ) : fr_A l κ mi k Q pc ls (fr_j b :: fr_j a :: st) μ := by
  intro p e s m args below meth c hF H locs lsA hI hL hl
  refine W.lcmp hF.1 hF.2.1 hd ?_
  have K := kk p e s m args below meth c hF H locs lsA hI hL hl
  have e : lg_cmp (Int64.ofInt a) (Int64.ofInt b) = Int32.ofInt (if a < b then -1 else if a = b then 0 else 1) := by
    have h1 : Int64.ofInt a < Int64.ofInt b ↔ a < b := by rw [Int64.lt_iff_toInt_lt, fr_oflj ha, fr_oflj hb]
    have h2 : Int64.ofInt a = Int64.ofInt b ↔ a = b := by rw [← Int64.toInt_inj, fr_oflj ha, fr_oflj hb]
    have h3 : Int64.ofInt b < Int64.ofInt a ↔ b < a := by rw [Int64.lt_iff_toInt_lt, fr_oflj hb, fr_oflj ha]
    unfold lg_cmp
    simp only [h1, h2, h3]
    split <;> (try split) <;> (try split) <;> (try split) <;> first | rfl | omega
  rw [e]
  exact K
theorem fr_dup {v : Value} (hd : decode mi.2.1 pc = .ok (.dup, 1)) (hv : v.category = 1) (kk : fr_A l κ mi k Q (pc + 1) ls (v :: v :: st) μ) : fr_A l κ mi k Q pc ls (v :: st) μ := by
  intro p e s m args below meth c hF H locs lsA hI hL hl
  exact lv_dup hF.1 hF.2.1 hd hv (kk p e s m args below meth c hF H locs lsA hI hL hl)
theorem fr_dupx1 {v u : Value} (hd : decode mi.2.1 pc = .ok (.dup_x1, 1)) (hv : v.category = 1) (hu : u.category = 1) (kk : fr_A l κ mi k Q (pc + 1) ls (v :: u :: v :: st) μ) : fr_A l κ mi k Q pc ls (v :: u :: st) μ := by
  intro p e s m args below meth c hF H locs lsA hI hL hl
  exact lv_dup_x1 hF.1 hF.2.1 hd hv hu (kk p e s m args below meth c hF H locs lsA hI hL hl)
theorem fr_dup2 {v u : Value} (hd : decode mi.2.1 pc = .ok (.dup2, 1)) (hv : v.category = 1) (hu : u.category = 1) (kk : fr_A l κ mi k Q (pc + 1) ls (v :: u :: v :: u :: st) μ) : fr_A l κ mi k Q pc ls (v :: u :: st) μ := by
  intro p e s m args below meth c hF H locs lsA hI hL hl
  exact lv_dup2_11 hF.1 hF.2.1 hd hv hu (kk p e s m args below meth c hF H locs lsA hI hL hl)
theorem fr_pop {v : Value} (hd : decode mi.2.1 pc = .ok (.pop, 1)) (hv : v.category = 1) (kk : fr_A l κ mi k Q (pc + 1) ls st μ) : fr_A l κ mi k Q pc ls (v :: st) μ := by
  intro p e s m args below meth c hF H locs lsA hI hL hl
  exact lv_pop hF.1 hF.2.1 hd hv (kk p e s m args below meth c hF H locs lsA hI hL hl)
theorem fr_goto {off : Int} {tgt : Nat} (hd : decode mi.2.1 pc = .ok (.goto off, 3)) (ht : (pc : Int) + off = (tgt : Int)) (kk : fr_A l κ mi k Q tgt ls st μ) : fr_A l κ mi k Q pc ls st μ := by
  intro p e s m args below meth c hF H locs lsA hI hL hl
  exact lv_goto hF.1 hF.2.1 hd ht (kk p e s m args below meth c hF H locs lsA hI hL hl)

theorem fr_icmp_eq {a b : Int} {off : Int} {tgt : Nat} (hd : decode mi.2.1 pc = .ok (.if_icmp .eq off, 3)) (ht : (pc : Int) + off = (tgt : Int)) (ha : -2147483648 ≤ a ∧ a ≤ 2147483647) (hb : -2147483648 ≤ b ∧ b ≤ 2147483647) (kt : a = b → fr_A l κ mi k Q tgt ls st μ) (kf : a ≠ b → fr_A l κ mi k Q (pc + 3) ls st μ) : fr_A l κ mi k Q pc ls (fr_i b :: fr_i a :: st) μ := by
  intro p e s m args below meth c hF H locs lsA hI hL hl
  exact lv_icmp_eq hF.1 hF.2.1 hd ht (fun h => kt ((fun h => (fr_eq_iff ha hb).mp h) h) p e s m args below meth c hF H locs lsA hI hL hl) (fun h => kf ((fun h e => h ((fr_eq_iff ha hb).mpr e)) h) p e s m args below meth c hF H locs lsA hI hL hl)

theorem fr_if_eq {a : Int} {off : Int} {tgt : Nat} (hd : decode mi.2.1 pc = .ok (.ifCond .eq off, 3)) (ht : (pc : Int) + off = (tgt : Int)) (ha : -2147483648 ≤ a ∧ a ≤ 2147483647) (kt : a = 0 → fr_A l κ mi k Q tgt ls st μ) (kf : a ≠ 0 → fr_A l κ mi k Q (pc + 3) ls st μ) : fr_A l κ mi k Q pc ls (fr_i a :: st) μ := by
  intro p e s m args below meth c hF H locs lsA hI hL hl
  have hz : (-2147483648 : Int) ≤ 0 ∧ (0 : Int) ≤ 2147483647 := by omega
  exact lv_if_eq hF.1 hF.2.1 hd ht (fun h => kt ((fun h => (fr_eq_iff ha hz).mp h) h) p e s m args below meth c hF H locs lsA hI hL hl) (fun h => kf ((fun h e => h ((fr_eq_iff ha hz).mpr e)) h) p e s m args below meth c hF H locs lsA hI hL hl)

theorem fr_icmp_ne {a b : Int} {off : Int} {tgt : Nat} (hd : decode mi.2.1 pc = .ok (.if_icmp .ne off, 3)) (ht : (pc : Int) + off = (tgt : Int)) (ha : -2147483648 ≤ a ∧ a ≤ 2147483647) (hb : -2147483648 ≤ b ∧ b ≤ 2147483647) (kt : a ≠ b → fr_A l κ mi k Q tgt ls st μ) (kf : a = b → fr_A l κ mi k Q (pc + 3) ls st μ) : fr_A l κ mi k Q pc ls (fr_i b :: fr_i a :: st) μ := by
  intro p e s m args below meth c hF H locs lsA hI hL hl
  exact lv_icmp_ne hF.1 hF.2.1 hd ht (fun h => kt ((fun h e => h ((fr_eq_iff ha hb).mpr e)) h) p e s m args below meth c hF H locs lsA hI hL hl) (fun h => kf ((fun h => (fr_eq_iff ha hb).mp h) h) p e s m args below meth c hF H locs lsA hI hL hl)

theorem fr_if_ne {a : Int} {off : Int} {tgt : Nat} (hd : decode mi.2.1 pc = .ok (.ifCond .ne off, 3)) (ht : (pc : Int) + off = (tgt : Int)) (ha : -2147483648 ≤ a ∧ a ≤ 2147483647) (kt : a ≠ 0 → fr_A l κ mi k Q tgt ls st μ) (kf : a = 0 → fr_A l κ mi k Q (pc + 3) ls st μ) : fr_A l κ mi k Q pc ls (fr_i a :: st) μ := by
  intro p e s m args below meth c hF H locs lsA hI hL hl
  have hz : (-2147483648 : Int) ≤ 0 ∧ (0 : Int) ≤ 2147483647 := by omega
  exact lv_if_ne hF.1 hF.2.1 hd ht (fun h => kt ((fun h e => h ((fr_eq_iff ha hz).mpr e)) h) p e s m args below meth c hF H locs lsA hI hL hl) (fun h => kf ((fun h => (fr_eq_iff ha hz).mp h) h) p e s m args below meth c hF H locs lsA hI hL hl)

theorem fr_icmp_lt {a b : Int} {off : Int} {tgt : Nat} (hd : decode mi.2.1 pc = .ok (.if_icmp .lt off, 3)) (ht : (pc : Int) + off = (tgt : Int)) (ha : -2147483648 ≤ a ∧ a ≤ 2147483647) (hb : -2147483648 ≤ b ∧ b ≤ 2147483647) (kt : a < b → fr_A l κ mi k Q tgt ls st μ) (kf : b ≤ a → fr_A l κ mi k Q (pc + 3) ls st μ) : fr_A l κ mi k Q pc ls (fr_i b :: fr_i a :: st) μ := by
  intro p e s m args below meth c hF H locs lsA hI hL hl
  exact lv_icmp_lt hF.1 hF.2.1 hd ht (fun h => kt ((fun h => (fr_lt_iff ha hb).mp h) h) p e s m args below meth c hF H locs lsA hI hL hl) (fun h => kf ((fun h => Int.not_lt.mp fun e => h ((fr_lt_iff ha hb).mpr e)) h) p e s m args below meth c hF H locs lsA hI hL hl)

theorem fr_if_lt {a : Int} {off : Int} {tgt : Nat} (hd : decode mi.2.1 pc = .ok (.ifCond .lt off, 3)) (ht : (pc : Int) + off = (tgt : Int)) (ha : -2147483648 ≤ a ∧ a ≤ 2147483647) (kt : a < 0 → fr_A l κ mi k Q tgt ls st μ) (kf : 0 ≤ a → fr_A l κ mi k Q (pc + 3) ls st μ) : fr_A l κ mi k Q pc ls (fr_i a :: st) μ := by
  intro p e s m args below meth c hF H locs lsA hI hL hl
  have hz : (-2147483648 : Int) ≤ 0 ∧ (0 : Int) ≤ 2147483647 := by omega
  exact lv_if_lt hF.1 hF.2.1 hd ht (fun h => kt ((fun h => (fr_lt_iff ha hz).mp h) h) p e s m args below meth c hF H locs lsA hI hL hl) (fun h => kf ((fun h => Int.not_lt.mp fun e => h ((fr_lt_iff ha hz).mpr e)) h) p e s m args below meth c hF H locs lsA hI hL hl)

theorem fr_icmp_ge {a b : Int} {off : Int} {tgt : Nat} (hd : decode mi.2.1 pc = .ok (.if_icmp .ge off, 3)) (ht : (pc : Int) + off = (tgt : Int)) (ha : -2147483648 ≤ a ∧ a ≤ 2147483647) (hb : -2147483648 ≤ b ∧ b ≤ 2147483647) (kt : b ≤ a → fr_A l κ mi k Q tgt ls st μ) (kf : a < b → fr_A l κ mi k Q (pc + 3) ls st μ) : fr_A l κ mi k Q pc ls (fr_i b :: fr_i a :: st) μ := by
  intro p e s m args below meth c hF H locs lsA hI hL hl
  exact lv_icmp_ge hF.1 hF.2.1 hd ht (fun h => kt ((fun h => (fr_le_iff hb ha).mp h) h) p e s m args below meth c hF H locs lsA hI hL hl) (fun h => kf ((fun h => Int.not_le.mp fun e => h ((fr_le_iff hb ha).mpr e)) h) p e s m args below meth c hF H locs lsA hI hL hl)

theorem fr_if_ge {a : Int} {off : Int} {tgt : Nat} (hd : decode mi.2.1 pc = .ok (.ifCond .ge off, 3)) (ht : (pc : Int) + off = (tgt : Int)) (ha : -2147483648 ≤ a ∧ a ≤ 2147483647) (kt : 0 ≤ a → fr_A l κ mi k Q tgt ls st μ) (kf : a < 0 → fr_A l κ mi k Q (pc + 3) ls st μ) : fr_A l κ mi k Q pc ls (fr_i a :: st) μ := by
  intro p e s m args below meth c hF H locs lsA hI hL hl
  have hz : (-2147483648 : Int) ≤ 0 ∧ (0 : Int) ≤ 2147483647 := by omega
  exact lv_if_ge hF.1 hF.2.1 hd ht (fun h => kt ((fun h => (fr_le_iff hz ha).mp h) h) p e s m args below meth c hF H locs lsA hI hL hl) (fun h => kf ((fun h => Int.not_le.mp fun e => h ((fr_le_iff hz ha).mpr e)) h) p e s m args below meth c hF H locs lsA hI hL hl)

theorem fr_icmp_gt {a b : Int} {off : Int} {tgt : Nat} (hd : decode mi.2.1 pc = .ok (.if_icmp .gt off, 3)) (ht : (pc : Int) + off = (tgt : Int)) (ha : -2147483648 ≤ a ∧ a ≤ 2147483647) (hb : -2147483648 ≤ b ∧ b ≤ 2147483647) (kt : b < a → fr_A l κ mi k Q tgt ls st μ) (kf : a ≤ b → fr_A l κ mi k Q (pc + 3) ls st μ) : fr_A l κ mi k Q pc ls (fr_i b :: fr_i a :: st) μ := by
  intro p e s m args below meth c hF H locs lsA hI hL hl
  exact lv_icmp_gt hF.1 hF.2.1 hd ht (fun h => kt ((fun h => (fr_lt_iff hb ha).mp h) h) p e s m args below meth c hF H locs lsA hI hL hl) (fun h => kf ((fun h => Int.not_lt.mp fun e => h ((fr_lt_iff hb ha).mpr e)) h) p e s m args below meth c hF H locs lsA hI hL hl)

theorem fr_if_gt {a : Int} {off : Int} {tgt : Nat} (hd : decode mi.2.1 pc = .ok (.ifCond .gt off, 3)) (ht : (pc : Int) + off = (tgt : Int)) (ha : -2147483648 ≤ a ∧ a ≤ 2147483647) (kt : 0 < a → fr_A l κ mi k Q tgt ls st μ) (kf : a ≤ 0 → fr_A l κ mi k Q (pc + 3) ls st μ) : fr_A l κ mi k Q pc ls (fr_i a :: st) μ := by
  intro p e s m args below meth c hF H locs lsA hI hL hl
  have hz : (-2147483648 : Int) ≤ 0 ∧ (0 : Int) ≤ 2147483647 := by omega
  exact lv_if_gt hF.1 hF.2.1 hd ht (fun h => kt ((fun h => (fr_lt_iff hz ha).mp h) h) p e s m args below meth c hF H locs lsA hI hL hl) (fun h => kf ((fun h => Int.not_lt.mp fun e => h ((fr_lt_iff hz ha).mpr e)) h) p e s m args below meth c hF H locs lsA hI hL hl)

theorem fr_icmp_le {a b : Int} {off : Int} {tgt : Nat} (hd : decode mi.2.1 pc = .ok (.if_icmp .le off, 3)) (ht : (pc : Int) + off = (tgt : Int)) (ha : -2147483648 ≤ a ∧ a ≤ 2147483647) (hb : -2147483648 ≤ b ∧ b ≤ 2147483647) (kt : a ≤ b → fr_A l κ mi k Q tgt ls st μ) (kf : b < a → fr_A l κ mi k Q (pc + 3) ls st μ) : fr_A l κ mi k Q pc ls (fr_i b :: fr_i a :: st) μ := by
  intro p e s m args below meth c hF H locs lsA hI hL hl
  exact lv_icmp_le hF.1 hF.2.1 hd ht (fun h => kt ((fun h => (fr_le_iff ha hb).mp h) h) p e s m args below meth c hF H locs lsA hI hL hl) (fun h => kf ((fun h => Int.not_le.mp fun e => h ((fr_le_iff ha hb).mpr e)) h) p e s m args below meth c hF H locs lsA hI hL hl)

theorem fr_if_le {a : Int} {off : Int} {tgt : Nat} (hd : decode mi.2.1 pc = .ok (.ifCond .le off, 3)) (ht : (pc : Int) + off = (tgt : Int)) (ha : -2147483648 ≤ a ∧ a ≤ 2147483647) (kt : a ≤ 0 → fr_A l κ mi k Q tgt ls st μ) (kf : 0 < a → fr_A l κ mi k Q (pc + 3) ls st μ) : fr_A l κ mi k Q pc ls (fr_i a :: st) μ := by
  intro p e s m args below meth c hF H locs lsA hI hL hl
  have hz : (-2147483648 : Int) ≤ 0 ∧ (0 : Int) ≤ 2147483647 := by omega
  exact lv_if_le hF.1 hF.2.1 hd ht (fun h => kt ((fun h => (fr_le_iff ha hz).mp h) h) p e s m args below meth c hF H locs lsA hI hL hl) (fun h => kf ((fun h => Int.not_le.mp fun e => h ((fr_le_iff ha hz).mpr e)) h) p e s m args below meth c hF H locs lsA hI hL hl)

theorem fr_tswIn {a : Int} {dflt lo hi off : Int} {offs : Array Int} {len tgt : Nat} (hd : decode mi.2.1 pc = .ok (.tableswitch dflt lo hi offs, len)) (ha : -2147483648 ≤ a ∧ a ≤ 2147483647) (h1 : lo ≤ a) (h2 : a ≤ hi) (ho : offs[(a - lo).toNat]? = some off) (ht : (pc : Int) + off = (tgt : Int)) (kk : fr_A l κ mi k Q tgt ls st μ) : fr_A l κ mi k Q pc ls (fr_i a :: st) μ := by
  intro p e s m args below meth c hF H locs lsA hI hL hl
  exact lv_tableIn hF.1 hF.2.1 hd (by rw [fr_ofle ha]; omega) (by rw [fr_ofle ha]; omega) (by rw [fr_ofle ha]; exact ho) ht (kk p e s m args below meth c hF H locs lsA hI hL hl)
theorem fr_tswOut {a : Int} {dflt lo hi : Int} {offs : Array Int} {len tgt : Nat} (hd : decode mi.2.1 pc = .ok (.tableswitch dflt lo hi offs, len)) (ha : -2147483648 ≤ a ∧ a ≤ 2147483647) (h : a < lo ∨ hi < a) (ht : (pc : Int) + dflt = (tgt : Int)) (kk : fr_A l κ mi k Q tgt ls st μ) : fr_A l κ mi k Q pc ls (fr_i a :: st) μ := by
  intro p e s m args below meth c hF H locs lsA hI hL hl
  exact lv_tableOut hF.1 hF.2.1 hd (by rw [fr_ofle ha]; exact h) ht (kk p e s m args below meth c hF H locs lsA hI hL hl)
theorem fr_lsw {a : Int} {dflt off : Int} {ps : Array (Int × Int)} {len tgt : Nat} (hd : decode mi.2.1 pc = .ok (.lookupswitch dflt ps, len)) (ha : -2147483648 ≤ a ∧ a ≤ 2147483647) (hp : (ps.toList.zip (ps.toList.drop 1)).all (fun (a, next) => a.1 < next.1) = true) (ho : Op.lookupswitch.offset ps.toList dflt a = off) (ht : (pc : Int) + off = (tgt : Int)) (kk : fr_A l κ mi k Q tgt ls st μ) : fr_A l κ mi k Q pc ls (fr_i a :: st) μ := by
  intro p e s m args below meth c hF H locs lsA hI hL hl
  exact lv_lookup hF.1 hF.2.1 hd hp (by rw [fr_ofle ha]; exact ho) ht (kk p e s m args below meth c hF H locs lsA hI hL hl)
theorem fr_iret {z : Int} (hd : decode mi.2.1 pc = .ok (.ireturn, 1)) (hr : mi.2.2.2 = some .int) (hq : Q (some (fr_i z)) μ) : fr_A l κ mi k Q pc ls [fr_i z] μ := by
  intro p e s m args below meth c hF H locs lsA hI hL hl
  exact W.iret hF.1 hF.2.1 (hF.2.2.1.trans hr) (fun t ht _ => ⟨_, μ, rfl, hq, by rw [ht]; exact hI⟩) hL hd (hlocks := hF.2.2.2.2.2.2.1)
theorem fr_zret {z : Int} (hd : decode mi.2.1 pc = .ok (.ireturn, 1)) (hr : mi.2.2.2 = some .boolean) (hz : z = 0 ∨ z = 1) (hq : Q (some (fr_i z)) μ) : fr_A l κ mi k Q pc ls [fr_i z] μ := by
  intro p e s m args below meth c hF H locs lsA hI hL hl
  exact W.zret hF.1 hF.2.1 (hF.2.2.1.trans hr) (by rcases hz with rfl | rfl <;> rfl) (fun t ht _ => ⟨_, μ, rfl, hq, by rw [ht]; exact hI⟩) hL hd (hlocks := hF.2.2.2.2.2.2.1)
theorem fr_vret (hd : decode mi.2.1 pc = .ok (.return_, 1)) (hr : mi.2.2.2 = none) (hq : Q none μ) : fr_A l κ mi k Q pc ls [] μ := by
  intro p e s m args below meth c hF H locs lsA hI hL hl
  exact W.vret hF.1 hF.2.1 (hF.2.2.1.trans hr) (fun t ht _ => ⟨_, μ, rfl, hq, by rw [ht]; exact hI⟩) hL hd (hlocks := hF.2.2.2.2.2.2.1)
theorem fr_lret {z : Int} (hd : decode mi.2.1 pc = .ok (.lreturn, 1)) (hr : mi.2.2.2 = some .long) (hq : Q (some (fr_j z)) μ) : fr_A l κ mi k Q pc ls [fr_j z] μ := by
  intro p e s m args below meth c hF H locs lsA hI hL hl
  exact W.lret hF.1 hF.2.1 (hF.2.2.1.trans hr) (fun t ht _ => ⟨_, μ, rfl, hq, by rw [ht]; exact hI⟩) hL hd (hlocks := hF.2.2.2.2.2.2.1)
end RULES
