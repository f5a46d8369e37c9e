theorem sp_begin_nc (μ : fr_Me) {c c' : Int} (a b d : Int) (h : c' ≠ c) : sp_begin μ c a b d c' = μ c' := by unfold sp_begin; simp only [fr_up_nc _ _ _ h]
theorem sp_cut_nc (μ : fr_Me) {c c' : Int} (d : Int) (h : c' ≠ c) : sp_cut μ c d c' = μ c' := by unfold sp_cut; simp only [fr_up_nc _ _ _ h, sp_begin_nc _ _ _ _ h]
def sp_else (w : Int → Int) (tree c : Int) : Prop := ∃ t, 0 ≤ t ∧ t < w 0 ∧ t ≠ tree ∧ w (7 + t) = c
def sp_may (w : Int → Int) (t c : Int) : Prop := ¬ (0 ≤ c ∧ c < w 43) ∨ (¬ sp_in (w (37 + t)) c ∧ (w (44 + c) = 2 ∨ ¬ sp_else w t c))
def sp_orl : Nat → (Int → Int) → Int
  | 0, _ => 0
  | n + 1, F => fr_or (sp_orl n F) (F n)
def sp_ex1 (w : Int → Int) (t : Int) : Int := (sp_sl (w (1 + t)) 0 * (10 - sp_od w (w (7 + t))) + sp_sl (w (1 + t)) 1 * sp_od w (w (7 + t))) * w (64 + sp_br w (w (7 + t))) + sp_sb (w (1 + t)) (w (25 + t)) * 10 * w (64 + sp_br w (w (13 + t)))
def sp_dr (x : Int) : Int := (x * 1103515245 + 12345) % 2147483648
theorem fr_and31 (y : Int) : fr_and y 2147483647 = y % 2147483648 := by
  unfold fr_and
  have h1 : (Int32.ofInt y &&& Int32.ofInt 2147483647).toInt = (BitVec.ofInt 32 y &&& 2147483647#32).toInt := rfl
  rw [h1, BitVec.toInt_eq_toNat_of_lt]
  · rw [BitVec.toNat_and, BitVec.toNat_ofInt, show (2147483647#32).toNat = 2 ^ 31 - 1 from rfl, Nat.and_two_pow_sub_one_eq_mod]
    omega
  · rw [BitVec.toNat_and, show (2147483647#32).toNat = 2 ^ 31 - 1 from rfl, Nat.and_two_pow_sub_one_eq_mod]
    have := Nat.mod_lt (BitVec.ofInt 32 y).toNat (show 0 < 2 ^ 31 by decide)
    omega
theorem sp_dr_rg (x : Int) : 0 ≤ sp_dr x ∧ sp_dr x ≤ 2147483647 := by unfold sp_dr; omega
set_option maxRecDepth 20000 in
theorem kcX1_plant {l : Launch} {κ : fr_Ka} {w : Int → Int} {μ : fr_Me} (hG : fr_G w μ) (hI : fr_I w) {kind : Int} (hn : w 0 < 6) : fr_C l κ fmX1_plant 2 [fr_r κ 1, fr_i kind] μ (fr_Ei (w 0) (fr_up (sp_begin μ (36 + w 0) kind 5 5) 1 3 (w 0 + 1))) := by
  have eN := hG.n
  have eM := hG.many
  have iN := hI.n
  have iM := hI.many
  refine fr_enter (by decide +kernel) (ls := [some (fr_r κ 1), some (fr_i kind)]) rfl (Nat.le_of_ble_eq_true rfl) ?_
  refine fr_al0 dX1_plant_0 ?_
  refine fr_getr (cz := 2) dX1_plant_1 flX1_11 ⟨by decide, by decide, rfl⟩ rfl rfl ?_
  refine fr_al0 dX1_plant_4 ?_
  refine fr_geti (kz := 3) dX1_plant_5 flX1_58 ⟨by decide, by decide, rfl⟩ rfl rfl ?_
  rw [eN]
  refine fr_aaT dX1_plant_8 (by omega) (by omega) ?_
  refine fr_il1 dX1_plant_9 ?_
  refine fr_iconst dX1_plant_10 ?_
  refine fr_iconst dX1_plant_11 ?_
  refine fr_cVv (mi' := fmX7_begin) dX1_plant_12 mlX1_70 mvX7_begin ⟨7, _, (fr_obT (by omega) (by omega)), rfl, rfl⟩ (Nat.le_of_ble_eq_true rfl) (kcX7_begin (fr_obT (by omega) (by omega))) rfl rfl (Nat.le_of_ble_eq_true rfl) ?_
  refine fr_al0 dX1_plant_15 ?_
  refine fr_dup dX1_plant_16 rfl ?_
  refine fr_geti (kz := 3) dX1_plant_17 flX1_58 ⟨by decide, by decide, rfl⟩ rfl rfl ?_
  refine fr_dupx1 dX1_plant_20 rfl rfl ?_
  refine fr_iconst dX1_plant_21 ?_
  refine fr_iadd dX1_plant_22 ?_
  refine fr_put (kz := 3) dX1_plant_23 fpX1_58 ⟨by decide, by decide, rfl⟩ rfl rfl (fun h => by cases h) ?_
  exact fr_iret dX1_plant_26 rfl (fr_e (by rw [sp_begin_nc _ _ _ _ (by omega), eN]) (by rw [sp_begin_nc _ _ _ _ (by omega), eN]))
set_option maxRecDepth 20000 in
theorem kcX1_plantCutting {l : Launch} {κ : fr_Ka} {w : Int → Int} {μ : fr_Me} (hG : fr_G w μ) (hI : fr_I w) {t : Int} (hn : w 0 < 6) (ht : 0 ≤ t ∧ t < w 0) : fr_C l κ fmX1_plantCutting 3 [fr_r κ 1, fr_i t] μ (fr_Ei (w 0) (fr_up (sp_cut μ (36 + w 0) (36 + t)) 1 3 (w 0 + 1))) := by
  have eN := hG.n
  have eM := hG.many
  have iN := hI.n
  have iM := hI.many
  have eT := hG.tree (t := t) (by omega) (by omega)
  have iT := hI.tree (t := t) (by omega) (by omega)
  unfold fr_Gt at eT
  unfold fr_It at iT
  refine fr_enter (by decide +kernel) (ls := [some (fr_r κ 1), some (fr_i t)]) rfl (Nat.le_of_ble_eq_true rfl) ?_
  refine fr_al0 dX1_plantCutting_0 ?_
  refine fr_getr (cz := 2) dX1_plantCutting_1 flX1_11 ⟨by decide, by decide, rfl⟩ rfl rfl ?_
  refine fr_al0 dX1_plantCutting_4 ?_
  refine fr_geti (kz := 3) dX1_plantCutting_5 flX1_58 ⟨by decide, by decide, rfl⟩ rfl rfl ?_
  rw [eN]
  refine fr_aaT dX1_plantCutting_8 (by omega) (by omega) ?_
  refine fr_al0 dX1_plantCutting_9 ?_
  refine fr_getr (cz := 2) dX1_plantCutting_10 flX1_11 ⟨by decide, by decide, rfl⟩ rfl rfl ?_
  refine fr_il1 dX1_plantCutting_13 ?_
  refine fr_aaT dX1_plantCutting_14 (by omega) (by omega) ?_
  refine fr_cVv (mi' := fmX7_becomeCuttingOf) dX1_plantCutting_15 mlX1_74 mvX7_becomeCuttingOf ⟨7, _, (fr_obT (by omega) (by omega)), rfl, rfl⟩ (Nat.le_of_ble_eq_true rfl) (kcX7_becomeCuttingOf (fr_obT (by omega) (by omega)) (fr_obT (by omega) (by omega)) (by omega) (by omega) (by omega)) rfl rfl (Nat.le_of_ble_eq_true rfl) ?_
  refine fr_al0 dX1_plantCutting_18 ?_
  refine fr_dup dX1_plantCutting_19 rfl ?_
  refine fr_geti (kz := 3) dX1_plantCutting_20 flX1_58 ⟨by decide, by decide, rfl⟩ rfl rfl ?_
  refine fr_dupx1 dX1_plantCutting_23 rfl rfl ?_
  refine fr_iconst dX1_plantCutting_24 ?_
  refine fr_iadd dX1_plantCutting_25 ?_
  refine fr_put (kz := 3) dX1_plantCutting_26 fpX1_58 ⟨by decide, by decide, rfl⟩ rfl rfl (fun h => by cases h) ?_
  exact fr_iret dX1_plantCutting_29 rfl (fr_e (by rw [sp_cut_nc _ _ (by omega), eN]) (by rw [sp_cut_nc _ _ (by omega), eN]))
set_option maxRecDepth 20000 in
theorem kcX1_welcome {l : Launch} {κ : fr_Ka} {w : Int → Int} {μ : fr_Me} (hG : fr_G w μ) (hI : fr_I w) {a b d e : Int} (hn : w 43 < 5) : fr_C l κ fmX1_welcome 2 [fr_r κ 1, fr_i a, fr_i b, fr_i d, fr_i e] μ (fr_Ei (w 43) (fr_up (fr_up (fr_up (fr_up (fr_up μ (48 + w 43) 0 a) (48 + w 43) 1 b) (48 + w 43) 2 d) (48 + w 43) 3 e) 1 4 (w 43 + 1))) := by
  have eN := hG.n
  have eM := hG.many
  have iN := hI.n
  have iM := hI.many
  refine fr_enter (by decide +kernel) (ls := [some (fr_r κ 1), some (fr_i a), some (fr_i b), some (fr_i d), some (fr_i e)]) rfl (Nat.le_of_ble_eq_true rfl) ?_
  refine fr_al0 dX1_welcome_0 ?_
  refine fr_getr (cz := 3) dX1_welcome_1 flX1_19 ⟨by decide, by decide, rfl⟩ rfl rfl ?_
  refine fr_al0 dX1_welcome_4 ?_
  refine fr_geti (kz := 4) dX1_welcome_5 flX1_61 ⟨by decide, by decide, rfl⟩ rfl rfl ?_
  rw [eM]
  refine fr_aaC dX1_welcome_8 (by omega) (by omega) ?_
  refine fr_il1 dX1_welcome_9 ?_
  refine fr_il2 dX1_welcome_10 ?_
  refine fr_il3 dX1_welcome_11 ?_
  refine fr_il4 dX1_welcome_12 ?_
  refine fr_cVv (mi' := fmX0_become) dX1_welcome_14 mlX1_49 mvX0_become ⟨0, _, (fr_obC (by omega) (by omega)), rfl, rfl⟩ (Nat.le_of_ble_eq_true rfl) (kcX0_become (fr_obC (by omega) (by omega))) rfl rfl (Nat.le_of_ble_eq_true rfl) ?_
  refine fr_al0 dX1_welcome_17 ?_
  refine fr_dup dX1_welcome_18 rfl ?_
  refine fr_geti (kz := 4) dX1_welcome_19 flX1_61 ⟨by decide, by decide, rfl⟩ rfl rfl ?_
  refine fr_dupx1 dX1_welcome_22 rfl rfl ?_
  refine fr_iconst dX1_welcome_23 ?_
  refine fr_iadd dX1_welcome_24 ?_
  refine fr_put (kz := 4) dX1_welcome_25 fpX1_61 ⟨by decide, by decide, rfl⟩ rfl rfl (fun h => by cases h) ?_
  exact fr_iret dX1_welcome_28 rfl (fr_e (by simp only [fr_up_nc _ _ _ (by omega : (1 : Int) ≠ 48 + w 43), eM]) (by simp only [fr_up_nc _ _ _ (by omega : (1 : Int) ≠ 48 + w 43), eM]))
set_option maxRecDepth 20000 in
theorem kcX1_climbsElsewhere {l : Launch} {κ : fr_Ka} {w : Int → Int} {μ : fr_Me} (hG : fr_G w μ) (hI : fr_I w) {t c : Int} (rt : -2147483648 ≤ t ∧ t ≤ 2147483647) (rc : -2147483648 ≤ c ∧ c ≤ 2147483647) : fr_C l κ fmX1_climbsElsewhere 1 [fr_r κ 1, fr_i t, fr_i c] μ (fr_Ei (fr_b (sp_else w t c)) μ) := by
  have eN := hG.n
  have eM := hG.many
  have iN := hI.n
  have iM := hI.many
  refine fr_enter (by decide +kernel) (ls := [some (fr_r κ 1), some (fr_i t), some (fr_i c), none]) rfl (Nat.le_of_ble_eq_true rfl) ?_
  refine fr_iconst dX1_climbsElsewhere_0 ?_
  refine fr_is3 dX1_climbsElsewhere_1 rfl (Nat.le_of_ble_eq_true rfl) ?_
  refine fr_wk ?_ (ls := [some (fr_r κ 1), some (fr_i t), some (fr_i c), some (fr_i (0 : Int))]) ⟨rfl, rfl, rfl, rfl, trivial⟩
  refine (fr_down (P := fun j : Nat => (∀ u : Int, 0 ≤ u → u < j → ¬ (u ≠ t ∧ w (7 + u) = c)) → fr_A l κ fmX1_climbsElsewhere 1 (fr_Ei (fr_b (sp_else w t c)) μ) 2 [some (fr_r κ 1), some (fr_i t), some (fr_i c), some (fr_i (j : Int))] [] μ) (w 0).toNat ?_ (fun j hj2 ih2 => ?_)) (fun u h0 h1 => by omega)
  · skip
    intro hall2
    refine fr_il3 dX1_climbsElsewhere_2 ?_
    refine fr_al0 dX1_climbsElsewhere_3 ?_
    refine fr_geti (kz := 3) dX1_climbsElsewhere_4 flX1_58 ⟨by decide, by decide, rfl⟩ rfl rfl ?_
    refine fr_icmp_ge (tgt := 36) dX1_climbsElsewhere_7 (by decide) (by omega) (by omega) (fun h1 => ?_) (fun h1 => ?_)
    · skip
      refine fr_iconst dX1_climbsElsewhere_36 ?_
      exact fr_zret dX1_climbsElsewhere_37 rfl (Or.inl rfl) (fr_e (by first | exact (fr_bT ⟨(j : Int), by omega, by omega, by omega, by omega⟩).symm | exact (fr_bF (fun ⟨u, h0, h1, h2, h3⟩ => hall2 u h0 (by omega) ⟨h2, h3⟩)).symm) rfl)
    · skip
      exfalso; omega
  · skip
    intro hall2
    have eT := hG.tree (t := (j : Int)) (by omega) (by omega)
    have iT := hI.tree (t := (j : Int)) (by omega) (by omega)
    unfold fr_Gt at eT
    unfold fr_It at iT
    refine fr_il3 dX1_climbsElsewhere_2 ?_
    refine fr_al0 dX1_climbsElsewhere_3 ?_
    refine fr_geti (kz := 3) dX1_climbsElsewhere_4 flX1_58 ⟨by decide, by decide, rfl⟩ rfl rfl ?_
    refine fr_icmp_ge (tgt := 36) dX1_climbsElsewhere_7 (by decide) (by omega) (by omega) (fun h2 => ?_) (fun h2 => ?_)
    · skip
      exfalso; omega
    · skip
      refine fr_il3 dX1_climbsElsewhere_10 ?_
      refine fr_il1 dX1_climbsElsewhere_11 ?_
      refine fr_icmp_eq (tgt := 30) dX1_climbsElsewhere_12 (by decide) (by omega) (by omega) (fun h3 => ?_) (fun h3 => ?_)
      · skip
        refine fr_ii3 dX1_climbsElsewhere_30 rfl (Nat.le_of_ble_eq_true rfl) ?_
        refine fr_goto (tgt := 2) dX1_climbsElsewhere_33 (by decide) ?_
        exact fr_wk (ih2 (fun u h0 h1 => (by omega : u < j ∨ u = j).elim (fun h => hall2 u h0 h) (fun h => by subst h; intro h9; omega))) ⟨rfl, rfl, rfl, rfl, trivial⟩
      · skip
        refine fr_al0 dX1_climbsElsewhere_15 ?_
        refine fr_getr (cz := 2) dX1_climbsElsewhere_16 flX1_11 ⟨by decide, by decide, rfl⟩ rfl rfl ?_
        refine fr_il3 dX1_climbsElsewhere_19 ?_
        refine fr_aaT dX1_climbsElsewhere_20 (by omega) (by omega) ?_
        refine fr_geti (kz := 1) dX1_climbsElsewhere_21 flX1_106 (fr_obT (by omega) (by omega)) rfl rfl ?_
        refine fr_il2 dX1_climbsElsewhere_24 ?_
        refine fr_icmp_ne (tgt := 30) dX1_climbsElsewhere_25 (by decide) (by omega) (by omega) (fun h4 => ?_) (fun h4 => ?_)
        · skip
          refine fr_ii3 dX1_climbsElsewhere_30 rfl (Nat.le_of_ble_eq_true rfl) ?_
          refine fr_goto (tgt := 2) dX1_climbsElsewhere_33 (by decide) ?_
          exact fr_wk (ih2 (fun u h0 h1 => (by omega : u < j ∨ u = j).elim (fun h => hall2 u h0 h) (fun h => by subst h; intro h9; omega))) ⟨rfl, rfl, rfl, rfl, trivial⟩
        · skip
          refine fr_iconst dX1_climbsElsewhere_28 ?_
          exact fr_zret dX1_climbsElsewhere_29 rfl (Or.inr rfl) (fr_e (by first | exact (fr_bT ⟨(j : Int), by omega, by omega, by omega, by omega⟩).symm | exact (fr_bF (fun ⟨u, h0, h1, h2, h3⟩ => hall2 u h0 (by omega) ⟨h2, h3⟩)).symm) rfl)
set_option maxRecDepth 20000 in
theorem kcX1_mayClimbNow {l : Launch} {κ : fr_Ka} {w : Int → Int} {μ : fr_Me} (hG : fr_G w μ) (hI : fr_I w) {t c : Int} (ht : 0 ≤ t ∧ t < w 0) (rc : -2147483648 ≤ c ∧ c ≤ 2147483647) : fr_C l κ fmX1_mayClimbNow 3 [fr_r κ 1, fr_i t, fr_i c] μ (fr_Ei (fr_b (sp_may w t c)) μ) := by
  have eN := hG.n
  have eM := hG.many
  have iN := hI.n
  have iM := hI.many
  have eT := hG.tree (t := t) (by omega) (by omega)
  have iT := hI.tree (t := t) (by omega) (by omega)
  unfold fr_Gt at eT
  unfold fr_It at iT
  obtain ⟨e0, e1, e2, e3, e4, e5, e6⟩ := eT
  refine fr_enter (by decide +kernel) (ls := [some (fr_r κ 1), some (fr_i t), some (fr_i c)]) rfl (Nat.le_of_ble_eq_true rfl) ?_
  refine fr_al0 dX1_mayClimbNow_0 ?_
  refine fr_il2 dX1_mayClimbNow_1 ?_
  refine fr_cVi (mi' := fmX1_hasClimber) dX1_mayClimbNow_2 mlX1_81 mvX1_hasClimber ⟨1, _, ⟨by decide, by decide, rfl⟩, rfl, rfl⟩ (Nat.le_of_ble_eq_true rfl) (kcX1_hasClimber hG hI (by omega)) rfl rfl (Nat.le_of_ble_eq_true rfl) ?_
  refine fr_ifb_ne (tgt := 10) dX1_mayClimbNow_5 (by decide) (fun h1 => ?_) (fun h1 => ?_)
  · skip
    have eC := hG.cl (c := c) (by omega) (by omega)
    have iC := hI.cl (c := c) (by omega) (by omega)
    unfold fr_Gc at eC
    unfold fr_Ic at iC
    refine fr_al0 dX1_mayClimbNow_10 ?_
    refine fr_getr (cz := 2) dX1_mayClimbNow_11 flX1_11 ⟨by decide, by decide, rfl⟩ rfl rfl ?_
    refine fr_il1 dX1_mayClimbNow_14 ?_
    refine fr_aaT dX1_mayClimbNow_15 (by omega) (by omega) ?_
    refine fr_geti (kz := 6) dX1_mayClimbNow_16 flX1_92 (fr_obT (by omega) (by omega)) rfl rfl ?_
    refine fr_il2 dX1_mayClimbNow_19 ?_
    rw [e6]
    refine fr_cSi (mi' := fmX10_isIn) dX1_mayClimbNow_20 mlX1_95 msX10_isIn (Nat.le_of_ble_eq_true rfl) (kcX10_isIn) rfl rfl (Nat.le_of_ble_eq_true rfl) ?_
    refine fr_ifb_ne (tgt := 51) dX1_mayClimbNow_23 (by decide) (fun h2 => ?_) (fun h2 => ?_)
    · skip
      refine fr_iconst dX1_mayClimbNow_51 ?_
      exact fr_zret dX1_mayClimbNow_52 rfl (Or.inl rfl) (fr_e (by first | exact (fr_bT (by unfold sp_may; first | exact Or.inl (by assumption) | exact Or.inr ⟨by assumption, Or.inl (by omega)⟩ | exact Or.inr ⟨by assumption, Or.inr (by assumption)⟩)).symm | exact (fr_bF (by unfold sp_may; intro h9; rcases h9 with h9 | ⟨h9, h8 | h8⟩ <;> first | omega | (exact h9 (by assumption)) | (exact h8 (by assumption)))).symm) rfl)
    · skip
      refine fr_al0 dX1_mayClimbNow_26 ?_
      refine fr_getr (cz := 3) dX1_mayClimbNow_27 flX1_19 ⟨by decide, by decide, rfl⟩ rfl rfl ?_
      refine fr_il2 dX1_mayClimbNow_30 ?_
      refine fr_aaC dX1_mayClimbNow_31 (by omega) (by omega) ?_
      refine fr_cVi (mi' := fmX0_isMonk) dX1_mayClimbNow_32 mlX1_99 mvX0_isMonk ⟨0, _, (fr_obC (by omega) (by omega)), rfl, rfl⟩ (Nat.le_of_ble_eq_true rfl) (kcX0_isMonk (fr_obC (by omega) (by omega)) (by omega)) rfl rfl (Nat.le_of_ble_eq_true rfl) ?_
      refine fr_ifb_ne (tgt := 47) dX1_mayClimbNow_35 (by decide) (fun h3 => ?_) (fun h3 => ?_)
      · skip
        refine fr_iconst dX1_mayClimbNow_47 ?_
        refine fr_goto (tgt := 52) dX1_mayClimbNow_48 (by decide) ?_
        exact fr_zret dX1_mayClimbNow_52 rfl (Or.inr rfl) (fr_e (by first | exact (fr_bT (by unfold sp_may; first | exact Or.inl (by assumption) | exact Or.inr ⟨by assumption, Or.inl (by omega)⟩ | exact Or.inr ⟨by assumption, Or.inr (by assumption)⟩)).symm | exact (fr_bF (by unfold sp_may; intro h9; rcases h9 with h9 | ⟨h9, h8 | h8⟩ <;> first | omega | (exact h9 (by assumption)) | (exact h8 (by assumption)))).symm) rfl)
      · skip
        refine fr_al0 dX1_mayClimbNow_38 ?_
        refine fr_il1 dX1_mayClimbNow_39 ?_
        refine fr_il2 dX1_mayClimbNow_40 ?_
        refine fr_cVi (mi' := fmX1_climbsElsewhere) dX1_mayClimbNow_41 mlX1_103 mvX1_climbsElsewhere ⟨1, _, ⟨by decide, by decide, rfl⟩, rfl, rfl⟩ (Nat.le_of_ble_eq_true rfl) (kcX1_climbsElsewhere hG hI (by omega) (by omega)) rfl rfl (Nat.le_of_ble_eq_true rfl) ?_
        refine fr_ifb_ne (tgt := 51) dX1_mayClimbNow_44 (by decide) (fun h4 => ?_) (fun h4 => ?_)
        · skip
          refine fr_iconst dX1_mayClimbNow_51 ?_
          exact fr_zret dX1_mayClimbNow_52 rfl (Or.inl rfl) (fr_e (by first | exact (fr_bT (by unfold sp_may; first | exact Or.inl (by assumption) | exact Or.inr ⟨by assumption, Or.inl (by omega)⟩ | exact Or.inr ⟨by assumption, Or.inr (by assumption)⟩)).symm | exact (fr_bF (by unfold sp_may; intro h9; rcases h9 with h9 | ⟨h9, h8 | h8⟩ <;> first | omega | (exact h9 (by assumption)) | (exact h8 (by assumption)))).symm) rfl)
        · skip
          refine fr_iconst dX1_mayClimbNow_47 ?_
          refine fr_goto (tgt := 52) dX1_mayClimbNow_48 (by decide) ?_
          exact fr_zret dX1_mayClimbNow_52 rfl (Or.inr rfl) (fr_e (by first | exact (fr_bT (by unfold sp_may; first | exact Or.inl (by assumption) | exact Or.inr ⟨by assumption, Or.inl (by omega)⟩ | exact Or.inr ⟨by assumption, Or.inr (by assumption)⟩)).symm | exact (fr_bF (by unfold sp_may; intro h9; rcases h9 with h9 | ⟨h9, h8 | h8⟩ <;> first | omega | (exact h9 (by assumption)) | (exact h8 (by assumption)))).symm) rfl)
  · skip
    refine fr_iconst dX1_mayClimbNow_8 ?_
    exact fr_zret dX1_mayClimbNow_9 rfl (Or.inr rfl) (fr_e (by first | exact (fr_bT (by unfold sp_may; first | exact Or.inl (by assumption) | exact Or.inr ⟨by assumption, Or.inl (by omega)⟩ | exact Or.inr ⟨by assumption, Or.inr (by assumption)⟩)).symm | exact (fr_bF (by unfold sp_may; intro h9; rcases h9 with h9 | ⟨h9, h8 | h8⟩ <;> first | omega | (exact h9 (by assumption)) | (exact h8 (by assumption)))).symm) rfl)
set_option maxRecDepth 20000 in
theorem kcX1_climbersNow {l : Launch} {κ : fr_Ka} {w : Int → Int} {μ : fr_Me} (hG : fr_G w μ) (hI : fr_I w)  : fr_C l κ fmX1_climbersNow 1 [fr_r κ 1] μ (fr_Ei (fr_and (sp_orl (w 0).toNat (fun t => fr_shl 1 (w (7 + t)))) (-33)) μ) := by
  have eN := hG.n
  have eM := hG.many
  have iN := hI.n
  have iM := hI.many
  refine fr_enter (by decide +kernel) (ls := [some (fr_r κ 1), none, none]) rfl (Nat.le_of_ble_eq_true rfl) ?_
  refine fr_iconst dX1_climbersNow_0 ?_
  refine fr_is1 dX1_climbersNow_1 rfl (Nat.le_of_ble_eq_true rfl) ?_
  refine fr_iconst dX1_climbersNow_2 ?_
  refine fr_is2 dX1_climbersNow_3 rfl (Nat.le_of_ble_eq_true rfl) ?_
  refine fr_wk ?_ (ls := [some (fr_r κ 1), some (fr_i (sp_orl 0 (fun t => fr_shl 1 (w (7 + t))))), some (fr_i (0 : Int))]) ⟨rfl, rfl, rfl, trivial⟩
  refine fr_down (P := fun j : Nat => fr_A l κ fmX1_climbersNow 1 (fr_Ei (fr_and (sp_orl (w 0).toNat (fun t => fr_shl 1 (w (7 + t)))) (-33)) μ) 4 [some (fr_r κ 1), some (fr_i (sp_orl j (fun t => fr_shl 1 (w (7 + t))))), some (fr_i (j : Int))] [] μ) (w 0).toNat ?_ (fun j hj4 ih4 => ?_)
  · skip
    refine fr_il2 dX1_climbersNow_4 ?_
    refine fr_al0 dX1_climbersNow_5 ?_
    refine fr_geti (kz := 3) dX1_climbersNow_6 flX1_58 ⟨by decide, by decide, rfl⟩ rfl rfl ?_
    refine fr_icmp_ge (tgt := 32) dX1_climbersNow_9 (by decide) (by omega) (by omega) (fun h1 => ?_) (fun h1 => ?_)
    · skip
      refine fr_il1 dX1_climbersNow_32 ?_
      refine fr_bipush dX1_climbersNow_33 (by decide) ?_
      refine fr_iand dX1_climbersNow_35 ?_
      exact fr_iret dX1_climbersNow_36 rfl (fr_e rfl rfl)
    · skip
      exfalso; omega
  · skip
    have eT := hG.tree (t := (j : Int)) (by omega) (by omega)
    have iT := hI.tree (t := (j : Int)) (by omega) (by omega)
    unfold fr_Gt at eT
    unfold fr_It at iT
    refine fr_il2 dX1_climbersNow_4 ?_
    refine fr_al0 dX1_climbersNow_5 ?_
    refine fr_geti (kz := 3) dX1_climbersNow_6 flX1_58 ⟨by decide, by decide, rfl⟩ rfl rfl ?_
    refine fr_icmp_ge (tgt := 32) dX1_climbersNow_9 (by decide) (by omega) (by omega) (fun h2 => ?_) (fun h2 => ?_)
    · skip
      exfalso; omega
    · skip
      refine fr_il1 dX1_climbersNow_12 ?_
      refine fr_iconst dX1_climbersNow_13 ?_
      refine fr_al0 dX1_climbersNow_14 ?_
      refine fr_getr (cz := 2) dX1_climbersNow_15 flX1_11 ⟨by decide, by decide, rfl⟩ rfl rfl ?_
      refine fr_il2 dX1_climbersNow_18 ?_
      refine fr_aaT dX1_climbersNow_19 (by omega) (by omega) ?_
      refine fr_geti (kz := 1) dX1_climbersNow_20 flX1_106 (fr_obT (by omega) (by omega)) rfl rfl ?_
      refine fr_ishl dX1_climbersNow_23 ?_
      refine fr_ior dX1_climbersNow_24 ?_
      refine fr_is1 dX1_climbersNow_25 rfl (Nat.le_of_ble_eq_true rfl) ?_
      refine fr_ii2 dX1_climbersNow_26 rfl (Nat.le_of_ble_eq_true rfl) ?_
      refine fr_goto (tgt := 4) dX1_climbersNow_29 (by decide) ?_
      rw [eT.2.1]
      exact fr_wk (ih4) ⟨rfl, rfl, rfl, trivial⟩
set_option maxRecDepth 20000 in
theorem kcX1_expectedTenths {l : Launch} {κ : fr_Ka} {w : Int → Int} {μ : fr_Me} (hG : fr_G w μ) (hI : fr_I w)  : fr_C l κ fmX1_expectedTenths 5 [fr_r κ 1] μ (fr_Ei (sp_sum (w 0).toNat (sp_ex1 w)) μ) := by
  have eN := hG.n
  have eM := hG.many
  have iN := hI.n
  have iM := hI.many
  refine fr_enter (by decide +kernel) (ls := [some (fr_r κ 1), none, none, none, none, none, none]) rfl (Nat.le_of_ble_eq_true rfl) ?_
  refine fr_iconst dX1_expectedTenths_0 ?_
  refine fr_is1 dX1_expectedTenths_1 rfl (Nat.le_of_ble_eq_true rfl) ?_
  refine fr_iconst dX1_expectedTenths_2 ?_
  refine fr_is2 dX1_expectedTenths_3 rfl (Nat.le_of_ble_eq_true rfl) ?_
  refine fr_wk ?_ (ls := [some (fr_r κ 1), some (fr_i (sp_sum 0 (sp_ex1 w))), some (fr_i (0 : Int)), none, none, none, none]) ⟨rfl, rfl, rfl, trivial⟩
  refine fr_down (P := fun j : Nat => fr_A l κ fmX1_expectedTenths 5 (fr_Ei (sp_sum (w 0).toNat (sp_ex1 w)) μ) 4 [some (fr_r κ 1), some (fr_i (sp_sum j (sp_ex1 w))), some (fr_i (j : Int)), none, none, none, none] [] μ) (w 0).toNat ?_ (fun j hj4 ih4 => ?_)
  · skip
    refine fr_il2 dX1_expectedTenths_4 ?_
    refine fr_al0 dX1_expectedTenths_5 ?_
    refine fr_geti (kz := 3) dX1_expectedTenths_6 flX1_58 ⟨by decide, by decide, rfl⟩ rfl rfl ?_
    refine fr_icmp_ge (tgt := 105) dX1_expectedTenths_9 (by decide) (by omega) (by omega) (fun h1 => ?_) (fun h1 => ?_)
    · skip
      refine fr_il1 dX1_expectedTenths_105 ?_
      exact fr_iret dX1_expectedTenths_106 rfl (fr_e rfl rfl)
    · skip
      exfalso; omega
  · skip
    have eT := hG.tree (t := (j : Int)) (by omega) (by omega)
    have iT := hI.tree (t := (j : Int)) (by omega) (by omega)
    unfold fr_Gt at eT
    unfold fr_It at iT
    obtain ⟨e0, e1, e2, e3, e4, e5, e6⟩ := eT
    refine fr_il2 dX1_expectedTenths_4 ?_
    refine fr_al0 dX1_expectedTenths_5 ?_
    refine fr_geti (kz := 3) dX1_expectedTenths_6 flX1_58 ⟨by decide, by decide, rfl⟩ rfl rfl ?_
    refine fr_icmp_ge (tgt := 105) dX1_expectedTenths_9 (by decide) (by omega) (by omega) (fun h2 => ?_) (fun h2 => ?_)
    · skip
      exfalso; omega
    · skip
      refine fr_al0 dX1_expectedTenths_12 ?_
      refine fr_getr (cz := 2) dX1_expectedTenths_13 flX1_11 ⟨by decide, by decide, rfl⟩ rfl rfl ?_
      refine fr_il2 dX1_expectedTenths_16 ?_
      refine fr_aaT dX1_expectedTenths_17 (by omega) (by omega) ?_
      refine fr_as3 dX1_expectedTenths_18 rfl (Nat.le_of_ble_eq_true rfl) ?_
      refine fr_al0 dX1_expectedTenths_19 ?_
      refine fr_al3 dX1_expectedTenths_20 ?_
      refine fr_geti (kz := 1) dX1_expectedTenths_21 flX1_106 (fr_obT (by omega) (by omega)) rfl rfl ?_
      refine fr_cVi (mi' := fmX1_oddsOf) dX1_expectedTenths_24 mlX1_147 mvX1_oddsOf ⟨1, _, ⟨by decide, by decide, rfl⟩, rfl, rfl⟩ (Nat.le_of_ble_eq_true rfl) (kcX1_oddsOf hG hI (by omega)) rfl rfl (Nat.le_of_ble_eq_true rfl) ?_
      refine fr_is4 dX1_expectedTenths_27 rfl (Nat.le_of_ble_eq_true rfl) ?_
      refine fr_al3 dX1_expectedTenths_29 ?_
      refine fr_geti (kz := 0) dX1_expectedTenths_30 flX1_116 (fr_obT (by omega) (by omega)) rfl rfl ?_
      refine fr_iconst dX1_expectedTenths_33 ?_
      refine fr_cSi (mi' := fmX7_shareOfLast) dX1_expectedTenths_34 mlX1_121 msX7_shareOfLast (Nat.le_of_ble_eq_true rfl) (kcX7_shareOfLast (by omega) (by omega)) rfl rfl (Nat.le_of_ble_eq_true rfl) ?_
      refine fr_bipush dX1_expectedTenths_37 (by decide) ?_
      refine fr_il4 dX1_expectedTenths_39 ?_
      refine fr_isub dX1_expectedTenths_41 ?_
      refine fr_imul dX1_expectedTenths_42 ?_
      refine fr_al3 dX1_expectedTenths_43 ?_
      refine fr_geti (kz := 0) dX1_expectedTenths_44 flX1_116 (fr_obT (by omega) (by omega)) rfl rfl ?_
      refine fr_iconst dX1_expectedTenths_47 ?_
      refine fr_cSi (mi' := fmX7_shareOfLast) dX1_expectedTenths_48 mlX1_121 msX7_shareOfLast (Nat.le_of_ble_eq_true rfl) (kcX7_shareOfLast (by omega) (by omega)) rfl rfl (Nat.le_of_ble_eq_true rfl) ?_
      refine fr_il4 dX1_expectedTenths_51 ?_
      refine fr_imul dX1_expectedTenths_53 ?_
      refine fr_iadd dX1_expectedTenths_54 ?_
      refine fr_is5 dX1_expectedTenths_55 rfl (Nat.le_of_ble_eq_true rfl) ?_
      refine fr_al3 dX1_expectedTenths_57 ?_
      refine fr_geti (kz := 0) dX1_expectedTenths_58 flX1_116 (fr_obT (by omega) (by omega)) rfl rfl ?_
      refine fr_al3 dX1_expectedTenths_61 ?_
      refine fr_geti (kz := 4) dX1_expectedTenths_62 flX1_117 (fr_obT (by omega) (by omega)) rfl rfl ?_
      refine fr_cSi (mi' := fmX7_shareOfBefore) dX1_expectedTenths_65 mlX1_131 msX7_shareOfBefore (Nat.le_of_ble_eq_true rfl) (kcX7_shareOfBefore (by omega) (by omega)) rfl rfl (Nat.le_of_ble_eq_true rfl) ?_
      refine fr_bipush dX1_expectedTenths_68 (by decide) ?_
      refine fr_imul dX1_expectedTenths_70 ?_
      refine fr_is6 dX1_expectedTenths_71 rfl (Nat.le_of_ble_eq_true rfl) ?_
      refine fr_il1 dX1_expectedTenths_73 ?_
      refine fr_il5 dX1_expectedTenths_74 ?_
      refine fr_al0 dX1_expectedTenths_76 ?_
      refine fr_al3 dX1_expectedTenths_77 ?_
      refine fr_geti (kz := 1) dX1_expectedTenths_78 flX1_106 (fr_obT (by omega) (by omega)) rfl rfl ?_
      refine fr_cVi (mi' := fmX1_priceOfBrought) dX1_expectedTenths_81 mlX1_150 mvX1_priceOfBrought ⟨1, _, ⟨by decide, by decide, rfl⟩, rfl, rfl⟩ (Nat.le_of_ble_eq_true rfl) (kcX1_priceOfBrought hG hI (by omega)) rfl rfl (Nat.le_of_ble_eq_true rfl) ?_
      refine fr_imul dX1_expectedTenths_84 ?_
      refine fr_il6 dX1_expectedTenths_85 ?_
      refine fr_al0 dX1_expectedTenths_87 ?_
      refine fr_al3 dX1_expectedTenths_88 ?_
      refine fr_geti (kz := 2) dX1_expectedTenths_89 flX1_109 (fr_obT (by omega) (by omega)) rfl rfl ?_
      refine fr_cVi (mi' := fmX1_priceOfBrought) dX1_expectedTenths_92 mlX1_150 mvX1_priceOfBrought ⟨1, _, ⟨by decide, by decide, rfl⟩, rfl, rfl⟩ (Nat.le_of_ble_eq_true rfl) (kcX1_priceOfBrought hG hI (by omega)) rfl rfl (Nat.le_of_ble_eq_true rfl) ?_
      refine fr_imul dX1_expectedTenths_95 ?_
      refine fr_iadd dX1_expectedTenths_96 ?_
      refine fr_iadd dX1_expectedTenths_97 ?_
      refine fr_is1 dX1_expectedTenths_98 rfl (Nat.le_of_ble_eq_true rfl) ?_
      refine fr_ii2 dX1_expectedTenths_99 rfl (Nat.le_of_ble_eq_true rfl) ?_
      refine fr_goto (tgt := 4) dX1_expectedTenths_102 (by decide) ?_
      rw [e0, e1, e2, e4]
      exact fr_wk (ih4) ⟨rfl, rfl, rfl, trivial⟩
set_option maxRecDepth 20000 in
theorem kcX1_drawByTen {l : Launch} {κ : fr_Ka} {μ : fr_Me} (hd : 0 ≤ μ 1 5 ∧ μ 1 5 ≤ 2147483647) : fr_C l κ fmX1_drawByTen 1 [fr_r κ 1] μ (fr_Ei (((sp_dr (μ 1 5)).tdiv 65536).tmod 10) (fr_up μ 1 5 (sp_dr (μ 1 5)))) := by
  have hr := sp_dr_rg (μ 1 5)
  have hq : (sp_dr (μ 1 5)).tdiv 65536 = sp_dr (μ 1 5) / 65536 := Int.tdiv_eq_ediv_of_nonneg hr.1
  refine fr_enter (by decide +kernel) (ls := [some (fr_r κ 1)]) rfl (Nat.le_of_ble_eq_true rfl) ?_
  refine fr_al0 dX1_drawByTen_0 ?_
  refine fr_al0 dX1_drawByTen_1 ?_
  refine fr_geti (kz := 5) dX1_drawByTen_2 flX1_27 ⟨by decide, by decide, rfl⟩ rfl rfl ?_
  refine fr_ldc dX1_drawByTen_5 cnX1_160 ?_
  refine fr_imul dX1_drawByTen_7 ?_
  refine fr_sipush dX1_drawByTen_8 (by decide) ?_
  refine fr_iadd dX1_drawByTen_11 ?_
  refine fr_ldc dX1_drawByTen_12 cnX1_161 ?_
  refine fr_iand dX1_drawByTen_14 ?_
  rw [show fr_and (μ 1 5 * 1103515245 + 12345) 2147483647 = sp_dr (μ 1 5) from fr_and31 _]
  refine fr_put (kz := 5) dX1_drawByTen_15 fpX1_27 ⟨by decide, by decide, rfl⟩ rfl rfl (fun h => by cases h) ?_
  refine fr_al0 dX1_drawByTen_18 ?_
  refine fr_geti (kz := 5) dX1_drawByTen_19 flX1_27 ⟨by decide, by decide, rfl⟩ rfl rfl ?_
  rw [fr_up_eq]
  refine fr_ldc dX1_drawByTen_22 cnX1_162 ?_
  refine fr_idiv dX1_drawByTen_24 (by omega) (by omega) (by omega) (by omega) ?_
  refine fr_bipush dX1_drawByTen_25 (by decide) ?_
  refine fr_irem dX1_drawByTen_27 (by omega) (by omega) (by omega) ?_
  exact fr_iret dX1_drawByTen_28 rfl (fr_e rfl rfl)
