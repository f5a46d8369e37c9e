/-! the class: a plan, its small methods -/
set_option maxRecDepth 20000 in
theorem kcX3_valueBy {l : Launch} {κ : fr_Ka} {μ : fr_Me} {t c : Int} (ht : 0 ≤ t ∧ t < 6) (hc : 0 ≤ c ∧ c < 6) : fr_C l κ fmX3_valueBy 1 [fr_r κ 15, fr_i t, fr_i c] μ (fr_Ei (μ 21 (6 * t + c)) μ) := by
  refine fr_enter (by decide +kernel) (ls := [some (fr_r κ 15), some (fr_i t), some (fr_i c)]) rfl (Nat.le_of_ble_eq_true rfl) ?_
  refine fr_al0 dX3_valueBy_0 ?_
  refine fr_getr (cz := 21) dX3_valueBy_1 flX3_27 ⟨by decide, by decide, rfl⟩ rfl rfl ?_
  refine fr_il1 dX3_valueBy_4 ?_
  refine fr_bipush dX3_valueBy_5 (by decide) ?_
  refine fr_imul dX3_valueBy_7 ?_
  refine fr_il2 dX3_valueBy_8 ?_
  refine fr_iadd dX3_valueBy_9 ?_
  refine fr_iald dX3_valueBy_10 ⟨by decide, by decide, rfl, by decide⟩ (by omega) (by omega) ?_
  exact fr_iret dX3_valueBy_11 rfl (fr_e (congrArg (μ 21) (by omega)) rfl)
set_option maxRecDepth 20000 in
theorem kcX3_join {l : Launch} {κ : fr_Ka} {μ : fr_Me} {u c : Int} (hc : 0 ≤ c ∧ c < 6) : fr_C l κ fmX3_join 1 [fr_r κ 15, fr_i u, fr_i c] μ (fr_Ei (if c = 5 then u else fr_or u (fr_shl 1 c)) μ) := by
  refine fr_enter (by decide +kernel) (ls := [some (fr_r κ 15), some (fr_i u), some (fr_i c)]) rfl (Nat.le_of_ble_eq_true rfl) ?_
  refine fr_il2 dX3_join_0 ?_
  refine fr_iconst dX3_join_1 ?_
  refine fr_icmp_ne (tgt := 9) dX3_join_2 (by decide) (by omega) (by omega) (fun h1 => ?_) (fun h1 => ?_)
  · skip
    refine fr_il1 dX3_join_9 ?_
    refine fr_iconst dX3_join_10 ?_
    refine fr_il2 dX3_join_11 ?_
    refine fr_ishl dX3_join_12 ?_
    refine fr_ior dX3_join_13 ?_
    exact fr_iret dX3_join_14 rfl (fr_e (by first | rw [if_pos (by assumption)] | rw [if_neg (by assumption)]) rfl)
  · skip
    refine fr_il1 dX3_join_5 ?_
    refine fr_goto (tgt := 14) dX3_join_6 (by decide) ?_
    exact fr_iret dX3_join_14 rfl (fr_e (by first | rw [if_pos (by assumption)] | rw [if_neg (by assumption)]) rfl)
def sp_frc (o m u : Int) : Int := fr_and o (fr_xor (fr_and u (fr_xor m (-1))) (-1))
set_option maxRecDepth 20000 in
theorem kcX3_freeClimbers {l : Launch} {κ : fr_Ka} {μ : fr_Me} {t u : Int} (ht : 0 ≤ t ∧ t < 6) : fr_C l κ fmX3_freeClimbers 1 [fr_r κ 15, fr_i t, fr_i u] μ (fr_Ei (sp_frc (μ 16 t) (μ 15 10) u) μ) := by
  refine fr_enter (by decide +kernel) (ls := [some (fr_r κ 15), some (fr_i t), some (fr_i u)]) rfl (Nat.le_of_ble_eq_true rfl) ?_
  refine fr_al0 dX3_freeClimbers_0 ?_
  refine fr_getr (cz := 16) dX3_freeClimbers_1 flX3_9 ⟨by decide, by decide, rfl⟩ rfl rfl ?_
  refine fr_il1 dX3_freeClimbers_4 ?_
  refine fr_iald dX3_freeClimbers_5 ⟨by decide, by decide, rfl, by decide⟩ (by omega) (by omega) ?_
  refine fr_il2 dX3_freeClimbers_6 ?_
  refine fr_al0 dX3_freeClimbers_7 ?_
  refine fr_geti (kz := 10) dX3_freeClimbers_8 flX3_57 ⟨by decide, by decide, rfl⟩ rfl rfl ?_
  refine fr_iconst dX3_freeClimbers_11 ?_
  refine fr_ixor dX3_freeClimbers_12 ?_
  refine fr_iand dX3_freeClimbers_13 ?_
  refine fr_iconst dX3_freeClimbers_14 ?_
  refine fr_ixor dX3_freeClimbers_15 ?_
  refine fr_iand dX3_freeClimbers_16 ?_
  exact fr_iret dX3_freeClimbers_17 rfl (fr_e rfl rfl)
set_option maxRecDepth 20000 in
theorem kcX3_freeFolk {l : Launch} {κ : fr_Ka} {μ : fr_Me} {t u : Int} (ht : 0 ≤ t ∧ t < 6) : fr_C l κ fmX3_freeFolk 2 [fr_r κ 15, fr_i t, fr_i u] μ (fr_Ei (fr_or (sp_frc (μ 16 t) (μ 15 10) u) 32) μ) := by
  refine fr_enter (by decide +kernel) (ls := [some (fr_r κ 15), some (fr_i t), some (fr_i u)]) rfl (Nat.le_of_ble_eq_true rfl) ?_
  refine fr_al0 dX3_freeFolk_0 ?_
  refine fr_il1 dX3_freeFolk_1 ?_
  refine fr_il2 dX3_freeFolk_2 ?_
  refine fr_cVi (mi' := fmX3_freeClimbers) dX3_freeFolk_3 mlX3_110 mvX3_freeClimbers ⟨3, _, ⟨by decide, by decide, rfl⟩, rfl, rfl⟩ (Nat.le_of_ble_eq_true rfl) (kcX3_freeClimbers (by omega)) rfl rfl (Nat.le_of_ble_eq_true rfl) ?_
  refine fr_bipush dX3_freeFolk_6 (by decide) ?_
  refine fr_ior dX3_freeFolk_8 ?_
  exact fr_iret dX3_freeFolk_9 rfl (fr_e rfl rfl)
set_option maxRecDepth 20000 in
theorem kcX3_wouldBear {l : Launch} {κ : fr_Ka} {μ : fr_Me} {t c f : Int} (ht : 0 ≤ t ∧ t < 6) (hc : 0 ≤ c ∧ c < 6) (r1 : -2147483648 ≤ μ 17 t ∧ μ 17 t ≤ 2147483647) (r2 : -2147483648 ≤ μ 18 t ∧ μ 18 t ≤ 2147483647) (r3 : -2147483648 ≤ μ 19 t ∧ μ 19 t ≤ 2147483647) (r4 : -2147483648 ≤ μ 22 c ∧ μ 22 c ≤ 2147483647) (r5 : -2147483648 ≤ f ∧ f ≤ 2147483647)  : fr_C l κ fmX3_wouldBear 1 [fr_r κ 15, fr_i t, fr_i c, fr_i f] μ (fr_Ei (fr_b ((0 < μ 17 t ∧ μ 22 c = f) ∨ (0 < μ 18 t ∧ μ 19 t = f))) μ) := by
  refine fr_enter (by decide +kernel) (ls := [some (fr_r κ 15), some (fr_i t), some (fr_i c), some (fr_i f)]) rfl (Nat.le_of_ble_eq_true rfl) ?_
  refine fr_al0 dX3_wouldBear_0 ?_
  refine fr_getr (cz := 17) dX3_wouldBear_1 flX3_15 ⟨by decide, by decide, rfl⟩ rfl rfl ?_
  refine fr_il1 dX3_wouldBear_4 ?_
  refine fr_iald dX3_wouldBear_5 ⟨by decide, by decide, rfl, by decide⟩ (by omega) (by omega) ?_
  refine fr_if_le (tgt := 19) dX3_wouldBear_6 (by decide) (by omega) (fun h1 => ?_) (fun h1 => ?_)
  · skip
    refine fr_al0 dX3_wouldBear_19 ?_
    refine fr_getr (cz := 18) dX3_wouldBear_20 flX3_18 ⟨by decide, by decide, rfl⟩ rfl rfl ?_
    refine fr_il1 dX3_wouldBear_23 ?_
    refine fr_iald dX3_wouldBear_24 ⟨by decide, by decide, rfl, by decide⟩ (by omega) (by omega) ?_
    refine fr_if_le (tgt := 42) dX3_wouldBear_25 (by decide) (by omega) (fun h2 => ?_) (fun h2 => ?_)
    · skip
      refine fr_iconst dX3_wouldBear_42 ?_
      exact fr_zret dX3_wouldBear_43 rfl (Or.inl rfl) (fr_e (by first | rfl | exact (fr_bT (by omega)).symm | exact (fr_bF (by omega)).symm | exact fr_bc (by omega)) rfl)
    · skip
      refine fr_al0 dX3_wouldBear_28 ?_
      refine fr_getr (cz := 19) dX3_wouldBear_29 flX3_21 ⟨by decide, by decide, rfl⟩ rfl rfl ?_
      refine fr_il1 dX3_wouldBear_32 ?_
      refine fr_iald dX3_wouldBear_33 ⟨by decide, by decide, rfl, by decide⟩ (by omega) (by omega) ?_
      refine fr_il3 dX3_wouldBear_34 ?_
      refine fr_icmp_ne (tgt := 42) dX3_wouldBear_35 (by decide) (by omega) (by omega) (fun h3 => ?_) (fun h3 => ?_)
      · skip
        refine fr_iconst dX3_wouldBear_42 ?_
        exact fr_zret dX3_wouldBear_43 rfl (Or.inl rfl) (fr_e (by first | rfl | exact (fr_bT (by omega)).symm | exact (fr_bF (by omega)).symm | exact fr_bc (by omega)) rfl)
      · skip
        refine fr_iconst dX3_wouldBear_38 ?_
        refine fr_goto (tgt := 43) dX3_wouldBear_39 (by decide) ?_
        exact fr_zret dX3_wouldBear_43 rfl (Or.inr rfl) (fr_e (by first | rfl | exact (fr_bT (by omega)).symm | exact (fr_bF (by omega)).symm | exact fr_bc (by omega)) rfl)
  · skip
    refine fr_al0 dX3_wouldBear_9 ?_
    refine fr_getr (cz := 22) dX3_wouldBear_10 flX3_30 ⟨by decide, by decide, rfl⟩ rfl rfl ?_
    refine fr_il2 dX3_wouldBear_13 ?_
    refine fr_iald dX3_wouldBear_14 ⟨by decide, by decide, rfl, by decide⟩ (by omega) (by omega) ?_
    refine fr_il3 dX3_wouldBear_15 ?_
    refine fr_icmp_eq (tgt := 38) dX3_wouldBear_16 (by decide) (by omega) (by omega) (fun h4 => ?_) (fun h4 => ?_)
    · skip
      refine fr_iconst dX3_wouldBear_38 ?_
      refine fr_goto (tgt := 43) dX3_wouldBear_39 (by decide) ?_
      exact fr_zret dX3_wouldBear_43 rfl (Or.inr rfl) (fr_e (by first | rfl | exact (fr_bT (by omega)).symm | exact (fr_bF (by omega)).symm | exact fr_bc (by omega)) rfl)
    · skip
      refine fr_al0 dX3_wouldBear_19 ?_
      refine fr_getr (cz := 18) dX3_wouldBear_20 flX3_18 ⟨by decide, by decide, rfl⟩ rfl rfl ?_
      refine fr_il1 dX3_wouldBear_23 ?_
      refine fr_iald dX3_wouldBear_24 ⟨by decide, by decide, rfl, by decide⟩ (by omega) (by omega) ?_
      refine fr_if_le (tgt := 42) dX3_wouldBear_25 (by decide) (by omega) (fun h5 => ?_) (fun h5 => ?_)
      · skip
        refine fr_iconst dX3_wouldBear_42 ?_
        exact fr_zret dX3_wouldBear_43 rfl (Or.inl rfl) (fr_e (by first | rfl | exact (fr_bT (by omega)).symm | exact (fr_bF (by omega)).symm | exact fr_bc (by omega)) rfl)
      · skip
        refine fr_al0 dX3_wouldBear_28 ?_
        refine fr_getr (cz := 19) dX3_wouldBear_29 flX3_21 ⟨by decide, by decide, rfl⟩ rfl rfl ?_
        refine fr_il1 dX3_wouldBear_32 ?_
        refine fr_iald dX3_wouldBear_33 ⟨by decide, by decide, rfl, by decide⟩ (by omega) (by omega) ?_
        refine fr_il3 dX3_wouldBear_34 ?_
        refine fr_icmp_ne (tgt := 42) dX3_wouldBear_35 (by decide) (by omega) (by omega) (fun h6 => ?_) (fun h6 => ?_)
        · skip
          refine fr_iconst dX3_wouldBear_42 ?_
          exact fr_zret dX3_wouldBear_43 rfl (Or.inl rfl) (fr_e (by first | rfl | exact (fr_bT (by omega)).symm | exact (fr_bF (by omega)).symm | exact fr_bc (by omega)) rfl)
        · skip
          refine fr_iconst dX3_wouldBear_38 ?_
          refine fr_goto (tgt := 43) dX3_wouldBear_39 (by decide) ?_
          exact fr_zret dX3_wouldBear_43 rfl (Or.inr rfl) (fr_e (by first | rfl | exact (fr_bT (by omega)).symm | exact (fr_bF (by omega)).symm | exact fr_bc (by omega)) rfl)
set_option maxRecDepth 20000 in
theorem kcX3_newWage {l : Launch} {κ : fr_Ka} {μ : fr_Me} {u c : Int} (hc : 0 ≤ c ∧ c < 6) (ru : -2147483648 ≤ u ∧ u ≤ 2147483647)  : fr_C l κ fmX3_newWage 2 [fr_r κ 15, fr_i u, fr_i c] μ (fr_Pi (fun z m => m = μ ∧ ((sp_in u c ∧ z = 0) ∨ (¬ sp_in u c ∧ z = μ 23 c)))) := by
  refine fr_enter (by decide +kernel) (ls := [some (fr_r κ 15), some (fr_i u), some (fr_i c)]) rfl (Nat.le_of_ble_eq_true rfl) ?_
  refine fr_il1 dX3_newWage_0 ?_
  refine fr_il2 dX3_newWage_1 ?_
  refine fr_cSi (mi' := fmX10_isIn) dX3_newWage_2 mlX3_114 msX10_isIn (Nat.le_of_ble_eq_true rfl) (kcX10_isIn) rfl rfl (Nat.le_of_ble_eq_true rfl) ?_
  refine fr_ifb_eq (tgt := 12) dX3_newWage_5 (by decide) (fun h1 => ?_) (fun h1 => ?_)
  · skip
    refine fr_al0 dX3_newWage_12 ?_
    refine fr_getr (cz := 23) dX3_newWage_13 flX3_33 ⟨by decide, by decide, rfl⟩ rfl rfl ?_
    refine fr_il2 dX3_newWage_16 ?_
    refine fr_iald dX3_newWage_17 ⟨by decide, by decide, rfl, by decide⟩ (by omega) (by omega) ?_
    exact fr_iret dX3_newWage_18 rfl (fr_pi ⟨rfl, by first | exact Or.inl ⟨by assumption, rfl⟩ | exact Or.inr ⟨by assumption, rfl⟩⟩)
  · skip
    refine fr_iconst dX3_newWage_8 ?_
    refine fr_goto (tgt := 18) dX3_newWage_9 (by decide) ?_
    exact fr_iret dX3_newWage_18 rfl (fr_pi ⟨rfl, by first | exact Or.inl ⟨by assumption, rfl⟩ | exact Or.inr ⟨by assumption, rfl⟩⟩)
set_option maxRecDepth 20000 in
theorem kcX6_write {l : Launch} {κ : fr_Ka} {μ : fr_Me} {v : Int} (hl : 0 ≤ μ 9 4 ∧ μ 9 4 < 60) : fr_C l κ fmX6_write 1 [fr_r κ 9, fr_i v] μ (fr_Pi (fun z m => z = μ 9 4 + 1 ∧ m = fr_up (fr_up μ 10 (μ 9 4) v) 9 4 (μ 9 4 + 1))) := by
  refine fr_enter (by decide +kernel) (ls := [some (fr_r κ 9), some (fr_i v)]) rfl (Nat.le_of_ble_eq_true rfl) ?_
  refine fr_al0 dX6_write_0 ?_
  refine fr_getr (cz := 10) dX6_write_1 flX6_9 ⟨by decide, by decide, rfl⟩ rfl rfl ?_
  refine fr_al0 dX6_write_4 ?_
  refine fr_geti (kz := 4) dX6_write_5 flX6_24 ⟨by decide, by decide, rfl⟩ rfl rfl ?_
  refine fr_il1 dX6_write_8 ?_
  refine fr_iast dX6_write_9 ⟨by decide, by decide, rfl, by decide⟩ (by omega) (by omega) ?_
  refine fr_al0 dX6_write_10 ?_
  refine fr_dup dX6_write_11 rfl ?_
  refine fr_geti (kz := 4) dX6_write_12 flX6_24 ⟨by decide, by decide, rfl⟩ rfl rfl ?_
  refine fr_iconst dX6_write_15 ?_
  refine fr_iadd dX6_write_16 ?_
  refine fr_put (kz := 4) dX6_write_17 fpX6_24 ⟨by decide, by decide, rfl⟩ rfl rfl (fun h => by cases h) ?_
  refine fr_al0 dX6_write_20 ?_
  refine fr_geti (kz := 4) dX6_write_21 flX6_24 ⟨by decide, by decide, rfl⟩ rfl rfl ?_
  exact fr_iret dX6_write_24 rfl (fr_pi ⟨rfl, rfl⟩)
