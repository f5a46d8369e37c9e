/-! the class: its calls, orders and games -/
theorem sx_rg {w : Int → Int} (hI : fr_I w) : -100000 ≤ sp_sum (w 0).toNat (sp_ex1 w) ∧ sp_sum (w 0).toNat (sp_ex1 w) ≤ 100000 := by
  have hN := hI.n
  have h := sp_sum_rg (F := sp_ex1 w) (a := -600) (b := 6000) (w 0).toNat (fun t _ _ => by
    have h1 := sp_br_rg hI (w (7 + t))
    have h2 := sp_br_rg hI (w (13 + t))
    have p1 := hI.pr (f := sp_br w (w (7 + t))) (by omega) (by omega)
    have p2 := hI.pr (f := sp_br w (w (13 + t))) (by omega) (by omega)
    have ho := sp_od_rg hI (w (7 + t))
    have s0 := sp_sl_rg (w (1 + t)) 0
    have s1 := sp_sl_rg (w (1 + t)) 1
    have s2 := sp_sb_rg (w (1 + t)) (w (25 + t))
    unfold sp_ex1
    generalize sp_sl (w (1 + t)) 0 = x at *
    generalize sp_sl (w (1 + t)) 1 = x' at *
    generalize sp_sb (w (1 + t)) (w (25 + t)) = y at *
    generalize sp_od w (w (7 + t)) = o at *
    generalize w (64 + sp_br w (w (7 + t))) = p at *
    generalize w (64 + sp_br w (w (13 + t))) = q at *
    have a1 : 0 ≤ x * (10 - o) ∧ x * (10 - o) ≤ 4 * (10 - o) := by
      rcases (by omega : x = 0 ∨ x = 1 ∨ x = 2 ∨ x = 3 ∨ x = 4) with h | h | h | h | h <;> subst h <;> omega
    have a2 : 0 ≤ x' * o ∧ x' * o ≤ 4 * o := by
      rcases (by omega : x' = 0 ∨ x' = 1 ∨ x' = 2 ∨ x' = 3 ∨ x' = 4) with h | h | h | h | h <;> subst h <;> omega
    have hu : 0 ≤ x * (10 - o) + x' * o ∧ x * (10 - o) + x' * o ≤ 40 := by omega
    generalize x * (10 - o) + x' * o = u at *
    have a3 : -360 ≤ u * p ∧ u * p ≤ 3960 := by
      have h3 : u * p ≤ u * 99 := Int.mul_le_mul_of_nonneg_left p1.2 hu.1
      have h4 : u * (-9) ≤ u * p := Int.mul_le_mul_of_nonneg_left p1.1 hu.1
      omega
    have a4 : -180 ≤ y * 10 * q ∧ y * 10 * q ≤ 1980 := by
      rcases (by omega : y = 0 ∨ y = 1 ∨ y = 2) with h | h | h <;> subst h <;> omega
    omega)
  omega
set_option maxRecDepth 20000 in
theorem kcX10_upper {l : Launch} {κ : fr_Ka} {w : Int → Int} {μ : fr_Me} (hG : fr_G w μ) (hI : fr_I w)  : fr_C l κ fmX10_upper 6 [fr_r κ 0] μ (fr_Ei ((sp_sum (w 0).toNat (sp_ex1 w)).tdiv (sp_s10 (sp_sum (w 0).toNat (sp_ex1 w)))) μ) := by
  have iN := hI.n
  have iM := hI.many
  have gN := hG.n
  have gM := hG.many
  have hsr := sx_rg hI
  have hs10 := sp_s10_rg (sp_sum (w 0).toNat (sp_ex1 w))
  refine fr_enter (by decide +kernel) (ls := [some (fr_r κ 0), none]) rfl (Nat.le_of_ble_eq_true rfl) ?_
  refine fr_al0 dX10_upper_0 ?_
  refine fr_getr (cz := 1) dX10_upper_1 flX10_12 ⟨by decide, by decide, rfl⟩ rfl rfl ?_
  refine fr_cVi (mi' := fmX1_expectedTenths) dX10_upper_4 mlX10_222 mvX1_expectedTenths ⟨1, _, ⟨by decide, by decide, rfl⟩, rfl, rfl⟩ (Nat.le_of_ble_eq_true rfl) (kcX1_expectedTenths hG hI) rfl rfl (Nat.le_of_ble_eq_true rfl) ?_
  refine fr_is1 dX10_upper_7 rfl (Nat.le_of_ble_eq_true rfl) ?_
  refine fr_il1 dX10_upper_8 ?_
  refine fr_il1 dX10_upper_9 ?_
  refine fr_cSi (mi' := fmX10_sharedWithTen) dX10_upper_10 mlX10_225 msX10_sharedWithTen (Nat.le_of_ble_eq_true rfl) (kcX10_sharedWithTen (by omega)) rfl rfl (Nat.le_of_ble_eq_true rfl) ?_
  refine fr_idiv dX10_upper_13 (by omega) (by omega) (by omega) (by omega) ?_
  exact fr_iret dX10_upper_14 rfl (fr_e rfl rfl)
set_option maxRecDepth 20000 in
theorem kcX10_lower {l : Launch} {κ : fr_Ka} {w : Int → Int} {μ : fr_Me} (hG : fr_G w μ) (hI : fr_I w)  : fr_C l κ fmX10_lower 6 [fr_r κ 0] μ (fr_Ei ((10 : Int).tdiv (sp_s10 (sp_sum (w 0).toNat (sp_ex1 w)))) μ) := by
  have iN := hI.n
  have iM := hI.many
  have gN := hG.n
  have gM := hG.many
  have hsr := sx_rg hI
  have hs10 := sp_s10_rg (sp_sum (w 0).toNat (sp_ex1 w))
  refine fr_enter (by decide +kernel) (ls := [some (fr_r κ 0)]) rfl (Nat.le_of_ble_eq_true rfl) ?_
  refine fr_bipush dX10_lower_0 (by decide) ?_
  refine fr_al0 dX10_lower_2 ?_
  refine fr_getr (cz := 1) dX10_lower_3 flX10_12 ⟨by decide, by decide, rfl⟩ rfl rfl ?_
  refine fr_cVi (mi' := fmX1_expectedTenths) dX10_lower_6 mlX10_222 mvX1_expectedTenths ⟨1, _, ⟨by decide, by decide, rfl⟩, rfl, rfl⟩ (Nat.le_of_ble_eq_true rfl) (kcX1_expectedTenths hG hI) rfl rfl (Nat.le_of_ble_eq_true rfl) ?_
  refine fr_cSi (mi' := fmX10_sharedWithTen) dX10_lower_9 mlX10_225 msX10_sharedWithTen (Nat.le_of_ble_eq_true rfl) (kcX10_sharedWithTen (by omega)) rfl rfl (Nat.le_of_ble_eq_true rfl) ?_
  refine fr_idiv dX10_lower_12 (by omega) (by omega) (by omega) (by omega) ?_
  exact fr_iret dX10_lower_13 rfl (fr_e rfl rfl)
set_option maxRecDepth 20000 in
theorem kcX10_best {l : Launch} {κ : fr_Ka} {w : Int → Int} {μ : fr_Me} (hG : fr_G w μ) (hI : fr_I w) {t : Int} (rt : -2147483648 ≤ t ∧ t ≤ 2147483647) : fr_C l κ fmX10_best 7 [fr_r κ 0, fr_i t] μ (fr_Pi (fun z m => (¬ (-1 ≤ t ∧ t ≤ w 0 - 1) ∧ z = -100001 ∧ m = μ) ∨ ((-1 ≤ t ∧ t ≤ w 0 - 1) ∧ z = (if t < 0 then (od_V w (fr_shl 1 (w 43) - 1) 0 (w 0).toNat 0) else sp_dg (w 0) (od_R w (fr_shl 1 (w 43) - 1) 0 (w 0).toNat 0) t) ∧ ∀ c, (c < 15 ∨ 35 < c) → m c = μ c))) := by
  have iN := hI.n
  have iM := hI.many
  have gN := hG.n
  have gM := hG.many
  refine fr_enter (by decide +kernel) (ls := [some (fr_r κ 0), some (fr_i t), none]) rfl (Nat.le_of_ble_eq_true rfl) ?_
  refine fr_il1 dX10_best_0 ?_
  refine fr_iconst dX10_best_1 ?_
  refine fr_icmp_eq (tgt := 19) dX10_best_2 (by decide) (by omega) (by omega) (fun h1 => ?_) (fun h1 => ?_)
  · skip
    refine fr_al0 dX10_best_19 ?_
    refine fr_getr (cz := 15) dX10_best_20 flX10_35 ⟨by decide, by decide, rfl⟩ rfl rfl ?_
    refine fr_al0 dX10_best_23 ?_
    refine fr_getr (cz := 1) dX10_best_24 flX10_12 ⟨by decide, by decide, rfl⟩ rfl rfl ?_
    refine fr_cVQ (mi' := fmX3_lay) dX10_best_27 mlX10_201 mvX3_lay ⟨3, _, ⟨by decide, by decide, rfl⟩, rfl, rfl⟩ (Nat.le_of_ble_eq_true rfl) (kcX3_lay hG hI) rfl rfl (Nat.le_of_ble_eq_true rfl) (fun p hp => ?_)
    have hP : pl_P w p := hp.P
    have hpx := hp.2.2.2.2.2.2
    have eal := hP.all
    refine fr_al0 dX10_best_30 ?_
    refine fr_getr (cz := 24) dX10_best_31 flX10_44 ⟨by decide, by decide, rfl⟩ rfl rfl ?_
    refine fr_al0 dX10_best_34 ?_
    refine fr_getr (cz := 15) dX10_best_35 flX10_35 ⟨by decide, by decide, rfl⟩ rfl rfl ?_
    refine fr_geti (kz := 9) dX10_best_38 flX10_204 ⟨by decide, by decide, rfl⟩ rfl rfl ?_
    refine fr_iconst dX10_best_41 ?_
    rw [eal]
    refine fr_cVP (mi' := fmX2_mostGain) dX10_best_42 mlX10_207 mvX2_mostGain ⟨2, _, ⟨by decide, by decide, rfl⟩, rfl, rfl⟩ (Nat.le_of_ble_eq_true rfl) (kcX2_mostGain hP hI) rfl rfl (Nat.le_of_ble_eq_true rfl) (fun a am ha => ?_)
    have hPa : pl_P w am := hP.keep (fun c c0 c1 => ha.2.2.1 c (by omega) (by omega))
    have hxa : ∀ c, (c < 15 ∨ 35 < c) → am c = p c := fun c hc => ha.2.2.1 c (by omega) (by omega)
    refine fr_is2 dX10_best_45 rfl (Nat.le_of_ble_eq_true rfl) ?_
    refine fr_il1 dX10_best_46 ?_
    refine fr_iconst dX10_best_47 ?_
    refine fr_icmp_ne (tgt := 53) dX10_best_48 (by decide) (by omega) (by omega) (fun h2 => ?_) (fun h2 => ?_)
    · skip
      refine fr_al0 dX10_best_53 ?_
      refine fr_getr (cz := 24) dX10_best_54 flX10_44 ⟨by decide, by decide, rfl⟩ rfl rfl ?_
      refine fr_cVQ (mi' := fmX2_layRow) dX10_best_57 mlX10_210 mvX2_layRow ⟨2, _, ⟨by decide, by decide, rfl⟩, rfl, rfl⟩ (Nat.le_of_ble_eq_true rfl) (kcX2_layRow hPa hI ha.2.1) rfl rfl (Nat.le_of_ble_eq_true rfl) (fun r hr => ?_)
      refine fr_al0 dX10_best_60 ?_
      refine fr_getr (cz := 24) dX10_best_61 flX10_44 ⟨by decide, by decide, rfl⟩ rfl rfl ?_
      refine fr_getr (cz := 26) dX10_best_64 flX10_213 ⟨by decide, by decide, rfl⟩ rfl rfl ?_
      refine fr_il1 dX10_best_67 ?_
      refine fr_iald dX10_best_68 ⟨by decide, by decide, rfl, by decide⟩ (by omega) (by omega) ?_
      exact fr_iret dX10_best_69 rfl (fr_pi (by first | exact Or.inl ⟨by omega, rfl, rfl⟩ | exact Or.inr ⟨by omega, by rw [if_pos (by omega)]; exact ha.1, fun c hc => (hxa c hc).trans (hpx c (by omega))⟩ | exact Or.inr ⟨by omega, by rw [if_neg (by omega)]; exact hr.1 t (by omega) (by omega), fun c hc => ((hr.2.1 c (by omega)).trans (hxa c hc)).trans (hpx c (by omega))⟩))
    · skip
      refine fr_il2 dX10_best_51 ?_
      exact fr_iret dX10_best_52 rfl (fr_pi (by first | exact Or.inl ⟨by omega, rfl, rfl⟩ | exact Or.inr ⟨by omega, by rw [if_pos (by omega)]; exact ha.1, fun c hc => (hxa c hc).trans (hpx c (by omega))⟩ | exact Or.inr ⟨by omega, by rw [if_neg (by omega)]; exact hr.1 t (by omega) (by omega), fun c hc => ((hr.2.1 c (by omega)).trans (hxa c hc)).trans (hpx c (by omega))⟩))
  · skip
    refine fr_al0 dX10_best_5 ?_
    refine fr_getr (cz := 1) dX10_best_6 flX10_12 ⟨by decide, by decide, rfl⟩ rfl rfl ?_
    refine fr_il1 dX10_best_9 ?_
    refine fr_cVi (mi' := fmX1_hasTree) dX10_best_10 mlX10_88 mvX1_hasTree ⟨1, _, ⟨by decide, by decide, rfl⟩, rfl, rfl⟩ (Nat.le_of_ble_eq_true rfl) (kcX1_hasTree hG hI (by omega)) rfl rfl (Nat.le_of_ble_eq_true rfl) ?_
    refine fr_ifb_ne (tgt := 19) dX10_best_13 (by decide) (fun h3 => ?_) (fun h3 => ?_)
    · skip
      refine fr_al0 dX10_best_19 ?_
      refine fr_getr (cz := 15) dX10_best_20 flX10_35 ⟨by decide, by decide, rfl⟩ rfl rfl ?_
      refine fr_al0 dX10_best_23 ?_
      refine fr_getr (cz := 1) dX10_best_24 flX10_12 ⟨by decide, by decide, rfl⟩ rfl rfl ?_
      refine fr_cVQ (mi' := fmX3_lay) dX10_best_27 mlX10_201 mvX3_lay ⟨3, _, ⟨by decide, by decide, rfl⟩, rfl, rfl⟩ (Nat.le_of_ble_eq_true rfl) (kcX3_lay hG hI) rfl rfl (Nat.le_of_ble_eq_true rfl) (fun p hp => ?_)
      have hP : pl_P w p := hp.P
      have hpx := hp.2.2.2.2.2.2
      have eal := hP.all
      refine fr_al0 dX10_best_30 ?_
      refine fr_getr (cz := 24) dX10_best_31 flX10_44 ⟨by decide, by decide, rfl⟩ rfl rfl ?_
      refine fr_al0 dX10_best_34 ?_
      refine fr_getr (cz := 15) dX10_best_35 flX10_35 ⟨by decide, by decide, rfl⟩ rfl rfl ?_
      refine fr_geti (kz := 9) dX10_best_38 flX10_204 ⟨by decide, by decide, rfl⟩ rfl rfl ?_
      refine fr_iconst dX10_best_41 ?_
      rw [eal]
      refine fr_cVP (mi' := fmX2_mostGain) dX10_best_42 mlX10_207 mvX2_mostGain ⟨2, _, ⟨by decide, by decide, rfl⟩, rfl, rfl⟩ (Nat.le_of_ble_eq_true rfl) (kcX2_mostGain hP hI) rfl rfl (Nat.le_of_ble_eq_true rfl) (fun a am ha => ?_)
      have hPa : pl_P w am := hP.keep (fun c c0 c1 => ha.2.2.1 c (by omega) (by omega))
      have hxa : ∀ c, (c < 15 ∨ 35 < c) → am c = p c := fun c hc => ha.2.2.1 c (by omega) (by omega)
      refine fr_is2 dX10_best_45 rfl (Nat.le_of_ble_eq_true rfl) ?_
      refine fr_il1 dX10_best_46 ?_
      refine fr_iconst dX10_best_47 ?_
      refine fr_icmp_ne (tgt := 53) dX10_best_48 (by decide) (by omega) (by omega) (fun h4 => ?_) (fun h4 => ?_)
      · skip
        refine fr_al0 dX10_best_53 ?_
        refine fr_getr (cz := 24) dX10_best_54 flX10_44 ⟨by decide, by decide, rfl⟩ rfl rfl ?_
        refine fr_cVQ (mi' := fmX2_layRow) dX10_best_57 mlX10_210 mvX2_layRow ⟨2, _, ⟨by decide, by decide, rfl⟩, rfl, rfl⟩ (Nat.le_of_ble_eq_true rfl) (kcX2_layRow hPa hI ha.2.1) rfl rfl (Nat.le_of_ble_eq_true rfl) (fun r hr => ?_)
        refine fr_al0 dX10_best_60 ?_
        refine fr_getr (cz := 24) dX10_best_61 flX10_44 ⟨by decide, by decide, rfl⟩ rfl rfl ?_
        refine fr_getr (cz := 26) dX10_best_64 flX10_213 ⟨by decide, by decide, rfl⟩ rfl rfl ?_
        refine fr_il1 dX10_best_67 ?_
        refine fr_iald dX10_best_68 ⟨by decide, by decide, rfl, by decide⟩ (by omega) (by omega) ?_
        exact fr_iret dX10_best_69 rfl (fr_pi (by first | exact Or.inl ⟨by omega, rfl, rfl⟩ | exact Or.inr ⟨by omega, by rw [if_pos (by omega)]; exact ha.1, fun c hc => (hxa c hc).trans (hpx c (by omega))⟩ | exact Or.inr ⟨by omega, by rw [if_neg (by omega)]; exact hr.1 t (by omega) (by omega), fun c hc => ((hr.2.1 c (by omega)).trans (hxa c hc)).trans (hpx c (by omega))⟩))
      · skip
        refine fr_il2 dX10_best_51 ?_
        exact fr_iret dX10_best_52 rfl (fr_pi (by first | exact Or.inl ⟨by omega, rfl, rfl⟩ | exact Or.inr ⟨by omega, by rw [if_pos (by omega)]; exact ha.1, fun c hc => (hxa c hc).trans (hpx c (by omega))⟩ | exact Or.inr ⟨by omega, by rw [if_neg (by omega)]; exact hr.1 t (by omega) (by omega), fun c hc => ((hr.2.1 c (by omega)).trans (hxa c hc)).trans (hpx c (by omega))⟩))
    · skip
      refine fr_ldc dX10_best_16 cnX10_134 ?_
      exact fr_iret dX10_best_18 rfl (fr_pi (by first | exact Or.inl ⟨by omega, rfl, rfl⟩ | exact Or.inr ⟨by omega, by rw [if_pos (by omega)]; exact ha.1, fun c hc => (hxa c hc).trans (hpx c (by omega))⟩ | exact Or.inr ⟨by omega, by rw [if_neg (by omega)]; exact hr.1 t (by omega) (by omega), fun c hc => ((hr.2.1 c (by omega)).trans (hxa c hc)).trans (hpx c (by omega))⟩))
set_option maxRecDepth 20000 in
theorem kcX10_game {l : Launch} {κ : fr_Ka} {w : Int → Int} {μ : fr_Me} (hG : fr_G w μ) (hI : fr_I w) {set : Int} (rset : -2147483648 ≤ set ∧ set ≤ 2147483647) : fr_C l κ fmX10_game 63 [fr_r κ 0, fr_i set] μ (fr_Pi (fun z m => (¬ (0 ≤ set ∧ set ≤ (fr_shl 1 (w 43) - 1)) ∧ z = -100001 ∧ m = μ) ∨ ((0 ≤ set ∧ set ≤ (fr_shl 1 (w 43) - 1)) ∧ z = sp_G w set 0 ∧ ∀ c, (c < 15 ∨ 35 < c) → m c = μ c))) := by
  have iN := hI.n
  have iM := hI.many
  have gN := hG.n
  have gM := hG.many
  refine fr_enter (by decide +kernel) (ls := [some (fr_r κ 0), some (fr_i set)]) rfl (Nat.le_of_ble_eq_true rfl) ?_
  refine fr_al0 dX10_game_0 ?_
  refine fr_getr (cz := 1) dX10_game_1 flX10_12 ⟨by decide, by decide, rfl⟩ rfl rfl ?_
  refine fr_il1 dX10_game_4 ?_
  refine fr_cVi (mi' := fmX1_isSet) dX10_game_5 mlX10_138 mvX1_isSet ⟨1, _, ⟨by decide, by decide, rfl⟩, rfl, rfl⟩ (Nat.le_of_ble_eq_true rfl) (kcX1_isSet hG hI (by omega)) rfl rfl (Nat.le_of_ble_eq_true rfl) ?_
  refine fr_ifb_ne (tgt := 14) dX10_game_8 (by decide) (fun h1 => ?_) (fun h1 => ?_)
  · skip
    refine fr_al0 dX10_game_14 ?_
    refine fr_getr (cz := 15) dX10_game_15 flX10_35 ⟨by decide, by decide, rfl⟩ rfl rfl ?_
    refine fr_al0 dX10_game_18 ?_
    refine fr_getr (cz := 1) dX10_game_19 flX10_12 ⟨by decide, by decide, rfl⟩ rfl rfl ?_
    refine fr_cVQ (mi' := fmX3_lay) dX10_game_22 mlX10_201 mvX3_lay ⟨3, _, ⟨by decide, by decide, rfl⟩, rfl, rfl⟩ (Nat.le_of_ble_eq_true rfl) (kcX3_lay hG hI) rfl rfl (Nat.le_of_ble_eq_true rfl) (fun p hp => ?_)
    have hP : pl_P w p := hp.P
    have hpx := hp.2.2.2.2.2.2
    have eal := hP.all
    refine fr_al0 dX10_game_25 ?_
    refine fr_getr (cz := 31) dX10_game_26 flX10_58 ⟨by decide, by decide, rfl⟩ rfl rfl ?_
    refine fr_il1 dX10_game_29 ?_
    refine fr_cVP (mi' := fmX8_outcome) dX10_game_30 mlX10_216 mvX8_outcome ⟨8, _, ⟨by decide, by decide, rfl⟩, rfl, rfl⟩ (Nat.le_of_ble_eq_true rfl) (kcX8_outcome hP hI) rfl rfl (Nat.le_of_ble_eq_true rfl) (fun z m hz => ?_)
    exact fr_iret dX10_game_33 rfl (fr_pi (by first | exact Or.inl ⟨by omega, rfl, rfl⟩ | exact Or.inr ⟨by omega, hz.1, fun c hc => (hz.2.1 c (by omega) (by omega)).trans (hpx c (by omega))⟩))
  · skip
    refine fr_ldc dX10_game_11 cnX10_134 ?_
    exact fr_iret dX10_game_13 rfl (fr_pi (by first | exact Or.inl ⟨by omega, rfl, rfl⟩ | exact Or.inr ⟨by omega, hz.1, fun c hc => (hz.2.1 c (by omega) (by omega)).trans (hpx c (by omega))⟩))
set_option maxRecDepth 20000 in
theorem kcX10_fences {l : Launch} {κ : fr_Ka} {w : Int → Int} {μ : fr_Me} (hG : fr_G w μ) (hI : fr_I w) {set gain : Int} (rset : -2147483648 ≤ set ∧ set ≤ 2147483647) (rgain : -2147483648 ≤ gain ∧ gain ≤ 2147483647) : fr_C l κ fmX10_fences 7 [fr_r κ 0, fr_i set, fr_i gain] μ (fr_Pi (fun z m => (¬ ((0 ≤ set ∧ set ≤ (fr_shl 1 (w 43) - 1)) ∧ (-9999 ≤ gain ∧ gain ≤ 9999)) ∧ z = -1 ∧ m = μ) ∨ (((0 ≤ set ∧ set ≤ (fr_shl 1 (w 43) - 1)) ∧ (-9999 ≤ gain ∧ gain ≤ 9999)) ∧ sp_fi (fun s => od_V w set s (w 0).toNat 0 ≤ gain) (fr_shl 1 (w 0)) z ∧ ∀ c, (c < 15 ∨ 35 < c) → m c = μ c))) := by
  have iN := hI.n
  have iM := hI.many
  have gN := hG.n
  have gM := hG.many
  refine fr_enter (by decide +kernel) (ls := [some (fr_r κ 0), some (fr_i set), some (fr_i gain)]) rfl (Nat.le_of_ble_eq_true rfl) ?_
  refine fr_al0 dX10_fences_0 ?_
  refine fr_getr (cz := 1) dX10_fences_1 flX10_12 ⟨by decide, by decide, rfl⟩ rfl rfl ?_
  refine fr_il1 dX10_fences_4 ?_
  refine fr_cVi (mi' := fmX1_isSet) dX10_fences_5 mlX10_138 mvX1_isSet ⟨1, _, ⟨by decide, by decide, rfl⟩, rfl, rfl⟩ (Nat.le_of_ble_eq_true rfl) (kcX1_isSet hG hI (by omega)) rfl rfl (Nat.le_of_ble_eq_true rfl) ?_
  refine fr_ifb_eq (tgt := 24) dX10_fences_8 (by decide) (fun h1 => ?_) (fun h1 => ?_)
  · skip
    refine fr_iconst dX10_fences_24 ?_
    exact fr_iret dX10_fences_25 rfl (fr_pi (by first | exact Or.inl ⟨by omega, rfl, rfl⟩ | exact Or.inr ⟨by omega, hz.1, fun c hc => (hz.2.1 c (by omega) (by omega)).trans (hpx c (by omega))⟩))
  · skip
    refine fr_il2 dX10_fences_11 ?_
    refine fr_sipush dX10_fences_12 (by decide) ?_
    refine fr_sipush dX10_fences_15 (by decide) ?_
    refine fr_cSi (mi' := fmX10_isWithin) dX10_fences_18 mlX10_76 msX10_isWithin (Nat.le_of_ble_eq_true rfl) (kcX10_isWithin (by omega) (by omega) (by omega)) rfl rfl (Nat.le_of_ble_eq_true rfl) ?_
    refine fr_ifb_ne (tgt := 26) dX10_fences_21 (by decide) (fun h2 => ?_) (fun h2 => ?_)
    · skip
      refine fr_al0 dX10_fences_26 ?_
      refine fr_getr (cz := 15) dX10_fences_27 flX10_35 ⟨by decide, by decide, rfl⟩ rfl rfl ?_
      refine fr_al0 dX10_fences_30 ?_
      refine fr_getr (cz := 1) dX10_fences_31 flX10_12 ⟨by decide, by decide, rfl⟩ rfl rfl ?_
      refine fr_cVQ (mi' := fmX3_lay) dX10_fences_34 mlX10_201 mvX3_lay ⟨3, _, ⟨by decide, by decide, rfl⟩, rfl, rfl⟩ (Nat.le_of_ble_eq_true rfl) (kcX3_lay hG hI) rfl rfl (Nat.le_of_ble_eq_true rfl) (fun p hp => ?_)
      have hP : pl_P w p := hp.P
      have hpx := hp.2.2.2.2.2.2
      have eal := hP.all
      refine fr_al0 dX10_fences_37 ?_
      refine fr_getr (cz := 24) dX10_fences_38 flX10_44 ⟨by decide, by decide, rfl⟩ rfl rfl ?_
      refine fr_il1 dX10_fences_41 ?_
      refine fr_il2 dX10_fences_42 ?_
      refine fr_cVP (mi' := fmX2_fewestShut) dX10_fences_43 mlX10_219 mvX2_fewestShut ⟨2, _, ⟨by decide, by decide, rfl⟩, rfl, rfl⟩ (Nat.le_of_ble_eq_true rfl) (kcX2_fewestShut hP hI (by omega)) rfl rfl (Nat.le_of_ble_eq_true rfl) (fun z m hz => ?_)
      exact fr_iret dX10_fences_46 rfl (fr_pi (by first | exact Or.inl ⟨by omega, rfl, rfl⟩ | exact Or.inr ⟨by omega, hz.1, fun c hc => (hz.2.1 c (by omega) (by omega)).trans (hpx c (by omega))⟩))
    · skip
      refine fr_iconst dX10_fences_24 ?_
      exact fr_iret dX10_fences_25 rfl (fr_pi (by first | exact Or.inl ⟨by omega, rfl, rfl⟩ | exact Or.inr ⟨by omega, hz.1, fun c hc => (hz.2.1 c (by omega) (by omega)).trans (hpx c (by omega))⟩))
set_option maxRecDepth 20000 in
theorem kcX10_worth {l : Launch} {κ : fr_Ka} {w : Int → Int} {μ : fr_Me} (hG : fr_G w μ) (hI : fr_I w) {c : Int} (rc : -2147483648 ≤ c ∧ c ≤ 2147483647) : fr_C l κ fmX10_worth 7 [fr_r κ 0, fr_i c] μ (fr_Pi (fun z m => (¬ (0 ≤ c ∧ c < w 43) ∧ z = -100001 ∧ m = μ) ∨ ((0 ≤ c ∧ c < w 43) ∧ z = (od_V w (fr_shl 1 (w 43) - 1) 0 (w 0).toNat 0) - (od_V w (fr_and (fr_shl 1 (w 43) - 1) (fr_xor (fr_shl 1 c) (-1))) 0 (w 0).toNat 0) ∧ ∀ c, (c < 15 ∨ 35 < c) → m c = μ c))) := by
  have iN := hI.n
  have iM := hI.many
  have gN := hG.n
  have gM := hG.many
  refine fr_enter (by decide +kernel) (ls := [some (fr_r κ 0), some (fr_i c)]) rfl (Nat.le_of_ble_eq_true rfl) ?_
  refine fr_al0 dX10_worth_0 ?_
  refine fr_getr (cz := 1) dX10_worth_1 flX10_12 ⟨by decide, by decide, rfl⟩ rfl rfl ?_
  refine fr_il1 dX10_worth_4 ?_
  refine fr_cVi (mi' := fmX1_hasClimber) dX10_worth_5 mlX10_106 mvX1_hasClimber ⟨1, _, ⟨by decide, by decide, rfl⟩, rfl, rfl⟩ (Nat.le_of_ble_eq_true rfl) (kcX1_hasClimber hG hI (by omega)) rfl rfl (Nat.le_of_ble_eq_true rfl) ?_
  refine fr_ifb_ne (tgt := 14) dX10_worth_8 (by decide) (fun h1 => ?_) (fun h1 => ?_)
  · skip
    refine fr_al0 dX10_worth_14 ?_
    refine fr_getr (cz := 15) dX10_worth_15 flX10_35 ⟨by decide, by decide, rfl⟩ rfl rfl ?_
    refine fr_al0 dX10_worth_18 ?_
    refine fr_getr (cz := 1) dX10_worth_19 flX10_12 ⟨by decide, by decide, rfl⟩ rfl rfl ?_
    refine fr_cVQ (mi' := fmX3_lay) dX10_worth_22 mlX10_201 mvX3_lay ⟨3, _, ⟨by decide, by decide, rfl⟩, rfl, rfl⟩ (Nat.le_of_ble_eq_true rfl) (kcX3_lay hG hI) rfl rfl (Nat.le_of_ble_eq_true rfl) (fun p hp => ?_)
    have hP : pl_P w p := hp.P
    have hpx := hp.2.2.2.2.2.2
    have eal := hP.all
    refine fr_al0 dX10_worth_25 ?_
    refine fr_getr (cz := 24) dX10_worth_26 flX10_44 ⟨by decide, by decide, rfl⟩ rfl rfl ?_
    refine fr_al0 dX10_worth_29 ?_
    refine fr_getr (cz := 15) dX10_worth_30 flX10_35 ⟨by decide, by decide, rfl⟩ rfl rfl ?_
    refine fr_geti (kz := 9) dX10_worth_33 flX10_204 ⟨by decide, by decide, rfl⟩ rfl rfl ?_
    refine fr_iconst dX10_worth_36 ?_
    rw [eal]
    refine fr_cVP (mi' := fmX2_mostGain) dX10_worth_37 mlX10_207 mvX2_mostGain ⟨2, _, ⟨by decide, by decide, rfl⟩, rfl, rfl⟩ (Nat.le_of_ble_eq_true rfl) (kcX2_mostGain hP hI) rfl rfl (Nat.le_of_ble_eq_true rfl) (fun a am ha => ?_)
    have hPa : pl_P w am := hP.keep (fun c c0 c1 => ha.2.2.1 c (by omega) (by omega))
    have hxa : ∀ c, (c < 15 ∨ 35 < c) → am c = p c := fun c hc => ha.2.2.1 c (by omega) (by omega)
    refine fr_al0 dX10_worth_40 ?_
    refine fr_getr (cz := 24) dX10_worth_41 flX10_44 ⟨by decide, by decide, rfl⟩ rfl rfl ?_
    refine fr_al0 dX10_worth_44 ?_
    refine fr_getr (cz := 15) dX10_worth_45 flX10_35 ⟨by decide, by decide, rfl⟩ rfl rfl ?_
    refine fr_geti (kz := 9) dX10_worth_48 flX10_204 ⟨by decide, by decide, rfl⟩ rfl rfl ?_
    refine fr_iconst dX10_worth_51 ?_
    refine fr_il1 dX10_worth_52 ?_
    refine fr_ishl dX10_worth_53 ?_
    refine fr_iconst dX10_worth_54 ?_
    refine fr_ixor dX10_worth_55 ?_
    refine fr_iand dX10_worth_56 ?_
    refine fr_iconst dX10_worth_57 ?_
    have eala := hPa.all
    rw [eala]
    refine fr_cVP (mi' := fmX2_mostGain) dX10_worth_58 mlX10_207 mvX2_mostGain ⟨2, _, ⟨by decide, by decide, rfl⟩, rfl, rfl⟩ (Nat.le_of_ble_eq_true rfl) (kcX2_mostGain hPa hI) rfl rfl (Nat.le_of_ble_eq_true rfl) (fun b bm hb => ?_)
    have hPb : pl_P w bm := hPa.keep (fun c c0 c1 => hb.2.2.1 c (by omega) (by omega))
    have hxb : ∀ c, (c < 15 ∨ 35 < c) → bm c = am c := fun c hc => hb.2.2.1 c (by omega) (by omega)
    refine fr_isub dX10_worth_61 ?_
    exact fr_iret dX10_worth_62 rfl (fr_pi (by first | exact Or.inl ⟨by omega, rfl, rfl⟩ | exact Or.inr ⟨by omega, by rw [ha.1, hb.1], fun c hc => ((hxb c hc).trans (hxa c hc)).trans (hpx c (by omega))⟩))
  · skip
    refine fr_ldc dX10_worth_11 cnX10_134 ?_
    exact fr_iret dX10_worth_13 rfl (fr_pi (by first | exact Or.inl ⟨by omega, rfl, rfl⟩ | exact Or.inr ⟨by omega, by rw [ha.1, hb.1], fun c hc => ((hxb c hc).trans (hxa c hc)).trans (hpx c (by omega))⟩))
set_option maxRecDepth 20000 in
theorem kcX10_send {l : Launch} {κ : fr_Ka} {w : Int → Int} {μ : fr_Me} (hG : fr_G w μ) (hI : fr_I w)  : fr_C l κ fmX10_send 7 [fr_r κ 0] μ (fr_Pi (fun z m => z = (od_V w (fr_shl 1 (w 43) - 1) 0 (w 0).toNat 0) ∧ (∀ t, 0 ≤ t → t < w 0 → m (36 + t) = fr_up μ (36 + t) 1 (sp_dg (w 0) (od_R w (fr_shl 1 (w 43) - 1) 0 (w 0).toNat 0) t) (36 + t)) ∧ ∀ c, (c < 15 ∨ 35 < c) → (c < 36 ∨ 36 + w 0 ≤ c) → m c = μ c)) := by
  have iN := hI.n
  have iM := hI.many
  have gN := hG.n
  have gM := hG.many
  refine fr_enter (by decide +kernel) (ls := [some (fr_r κ 0), none, none]) rfl (Nat.le_of_ble_eq_true rfl) ?_
  refine fr_al0 dX10_send_0 ?_
  refine fr_getr (cz := 15) dX10_send_1 flX10_35 ⟨by decide, by decide, rfl⟩ rfl rfl ?_
  refine fr_al0 dX10_send_4 ?_
  refine fr_getr (cz := 1) dX10_send_5 flX10_12 ⟨by decide, by decide, rfl⟩ rfl rfl ?_
  refine fr_cVQ (mi' := fmX3_lay) dX10_send_8 mlX10_201 mvX3_lay ⟨3, _, ⟨by decide, by decide, rfl⟩, rfl, rfl⟩ (Nat.le_of_ble_eq_true rfl) (kcX3_lay hG hI) rfl rfl (Nat.le_of_ble_eq_true rfl) (fun p hp => ?_)
  have hP : pl_P w p := hp.P
  have hpx := hp.2.2.2.2.2.2
  have eal := hP.all
  refine fr_al0 dX10_send_11 ?_
  refine fr_getr (cz := 24) dX10_send_12 flX10_44 ⟨by decide, by decide, rfl⟩ rfl rfl ?_
  refine fr_al0 dX10_send_15 ?_
  refine fr_getr (cz := 15) dX10_send_16 flX10_35 ⟨by decide, by decide, rfl⟩ rfl rfl ?_
  refine fr_geti (kz := 9) dX10_send_19 flX10_204 ⟨by decide, by decide, rfl⟩ rfl rfl ?_
  refine fr_iconst dX10_send_22 ?_
  rw [eal]
  refine fr_cVP (mi' := fmX2_mostGain) dX10_send_23 mlX10_207 mvX2_mostGain ⟨2, _, ⟨by decide, by decide, rfl⟩, rfl, rfl⟩ (Nat.le_of_ble_eq_true rfl) (kcX2_mostGain hP hI) rfl rfl (Nat.le_of_ble_eq_true rfl) (fun a am ha => ?_)
  have hPa : pl_P w am := hP.keep (fun c c0 c1 => ha.2.2.1 c (by omega) (by omega))
  have hxa : ∀ c, (c < 15 ∨ 35 < c) → am c = p c := fun c hc => ha.2.2.1 c (by omega) (by omega)
  refine fr_is1 dX10_send_26 rfl (Nat.le_of_ble_eq_true rfl) ?_
  refine fr_al0 dX10_send_27 ?_
  refine fr_getr (cz := 24) dX10_send_28 flX10_44 ⟨by decide, by decide, rfl⟩ rfl rfl ?_
  refine fr_cVQ (mi' := fmX2_layRow) dX10_send_31 mlX10_210 mvX2_layRow ⟨2, _, ⟨by decide, by decide, rfl⟩, rfl, rfl⟩ (Nat.le_of_ble_eq_true rfl) (kcX2_layRow hPa hI ha.2.1) rfl rfl (Nat.le_of_ble_eq_true rfl) (fun r hr => ?_)
  have hrx : ∀ c, (c < 15 ∨ 35 < c) → r c = μ c := fun c hc => ((hr.2.1 c (by omega)).trans (hxa c hc)).trans (hpx c (by omega))
  refine fr_iconst dX10_send_34 ?_
  refine fr_is2 dX10_send_35 rfl (Nat.le_of_ble_eq_true rfl) ?_
  refine fr_wk ?_ (ls := [some (fr_r κ 0), some (fr_i a), some (fr_i (0 : Int))]) ⟨rfl, rfl, rfl, trivial⟩
  refine (fr_down (P := fun j : Nat => ∀ (m : fr_Me), (((∀ t, 0 ≤ t → t < (j : Int) → m (36 + t) = fr_up μ (36 + t) 1 (sp_dg (w 0) (od_R w (fr_shl 1 (w 43) - 1) 0 (w 0).toNat 0) t) (36 + t)) ∧ ∀ c, (c < 15 ∨ 35 < c) → (c < 36 ∨ 36 + (j : Int) ≤ c) → m c = μ c) ∧ m 26 = r 26) → fr_A l κ fmX10_send 7 (fr_Pi (fun z m => z = (od_V w (fr_shl 1 (w 43) - 1) 0 (w 0).toNat 0) ∧ (∀ t, 0 ≤ t → t < w 0 → m (36 + t) = fr_up μ (36 + t) 1 (sp_dg (w 0) (od_R w (fr_shl 1 (w 43) - 1) 0 (w 0).toNat 0) t) (36 + t)) ∧ ∀ c, (c < 15 ∨ 35 < c) → (c < 36 ∨ 36 + w 0 ≤ c) → m c = μ c)) 36 [some (fr_r κ 0), some (fr_i a), some (fr_i (j : Int))] [] m) (w 0).toNat ?_ (fun j hj36 ih36 => ?_)) _ (⟨⟨fun t a b => by omega, fun c hc _ => hrx c hc⟩, rfl⟩)
  · skip
    intro m hm
    have em1 : m 1 = μ 1 := hm.1.2 1 (by omega) (by omega)
    have emN : m 1 3 = w 0 := by rw [em1]; exact gN
    refine fr_il2 dX10_send_36 ?_
    refine fr_al0 dX10_send_37 ?_
    refine fr_getr (cz := 1) dX10_send_38 flX10_12 ⟨by decide, by decide, rfl⟩ rfl rfl ?_
    refine fr_geti (kz := 3) dX10_send_41 flX10_80 ⟨by decide, by decide, rfl⟩ rfl rfl ?_
    refine fr_icmp_ge (tgt := 74) dX10_send_44 (by decide) (by omega) (by omega) (fun h1 => ?_) (fun h1 => ?_)
    · skip
      refine fr_il1 dX10_send_74 ?_
      exact fr_iret dX10_send_75 rfl (fr_pi ⟨ha.1, fun t t0 t1 => hm.1.1 t t0 (by omega), fun c hc h2 => hm.1.2 c hc (by omega)⟩)
    · skip
      exfalso; omega
  · skip
    intro m hm
    have em1 : m 1 = μ 1 := hm.1.2 1 (by omega) (by omega)
    have emN : m 1 3 = w 0 := by rw [em1]; exact gN
    refine fr_il2 dX10_send_36 ?_
    refine fr_al0 dX10_send_37 ?_
    refine fr_getr (cz := 1) dX10_send_38 flX10_12 ⟨by decide, by decide, rfl⟩ rfl rfl ?_
    refine fr_geti (kz := 3) dX10_send_41 flX10_80 ⟨by decide, by decide, rfl⟩ rfl rfl ?_
    refine fr_icmp_ge (tgt := 74) dX10_send_44 (by decide) (by omega) (by omega) (fun h2 => ?_) (fun h2 => ?_)
    · skip
      exfalso; omega
    · skip
      refine fr_al0 dX10_send_47 ?_
      refine fr_getr (cz := 1) dX10_send_48 flX10_12 ⟨by decide, by decide, rfl⟩ rfl rfl ?_
      refine fr_getr (cz := 2) dX10_send_51 flX10_122 ⟨by decide, by decide, rfl⟩ rfl rfl ?_
      refine fr_il2 dX10_send_54 ?_
      refine fr_aaT dX10_send_55 (by omega) (by omega) ?_
      refine fr_al0 dX10_send_56 ?_
      refine fr_getr (cz := 24) dX10_send_57 flX10_44 ⟨by decide, by decide, rfl⟩ rfl rfl ?_
      refine fr_getr (cz := 26) dX10_send_60 flX10_213 ⟨by decide, by decide, rfl⟩ rfl rfl ?_
      refine fr_il2 dX10_send_63 ?_
      refine fr_iald dX10_send_64 ⟨by decide, by decide, rfl, by decide⟩ (by omega) (by omega) ?_
      refine fr_put (kz := 1) dX10_send_65 fpX10_141 (fr_obT (by omega) (by omega)) rfl rfl (fun h => by cases h) ?_
      refine fr_ii2 dX10_send_68 rfl (Nat.le_of_ble_eq_true rfl) ?_
      refine fr_goto (tgt := 36) dX10_send_71 (by decide) ?_
      exact fr_wk (ih36 _ (⟨⟨fun t t0 t1 => by rcases (by omega : t < (j : Int) ∨ t = (j : Int)) with q | q; (· rw [gm_uc (by omega)]; exact hm.1.1 t t0 q); (· subst q; have e36 := hm.1.2 (36 + (j : Int)) (by omega) (by omega); funext k; by_cases hk : k = 1; (· subst hk; rw [gm_uk, gm_uk, hm.2]; exact hr.1 _ (by omega) (by omega)); (· rw [gm_un hk, gm_un hk, e36])), fun c hc h2 => by rw [gm_uc (by omega)]; exact hm.1.2 c hc (by omega)⟩, by rw [gm_uc (by omega)]; exact hm.2⟩)) ⟨rfl, rfl, rfl, trivial⟩
