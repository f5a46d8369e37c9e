/-! the JDK's indexOf, over the text of the kinds -/
theorem ix_f {j ch : Int} (hj : 0 ≤ j ∧ j < 4) (h : sp_pg j = ch) : sp_kd ch = j := by
  unfold sp_pg at h
  unfold sp_kd
  rcases (by omega : j = 0 ∨ j = 1 ∨ j = 2 ∨ j = 3) with q | q | q | q <;> subst q <;> simp at h <;> subst h <;> rfl
theorem ix_n {ch : Int} (h : ∀ j, 0 ≤ j → j < 4 → sp_pg j ≠ ch) : sp_kd ch = -1 := by
  have h0 := h 0 (by omega) (by omega)
  have h1 := h 1 (by omega) (by omega)
  have h2 := h 2 (by omega) (by omega)
  have h3 := h 3 (by omega) (by omega)
  unfold sp_pg at h0 h1 h2 h3
  simp at h0 h1 h2 h3
  unfold sp_kd
  (repeat' split) <;> omega
theorem ix_o {ch : Int} (h : ¬ (0 ≤ ch ∧ ch ≤ 255)) : sp_kd ch = -1 := by
  unfold sp_kd
  (repeat' split) <;> omega
theorem ix_b {ch : Int} (h : 0 ≤ ch ∧ ch ≤ 255) : (-128 ≤ ch.bmod 256 ∧ ch.bmod 256 ≤ 127) ∧ (ch < 128 → ch.bmod 256 = ch) ∧ (128 ≤ ch → ch.bmod 256 = ch - 256) := by
  unfold Int.bmod
  have : ch % ((256 : Nat) : Int) = ch := Int.emod_eq_of_lt h.1 (by omega)
  rw [this]
  dsimp only
  split <;> omega
theorem sp_pg_rg (j : Int) : 0 ≤ sp_pg j ∧ sp_pg j ≤ 90 := by unfold sp_pg; (repeat' split) <;> omega
set_option maxRecDepth 20000 in
theorem kcJ0_coder_7d493 {l : Launch} {κ : fr_Ka} {μ : fr_Me}  : fr_C l κ fmJ0_coder_7d493 1 [fr_r κ 80] μ (fr_Ei 0 μ) := by
  refine fr_enter (by decide +kernel) (ls := [some (fr_r κ 80)]) rfl (Nat.le_of_ble_eq_true rfl) ?_
  refine fr_gcs dJ0_coder_7d493_0 rfl slJ0_38 ?_
  refine fr_if_eq (tgt := 13) dJ0_coder_7d493_3 (by decide) (by decide) (fun h1 => absurd h1 (by decide)) (fun _ => ?_)
  refine fr_al0 dJ0_coder_7d493_6 ?_
  refine fr_gsc dJ0_coder_7d493_7 rfl slJ0_15 ?_
  refine fr_goto (tgt := 14) dJ0_coder_7d493_10 (by decide) ?_
  exact fr_bret0 dJ0_coder_7d493_14 rfl (fr_e rfl rfl)
set_option maxRecDepth 20000 in
theorem kcJ0_isLatin1_aae02 {l : Launch} {κ : fr_Ka} {μ : fr_Me}  : fr_C l κ fmJ0_isLatin1_aae02 1 [fr_r κ 80] μ (fr_Ei 1 μ) := by
  refine fr_enter (by decide +kernel) (ls := [some (fr_r κ 80)]) rfl (Nat.le_of_ble_eq_true rfl) ?_
  refine fr_gcs dJ0_isLatin1_aae02_0 rfl slJ0_38 ?_
  refine fr_if_eq (tgt := 17) dJ0_isLatin1_aae02_3 (by decide) (by decide) (fun h1 => absurd h1 (by decide)) (fun _ => ?_)
  refine fr_al0 dJ0_isLatin1_aae02_6 ?_
  refine fr_gsc dJ0_isLatin1_aae02_7 rfl slJ0_15 ?_
  refine fr_if_ne (tgt := 17) dJ0_isLatin1_aae02_10 (by decide) (by decide) (fun h2 => absurd h2 (by decide)) (fun _ => ?_)
  refine fr_iconst dJ0_isLatin1_aae02_13 ?_
  refine fr_goto (tgt := 18) dJ0_isLatin1_aae02_14 (by decide) ?_
  exact fr_zret dJ0_isLatin1_aae02_18 rfl (Or.inr rfl) (fr_e rfl rfl)
set_option maxRecDepth 20000 in
theorem kcJ0_length_8abf5 {l : Launch} {κ : fr_Ka} {μ : fr_Me}  : fr_C l κ fmJ0_length_8abf5 2 [fr_r κ 80] μ (fr_Ei 4 μ) := by
  refine fr_enter (by decide +kernel) (ls := [some (fr_r κ 80)]) rfl (Nat.le_of_ble_eq_true rfl) ?_
  refine fr_al0 dJ0_length_8abf5_0 ?_
  refine fr_gsv dJ0_length_8abf5_1 rfl slJ0_9 ?_
  refine fr_all4 dJ0_length_8abf5_4 ?_
  refine fr_al0 dJ0_length_8abf5_5 ?_
  refine fr_cTi (mi' := fmJ0_coder_7d493) dJ0_length_8abf5_6 slJ0_335 mvJ0_coder_7d493 rfl (Nat.le_of_ble_eq_true rfl) (kcJ0_coder_7d493) rfl rfl (Nat.le_of_ble_eq_true rfl) ?_
  refine fr_ishr dJ0_length_8abf5_9 ?_
  exact fr_iret dJ0_length_8abf5_10 rfl (fr_e (by decide) rfl)
set_option maxRecDepth 20000 in
theorem kcJ1_canEncode_9a6ad {l : Launch} {κ : fr_Ka} {μ : fr_Me} {ch : Int} (rc : -2147483648 ≤ ch ∧ ch ≤ 2147483647)  : fr_C l κ fmJ1_canEncode_9a6ad 1 [fr_i ch] μ (fr_Ei (fr_b (0 ≤ ch ∧ ch ≤ 255)) μ) := by
  refine fr_enter (by decide +kernel) (ls := [some (fr_i ch)]) rfl (Nat.le_of_ble_eq_true rfl) ?_
  refine fr_il0 dJ1_canEncode_9a6ad_0 ?_
  refine fr_if_lt (tgt := 15) dJ1_canEncode_9a6ad_1 (by decide) (by omega) (fun h1 => ?_) (fun h1 => ?_)
  · skip
    refine fr_iconst dJ1_canEncode_9a6ad_15 ?_
    exact fr_zret dJ1_canEncode_9a6ad_16 rfl (Or.inl rfl) (fr_e (fr_bF (by omega)).symm rfl)
  · skip
    refine fr_il0 dJ1_canEncode_9a6ad_4 ?_
    refine fr_sipush dJ1_canEncode_9a6ad_5 (by decide) ?_
    refine fr_icmp_gt (tgt := 15) dJ1_canEncode_9a6ad_8 (by decide) (by omega) (by omega) (fun h2 => ?_) (fun h2 => ?_)
    · skip
      refine fr_iconst dJ1_canEncode_9a6ad_15 ?_
      exact fr_zret dJ1_canEncode_9a6ad_16 rfl (Or.inl rfl) (fr_e (fr_bF (by omega)).symm rfl)
    · skip
      refine fr_iconst dJ1_canEncode_9a6ad_11 ?_
      refine fr_goto (tgt := 16) dJ1_canEncode_9a6ad_12 (by decide) ?_
      exact fr_zret dJ1_canEncode_9a6ad_16 rfl (Or.inr rfl) (fr_e (fr_bT (by omega)).symm rfl)
set_option maxRecDepth 20000 in
theorem kcJ1_indexOfChar_4cfef {l : Launch} {κ : fr_Ka} {μ : fr_Me} {ch : Int} (hc : 0 ≤ ch ∧ ch ≤ 255)  : fr_C l κ fmJ1_indexOfChar_4cfef 1 [fr_r κ 81, fr_i ch, fr_i 0, fr_i 4] μ (fr_Ei (sp_kd ch) μ) := by
  have hbm := ix_b hc
  refine fr_enter (by decide +kernel) (ls := [some (fr_r κ 81), some (fr_i ch), some (fr_i 0), some (fr_i 4), none, none]) rfl (Nat.le_of_ble_eq_true rfl) ?_
  refine fr_il1 dJ1_indexOfChar_4cfef_0 ?_
  refine fr_i2b dJ1_indexOfChar_4cfef_1 ?_
  refine fr_is4 dJ1_indexOfChar_4cfef_2 rfl (Nat.le_of_ble_eq_true rfl) ?_
  refine fr_il2 dJ1_indexOfChar_4cfef_4 ?_
  refine fr_is5 dJ1_indexOfChar_4cfef_5 rfl (Nat.le_of_ble_eq_true rfl) ?_
  refine fr_wk ?_ (ls := [some (fr_r κ 81), some (fr_i ch), some (fr_i 0), some (fr_i 4), some (fr_i (ch.bmod 256)), some (fr_i (0 : Int))]) ⟨rfl, rfl, rfl, rfl, rfl, rfl, trivial⟩
  refine (fr_down (P := fun j : Nat => (∀ i, 0 ≤ i → i < (j : Int) → sp_pg i ≠ ch) → fr_A l κ fmJ1_indexOfChar_4cfef 1 (fr_Ei (sp_kd ch) μ) 7 [some (fr_r κ 81), some (fr_i ch), some (fr_i 0), some (fr_i 4), some (fr_i (ch.bmod 256)), some (fr_i (j : Int))] [] μ) 4 ?_ (fun j hj7 ih7 => ?_)) (fun i a b => by omega)
  · skip
    intro hn
    refine fr_il5 dJ1_indexOfChar_4cfef_7 ?_
    refine fr_il3 dJ1_indexOfChar_4cfef_9 ?_
    refine fr_icmp_ge (tgt := 31) dJ1_indexOfChar_4cfef_10 (by decide) (by omega) (by omega) (fun h1 => ?_) (fun h1 => ?_)
    · skip
      refine fr_iconst dJ1_indexOfChar_4cfef_31 ?_
      exact fr_iret dJ1_indexOfChar_4cfef_32 rfl (fr_e (ix_n (fun i i0 i1 => hn i i0 (by omega))).symm rfl)
    · skip
      exfalso; omega
  · skip
    intro hn
    have hpr := sp_pg_rg (j : Int)
    refine fr_il5 dJ1_indexOfChar_4cfef_7 ?_
    refine fr_il3 dJ1_indexOfChar_4cfef_9 ?_
    refine fr_icmp_ge (tgt := 31) dJ1_indexOfChar_4cfef_10 (by decide) (by omega) (by omega) (fun h2 => ?_) (fun h2 => ?_)
    · skip
      exfalso; omega
    · skip
      refine fr_al0 dJ1_indexOfChar_4cfef_13 ?_
      refine fr_il5 dJ1_indexOfChar_4cfef_14 ?_
      refine fr_bal dJ1_indexOfChar_4cfef_16 (by omega) (by omega) ?_
      refine fr_il4 dJ1_indexOfChar_4cfef_17 ?_
      refine fr_icmp_ne (tgt := 25) dJ1_indexOfChar_4cfef_19 (by decide) (by omega) (by omega) (fun h3 => ?_) (fun h3 => ?_)
      · skip
        refine fr_ii5 dJ1_indexOfChar_4cfef_25 rfl (Nat.le_of_ble_eq_true rfl) ?_
        refine fr_goto (tgt := 7) dJ1_indexOfChar_4cfef_28 (by decide) ?_
        exact fr_wk (ih7 (fun i i0 i1 => by rcases (by omega : i < (j : Int) ∨ i = (j : Int)) with q | q; (· exact hn i i0 q); (· subst q; omega))) ⟨rfl, rfl, rfl, rfl, rfl, rfl, trivial⟩
      · skip
        refine fr_il5 dJ1_indexOfChar_4cfef_22 ?_
        exact fr_iret dJ1_indexOfChar_4cfef_24 rfl (fr_e (ix_f (by omega) (by omega)).symm rfl)
set_option maxRecDepth 20000 in
theorem kcJ1_indexOf_4cfef {l : Launch} {κ : fr_Ka} {μ : fr_Me} {ch : Int} (rc : -2147483648 ≤ ch ∧ ch ≤ 2147483647)  : fr_C l κ fmJ1_indexOf_4cfef 2 [fr_r κ 81, fr_i ch, fr_i 0, fr_i 4] μ (fr_Ei (sp_kd ch) μ) := by
  refine fr_enter (by decide +kernel) (ls := [some (fr_r κ 81), some (fr_i ch), some (fr_i 0), some (fr_i 4)]) rfl (Nat.le_of_ble_eq_true rfl) ?_
  refine fr_il1 dJ1_indexOf_4cfef_0 ?_
  refine fr_cSi (mi' := fmJ1_canEncode_9a6ad) dJ1_indexOf_4cfef_1 mlJ1_88 msJ1_canEncode_9a6ad (Nat.le_of_ble_eq_true rfl) (kcJ1_canEncode_9a6ad rc) rfl rfl (Nat.le_of_ble_eq_true rfl) ?_
  refine fr_ifb_ne (tgt := 9) dJ1_indexOf_4cfef_4 (by decide) (fun h1 => ?_) (fun h1 => ?_)
  · skip
    refine fr_il2 dJ1_indexOf_4cfef_9 ?_
    refine fr_iconst dJ1_indexOf_4cfef_10 ?_
    refine fr_mmax dJ1_indexOf_4cfef_11 mxJ1_92 (by omega) (by omega) (Nat.le_of_ble_eq_true rfl) (Nat.le_of_ble_eq_true rfl) ?_
    rw [if_neg (by omega)]
    refine fr_is2 dJ1_indexOf_4cfef_14 rfl (Nat.le_of_ble_eq_true rfl) ?_
    refine fr_il3 dJ1_indexOf_4cfef_15 ?_
    refine fr_al0 dJ1_indexOf_4cfef_16 ?_
    refine fr_all4 dJ1_indexOf_4cfef_17 ?_
    refine fr_mmin dJ1_indexOf_4cfef_18 mnJ1_38 (by omega) (by omega) (Nat.le_of_ble_eq_true rfl) (Nat.le_of_ble_eq_true rfl) ?_
    rw [if_neg (by omega)]
    refine fr_is3 dJ1_indexOf_4cfef_21 rfl (Nat.le_of_ble_eq_true rfl) ?_
    refine fr_il2 dJ1_indexOf_4cfef_22 ?_
    refine fr_il3 dJ1_indexOf_4cfef_23 ?_
    refine fr_icmp_lt (tgt := 29) dJ1_indexOf_4cfef_24 (by decide) (by omega) (by omega) (fun h2 => ?_) (fun h2 => ?_)
    · skip
      refine fr_al0 dJ1_indexOf_4cfef_29 ?_
      refine fr_il1 dJ1_indexOf_4cfef_30 ?_
      refine fr_il2 dJ1_indexOf_4cfef_31 ?_
      refine fr_il3 dJ1_indexOf_4cfef_32 ?_
      refine fr_cSi (mi' := fmJ1_indexOfChar_4cfef) dJ1_indexOf_4cfef_33 mlJ1_95 msJ1_indexOfChar_4cfef (Nat.le_of_ble_eq_true rfl) (kcJ1_indexOfChar_4cfef (by omega)) rfl rfl (Nat.le_of_ble_eq_true rfl) ?_
      exact fr_iret dJ1_indexOf_4cfef_36 rfl (fr_e rfl rfl)
    · skip
      refine fr_iconst dJ1_indexOf_4cfef_27 ?_
      exact fr_iret dJ1_indexOf_4cfef_28 rfl (by exfalso; omega)
  · skip
    refine fr_iconst dJ1_indexOf_4cfef_7 ?_
    exact fr_iret dJ1_indexOf_4cfef_8 rfl (fr_e (ix_o (by assumption)).symm rfl)
set_option maxRecDepth 20000 in
theorem kcJ0_indexOf_7cf53 {l : Launch} {κ : fr_Ka} {μ : fr_Me} {ch : Int} (rc : -2147483648 ≤ ch ∧ ch ≤ 2147483647)  : fr_C l κ fmJ0_indexOf_7cf53 3 [fr_r κ 80, fr_i ch, fr_i 0] μ (fr_Ei (sp_kd ch) μ) := by
  refine fr_enter (by decide +kernel) (ls := [some (fr_r κ 80), some (fr_i ch), some (fr_i 0)]) rfl (Nat.le_of_ble_eq_true rfl) ?_
  refine fr_al0 dJ0_indexOf_7cf53_0 ?_
  refine fr_cTi (mi' := fmJ0_isLatin1_aae02) dJ0_indexOf_7cf53_1 slJ0_492 mvJ0_isLatin1_aae02 rfl (Nat.le_of_ble_eq_true rfl) (kcJ0_isLatin1_aae02) rfl rfl (Nat.le_of_ble_eq_true rfl) ?_
  refine fr_if_eq (tgt := 23) dJ0_indexOf_7cf53_4 (by decide) (by decide) (fun h1 => absurd h1 (by decide)) (fun _ => ?_)
  refine fr_al0 dJ0_indexOf_7cf53_7 ?_
  refine fr_gsv dJ0_indexOf_7cf53_8 rfl slJ0_9 ?_
  refine fr_il1 dJ0_indexOf_7cf53_11 ?_
  refine fr_il2 dJ0_indexOf_7cf53_12 ?_
  refine fr_al0 dJ0_indexOf_7cf53_13 ?_
  refine fr_cTi (mi' := fmJ0_length_8abf5) dJ0_indexOf_7cf53_14 slJ0_505 mvJ0_length_8abf5 rfl (Nat.le_of_ble_eq_true rfl) (kcJ0_length_8abf5) rfl rfl (Nat.le_of_ble_eq_true rfl) ?_
  refine fr_cSi (mi' := fmJ1_indexOf_4cfef) dJ0_indexOf_7cf53_17 mlJ0_637 msJ1_indexOf_4cfef (Nat.le_of_ble_eq_true rfl) (kcJ1_indexOf_4cfef rc) rfl rfl (Nat.le_of_ble_eq_true rfl) ?_
  refine fr_goto (tgt := 36) dJ0_indexOf_7cf53_20 (by decide) ?_
  exact fr_iret dJ0_indexOf_7cf53_36 rfl (fr_e rfl rfl)
set_option maxRecDepth 20000 in
theorem kcJ0_indexOf_0f7a4 {l : Launch} {κ : fr_Ka} {μ : fr_Me} {ch : Int} (rc : -2147483648 ≤ ch ∧ ch ≤ 2147483647)  : fr_C l κ fmJ0_indexOf_0f7a4 4 [fr_r κ 80, fr_i ch] μ (fr_Ei (sp_kd ch) μ) := by
  refine fr_enter (by decide +kernel) (ls := [some (fr_r κ 80), some (fr_i ch)]) rfl (Nat.le_of_ble_eq_true rfl) ?_
  refine fr_al0 dJ0_indexOf_0f7a4_0 ?_
  refine fr_il1 dJ0_indexOf_0f7a4_1 ?_
  refine fr_iconst dJ0_indexOf_0f7a4_2 ?_
  refine fr_cTi (mi' := fmJ0_indexOf_7cf53) dJ0_indexOf_0f7a4_3 slJ0_633 mvJ0_indexOf_7cf53 rfl (Nat.le_of_ble_eq_true rfl) (kcJ0_indexOf_7cf53 rc) rfl rfl (Nat.le_of_ble_eq_true rfl) ?_
  exact fr_iret dJ0_indexOf_0f7a4_6 rfl (fr_e rfl rfl)
