set_option maxRecDepth 20000 in
theorem kcX11_game {l : Launch} {κ : fr_Ka} {μ : fr_Me} (hI : fr_I (μ 67)) {set : Int} (rset : -2147483648 ≤ set ∧ set ≤ 2147483647) : fr_C l κ fmX11_game 7 [fr_r κ 66, fr_i set] μ (fr_Pi (fun z m => ((0 ≤ set ∧ set ≤ fr_shl 1 (μ 67 43) - 1) ∧ z = sp_G (μ 67) set 0 ∧ ∀ c, c ≠ 71 → c ≠ 72 → c ≠ 73 → c ≠ 74 → m c = μ c) ∨ (¬ (0 ≤ set ∧ set ≤ fr_shl 1 (μ 67 43) - 1) ∧ z = -100001 ∧ m = μ))) := by
  refine fr_enter (by decide +kernel) (ls := [some (fr_r κ 66), some (fr_i set)]) rfl (Nat.le_of_ble_eq_true rfl) ?_
  refine fr_al0 dX11_game_0 ?_
  refine fr_il1 dX11_game_1 ?_
  refine fr_cVi (mi' := fmX11_isSet) dX11_game_2 mlX11_85 mvX11_isSet ⟨11, _, ⟨by decide, by decide, rfl⟩, rfl, rfl⟩ (Nat.le_of_ble_eq_true rfl) (kcX11_isSet hI (by omega)) rfl rfl (Nat.le_of_ble_eq_true rfl) ?_
  refine fr_ifb_eq (tgt := 16) dX11_game_5 (by decide) (fun h1 => ?_) (fun h1 => ?_)
  · skip
    have his := h1
    refine fr_ldc dX11_game_16 cnX11_84 ?_
    exact fr_iret dX11_game_18 rfl (fr_pi (Or.inr ⟨his, rfl, rfl⟩))
  · skip
    have his := h1
    refine fr_al0 dX11_game_8 ?_
    refine fr_il1 dX11_game_9 ?_
    refine fr_cVP (mi' := fmX11_gameOf) dX11_game_10 mlX11_213 mvX11_gameOf ⟨11, _, ⟨by decide, by decide, rfl⟩, rfl, rfl⟩ (Nat.le_of_ble_eq_true rfl) (kcX11_gameOf hI) rfl rfl (Nat.le_of_ble_eq_true rfl) (fun z m hz => ?_)
    refine fr_goto (tgt := 18) dX11_game_13 (by decide) ?_
    exact fr_iret dX11_game_18 rfl (fr_pi (Or.inl ⟨his, hz⟩))
