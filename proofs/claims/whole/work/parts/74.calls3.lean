/-! the class: its calls, sheets -/
def sh_L (μ : fr_Me) (s : Int) : Int := if μ (58 + s) 1 = 0 then -1 else μ (58 + s) 2
def fr_Sc (μ : fr_Me) : Prop := ∀ s, 0 ≤ s → s < 4 → (μ (58 + s) 1 = 0 ∨ μ (58 + s) 1 = 1) ∧ (0 ≤ μ (58 + s) 2 ∧ μ (58 + s) 2 ≤ 3) ∧ (0 ≤ μ (58 + s) 3 ∧ μ (58 + s) 3 ≤ 16) ∧ ∀ k, 0 ≤ k → k < 16 → -9223372036854775808 ≤ μ (62 + s) k ∧ μ (62 + s) k ≤ 9223372036854775807
theorem bask_rg {w : Int → Int} (hI : fr_I w) (f : Int) : 0 ≤ sp_bask w f 0 ∧ sp_bask w f 0 ≤ 36 := by
  have hN := hI.n
  have h := sp_sum_rg (F := fun t => if (0 : Int) = 0 then sp_now w t f else sp_nxt w t f (w (7 + t)) 0) (a := 0) (b := 6) (w 0).toNat (fun t _ _ => by rw [if_pos rfl]; exact sp_bn_rg _ _ _ _ _ _ _)
  unfold sp_bask
  omega
theorem cutl_s {lane v : Int} (hv : 0 ≤ v ∧ v ≤ 100) : sp_cutl lane v = v := by
  unfold sp_cutl Int.bmod
  have e1 : v % ((256 : Nat) : Int) = v := Int.emod_eq_of_lt hv.1 (by omega)
  have e2 : v % ((65536 : Nat) : Int) = v := Int.emod_eq_of_lt hv.1 (by omega)
  have e3 : v % ((4294967296 : Nat) : Int) = v := Int.emod_eq_of_lt hv.1 (by omega)
  rw [e1, e2, e3]
  dsimp only
  (repeat' split) <;> omega
set_option maxRecDepth 20000 in
theorem kcX10_faultOf {l : Launch} {κ : fr_Ka} {μ : fr_Me} (hS : fr_Sc μ) {s lane i n : Int} (s0 : 0 ≤ s) (s4 : s < 4) (rlane : -2147483648 ≤ lane ∧ lane ≤ 2147483647) (ri : -2147483648 ≤ i ∧ i ≤ 2147483647) (rn : -2147483648 ≤ n ∧ n ≤ 2147483647) : fr_C l κ fmX10_faultOf 3 [fr_r κ 0, fr_i s, fr_i lane, fr_i i, fr_i n] μ (fr_Ei (sp_bars (sh_L μ s) (μ (58 + s) 3) lane i n) μ) := by
  have hs := hS s (by omega) (by omega)
  refine fr_enter (by decide +kernel) (ls := [some (fr_r κ 0), some (fr_i s), some (fr_i lane), some (fr_i i), some (fr_i n), none]) rfl (Nat.le_of_ble_eq_true rfl) ?_
  refine fr_al0 dX10_faultOf_0 ?_
  refine fr_getr (cz := 14) dX10_faultOf_1 flX10_28 ⟨by decide, by decide, rfl⟩ rfl rfl ?_
  refine fr_il1 dX10_faultOf_4 ?_
  refine fr_aaS dX10_faultOf_5 (by omega) (by omega) ?_
  refine fr_as5 dX10_faultOf_6 rfl (Nat.le_of_ble_eq_true rfl) ?_
  refine fr_al5 dX10_faultOf_8 ?_
  refine fr_geti (kz := 1) dX10_faultOf_10 flX10_301 (fr_obS (by omega) (by omega)) rfl rfl ?_
  refine fr_if_ne (tgt := 19) dX10_faultOf_13 (by decide) (by omega) (fun h1 => ?_) (fun h1 => ?_)
  · skip
    refine fr_al5 dX10_faultOf_19 ?_
    refine fr_geti (kz := 2) dX10_faultOf_21 flX10_305 (fr_obS (by omega) (by omega)) rfl rfl ?_
    refine fr_il2 dX10_faultOf_24 ?_
    refine fr_icmp_eq (tgt := 31) dX10_faultOf_25 (by decide) (by omega) (by omega) (fun h2 => ?_) (fun h2 => ?_)
    · skip
      refine fr_al5 dX10_faultOf_31 ?_
      refine fr_il3 dX10_faultOf_33 ?_
      refine fr_il4 dX10_faultOf_34 ?_
      refine fr_cVi (mi' := fmX5_hasItems) dX10_faultOf_36 mlX10_308 mvX5_hasItems ⟨5, _, (fr_obS (by omega) (by omega)), rfl, rfl⟩ (Nat.le_of_ble_eq_true rfl) (kcX5_hasItems s0 s4 (by omega) (by omega) (by omega)) rfl rfl (Nat.le_of_ble_eq_true rfl) ?_
      refine fr_ifb_eq (tgt := 46) dX10_faultOf_39 (by decide) (fun h3 => ?_) (fun h3 => ?_)
      · skip
        refine fr_bipush dX10_faultOf_46 (by decide) ?_
        exact fr_iret dX10_faultOf_48 rfl (fr_e (by unfold sp_bars sh_L; (repeat' split) <;> omega) rfl)
      · skip
        refine fr_iconst dX10_faultOf_42 ?_
        refine fr_goto (tgt := 48) dX10_faultOf_43 (by decide) ?_
        exact fr_iret dX10_faultOf_48 rfl (fr_e (by unfold sp_bars sh_L; (repeat' split) <;> omega) rfl)
    · skip
      refine fr_bipush dX10_faultOf_28 (by decide) ?_
      exact fr_iret dX10_faultOf_30 rfl (fr_e (by unfold sp_bars sh_L; (repeat' split) <;> omega) rfl)
  · skip
    refine fr_bipush dX10_faultOf_16 (by decide) ?_
    exact fr_iret dX10_faultOf_18 rfl (fr_e (by unfold sp_bars sh_L; (repeat' split) <;> omega) rfl)
set_option maxRecDepth 20000 in
theorem kcX10_layRota {l : Launch} {κ : fr_Ka} {w : Int → Int} {μ : fr_Me} (hG : fr_G w μ) (hI : fr_I w) (hS : fr_Sc μ) {s lane i n : Int} (rs : -2147483648 ≤ s ∧ s ≤ 2147483647) (rlane : -2147483648 ≤ lane ∧ lane ≤ 2147483647) (ri : -2147483648 ≤ i ∧ i ≤ 2147483647) (rn : -2147483648 ≤ n ∧ n ≤ 2147483647) : fr_C l κ fmX10_layRota 5 [fr_r κ 0, fr_i s, fr_i lane, fr_i i, fr_i n] μ (fr_Pi (fun z m => (∀ c, c ≠ 33 → c ≠ 34 → m c = μ c) ∧ ((¬ ((0 ≤ s ∧ s ≤ 3) ∧ (0 ≤ lane ∧ lane ≤ 3) ∧ (1 ≤ n ∧ n ≤ 8)) ∧ z = -1) ∨ (((0 ≤ s ∧ s ≤ 3) ∧ (0 ≤ lane ∧ lane ≤ 3) ∧ (1 ≤ n ∧ n ≤ 8)) ∧ (sp_bars (sh_L μ s) (μ (58 + s) 3) lane i n) ≠ 0 ∧ z = (sp_bars (sh_L μ s) (μ (58 + s) 3) lane i n)) ∨ (((0 ≤ s ∧ s ≤ 3) ∧ (0 ≤ lane ∧ lane ≤ 3) ∧ (1 ≤ n ∧ n ≤ 8)) ∧ (sp_bars (sh_L μ s) (μ (58 + s) 3) lane i n) = 0 ∧ ¬ sp_folks w (fun q => μ (62 + s) (i + q)) n ∧ z = -2) ∨ (((0 ≤ s ∧ s ≤ 3) ∧ (0 ≤ lane ∧ lane ≤ 3) ∧ (1 ≤ n ∧ n ≤ 8)) ∧ (sp_bars (sh_L μ s) (μ (58 + s) 3) lane i n) = 0 ∧ sp_folks w (fun q => μ (62 + s) (i + q)) n ∧ z = 0 ∧ ro_H (fun q => μ (62 + s) (i + q)) n m)))) := by
  refine fr_enter (by decide +kernel) (ls := [some (fr_r κ 0), some (fr_i s), some (fr_i lane), some (fr_i i), some (fr_i n), none]) rfl (Nat.le_of_ble_eq_true rfl) ?_
  refine fr_il1 dX10_layRota_0 ?_
  refine fr_cSi (mi' := fmX10_isSheet) dX10_layRota_1 mlX10_235 msX10_isSheet (Nat.le_of_ble_eq_true rfl) (kcX10_isSheet (by omega)) rfl rfl (Nat.le_of_ble_eq_true rfl) ?_
  refine fr_ifb_eq (tgt := 25) dX10_layRota_4 (by decide) (fun h1 => ?_) (fun h1 => ?_)
  · skip
    refine fr_iconst dX10_layRota_25 ?_
    exact fr_iret dX10_layRota_26 rfl (fr_pi (by first | exact ⟨fun _ _ _ => rfl, Or.inl ⟨by omega, rfl⟩⟩ | exact ⟨fun _ _ _ => rfl, Or.inr (Or.inl ⟨by omega, by omega, rfl⟩)⟩))
  · skip
    refine fr_il2 dX10_layRota_7 ?_
    refine fr_cSi (mi' := fmX10_isLane) dX10_layRota_8 mlX10_238 msX10_isLane (Nat.le_of_ble_eq_true rfl) (kcX10_isLane (by omega)) rfl rfl (Nat.le_of_ble_eq_true rfl) ?_
    refine fr_ifb_eq (tgt := 25) dX10_layRota_11 (by decide) (fun h2 => ?_) (fun h2 => ?_)
    · skip
      refine fr_iconst dX10_layRota_25 ?_
      exact fr_iret dX10_layRota_26 rfl (fr_pi (by first | exact ⟨fun _ _ _ => rfl, Or.inl ⟨by omega, rfl⟩⟩ | exact ⟨fun _ _ _ => rfl, Or.inr (Or.inl ⟨by omega, by omega, rfl⟩)⟩))
    · skip
      refine fr_il4 dX10_layRota_14 ?_
      refine fr_iconst dX10_layRota_16 ?_
      refine fr_bipush dX10_layRota_17 (by decide) ?_
      refine fr_cSi (mi' := fmX10_isWithin) dX10_layRota_19 mlX10_76 msX10_isWithin (Nat.le_of_ble_eq_true rfl) (kcX10_isWithin (by omega) (by omega) (by omega)) rfl rfl (Nat.le_of_ble_eq_true rfl) ?_
      refine fr_ifb_ne (tgt := 27) dX10_layRota_22 (by decide) (fun h3 => ?_) (fun h3 => ?_)
      · skip
        refine fr_al0 dX10_layRota_27 ?_
        refine fr_il1 dX10_layRota_28 ?_
        refine fr_il2 dX10_layRota_29 ?_
        refine fr_il3 dX10_layRota_30 ?_
        refine fr_il4 dX10_layRota_31 ?_
        refine fr_cVi (mi' := fmX10_faultOf) dX10_layRota_33 mlX10_241 mvX10_faultOf ⟨10, _, ⟨by decide, by decide, rfl⟩, rfl, rfl⟩ (Nat.le_of_ble_eq_true rfl) (kcX10_faultOf hS (by omega) (by omega) (by omega) (by omega) (by omega)) rfl rfl (Nat.le_of_ble_eq_true rfl) ?_
        have hbr := sp_bars_rg (sh_L μ s) (μ (58 + s) 3) lane i n
        refine fr_is5 dX10_layRota_36 rfl (Nat.le_of_ble_eq_true rfl) ?_
        refine fr_il5 dX10_layRota_38 ?_
        refine fr_if_eq (tgt := 46) dX10_layRota_40 (by decide) (by omega) (fun h4 => ?_) (fun h4 => ?_)
        · skip
          have hb0 := sp_bars0 (show (sp_bars (sh_L μ s) (μ (58 + s) 3) lane i n) = 0 by omega)
          have hlen := (hS s (by omega) (by omega)).2.2.1
          refine fr_al0 dX10_layRota_46 ?_
          refine fr_getr (cz := 33) dX10_layRota_47 flX10_67 ⟨by decide, by decide, rfl⟩ rfl rfl ?_
          refine fr_al0 dX10_layRota_50 ?_
          refine fr_getr (cz := 14) dX10_layRota_51 flX10_28 ⟨by decide, by decide, rfl⟩ rfl rfl ?_
          refine fr_il1 dX10_layRota_54 ?_
          refine fr_aaS dX10_layRota_55 (by omega) (by omega) ?_
          refine fr_il3 dX10_layRota_56 ?_
          refine fr_il4 dX10_layRota_57 ?_
          refine fr_cVP (mi' := fmX4_take) dX10_layRota_59 mlX10_321 mvX4_take ⟨4, _, ⟨by decide, by decide, rfl⟩, rfl, rfl⟩ (Nat.le_of_ble_eq_true rfl) (kcX4_take hG hI (by omega) (by omega) (by omega) (by omega) (hS s (by omega) (by omega)).2.2.2) rfl rfl (Nat.le_of_ble_eq_true rfl) (fun z m hz => ?_)
          obtain ⟨hf1, hf2, hf3, hz⟩ := hz
          rcases hz with ⟨hfk, rfl, h34⟩ | ⟨hnf, rfl⟩
          · skip
            refine fr_if_eq (tgt := 69) dX10_layRota_62 (by decide) (by decide) (fun h5 => absurd h5 (by decide)) (fun _ => ?_)
            refine fr_iconst dX10_layRota_65 ?_
            refine fr_goto (tgt := 71) dX10_layRota_66 (by decide) ?_
            exact fr_iret dX10_layRota_71 rfl (fr_pi ⟨hf1, Or.inr (Or.inr (Or.inr ⟨by omega, by omega, hfk, rfl, by omega, hf3, h34⟩))⟩)
          · skip
            refine fr_if_eq (tgt := 69) dX10_layRota_62 (by decide) (by decide) (fun _ => ?_) (fun h6 => absurd h6 (by decide))
            refine fr_bipush dX10_layRota_69 (by decide) ?_
            exact fr_iret dX10_layRota_71 rfl (fr_pi ⟨hf1, Or.inr (Or.inr (Or.inl ⟨by omega, by omega, hnf, rfl⟩))⟩)
        · skip
          refine fr_il5 dX10_layRota_43 ?_
          exact fr_iret dX10_layRota_45 rfl (fr_pi (by first | exact ⟨fun _ _ _ => rfl, Or.inl ⟨by omega, rfl⟩⟩ | exact ⟨fun _ _ _ => rfl, Or.inr (Or.inl ⟨by omega, by omega, rfl⟩)⟩))
      · skip
        refine fr_iconst dX10_layRota_25 ?_
        exact fr_iret dX10_layRota_26 rfl (fr_pi (by first | exact ⟨fun _ _ _ => rfl, Or.inl ⟨by omega, rfl⟩⟩ | exact ⟨fun _ _ _ => rfl, Or.inr (Or.inl ⟨by omega, by omega, rfl⟩)⟩))
set_option maxRecDepth 20000 in
theorem kcX10_film {l : Launch} {κ : fr_Ka} {w : Int → Int} {μ : fr_Me} (hG : fr_G w μ) (hI : fr_I w) (hS : fr_Sc μ) {s lane i : Int} (rs : -2147483648 ≤ s ∧ s ≤ 2147483647) (rlane : -2147483648 ≤ lane ∧ lane ≤ 2147483647) (ri : -2147483648 ≤ i ∧ i ≤ 2147483647) : fr_C l κ fmX10_film 6 [fr_r κ 0, fr_i s, fr_i lane, fr_i i] μ (fr_Pi (fun z m => (¬ ((0 ≤ s ∧ s ≤ 3) ∧ (0 ≤ lane ∧ lane ≤ 3)) ∧ z = -1 ∧ m = μ) ∨ (((0 ≤ s ∧ s ≤ 3) ∧ (0 ≤ lane ∧ lane ≤ 3)) ∧ (sp_bars (sh_L μ s) (μ (58 + s) 3) lane i 10) ≠ 0 ∧ z = (sp_bars (sh_L μ s) (μ (58 + s) 3) lane i 10) ∧ m = μ) ∨ (((0 ≤ s ∧ s ≤ 3) ∧ (0 ≤ lane ∧ lane ≤ 3)) ∧ (sp_bars (sh_L μ s) (μ (58 + s) 3) lane i 10) = 0 ∧ z = 10 ∧ (∀ c, c ≠ 62 + s → m c = μ c) ∧ ∀ k, m (62 + s) k = if i ≤ k ∧ k < i + 10 then sp_bask w (k - i) 0 else μ (62 + s) k))) := by
  have iN := hI.n
  have iM := hI.many
  have gN := hG.n
  have gM := hG.many
  refine fr_enter (by decide +kernel) (ls := [some (fr_r κ 0), some (fr_i s), some (fr_i lane), some (fr_i i), none, none]) rfl (Nat.le_of_ble_eq_true rfl) ?_
  refine fr_il1 dX10_film_0 ?_
  refine fr_cSi (mi' := fmX10_isSheet) dX10_film_1 mlX10_235 msX10_isSheet (Nat.le_of_ble_eq_true rfl) (kcX10_isSheet (by omega)) rfl rfl (Nat.le_of_ble_eq_true rfl) ?_
  refine fr_ifb_eq (tgt := 14) dX10_film_4 (by decide) (fun h1 => ?_) (fun h1 => ?_)
  · skip
    refine fr_iconst dX10_film_14 ?_
    exact fr_iret dX10_film_15 rfl (fr_pi (by first | exact Or.inl ⟨by omega, rfl, rfl⟩ | exact Or.inr (Or.inl ⟨by omega, by omega, rfl, rfl⟩) | exact Or.inr (Or.inr ⟨by omega, by omega, rfl, hm.1, hm.2⟩)))
  · skip
    refine fr_il2 dX10_film_7 ?_
    refine fr_cSi (mi' := fmX10_isLane) dX10_film_8 mlX10_238 msX10_isLane (Nat.le_of_ble_eq_true rfl) (kcX10_isLane (by omega)) rfl rfl (Nat.le_of_ble_eq_true rfl) ?_
    refine fr_ifb_ne (tgt := 16) dX10_film_11 (by decide) (fun h2 => ?_) (fun h2 => ?_)
    · skip
      refine fr_al0 dX10_film_16 ?_
      refine fr_il1 dX10_film_17 ?_
      refine fr_il2 dX10_film_18 ?_
      refine fr_il3 dX10_film_19 ?_
      refine fr_bipush dX10_film_20 (by decide) ?_
      refine fr_cVi (mi' := fmX10_faultOf) dX10_film_22 mlX10_241 mvX10_faultOf ⟨10, _, ⟨by decide, by decide, rfl⟩, rfl, rfl⟩ (Nat.le_of_ble_eq_true rfl) (kcX10_faultOf hS (by omega) (by omega) (by omega) (by omega) (by omega)) rfl rfl (Nat.le_of_ble_eq_true rfl) ?_
      have hbr := sp_bars_rg (sh_L μ s) (μ (58 + s) 3) lane i 10
      refine fr_is4 dX10_film_25 rfl (Nat.le_of_ble_eq_true rfl) ?_
      refine fr_il4 dX10_film_27 ?_
      refine fr_if_eq (tgt := 35) dX10_film_29 (by decide) (by omega) (fun h3 => ?_) (fun h3 => ?_)
      · skip
        refine fr_iconst dX10_film_35 ?_
        refine fr_is5 dX10_film_36 rfl (Nat.le_of_ble_eq_true rfl) ?_
        have hb0 := sp_bars0 (show (sp_bars (sh_L μ s) (μ (58 + s) 3) lane i 10) = 0 by omega)
        have hss := hS s (by omega) (by omega)
        refine fr_wk ?_ (ls := [some (fr_r κ 0), some (fr_i s), some (fr_i lane), some (fr_i i), none, some (fr_i (0 : Int))]) ⟨rfl, rfl, rfl, rfl, rfl, trivial⟩
        refine (fr_down (P := fun j : Nat => ∀ (m : fr_Me), ((∀ c, c ≠ 62 + s → m c = μ c) ∧ ∀ k, m (62 + s) k = if i ≤ k ∧ k < i + (j : Int) then sp_bask w (k - i) 0 else μ (62 + s) k) → fr_A l κ fmX10_film 6 (fr_Pi (fun z m => (¬ ((0 ≤ s ∧ s ≤ 3) ∧ (0 ≤ lane ∧ lane ≤ 3)) ∧ z = -1 ∧ m = μ) ∨ (((0 ≤ s ∧ s ≤ 3) ∧ (0 ≤ lane ∧ lane ≤ 3)) ∧ (sp_bars (sh_L μ s) (μ (58 + s) 3) lane i 10) ≠ 0 ∧ z = (sp_bars (sh_L μ s) (μ (58 + s) 3) lane i 10) ∧ m = μ) ∨ (((0 ≤ s ∧ s ≤ 3) ∧ (0 ≤ lane ∧ lane ≤ 3)) ∧ (sp_bars (sh_L μ s) (μ (58 + s) 3) lane i 10) = 0 ∧ z = 10 ∧ (∀ c, c ≠ 62 + s → m c = μ c) ∧ ∀ k, m (62 + s) k = if i ≤ k ∧ k < i + 10 then sp_bask w (k - i) 0 else μ (62 + s) k))) 38 [some (fr_r κ 0), some (fr_i s), some (fr_i lane), some (fr_i i), none, some (fr_i (j : Int))] [] m) 10 ?_ (fun j hj38 ih38 => ?_)) _ (⟨fun _ _ => rfl, fun k => by rw [if_neg (by omega)]⟩)
        · skip
          intro m hm
          refine fr_il5 dX10_film_38 ?_
          refine fr_bipush dX10_film_40 (by decide) ?_
          refine fr_icmp_ge (tgt := 74) dX10_film_42 (by decide) (by omega) (by omega) (fun h4 => ?_) (fun h4 => ?_)
          · skip
            refine fr_bipush dX10_film_74 (by decide) ?_
            exact fr_iret dX10_film_76 rfl (fr_pi (by first | exact Or.inl ⟨by omega, rfl, rfl⟩ | exact Or.inr (Or.inl ⟨by omega, by omega, rfl, rfl⟩) | exact Or.inr (Or.inr ⟨by omega, by omega, rfl, hm.1, hm.2⟩)))
          · skip
            exfalso; omega
        · skip
          intro m hm
          refine fr_il5 dX10_film_38 ?_
          refine fr_bipush dX10_film_40 (by decide) ?_
          refine fr_icmp_ge (tgt := 74) dX10_film_42 (by decide) (by omega) (by omega) (fun h5 => ?_) (fun h5 => ?_)
          · skip
            exfalso; omega
          · skip
            refine fr_al0 dX10_film_45 ?_
            refine fr_getr (cz := 14) dX10_film_46 flX10_28 ⟨by decide, by decide, rfl⟩ rfl rfl ?_
            refine fr_il1 dX10_film_49 ?_
            refine fr_aaS dX10_film_50 (by omega) (by omega) ?_
            refine fr_il3 dX10_film_51 ?_
            refine fr_il5 dX10_film_52 ?_
            refine fr_iadd dX10_film_54 ?_
            refine fr_al0 dX10_film_55 ?_
            refine fr_getr (cz := 1) dX10_film_56 flX10_12 ⟨by decide, by decide, rfl⟩ rfl rfl ?_
            refine fr_il5 dX10_film_59 ?_
            refine fr_cVi (mi' := fmX1_inBasket) dX10_film_61 mlX10_183 mvX1_inBasket ⟨1, _, ⟨by decide, by decide, rfl⟩, rfl, rfl⟩ (Nat.le_of_ble_eq_true rfl) (kcX1_inBasket (hG.keep (fun c hc => hm.1 c (by omega))) hI (by omega)) rfl rfl (Nat.le_of_ble_eq_true rfl) ?_
            have hbk := bask_rg hI (j : Int)
            refine fr_i2l dX10_film_64 (by omega) ?_
            refine fr_cVv (mi' := fmX5_put) dX10_film_65 mlX10_294 mvX5_put ⟨5, _, (fr_obS (by omega) (by omega)), rfl, rfl⟩ (Nat.le_of_ble_eq_true rfl) (kcX5_put (by omega) (by omega) (by omega) (by rw [hm.1 (58 + s) (by omega)]; omega)) rfl rfl (Nat.le_of_ble_eq_true rfl) ?_
            refine fr_ii5 dX10_film_68 rfl (Nat.le_of_ble_eq_true rfl) ?_
            refine fr_goto (tgt := 38) dX10_film_71 (by decide) ?_
            exact fr_wk (ih38 _ (⟨fun c hc => by rw [gm_uc hc]; exact hm.1 c hc, fun k => by by_cases q : k = i + (j : Int); (· rw [q, gm_uk, if_pos (by omega), show i + (j : Int) - i = (j : Int) by omega]; exact cutl_s (by omega)); (· rw [gm_un q, hm.2 k]; by_cases r : i ≤ k ∧ k < i + (j : Int); (· rw [if_pos r, if_pos (by omega)]); (· rw [if_neg r, if_neg (by omega)]))⟩)) ⟨rfl, rfl, rfl, rfl, rfl, trivial⟩
      · skip
        refine fr_il4 dX10_film_32 ?_
        exact fr_iret dX10_film_34 rfl (fr_pi (by first | exact Or.inl ⟨by omega, rfl, rfl⟩ | exact Or.inr (Or.inl ⟨by omega, by omega, rfl, rfl⟩) | exact Or.inr (Or.inr ⟨by omega, by omega, rfl, hm.1, hm.2⟩)))
    · skip
      refine fr_iconst dX10_film_14 ?_
      exact fr_iret dX10_film_15 rfl (fr_pi (by first | exact Or.inl ⟨by omega, rfl, rfl⟩ | exact Or.inr (Or.inl ⟨by omega, by omega, rfl, rfl⟩) | exact Or.inr (Or.inr ⟨by omega, by omega, rfl, hm.1, hm.2⟩)))
set_option maxRecDepth 20000 in
theorem kcX10_sheet {l : Launch} {κ : fr_Ka} {μ : fr_Me} {s lane n : Int} (rs : -2147483648 ≤ s ∧ s ≤ 2147483647) (rlane : -2147483648 ≤ lane ∧ lane ≤ 2147483647) (rn : -2147483648 ≤ n ∧ n ≤ 2147483647) : fr_C l κ fmX10_sheet 3 [fr_r κ 0, fr_i s, fr_i lane, fr_i n] μ (fr_Pi (fun z m => (¬ ((0 ≤ s ∧ s ≤ 3) ∧ (0 ≤ lane ∧ lane ≤ 3) ∧ n ≤ 16) ∧ z = -1 ∧ m = μ) ∨ (((0 ≤ s ∧ s ≤ 3) ∧ (0 ≤ lane ∧ lane ≤ 3) ∧ n ≤ 16) ∧ n < 0 ∧ z = -14 ∧ m = μ) ∨ (((0 ≤ s ∧ s ≤ 3) ∧ (0 ≤ lane ∧ lane ≤ 3) ∧ n ≤ 16) ∧ 0 ≤ n ∧ z = n ∧ m = fr_up (fr_up (fr_up (sp_fill μ (62 + s) (16 : Nat) 0) (58 + s) 2 lane) (58 + s) 3 n) (58 + s) 1 1))) := by
  refine fr_enter (by decide +kernel) (ls := [some (fr_r κ 0), some (fr_i s), some (fr_i lane), some (fr_i n)]) rfl (Nat.le_of_ble_eq_true rfl) ?_
  refine fr_il1 dX10_sheet_0 ?_
  refine fr_cSi (mi' := fmX10_isSheet) dX10_sheet_1 mlX10_235 msX10_isSheet (Nat.le_of_ble_eq_true rfl) (kcX10_isSheet (by omega)) rfl rfl (Nat.le_of_ble_eq_true rfl) ?_
  refine fr_ifb_eq (tgt := 20) dX10_sheet_4 (by decide) (fun h1 => ?_) (fun h1 => ?_)
  · skip
    refine fr_iconst dX10_sheet_20 ?_
    exact fr_iret dX10_sheet_21 rfl (fr_pi (by first | exact Or.inl ⟨by omega, rfl, rfl⟩ | exact Or.inr (Or.inl ⟨by omega, by omega, rfl, rfl⟩) | exact Or.inr (Or.inr ⟨by omega, by omega, rfl, rfl⟩)))
  · skip
    refine fr_il2 dX10_sheet_7 ?_
    refine fr_cSi (mi' := fmX10_isLane) dX10_sheet_8 mlX10_238 msX10_isLane (Nat.le_of_ble_eq_true rfl) (kcX10_isLane (by omega)) rfl rfl (Nat.le_of_ble_eq_true rfl) ?_
    refine fr_ifb_eq (tgt := 20) dX10_sheet_11 (by decide) (fun h2 => ?_) (fun h2 => ?_)
    · skip
      refine fr_iconst dX10_sheet_20 ?_
      exact fr_iret dX10_sheet_21 rfl (fr_pi (by first | exact Or.inl ⟨by omega, rfl, rfl⟩ | exact Or.inr (Or.inl ⟨by omega, by omega, rfl, rfl⟩) | exact Or.inr (Or.inr ⟨by omega, by omega, rfl, rfl⟩)))
    · skip
      refine fr_il3 dX10_sheet_14 ?_
      refine fr_bipush dX10_sheet_15 (by decide) ?_
      refine fr_icmp_le (tgt := 22) dX10_sheet_17 (by decide) (by omega) (by omega) (fun h3 => ?_) (fun h3 => ?_)
      · skip
        refine fr_il3 dX10_sheet_22 ?_
        refine fr_if_ge (tgt := 29) dX10_sheet_23 (by decide) (by omega) (fun h4 => ?_) (fun h4 => ?_)
        · skip
          refine fr_al0 dX10_sheet_29 ?_
          refine fr_getr (cz := 14) dX10_sheet_30 flX10_28 ⟨by decide, by decide, rfl⟩ rfl rfl ?_
          refine fr_il1 dX10_sheet_33 ?_
          refine fr_aaS dX10_sheet_34 (by omega) (by omega) ?_
          refine fr_il2 dX10_sheet_35 ?_
          refine fr_il3 dX10_sheet_36 ?_
          refine fr_cVv (mi' := fmX5_begin) dX10_sheet_37 mlX10_298 mvX5_begin ⟨5, _, (fr_obS (by omega) (by omega)), rfl, rfl⟩ (Nat.le_of_ble_eq_true rfl) (kcX5_begin (by omega) (by omega)) rfl rfl (Nat.le_of_ble_eq_true rfl) ?_
          refine fr_il3 dX10_sheet_40 ?_
          exact fr_iret dX10_sheet_41 rfl (fr_pi (by first | exact Or.inl ⟨by omega, rfl, rfl⟩ | exact Or.inr (Or.inl ⟨by omega, by omega, rfl, rfl⟩) | exact Or.inr (Or.inr ⟨by omega, by omega, rfl, rfl⟩)))
        · skip
          refine fr_bipush dX10_sheet_26 (by decide) ?_
          exact fr_iret dX10_sheet_28 rfl (fr_pi (by first | exact Or.inl ⟨by omega, rfl, rfl⟩ | exact Or.inr (Or.inl ⟨by omega, by omega, rfl, rfl⟩) | exact Or.inr (Or.inr ⟨by omega, by omega, rfl, rfl⟩)))
      · skip
        refine fr_iconst dX10_sheet_20 ?_
        exact fr_iret dX10_sheet_21 rfl (fr_pi (by first | exact Or.inl ⟨by omega, rfl, rfl⟩ | exact Or.inr (Or.inl ⟨by omega, by omega, rfl, rfl⟩) | exact Or.inr (Or.inr ⟨by omega, by omega, rfl, rfl⟩)))
set_option maxRecDepth 20000 in
theorem kcX10_drop {l : Launch} {κ : fr_Ka} {μ : fr_Me} (hS : fr_Sc μ) {s : Int} (rs : -2147483648 ≤ s ∧ s ≤ 2147483647) : fr_C l κ fmX10_drop 3 [fr_r κ 0, fr_i s] μ (fr_Pi (fun z m => (¬ (0 ≤ s ∧ s ≤ 3) ∧ z = -1 ∧ m = μ) ∨ ((0 ≤ s ∧ s ≤ 3) ∧ sh_L μ s < 0 ∧ z = -11 ∧ m = μ) ∨ ((0 ≤ s ∧ s ≤ 3) ∧ 0 ≤ sh_L μ s ∧ z = μ (58 + s) 3 ∧ m = fr_up μ (58 + s) 1 0))) := by
  refine fr_enter (by decide +kernel) (ls := [some (fr_r κ 0), some (fr_i s)]) rfl (Nat.le_of_ble_eq_true rfl) ?_
  refine fr_il1 dX10_drop_0 ?_
  refine fr_cSi (mi' := fmX10_isSheet) dX10_drop_1 mlX10_235 msX10_isSheet (Nat.le_of_ble_eq_true rfl) (kcX10_isSheet (by omega)) rfl rfl (Nat.le_of_ble_eq_true rfl) ?_
  refine fr_ifb_ne (tgt := 9) dX10_drop_4 (by decide) (fun h1 => ?_) (fun h1 => ?_)
  · skip
    refine fr_al0 dX10_drop_9 ?_
    have hs := hS s (by omega) (by omega)
    refine fr_getr (cz := 14) dX10_drop_10 flX10_28 ⟨by decide, by decide, rfl⟩ rfl rfl ?_
    refine fr_il1 dX10_drop_13 ?_
    refine fr_aaS dX10_drop_14 (by omega) (by omega) ?_
    refine fr_geti (kz := 1) dX10_drop_15 flX10_301 (fr_obS (by omega) (by omega)) rfl rfl ?_
    refine fr_if_ne (tgt := 24) dX10_drop_18 (by decide) (by omega) (fun h2 => ?_) (fun h2 => ?_)
    · skip
      refine fr_al0 dX10_drop_24 ?_
      refine fr_getr (cz := 14) dX10_drop_25 flX10_28 ⟨by decide, by decide, rfl⟩ rfl rfl ?_
      refine fr_il1 dX10_drop_28 ?_
      refine fr_aaS dX10_drop_29 (by omega) (by omega) ?_
      refine fr_iconst dX10_drop_30 ?_
      refine fr_put (kz := 1) dX10_drop_31 fpX10_301 (fr_obS (by omega) (by omega)) rfl rfl (fun _ => Or.inl rfl) ?_
      refine fr_al0 dX10_drop_34 ?_
      refine fr_getr (cz := 14) dX10_drop_35 flX10_28 ⟨by decide, by decide, rfl⟩ rfl rfl ?_
      refine fr_il1 dX10_drop_38 ?_
      refine fr_aaS dX10_drop_39 (by omega) (by omega) ?_
      refine fr_geti (kz := 3) dX10_drop_40 flX10_304 (fr_obS (by omega) (by omega)) rfl rfl ?_
      exact fr_iret dX10_drop_43 rfl (fr_pi (by first | exact Or.inl ⟨by omega, rfl, rfl⟩ | exact Or.inr (Or.inl ⟨by omega, by unfold sh_L; rw [if_pos (by omega)]; omega, rfl, rfl⟩) | exact Or.inr (Or.inr ⟨by omega, by unfold sh_L; rw [if_neg (by omega)]; omega, gm_un (by omega), rfl⟩)))
    · skip
      refine fr_bipush dX10_drop_21 (by decide) ?_
      exact fr_iret dX10_drop_23 rfl (fr_pi (by first | exact Or.inl ⟨by omega, rfl, rfl⟩ | exact Or.inr (Or.inl ⟨by omega, by unfold sh_L; rw [if_pos (by omega)]; omega, rfl, rfl⟩) | exact Or.inr (Or.inr ⟨by omega, by unfold sh_L; rw [if_neg (by omega)]; omega, gm_un (by omega), rfl⟩)))
  · skip
    refine fr_iconst dX10_drop_7 ?_
    exact fr_iret dX10_drop_8 rfl (fr_pi (by first | exact Or.inl ⟨by omega, rfl, rfl⟩ | exact Or.inr (Or.inl ⟨by omega, by unfold sh_L; rw [if_pos (by omega)]; omega, rfl, rfl⟩) | exact Or.inr (Or.inr ⟨by omega, by unfold sh_L; rw [if_neg (by omega)]; omega, gm_un (by omega), rfl⟩)))
set_option maxRecDepth 20000 in
theorem kcX10_item {l : Launch} {κ : fr_Ka} {μ : fr_Me} (hS : fr_Sc μ) {s lane i v : Int} (rs : -2147483648 ≤ s ∧ s ≤ 2147483647) (rlane : -2147483648 ≤ lane ∧ lane ≤ 2147483647) (ri : -2147483648 ≤ i ∧ i ≤ 2147483647) : fr_C l κ fmX10_item 4 [fr_r κ 0, fr_i s, fr_i lane, fr_i i, fr_j v] μ (fr_Pi (fun z m => (¬ ((0 ≤ s ∧ s ≤ 3) ∧ (0 ≤ lane ∧ lane ≤ 3)) ∧ z = -1 ∧ m = μ) ∨ (((0 ≤ s ∧ s ≤ 3) ∧ (0 ≤ lane ∧ lane ≤ 3)) ∧ (sp_bars (sh_L μ s) (μ (58 + s) 3) lane i 1) ≠ 0 ∧ z = (sp_bars (sh_L μ s) (μ (58 + s) 3) lane i 1) ∧ m = μ) ∨ (((0 ≤ s ∧ s ≤ 3) ∧ (0 ≤ lane ∧ lane ≤ 3)) ∧ (sp_bars (sh_L μ s) (μ (58 + s) 3) lane i 1) = 0 ∧ z = 1 ∧ m = fr_up μ (62 + s) i (sp_cutl lane v)))) := by
  refine fr_enter (by decide +kernel) (ls := [some (fr_r κ 0), some (fr_i s), some (fr_i lane), some (fr_i i), some (fr_j v), none, none]) rfl (Nat.le_of_ble_eq_true rfl) ?_
  refine fr_il1 dX10_item_0 ?_
  refine fr_cSi (mi' := fmX10_isSheet) dX10_item_1 mlX10_235 msX10_isSheet (Nat.le_of_ble_eq_true rfl) (kcX10_isSheet (by omega)) rfl rfl (Nat.le_of_ble_eq_true rfl) ?_
  refine fr_ifb_eq (tgt := 14) dX10_item_4 (by decide) (fun h1 => ?_) (fun h1 => ?_)
  · skip
    refine fr_iconst dX10_item_14 ?_
    exact fr_iret dX10_item_15 rfl (fr_pi (by first | exact Or.inl ⟨by omega, rfl, rfl⟩ | exact Or.inr (Or.inl ⟨by omega, by omega, rfl, rfl⟩) | exact Or.inr (Or.inr ⟨by omega, by omega, rfl, rfl⟩)))
  · skip
    refine fr_il2 dX10_item_7 ?_
    refine fr_cSi (mi' := fmX10_isLane) dX10_item_8 mlX10_238 msX10_isLane (Nat.le_of_ble_eq_true rfl) (kcX10_isLane (by omega)) rfl rfl (Nat.le_of_ble_eq_true rfl) ?_
    refine fr_ifb_ne (tgt := 16) dX10_item_11 (by decide) (fun h2 => ?_) (fun h2 => ?_)
    · skip
      refine fr_al0 dX10_item_16 ?_
      refine fr_il1 dX10_item_17 ?_
      refine fr_il2 dX10_item_18 ?_
      refine fr_il3 dX10_item_19 ?_
      refine fr_iconst dX10_item_20 ?_
      refine fr_cVi (mi' := fmX10_faultOf) dX10_item_21 mlX10_241 mvX10_faultOf ⟨10, _, ⟨by decide, by decide, rfl⟩, rfl, rfl⟩ (Nat.le_of_ble_eq_true rfl) (kcX10_faultOf hS (by omega) (by omega) (by omega) (by omega) (by omega)) rfl rfl (Nat.le_of_ble_eq_true rfl) ?_
      have hbr := sp_bars_rg (sh_L μ s) (μ (58 + s) 3) lane i 1
      refine fr_is6 dX10_item_24 rfl (Nat.le_of_ble_eq_true rfl) ?_
      refine fr_il6 dX10_item_26 ?_
      refine fr_if_eq (tgt := 34) dX10_item_28 (by decide) (by omega) (fun h3 => ?_) (fun h3 => ?_)
      · skip
        have hb0 := sp_bars0 (show (sp_bars (sh_L μ s) (μ (58 + s) 3) lane i 1) = 0 by omega)
        have hss := hS s (by omega) (by omega)
        have elane : μ (58 + s) 2 = lane := by have := hb0.2.1; have h1 := hb0.1; unfold sh_L at this h1; split at this <;> omega
        refine fr_al0 dX10_item_34 ?_
        refine fr_getr (cz := 14) dX10_item_35 flX10_28 ⟨by decide, by decide, rfl⟩ rfl rfl ?_
        refine fr_il1 dX10_item_38 ?_
        refine fr_aaS dX10_item_39 (by omega) (by omega) ?_
        refine fr_il3 dX10_item_40 ?_
        refine fr_ll4 dX10_item_41 ?_
        refine fr_cVv (mi' := fmX5_put) dX10_item_43 mlX10_294 mvX5_put ⟨5, _, (fr_obS (by omega) (by omega)), rfl, rfl⟩ (Nat.le_of_ble_eq_true rfl) (kcX5_put (by omega) (by omega) (by omega) (by omega)) rfl rfl (Nat.le_of_ble_eq_true rfl) ?_
        rw [elane]
        refine fr_iconst dX10_item_46 ?_
        exact fr_iret dX10_item_47 rfl (fr_pi (by first | exact Or.inl ⟨by omega, rfl, rfl⟩ | exact Or.inr (Or.inl ⟨by omega, by omega, rfl, rfl⟩) | exact Or.inr (Or.inr ⟨by omega, by omega, rfl, rfl⟩)))
      · skip
        refine fr_il6 dX10_item_31 ?_
        exact fr_iret dX10_item_33 rfl (fr_pi (by first | exact Or.inl ⟨by omega, rfl, rfl⟩ | exact Or.inr (Or.inl ⟨by omega, by omega, rfl, rfl⟩) | exact Or.inr (Or.inr ⟨by omega, by omega, rfl, rfl⟩)))
    · skip
      refine fr_iconst dX10_item_14 ?_
      exact fr_iret dX10_item_15 rfl (fr_pi (by first | exact Or.inl ⟨by omega, rfl, rfl⟩ | exact Or.inr (Or.inl ⟨by omega, by omega, rfl, rfl⟩) | exact Or.inr (Or.inr ⟨by omega, by omega, rfl, rfl⟩)))
set_option maxRecDepth 20000 in
theorem kcX10_copy {l : Launch} {κ : fr_Ka} {μ : fr_Me} (hS : fr_Sc μ) {a i b q n : Int} (ra : -2147483648 ≤ a ∧ a ≤ 2147483647) (ri : -2147483648 ≤ i ∧ i ≤ 2147483647) (rb : -2147483648 ≤ b ∧ b ≤ 2147483647) (rq : -2147483648 ≤ q ∧ q ≤ 2147483647) (rn : -2147483648 ≤ n ∧ n ≤ 2147483647) : fr_C l κ fmX10_copy 4 [fr_r κ 0, fr_i a, fr_i i, fr_i b, fr_i q, fr_i n] μ (fr_Pi (fun z m => (¬ ((0 ≤ a ∧ a ≤ 3) ∧ (0 ≤ b ∧ b ≤ 3)) ∧ z = -1 ∧ m = μ) ∨ (((0 ≤ a ∧ a ≤ 3) ∧ (0 ≤ b ∧ b ≤ 3)) ∧ (sh_L μ a < 0 ∨ sh_L μ b < 0) ∧ z = -11 ∧ m = μ) ∨ (((0 ≤ a ∧ a ≤ 3) ∧ (0 ≤ b ∧ b ≤ 3)) ∧ 0 ≤ sh_L μ a ∧ 0 ≤ sh_L μ b ∧ (sp_bars (sh_L μ a) (μ (58 + a) 3) (sh_L μ b) i n) ≠ 0 ∧ z = (sp_bars (sh_L μ a) (μ (58 + a) 3) (sh_L μ b) i n) ∧ m = μ) ∨ (((0 ≤ a ∧ a ≤ 3) ∧ (0 ≤ b ∧ b ≤ 3)) ∧ 0 ≤ sh_L μ a ∧ 0 ≤ sh_L μ b ∧ (sp_bars (sh_L μ a) (μ (58 + a) 3) (sh_L μ b) i n) = 0 ∧ (sp_bars (sh_L μ b) (μ (58 + b) 3) (sh_L μ a) q n) ≠ 0 ∧ z = (sp_bars (sh_L μ b) (μ (58 + b) 3) (sh_L μ a) q n) ∧ m = μ) ∨ (((0 ≤ a ∧ a ≤ 3) ∧ (0 ≤ b ∧ b ≤ 3)) ∧ 0 ≤ sh_L μ a ∧ 0 ≤ sh_L μ b ∧ (sp_bars (sh_L μ a) (μ (58 + a) 3) (sh_L μ b) i n) = 0 ∧ (sp_bars (sh_L μ b) (μ (58 + b) 3) (sh_L μ a) q n) = 0 ∧ z = n ∧ m = sp_cpy μ (62 + a) i (62 + b) q n))) := by
  refine fr_enter (by decide +kernel) (ls := [some (fr_r κ 0), some (fr_i a), some (fr_i i), some (fr_i b), some (fr_i q), some (fr_i n), none, none]) rfl (Nat.le_of_ble_eq_true rfl) ?_
  refine fr_il1 dX10_copy_0 ?_
  refine fr_cSi (mi' := fmX10_isSheet) dX10_copy_1 mlX10_235 msX10_isSheet (Nat.le_of_ble_eq_true rfl) (kcX10_isSheet (by omega)) rfl rfl (Nat.le_of_ble_eq_true rfl) ?_
  refine fr_ifb_eq (tgt := 14) dX10_copy_4 (by decide) (fun h1 => ?_) (fun h1 => ?_)
  · skip
    refine fr_iconst dX10_copy_14 ?_
    exact fr_iret dX10_copy_15 rfl (fr_pi (Or.inl ⟨by omega, rfl, rfl⟩))
  · skip
    refine fr_il3 dX10_copy_7 ?_
    refine fr_cSi (mi' := fmX10_isSheet) dX10_copy_8 mlX10_235 msX10_isSheet (Nat.le_of_ble_eq_true rfl) (kcX10_isSheet (by omega)) rfl rfl (Nat.le_of_ble_eq_true rfl) ?_
    refine fr_ifb_ne (tgt := 16) dX10_copy_11 (by decide) (fun h2 => ?_) (fun h2 => ?_)
    · skip
      have hsa := hS a (by omega) (by omega)
      have hsb := hS b (by omega) (by omega)
      refine fr_al0 dX10_copy_16 ?_
      refine fr_getr (cz := 14) dX10_copy_17 flX10_28 ⟨by decide, by decide, rfl⟩ rfl rfl ?_
      refine fr_il1 dX10_copy_20 ?_
      refine fr_aaS dX10_copy_21 (by omega) (by omega) ?_
      refine fr_as6 dX10_copy_22 rfl (Nat.le_of_ble_eq_true rfl) ?_
      refine fr_al0 dX10_copy_24 ?_
      refine fr_getr (cz := 14) dX10_copy_25 flX10_28 ⟨by decide, by decide, rfl⟩ rfl rfl ?_
      refine fr_il3 dX10_copy_28 ?_
      refine fr_aaS dX10_copy_29 (by omega) (by omega) ?_
      refine fr_as7 dX10_copy_30 rfl (Nat.le_of_ble_eq_true rfl) ?_
      refine fr_al6 dX10_copy_32 ?_
      refine fr_geti (kz := 1) dX10_copy_34 flX10_301 (fr_obS (by omega) (by omega)) rfl rfl ?_
      refine fr_if_eq (tgt := 48) dX10_copy_37 (by decide) (by omega) (fun h3 => ?_) (fun h3 => ?_)
      · skip
        refine fr_bipush dX10_copy_48 (by decide) ?_
        exact fr_iret dX10_copy_50 rfl (fr_pi (Or.inr (Or.inl ⟨by omega, by unfold sh_L; first | exact Or.inl (by rw [if_pos (by omega)]; omega) | exact Or.inr (by rw [if_pos (by omega)]; omega), rfl, rfl⟩)))
      · skip
        refine fr_al7 dX10_copy_40 ?_
        refine fr_geti (kz := 1) dX10_copy_42 flX10_301 (fr_obS (by omega) (by omega)) rfl rfl ?_
        refine fr_if_ne (tgt := 51) dX10_copy_45 (by decide) (by omega) (fun h4 => ?_) (fun h4 => ?_)
        · skip
          have eLa : sh_L μ a = μ (58 + a) 2 := by unfold sh_L; rw [if_neg (by omega)]
          have eLb : sh_L μ b = μ (58 + b) 2 := by unfold sh_L; rw [if_neg (by omega)]
          refine fr_al6 dX10_copy_51 ?_
          refine fr_geti (kz := 2) dX10_copy_53 flX10_305 (fr_obS (by omega) (by omega)) rfl rfl ?_
          refine fr_al7 dX10_copy_56 ?_
          refine fr_geti (kz := 2) dX10_copy_58 flX10_305 (fr_obS (by omega) (by omega)) rfl rfl ?_
          refine fr_icmp_eq (tgt := 67) dX10_copy_61 (by decide) (by omega) (by omega) (fun h5 => ?_) (fun h5 => ?_)
          · skip
            refine fr_al6 dX10_copy_67 ?_
            refine fr_il2 dX10_copy_69 ?_
            refine fr_il5 dX10_copy_70 ?_
            refine fr_cVi (mi' := fmX5_hasItems) dX10_copy_72 mlX10_308 mvX5_hasItems ⟨5, _, (fr_obS (by omega) (by omega)), rfl, rfl⟩ (Nat.le_of_ble_eq_true rfl) (kcX5_hasItems (by omega) (by omega) (by omega) (by omega) (by omega)) rfl rfl (Nat.le_of_ble_eq_true rfl) ?_
            refine fr_ifb_eq (tgt := 90) dX10_copy_75 (by decide) (fun h6 => ?_) (fun h6 => ?_)
            · skip
              refine fr_bipush dX10_copy_90 (by decide) ?_
              exact fr_iret dX10_copy_92 rfl (fr_pi (Or.inr (Or.inr (Or.inl ⟨by omega, by rw [eLa]; omega, by rw [eLb]; omega, by rw [eLa, eLb]; unfold sp_bars; (repeat' split) <;> omega, by rw [eLa, eLb]; unfold sp_bars; (repeat' split) <;> omega, rfl⟩))))
            · skip
              refine fr_al7 dX10_copy_78 ?_
              refine fr_il4 dX10_copy_80 ?_
              refine fr_il5 dX10_copy_82 ?_
              refine fr_cVi (mi' := fmX5_hasItems) dX10_copy_84 mlX10_308 mvX5_hasItems ⟨5, _, (fr_obS (by omega) (by omega)), rfl, rfl⟩ (Nat.le_of_ble_eq_true rfl) (kcX5_hasItems (by omega) (by omega) (by omega) (by omega) (by omega)) rfl rfl (Nat.le_of_ble_eq_true rfl) ?_
              refine fr_ifb_ne (tgt := 93) dX10_copy_87 (by decide) (fun h7 => ?_) (fun h7 => ?_)
              · skip
                refine fr_al6 dX10_copy_93 ?_
                refine fr_getSI dX10_copy_95 flX10_311 (by omega) (by omega) ?_
                refine fr_il2 dX10_copy_98 ?_
                refine fr_al7 dX10_copy_99 ?_
                refine fr_getSI dX10_copy_101 flX10_311 (by omega) (by omega) ?_
                refine fr_il4 dX10_copy_104 ?_
                refine fr_il5 dX10_copy_106 ?_
                refine fr_acpl dX10_copy_108 cyX10_315 (fr_raS (by omega) (by omega)) (fr_raS (by omega) (by omega)) (by omega) (by omega) (by omega) (by omega) (by omega) (Nat.le_of_ble_eq_true rfl) (Nat.le_of_ble_eq_true rfl) ?_
                refine fr_il5 dX10_copy_111 ?_
                exact fr_iret dX10_copy_113 rfl (fr_pi (Or.inr (Or.inr (Or.inr (Or.inr ⟨by omega, by rw [eLa]; omega, by rw [eLb]; omega, by rw [eLa, eLb]; unfold sp_bars; (repeat' split) <;> omega, by rw [eLa, eLb]; unfold sp_bars; (repeat' split) <;> omega, rfl, rfl⟩)))))
              · skip
                refine fr_bipush dX10_copy_90 (by decide) ?_
                exact fr_iret dX10_copy_92 rfl (fr_pi (Or.inr (Or.inr (Or.inr (Or.inl ⟨by omega, by rw [eLa]; omega, by rw [eLb]; omega, by rw [eLa, eLb]; unfold sp_bars; (repeat' split) <;> omega, by rw [eLa, eLb]; unfold sp_bars; (repeat' split) <;> omega, by rw [eLa, eLb]; unfold sp_bars; (repeat' split) <;> omega, rfl⟩)))))
          · skip
            refine fr_bipush dX10_copy_64 (by decide) ?_
            exact fr_iret dX10_copy_66 rfl (fr_pi (Or.inr (Or.inr (Or.inl ⟨by omega, by rw [eLa]; omega, by rw [eLb]; omega, by rw [eLa, eLb]; unfold sp_bars; (repeat' split) <;> omega, by rw [eLa, eLb]; unfold sp_bars; (repeat' split) <;> omega, rfl⟩))))
        · skip
          refine fr_bipush dX10_copy_48 (by decide) ?_
          exact fr_iret dX10_copy_50 rfl (fr_pi (Or.inr (Or.inl ⟨by omega, by unfold sh_L; first | exact Or.inl (by rw [if_pos (by omega)]; omega) | exact Or.inr (by rw [if_pos (by omega)]; omega), rfl, rfl⟩)))
    · skip
      refine fr_iconst dX10_copy_14 ?_
      exact fr_iret dX10_copy_15 rfl (fr_pi (Or.inl ⟨by omega, rfl, rfl⟩))
