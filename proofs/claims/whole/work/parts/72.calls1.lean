/-! the class: its calls, trees and climbers -/
theorem tr_eq {w : Int → Int} {μ : fr_Me} (hG : fr_G w μ) {c what : Int} (hc : 0 ≤ c ∧ c < 5) (hm : c < w 43) (hw : 0 ≤ what ∧ what ≤ 4) : sp_trait μ (48 + c) what = if what = 4 then sp_br w c else w (44 + 5 * what + c) := by
  obtain ⟨a, b, d, e⟩ := hG.cl (c := c) hc.1 hc.2
  unfold sp_trait sp_br
  rw [a, b, d, e]
  rcases (by omega : what = 0 ∨ what = 1 ∨ what = 2 ∨ what = 3 ∨ what = 4) with q | q | q | q | q <;> subst q
  · simp
  · simp
  · simp
  · simp
  · rw [if_pos (⟨hc.1, hm⟩ : 0 ≤ c ∧ c < w 43)]; simp
theorem mk_eq {w : Int → Int} {μ : fr_Me} (hG : fr_G w μ) {t what : Int} (ht : 0 ≤ t ∧ t < 6) (hw : 0 ≤ what ∧ what ≤ 6) : μ (36 + t) what = w (1 + 6 * what + t) := by
  obtain ⟨a, b, d, e, f, g, i⟩ := hG.tree (t := t) ht.1 ht.2
  rcases (by omega : what = 0 ∨ what = 1 ∨ what = 2 ∨ what = 3 ∨ what = 4 ∨ what = 5 ∨ what = 6) with q | q | q | q | q | q | q <;> subst q
  · simpa using a
  · simpa using b
  · simpa using d
  · simpa using e
  · simpa using f
  · simpa using g
  · simpa using i
set_option maxRecDepth 20000 in
theorem kcX10_tree {l : Launch} {κ : fr_Ka} {w : Int → Int} {μ : fr_Me} (hG : fr_G w μ) (hI : fr_I w) {k : Int} (rk : -2147483648 ≤ k ∧ k ≤ 2147483647) : fr_C l κ fmX10_tree 3 [fr_r κ 0, fr_i k] μ (fr_Pi (fun z m => (¬ (0 ≤ k ∧ k ≤ 3) ∧ z = -1 ∧ m = μ) ∨ ((0 ≤ k ∧ k ≤ 3) ∧ w 0 = 6 ∧ z = -3 ∧ m = μ) ∨ ((0 ≤ k ∧ k ≤ 3) ∧ w 0 < 6 ∧ z = w 0 ∧ m = fr_up (sp_begin μ (36 + w 0) k 5 5) 1 3 (w 0 + 1)))) := by
  have iN := hI.n
  have iM := hI.many
  have gN := hG.n
  have gM := hG.many
  refine fr_enter (by decide +kernel) (ls := [some (fr_r κ 0), some (fr_i k)]) rfl (Nat.le_of_ble_eq_true rfl) ?_
  refine fr_il1 dX10_tree_0 ?_
  refine fr_iconst dX10_tree_1 ?_
  refine fr_iconst dX10_tree_2 ?_
  refine fr_cSi (mi' := fmX10_isWithin) dX10_tree_3 mlX10_76 msX10_isWithin (Nat.le_of_ble_eq_true rfl) (kcX10_isWithin (by omega) (by omega) (by omega)) rfl rfl (Nat.le_of_ble_eq_true rfl) ?_
  refine fr_ifb_ne (tgt := 11) dX10_tree_6 (by decide) (fun h1 => ?_) (fun h1 => ?_)
  · skip
    refine fr_al0 dX10_tree_11 ?_
    refine fr_getr (cz := 1) dX10_tree_12 flX10_12 ⟨by decide, by decide, rfl⟩ rfl rfl ?_
    refine fr_geti (kz := 3) dX10_tree_15 flX10_80 ⟨by decide, by decide, rfl⟩ rfl rfl ?_
    refine fr_bipush dX10_tree_18 (by decide) ?_
    refine fr_icmp_lt (tgt := 28) dX10_tree_20 (by decide) (by omega) (by omega) (fun h2 => ?_) (fun h2 => ?_)
    · skip
      refine fr_al0 dX10_tree_28 ?_
      refine fr_getr (cz := 1) dX10_tree_29 flX10_12 ⟨by decide, by decide, rfl⟩ rfl rfl ?_
      refine fr_il1 dX10_tree_32 ?_
      refine fr_cVi (mi' := fmX1_plant) dX10_tree_33 mlX10_84 mvX1_plant ⟨1, _, ⟨by decide, by decide, rfl⟩, rfl, rfl⟩ (Nat.le_of_ble_eq_true rfl) (kcX1_plant hG hI (by omega)) rfl rfl (Nat.le_of_ble_eq_true rfl) ?_
      exact fr_iret dX10_tree_36 rfl (fr_pi (by first | exact Or.inl ⟨by omega, rfl, rfl⟩ | exact Or.inr (Or.inl ⟨by omega, by omega, rfl, rfl⟩) | exact Or.inr (Or.inr ⟨by omega, by omega, rfl, rfl⟩)))
    · skip
      refine fr_bipush dX10_tree_23 (by decide) ?_
      refine fr_goto (tgt := 36) dX10_tree_25 (by decide) ?_
      exact fr_iret dX10_tree_36 rfl (fr_pi (by first | exact Or.inl ⟨by omega, rfl, rfl⟩ | exact Or.inr (Or.inl ⟨by omega, by omega, rfl, rfl⟩) | exact Or.inr (Or.inr ⟨by omega, by omega, rfl, rfl⟩)))
  · skip
    refine fr_iconst dX10_tree_9 ?_
    exact fr_iret dX10_tree_10 rfl (fr_pi (by first | exact Or.inl ⟨by omega, rfl, rfl⟩ | exact Or.inr (Or.inl ⟨by omega, by omega, rfl, rfl⟩) | exact Or.inr (Or.inr ⟨by omega, by omega, rfl, rfl⟩)))
set_option maxRecDepth 20000 in
theorem kcX10_cutting {l : Launch} {κ : fr_Ka} {w : Int → Int} {μ : fr_Me} (hG : fr_G w μ) (hI : fr_I w) {t : Int} (rt : -2147483648 ≤ t ∧ t ≤ 2147483647) : fr_C l κ fmX10_cutting 4 [fr_r κ 0, fr_i t] μ (fr_Pi (fun z m => (¬ (0 ≤ t ∧ t < w 0) ∧ z = -1 ∧ m = μ) ∨ ((0 ≤ t ∧ t < w 0) ∧ w 0 = 6 ∧ z = -3 ∧ m = μ) ∨ ((0 ≤ t ∧ t < w 0) ∧ w 0 < 6 ∧ z = w 0 ∧ m = fr_up (sp_cut μ (36 + w 0) (36 + t)) 1 3 (w 0 + 1)))) := by
  have iN := hI.n
  have iM := hI.many
  have gN := hG.n
  have gM := hG.many
  refine fr_enter (by decide +kernel) (ls := [some (fr_r κ 0), some (fr_i t)]) rfl (Nat.le_of_ble_eq_true rfl) ?_
  refine fr_al0 dX10_cutting_0 ?_
  refine fr_getr (cz := 1) dX10_cutting_1 flX10_12 ⟨by decide, by decide, rfl⟩ rfl rfl ?_
  refine fr_il1 dX10_cutting_4 ?_
  refine fr_cVi (mi' := fmX1_hasTree) dX10_cutting_5 mlX10_88 mvX1_hasTree ⟨1, _, ⟨by decide, by decide, rfl⟩, rfl, rfl⟩ (Nat.le_of_ble_eq_true rfl) (kcX1_hasTree hG hI (by omega)) rfl rfl (Nat.le_of_ble_eq_true rfl) ?_
  refine fr_ifb_ne (tgt := 13) dX10_cutting_8 (by decide) (fun h1 => ?_) (fun h1 => ?_)
  · skip
    refine fr_al0 dX10_cutting_13 ?_
    refine fr_getr (cz := 1) dX10_cutting_14 flX10_12 ⟨by decide, by decide, rfl⟩ rfl rfl ?_
    refine fr_geti (kz := 3) dX10_cutting_17 flX10_80 ⟨by decide, by decide, rfl⟩ rfl rfl ?_
    refine fr_bipush dX10_cutting_20 (by decide) ?_
    refine fr_icmp_lt (tgt := 30) dX10_cutting_22 (by decide) (by omega) (by omega) (fun h2 => ?_) (fun h2 => ?_)
    · skip
      refine fr_al0 dX10_cutting_30 ?_
      refine fr_getr (cz := 1) dX10_cutting_31 flX10_12 ⟨by decide, by decide, rfl⟩ rfl rfl ?_
      refine fr_il1 dX10_cutting_34 ?_
      refine fr_cVi (mi' := fmX1_plantCutting) dX10_cutting_35 mlX10_92 mvX1_plantCutting ⟨1, _, ⟨by decide, by decide, rfl⟩, rfl, rfl⟩ (Nat.le_of_ble_eq_true rfl) (kcX1_plantCutting hG hI (by omega) (by omega)) rfl rfl (Nat.le_of_ble_eq_true rfl) ?_
      exact fr_iret dX10_cutting_38 rfl (fr_pi (by first | exact Or.inl ⟨by omega, rfl, rfl⟩ | exact Or.inr (Or.inl ⟨by omega, by omega, rfl, rfl⟩) | exact Or.inr (Or.inr ⟨by omega, by omega, rfl, rfl⟩)))
    · skip
      refine fr_bipush dX10_cutting_25 (by decide) ?_
      refine fr_goto (tgt := 38) dX10_cutting_27 (by decide) ?_
      exact fr_iret dX10_cutting_38 rfl (fr_pi (by first | exact Or.inl ⟨by omega, rfl, rfl⟩ | exact Or.inr (Or.inl ⟨by omega, by omega, rfl, rfl⟩) | exact Or.inr (Or.inr ⟨by omega, by omega, rfl, rfl⟩)))
  · skip
    refine fr_iconst dX10_cutting_11 ?_
    exact fr_iret dX10_cutting_12 rfl (fr_pi (by first | exact Or.inl ⟨by omega, rfl, rfl⟩ | exact Or.inr (Or.inl ⟨by omega, by omega, rfl, rfl⟩) | exact Or.inr (Or.inr ⟨by omega, by omega, rfl, rfl⟩)))
set_option maxRecDepth 20000 in
theorem kcX10_climber {l : Launch} {κ : fr_Ka} {w : Int → Int} {μ : fr_Me} (hG : fr_G w μ) (hI : fr_I w) {a b d e : Int} (ra : -2147483648 ≤ a ∧ a ≤ 2147483647) (rb : -2147483648 ≤ b ∧ b ≤ 2147483647) (rd : -2147483648 ≤ d ∧ d ≤ 2147483647) (re : -2147483648 ≤ e ∧ e ≤ 2147483647) : fr_C l κ fmX10_climber 3 [fr_r κ 0, fr_i a, fr_i b, fr_i d, fr_i e] μ (fr_Pi (fun z m => (¬ ((0 ≤ a ∧ a ≤ 3) ∧ (1 ≤ b ∧ b ≤ 9) ∧ (0 ≤ d ∧ d ≤ 99) ∧ (0 ≤ e ∧ e ≤ 10)) ∧ z = -1 ∧ m = μ) ∨ (((0 ≤ a ∧ a ≤ 3) ∧ (1 ≤ b ∧ b ≤ 9) ∧ (0 ≤ d ∧ d ≤ 99) ∧ (0 ≤ e ∧ e ≤ 10)) ∧ w 43 = 5 ∧ z = -3 ∧ m = μ) ∨ (((0 ≤ a ∧ a ≤ 3) ∧ (1 ≤ b ∧ b ≤ 9) ∧ (0 ≤ d ∧ d ≤ 99) ∧ (0 ≤ e ∧ e ≤ 10)) ∧ w 43 < 5 ∧ z = w 43 ∧ m = fr_up (fr_up (fr_up (fr_up (fr_up μ (48 + w 43) 0 a) (48 + w 43) 1 b) (48 + w 43) 2 d) (48 + w 43) 3 e) 1 4 (w 43 + 1)))) := by
  have iN := hI.n
  have iM := hI.many
  have gN := hG.n
  have gM := hG.many
  refine fr_enter (by decide +kernel) (ls := [some (fr_r κ 0), some (fr_i a), some (fr_i b), some (fr_i d), some (fr_i e)]) rfl (Nat.le_of_ble_eq_true rfl) ?_
  refine fr_il1 dX10_climber_0 ?_
  refine fr_iconst dX10_climber_1 ?_
  refine fr_iconst dX10_climber_2 ?_
  refine fr_cSi (mi' := fmX10_isWithin) dX10_climber_3 mlX10_76 msX10_isWithin (Nat.le_of_ble_eq_true rfl) (kcX10_isWithin (by omega) (by omega) (by omega)) rfl rfl (Nat.le_of_ble_eq_true rfl) ?_
  refine fr_ifb_eq (tgt := 34) dX10_climber_6 (by decide) (fun h1 => ?_) (fun h1 => ?_)
  · skip
    refine fr_iconst dX10_climber_34 ?_
    exact fr_iret dX10_climber_35 rfl (fr_pi (by first | exact Or.inl ⟨by omega, rfl, rfl⟩ | exact Or.inr (Or.inl ⟨by omega, by omega, rfl, rfl⟩) | exact Or.inr (Or.inr ⟨by omega, by omega, rfl, rfl⟩)))
  · skip
    refine fr_iconst dX10_climber_9 ?_
    refine fr_il2 dX10_climber_10 ?_
    refine fr_cSi (mi' := fmX10_isTrait) dX10_climber_11 mlX10_95 msX10_isTrait (Nat.le_of_ble_eq_true rfl) (kcX10_isTrait (by omega) (by omega)) rfl rfl (Nat.le_of_ble_eq_true rfl) ?_
    refine fr_ifb_eq (tgt := 34) dX10_climber_14 (by decide) (fun h2 => ?_) (fun h2 => ?_)
    · skip
      refine fr_iconst dX10_climber_34 ?_
      exact fr_iret dX10_climber_35 rfl (fr_pi (by first | exact Or.inl ⟨by omega, rfl, rfl⟩ | exact Or.inr (Or.inl ⟨by omega, by omega, rfl, rfl⟩) | exact Or.inr (Or.inr ⟨by omega, by omega, rfl, rfl⟩)))
    · skip
      refine fr_iconst dX10_climber_17 ?_
      refine fr_il3 dX10_climber_18 ?_
      refine fr_cSi (mi' := fmX10_isTrait) dX10_climber_19 mlX10_95 msX10_isTrait (Nat.le_of_ble_eq_true rfl) (kcX10_isTrait (by omega) (by omega)) rfl rfl (Nat.le_of_ble_eq_true rfl) ?_
      refine fr_ifb_eq (tgt := 34) dX10_climber_22 (by decide) (fun h3 => ?_) (fun h3 => ?_)
      · skip
        refine fr_iconst dX10_climber_34 ?_
        exact fr_iret dX10_climber_35 rfl (fr_pi (by first | exact Or.inl ⟨by omega, rfl, rfl⟩ | exact Or.inr (Or.inl ⟨by omega, by omega, rfl, rfl⟩) | exact Or.inr (Or.inr ⟨by omega, by omega, rfl, rfl⟩)))
      · skip
        refine fr_iconst dX10_climber_25 ?_
        refine fr_il4 dX10_climber_26 ?_
        refine fr_cSi (mi' := fmX10_isTrait) dX10_climber_28 mlX10_95 msX10_isTrait (Nat.le_of_ble_eq_true rfl) (kcX10_isTrait (by omega) (by omega)) rfl rfl (Nat.le_of_ble_eq_true rfl) ?_
        refine fr_ifb_ne (tgt := 36) dX10_climber_31 (by decide) (fun h4 => ?_) (fun h4 => ?_)
        · skip
          refine fr_al0 dX10_climber_36 ?_
          refine fr_getr (cz := 1) dX10_climber_37 flX10_12 ⟨by decide, by decide, rfl⟩ rfl rfl ?_
          refine fr_geti (kz := 4) dX10_climber_40 flX10_99 ⟨by decide, by decide, rfl⟩ rfl rfl ?_
          refine fr_iconst dX10_climber_43 ?_
          refine fr_icmp_lt (tgt := 52) dX10_climber_44 (by decide) (by omega) (by omega) (fun h5 => ?_) (fun h5 => ?_)
          · skip
            refine fr_al0 dX10_climber_52 ?_
            refine fr_getr (cz := 1) dX10_climber_53 flX10_12 ⟨by decide, by decide, rfl⟩ rfl rfl ?_
            refine fr_il1 dX10_climber_56 ?_
            refine fr_il2 dX10_climber_57 ?_
            refine fr_il3 dX10_climber_58 ?_
            refine fr_il4 dX10_climber_59 ?_
            refine fr_cVi (mi' := fmX1_welcome) dX10_climber_61 mlX10_102 mvX1_welcome ⟨1, _, ⟨by decide, by decide, rfl⟩, rfl, rfl⟩ (Nat.le_of_ble_eq_true rfl) (kcX1_welcome hG hI (by omega)) rfl rfl (Nat.le_of_ble_eq_true rfl) ?_
            exact fr_iret dX10_climber_64 rfl (fr_pi (by first | exact Or.inl ⟨by omega, rfl, rfl⟩ | exact Or.inr (Or.inl ⟨by omega, by omega, rfl, rfl⟩) | exact Or.inr (Or.inr ⟨by omega, by omega, rfl, rfl⟩)))
          · skip
            refine fr_bipush dX10_climber_47 (by decide) ?_
            refine fr_goto (tgt := 64) dX10_climber_49 (by decide) ?_
            exact fr_iret dX10_climber_64 rfl (fr_pi (by first | exact Or.inl ⟨by omega, rfl, rfl⟩ | exact Or.inr (Or.inl ⟨by omega, by omega, rfl, rfl⟩) | exact Or.inr (Or.inr ⟨by omega, by omega, rfl, rfl⟩)))
        · skip
          refine fr_iconst dX10_climber_34 ?_
          exact fr_iret dX10_climber_35 rfl (fr_pi (by first | exact Or.inl ⟨by omega, rfl, rfl⟩ | exact Or.inr (Or.inl ⟨by omega, by omega, rfl, rfl⟩) | exact Or.inr (Or.inr ⟨by omega, by omega, rfl, rfl⟩)))
set_option maxRecDepth 20000 in
theorem kcX10_set {l : Launch} {κ : fr_Ka} {w : Int → Int} {μ : fr_Me} (hG : fr_G w μ) (hI : fr_I w) {c what v : Int} (rc : -2147483648 ≤ c ∧ c ≤ 2147483647) (rwhat : -2147483648 ≤ what ∧ what ≤ 2147483647) (rv : -2147483648 ≤ v ∧ v ≤ 2147483647) : fr_C l κ fmX10_set 3 [fr_r κ 0, fr_i c, fr_i what, fr_i v] μ (fr_Pi (fun z m => (¬ ((0 ≤ c ∧ c < w 43) ∧ ((what = 1 ∧ 1 ≤ v ∧ v ≤ 9) ∨ (what = 2 ∧ 0 ≤ v ∧ v ≤ 99) ∨ (what = 3 ∧ 0 ≤ v ∧ v ≤ 10))) ∧ z = -1 ∧ m = μ) ∨ (((0 ≤ c ∧ c < w 43) ∧ ((what = 1 ∧ 1 ≤ v ∧ v ≤ 9) ∨ (what = 2 ∧ 0 ≤ v ∧ v ≤ 99) ∨ (what = 3 ∧ 0 ≤ v ∧ v ≤ 10))) ∧ z = w (44 + 5 * what + c) ∧ m = fr_up μ (48 + c) (if what = 1 then 1 else if what = 2 then 2 else 3) v))) := by
  have iN := hI.n
  have iM := hI.many
  have gN := hG.n
  have gM := hG.many
  refine fr_enter (by decide +kernel) (ls := [some (fr_r κ 0), some (fr_i c), some (fr_i what), some (fr_i v), none, none]) rfl (Nat.le_of_ble_eq_true rfl) ?_
  refine fr_al0 dX10_set_0 ?_
  refine fr_getr (cz := 1) dX10_set_1 flX10_12 ⟨by decide, by decide, rfl⟩ rfl rfl ?_
  refine fr_il1 dX10_set_4 ?_
  refine fr_cVi (mi' := fmX1_hasClimber) dX10_set_5 mlX10_106 mvX1_hasClimber ⟨1, _, ⟨by decide, by decide, rfl⟩, rfl, rfl⟩ (Nat.le_of_ble_eq_true rfl) (kcX1_hasClimber hG hI (by omega)) rfl rfl (Nat.le_of_ble_eq_true rfl) ?_
  refine fr_ifb_eq (tgt := 19) dX10_set_8 (by decide) (fun h1 => ?_) (fun h1 => ?_)
  · skip
    refine fr_iconst dX10_set_19 ?_
    exact fr_iret dX10_set_20 rfl (fr_pi (by first | exact Or.inl ⟨by omega, rfl, rfl⟩ | exact Or.inr ⟨by omega, rfl, rfl⟩))
  · skip
    refine fr_il2 dX10_set_11 ?_
    refine fr_il3 dX10_set_12 ?_
    refine fr_cSi (mi' := fmX10_isTrait) dX10_set_13 mlX10_95 msX10_isTrait (Nat.le_of_ble_eq_true rfl) (kcX10_isTrait (by omega) (by omega)) rfl rfl (Nat.le_of_ble_eq_true rfl) ?_
    refine fr_ifb_ne (tgt := 21) dX10_set_16 (by decide) (fun h2 => ?_) (fun h2 => ?_)
    · skip
      obtain ⟨c0, c1, c2, c3⟩ := hG.cl (c := c) (by omega) (by omega)
      have iC := hI.cl (c := c) (by omega) (by omega)
      unfold fr_Ic at iC
      refine fr_al0 dX10_set_21 ?_
      refine fr_getr (cz := 1) dX10_set_22 flX10_12 ⟨by decide, by decide, rfl⟩ rfl rfl ?_
      refine fr_getr (cz := 3) dX10_set_25 flX10_109 ⟨by decide, by decide, rfl⟩ rfl rfl ?_
      refine fr_il1 dX10_set_28 ?_
      refine fr_aaC dX10_set_29 (by omega) (by omega) ?_
      refine fr_as4 dX10_set_30 rfl (Nat.le_of_ble_eq_true rfl) ?_
      refine fr_al4 dX10_set_32 ?_
      refine fr_il2 dX10_set_34 ?_
      refine fr_cVi (mi' := fmX0_trait) dX10_set_35 mlX10_113 mvX0_trait ⟨0, _, (fr_obC (by omega) (by omega)), rfl, rfl⟩ (Nat.le_of_ble_eq_true rfl) (kcX0_trait (fr_obC (by omega) (by omega)) (by omega) (by omega)) rfl rfl (Nat.le_of_ble_eq_true rfl) ?_
      rw [tr_eq hG (by omega) (by omega) (by omega), if_neg (show ¬ what = 4 by omega)]
      refine fr_is5 dX10_set_38 rfl (Nat.le_of_ble_eq_true rfl) ?_
      refine fr_al4 dX10_set_40 ?_
      refine fr_il2 dX10_set_42 ?_
      refine fr_il3 dX10_set_43 ?_
      refine fr_cVv (mi' := fmX0_change) dX10_set_44 mlX10_118 mvX0_change ⟨0, _, (fr_obC (by omega) (by omega)), rfl, rfl⟩ (Nat.le_of_ble_eq_true rfl) (kcX0_change (fr_obC (by omega) (by omega)) (by omega)) rfl rfl (Nat.le_of_ble_eq_true rfl) ?_
      refine fr_il5 dX10_set_47 ?_
      exact fr_iret dX10_set_49 rfl (fr_pi (by first | exact Or.inl ⟨by omega, rfl, rfl⟩ | exact Or.inr ⟨by omega, rfl, rfl⟩))
    · skip
      refine fr_iconst dX10_set_19 ?_
      exact fr_iret dX10_set_20 rfl (fr_pi (by first | exact Or.inl ⟨by omega, rfl, rfl⟩ | exact Or.inr ⟨by omega, rfl, rfl⟩))
set_option maxRecDepth 20000 in
theorem kcX10_told {l : Launch} {κ : fr_Ka} {w : Int → Int} {μ : fr_Me} (hG : fr_G w μ) (hI : fr_I w) {c what : Int} (rc : -2147483648 ≤ c ∧ c ≤ 2147483647) (rwhat : -2147483648 ≤ what ∧ what ≤ 2147483647) : fr_C l κ fmX10_told 3 [fr_r κ 0, fr_i c, fr_i what] μ (fr_Ei (if (0 ≤ c ∧ c < w 43) ∧ (0 ≤ what ∧ what ≤ 4) then (if what = 4 then sp_br w c else w (44 + 5 * what + c)) else -1) μ) := by
  have iN := hI.n
  have iM := hI.many
  have gN := hG.n
  have gM := hG.many
  refine fr_enter (by decide +kernel) (ls := [some (fr_r κ 0), some (fr_i c), some (fr_i what)]) rfl (Nat.le_of_ble_eq_true rfl) ?_
  refine fr_al0 dX10_told_0 ?_
  refine fr_getr (cz := 1) dX10_told_1 flX10_12 ⟨by decide, by decide, rfl⟩ rfl rfl ?_
  refine fr_il1 dX10_told_4 ?_
  refine fr_cVi (mi' := fmX1_hasClimber) dX10_told_5 mlX10_106 mvX1_hasClimber ⟨1, _, ⟨by decide, by decide, rfl⟩, rfl, rfl⟩ (Nat.le_of_ble_eq_true rfl) (kcX1_hasClimber hG hI (by omega)) rfl rfl (Nat.le_of_ble_eq_true rfl) ?_
  refine fr_ifb_eq (tgt := 36) dX10_told_8 (by decide) (fun h1 => ?_) (fun h1 => ?_)
  · skip
    refine fr_iconst dX10_told_36 ?_
    exact fr_iret dX10_told_37 rfl (fr_e (by first | rw [if_pos (show (0 ≤ c ∧ c < w 43) ∧ (0 ≤ what ∧ what ≤ 4) by omega)] | rw [if_neg (show ¬ ((0 ≤ c ∧ c < w 43) ∧ (0 ≤ what ∧ what ≤ 4)) by omega)]) rfl)
  · skip
    refine fr_il2 dX10_told_11 ?_
    refine fr_iconst dX10_told_12 ?_
    refine fr_iconst dX10_told_13 ?_
    refine fr_cSi (mi' := fmX10_isWithin) dX10_told_14 mlX10_76 msX10_isWithin (Nat.le_of_ble_eq_true rfl) (kcX10_isWithin (by omega) (by omega) (by omega)) rfl rfl (Nat.le_of_ble_eq_true rfl) ?_
    refine fr_ifb_eq (tgt := 36) dX10_told_17 (by decide) (fun h2 => ?_) (fun h2 => ?_)
    · skip
      refine fr_iconst dX10_told_36 ?_
      exact fr_iret dX10_told_37 rfl (fr_e (by first | rw [if_pos (show (0 ≤ c ∧ c < w 43) ∧ (0 ≤ what ∧ what ≤ 4) by omega)] | rw [if_neg (show ¬ ((0 ≤ c ∧ c < w 43) ∧ (0 ≤ what ∧ what ≤ 4)) by omega)]) rfl)
    · skip
      obtain ⟨c0, c1, c2, c3⟩ := hG.cl (c := c) (by omega) (by omega)
      have iC := hI.cl (c := c) (by omega) (by omega)
      unfold fr_Ic at iC
      refine fr_al0 dX10_told_20 ?_
      refine fr_getr (cz := 1) dX10_told_21 flX10_12 ⟨by decide, by decide, rfl⟩ rfl rfl ?_
      refine fr_getr (cz := 3) dX10_told_24 flX10_109 ⟨by decide, by decide, rfl⟩ rfl rfl ?_
      refine fr_il1 dX10_told_27 ?_
      refine fr_aaC dX10_told_28 (by omega) (by omega) ?_
      refine fr_il2 dX10_told_29 ?_
      refine fr_cVi (mi' := fmX0_trait) dX10_told_30 mlX10_113 mvX0_trait ⟨0, _, (fr_obC (by omega) (by omega)), rfl, rfl⟩ (Nat.le_of_ble_eq_true rfl) (kcX0_trait (fr_obC (by omega) (by omega)) (by omega) (by omega)) rfl rfl (Nat.le_of_ble_eq_true rfl) ?_
      rw [tr_eq hG (by omega) (by omega) (by omega)]
      refine fr_goto (tgt := 37) dX10_told_33 (by decide) ?_
      exact fr_iret dX10_told_37 rfl (fr_e (by first | rw [if_pos (show (0 ≤ c ∧ c < w 43) ∧ (0 ≤ what ∧ what ≤ 4) by omega)] | rw [if_neg (show ¬ ((0 ≤ c ∧ c < w 43) ∧ (0 ≤ what ∧ what ≤ 4)) by omega)]) rfl)
set_option maxRecDepth 20000 in
theorem kcX10_of {l : Launch} {κ : fr_Ka} {w : Int → Int} {μ : fr_Me} (hG : fr_G w μ) (hI : fr_I w) {t what : Int} (rt : -2147483648 ≤ t ∧ t ≤ 2147483647) (rwhat : -2147483648 ≤ what ∧ what ≤ 2147483647) : fr_C l κ fmX10_of 3 [fr_r κ 0, fr_i t, fr_i what] μ (fr_Ei (if (0 ≤ t ∧ t < w 0) ∧ (0 ≤ what ∧ what ≤ 6) then w (1 + 6 * what + t) else -1) μ) := by
  have iN := hI.n
  have iM := hI.many
  have gN := hG.n
  have gM := hG.many
  refine fr_enter (by decide +kernel) (ls := [some (fr_r κ 0), some (fr_i t), some (fr_i what)]) rfl (Nat.le_of_ble_eq_true rfl) ?_
  refine fr_al0 dX10_of_0 ?_
  refine fr_getr (cz := 1) dX10_of_1 flX10_12 ⟨by decide, by decide, rfl⟩ rfl rfl ?_
  refine fr_il1 dX10_of_4 ?_
  refine fr_cVi (mi' := fmX1_hasTree) dX10_of_5 mlX10_88 mvX1_hasTree ⟨1, _, ⟨by decide, by decide, rfl⟩, rfl, rfl⟩ (Nat.le_of_ble_eq_true rfl) (kcX1_hasTree hG hI (by omega)) rfl rfl (Nat.le_of_ble_eq_true rfl) ?_
  refine fr_ifb_eq (tgt := 37) dX10_of_8 (by decide) (fun h1 => ?_) (fun h1 => ?_)
  · skip
    refine fr_iconst dX10_of_37 ?_
    exact fr_iret dX10_of_38 rfl (fr_e (by first | rw [if_pos (show (0 ≤ t ∧ t < w 0) ∧ (0 ≤ what ∧ what ≤ 6) by omega)] | rw [if_neg (show ¬ ((0 ≤ t ∧ t < w 0) ∧ (0 ≤ what ∧ what ≤ 6)) by omega)]) rfl)
  · skip
    refine fr_il2 dX10_of_11 ?_
    refine fr_iconst dX10_of_12 ?_
    refine fr_bipush dX10_of_13 (by decide) ?_
    refine fr_cSi (mi' := fmX10_isWithin) dX10_of_15 mlX10_76 msX10_isWithin (Nat.le_of_ble_eq_true rfl) (kcX10_isWithin (by omega) (by omega) (by omega)) rfl rfl (Nat.le_of_ble_eq_true rfl) ?_
    refine fr_ifb_eq (tgt := 37) dX10_of_18 (by decide) (fun h2 => ?_) (fun h2 => ?_)
    · skip
      refine fr_iconst dX10_of_37 ?_
      exact fr_iret dX10_of_38 rfl (fr_e (by first | rw [if_pos (show (0 ≤ t ∧ t < w 0) ∧ (0 ≤ what ∧ what ≤ 6) by omega)] | rw [if_neg (show ¬ ((0 ≤ t ∧ t < w 0) ∧ (0 ≤ what ∧ what ≤ 6)) by omega)]) rfl)
    · skip
      obtain ⟨t0, t1, t2, t3, t4, t5, t6⟩ := hG.tree (t := t) (by omega) (by omega)
      have iT := hI.tree (t := t) (by omega) (by omega)
      unfold fr_It at iT
      refine fr_al0 dX10_of_21 ?_
      refine fr_getr (cz := 1) dX10_of_22 flX10_12 ⟨by decide, by decide, rfl⟩ rfl rfl ?_
      refine fr_getr (cz := 2) dX10_of_25 flX10_122 ⟨by decide, by decide, rfl⟩ rfl rfl ?_
      refine fr_il1 dX10_of_28 ?_
      refine fr_aaT dX10_of_29 (by omega) (by omega) ?_
      refine fr_il2 dX10_of_30 ?_
      refine fr_cVi (mi' := fmX7_mark) dX10_of_31 mlX10_126 mvX7_mark ⟨7, _, (fr_obT (by omega) (by omega)), rfl, rfl⟩ (Nat.le_of_ble_eq_true rfl) (kcX7_mark (fr_obT (by omega) (by omega)) (by omega) (by omega) (by omega) (by omega)) rfl rfl (Nat.le_of_ble_eq_true rfl) ?_
      rw [mk_eq hG (by omega) (by omega)]
      refine fr_goto (tgt := 38) dX10_of_34 (by decide) ?_
      exact fr_iret dX10_of_38 rfl (fr_e (by first | rw [if_pos (show (0 ≤ t ∧ t < w 0) ∧ (0 ≤ what ∧ what ≤ 6) by omega)] | rw [if_neg (show ¬ ((0 ≤ t ∧ t < w 0) ∧ (0 ≤ what ∧ what ≤ 6)) by omega)]) rfl)
set_option maxRecDepth 20000 in
theorem kcX10_price {l : Launch} {κ : fr_Ka} {w : Int → Int} {μ : fr_Me} (hG : fr_G w μ) (hI : fr_I w) {f v : Int} (rf : -2147483648 ≤ f ∧ f ≤ 2147483647) (rv : -2147483648 ≤ v ∧ v ≤ 2147483647) : fr_C l κ fmX10_price 3 [fr_r κ 0, fr_i f, fr_i v] μ (fr_Pi (fun z m => (¬ ((0 ≤ f ∧ f ≤ 9) ∧ (-9 ≤ v ∧ v ≤ 99)) ∧ z = -100001 ∧ m = μ) ∨ (((0 ≤ f ∧ f ≤ 9) ∧ (-9 ≤ v ∧ v ≤ 99)) ∧ z = w (64 + f) ∧ m = fr_up μ 4 f v))) := by
  have iN := hI.n
  have iM := hI.many
  have gN := hG.n
  have gM := hG.many
  refine fr_enter (by decide +kernel) (ls := [some (fr_r κ 0), some (fr_i f), some (fr_i v), none]) rfl (Nat.le_of_ble_eq_true rfl) ?_
  refine fr_il1 dX10_price_0 ?_
  refine fr_cSi (mi' := fmX10_isFruit) dX10_price_1 mlX10_131 msX10_isFruit (Nat.le_of_ble_eq_true rfl) (kcX10_isFruit (by omega)) rfl rfl (Nat.le_of_ble_eq_true rfl) ?_
  refine fr_ifb_eq (tgt := 18) dX10_price_4 (by decide) (fun h1 => ?_) (fun h1 => ?_)
  · skip
    refine fr_ldc dX10_price_18 cnX10_134 ?_
    exact fr_iret dX10_price_20 rfl (fr_pi (by first | exact Or.inl ⟨by omega, rfl, rfl⟩ | exact Or.inr ⟨by omega, hG.pr (by omega) (by omega), rfl⟩))
  · skip
    refine fr_il2 dX10_price_7 ?_
    refine fr_bipush dX10_price_8 (by decide) ?_
    refine fr_bipush dX10_price_10 (by decide) ?_
    refine fr_cSi (mi' := fmX10_isWithin) dX10_price_12 mlX10_76 msX10_isWithin (Nat.le_of_ble_eq_true rfl) (kcX10_isWithin (by omega) (by omega) (by omega)) rfl rfl (Nat.le_of_ble_eq_true rfl) ?_
    refine fr_ifb_ne (tgt := 21) dX10_price_15 (by decide) (fun h2 => ?_) (fun h2 => ?_)
    · skip
      refine fr_al0 dX10_price_21 ?_
      refine fr_getr (cz := 1) dX10_price_22 flX10_12 ⟨by decide, by decide, rfl⟩ rfl rfl ?_
      refine fr_getr (cz := 4) dX10_price_25 flX10_135 ⟨by decide, by decide, rfl⟩ rfl rfl ?_
      refine fr_il1 dX10_price_28 ?_
      refine fr_iald dX10_price_29 ⟨by decide, by decide, rfl, by decide⟩ (by omega) (by omega) ?_
      refine fr_is3 dX10_price_30 rfl (Nat.le_of_ble_eq_true rfl) ?_
      refine fr_al0 dX10_price_31 ?_
      refine fr_getr (cz := 1) dX10_price_32 flX10_12 ⟨by decide, by decide, rfl⟩ rfl rfl ?_
      refine fr_getr (cz := 4) dX10_price_35 flX10_135 ⟨by decide, by decide, rfl⟩ rfl rfl ?_
      refine fr_il1 dX10_price_38 ?_
      refine fr_il2 dX10_price_39 ?_
      refine fr_iast dX10_price_40 ⟨by decide, by decide, rfl, by decide⟩ (by omega) (by omega) ?_
      refine fr_il3 dX10_price_41 ?_
      exact fr_iret dX10_price_42 rfl (fr_pi (by first | exact Or.inl ⟨by omega, rfl, rfl⟩ | exact Or.inr ⟨by omega, hG.pr (by omega) (by omega), rfl⟩))
    · skip
      refine fr_ldc dX10_price_18 cnX10_134 ?_
      exact fr_iret dX10_price_20 rfl (fr_pi (by first | exact Or.inl ⟨by omega, rfl, rfl⟩ | exact Or.inr ⟨by omega, hG.pr (by omega) (by omega), rfl⟩))
set_option maxRecDepth 20000 in
theorem kcX10_fence {l : Launch} {κ : fr_Ka} {w : Int → Int} {μ : fr_Me} (hG : fr_G w μ) (hI : fr_I w) {t set : Int} (rt : -2147483648 ≤ t ∧ t ≤ 2147483647) (rset : -2147483648 ≤ set ∧ set ≤ 2147483647) : fr_C l κ fmX10_fence 4 [fr_r κ 0, fr_i t, fr_i set] μ (fr_Pi (fun z m => (¬ ((0 ≤ t ∧ t < w 0) ∧ (0 ≤ set ∧ set ≤ fr_shl 1 (w 43) - 1)) ∧ z = -1 ∧ m = μ) ∨ (((0 ≤ t ∧ t < w 0) ∧ (0 ≤ set ∧ set ≤ fr_shl 1 (w 43) - 1)) ∧ sp_in set (w (7 + t)) ∧ z = -2 ∧ m = μ) ∨ (((0 ≤ t ∧ t < w 0) ∧ (0 ≤ set ∧ set ≤ fr_shl 1 (w 43) - 1)) ∧ ¬ sp_in set (w (7 + t)) ∧ z = w (37 + t) ∧ m = fr_up μ (36 + t) 6 set))) := by
  have iN := hI.n
  have iM := hI.many
  have gN := hG.n
  have gM := hG.many
  refine fr_enter (by decide +kernel) (ls := [some (fr_r κ 0), some (fr_i t), some (fr_i set), none, none]) rfl (Nat.le_of_ble_eq_true rfl) ?_
  refine fr_al0 dX10_fence_0 ?_
  refine fr_getr (cz := 1) dX10_fence_1 flX10_12 ⟨by decide, by decide, rfl⟩ rfl rfl ?_
  refine fr_il1 dX10_fence_4 ?_
  refine fr_cVi (mi' := fmX1_hasTree) dX10_fence_5 mlX10_88 mvX1_hasTree ⟨1, _, ⟨by decide, by decide, rfl⟩, rfl, rfl⟩ (Nat.le_of_ble_eq_true rfl) (kcX1_hasTree hG hI (by omega)) rfl rfl (Nat.le_of_ble_eq_true rfl) ?_
  refine fr_ifb_eq (tgt := 22) dX10_fence_8 (by decide) (fun h1 => ?_) (fun h1 => ?_)
  · skip
    refine fr_iconst dX10_fence_22 ?_
    exact fr_iret dX10_fence_23 rfl (fr_pi (by first | exact Or.inl ⟨by omega, rfl, rfl⟩ | exact Or.inr (Or.inl ⟨by omega, by rw [← t1]; assumption, rfl, rfl⟩) | exact Or.inr (Or.inr ⟨by omega, by rw [← t1]; assumption, t6, rfl⟩)))
  · skip
    refine fr_al0 dX10_fence_11 ?_
    refine fr_getr (cz := 1) dX10_fence_12 flX10_12 ⟨by decide, by decide, rfl⟩ rfl rfl ?_
    refine fr_il2 dX10_fence_15 ?_
    refine fr_cVi (mi' := fmX1_isSet) dX10_fence_16 mlX10_138 mvX1_isSet ⟨1, _, ⟨by decide, by decide, rfl⟩, rfl, rfl⟩ (Nat.le_of_ble_eq_true rfl) (kcX1_isSet hG hI (by omega)) rfl rfl (Nat.le_of_ble_eq_true rfl) ?_
    refine fr_ifb_ne (tgt := 24) dX10_fence_19 (by decide) (fun h2 => ?_) (fun h2 => ?_)
    · skip
      refine fr_al0 dX10_fence_24 ?_
      obtain ⟨t0, t1, t2, t3, t4, t5, t6⟩ := hG.tree (t := t) (by omega) (by omega)
      have iT := hI.tree (t := t) (by omega) (by omega)
      unfold fr_It at iT
      refine fr_getr (cz := 1) dX10_fence_25 flX10_12 ⟨by decide, by decide, rfl⟩ rfl rfl ?_
      refine fr_getr (cz := 2) dX10_fence_28 flX10_122 ⟨by decide, by decide, rfl⟩ rfl rfl ?_
      refine fr_il1 dX10_fence_31 ?_
      refine fr_aaT dX10_fence_32 (by omega) (by omega) ?_
      refine fr_as3 dX10_fence_33 rfl (Nat.le_of_ble_eq_true rfl) ?_
      refine fr_il2 dX10_fence_34 ?_
      refine fr_al3 dX10_fence_35 ?_
      refine fr_geti (kz := 1) dX10_fence_36 flX10_141 (fr_obT (by omega) (by omega)) rfl rfl ?_
      refine fr_cSi (mi' := fmX10_isIn) dX10_fence_39 mlX10_144 msX10_isIn (Nat.le_of_ble_eq_true rfl) (kcX10_isIn) rfl rfl (Nat.le_of_ble_eq_true rfl) ?_
      refine fr_ifb_eq (tgt := 48) dX10_fence_42 (by decide) (fun h3 => ?_) (fun h3 => ?_)
      · skip
        refine fr_al3 dX10_fence_48 ?_
        refine fr_geti (kz := 6) dX10_fence_49 flX10_147 (fr_obT (by omega) (by omega)) rfl rfl ?_
        refine fr_is4 dX10_fence_52 rfl (Nat.le_of_ble_eq_true rfl) ?_
        refine fr_al3 dX10_fence_54 ?_
        refine fr_il2 dX10_fence_55 ?_
        refine fr_put (kz := 6) dX10_fence_56 fpX10_147 (fr_obT (by omega) (by omega)) rfl rfl (fun h => by cases h) ?_
        refine fr_il4 dX10_fence_59 ?_
        exact fr_iret dX10_fence_61 rfl (fr_pi (by first | exact Or.inl ⟨by omega, rfl, rfl⟩ | exact Or.inr (Or.inl ⟨by omega, by rw [← t1]; assumption, rfl, rfl⟩) | exact Or.inr (Or.inr ⟨by omega, by rw [← t1]; assumption, t6, rfl⟩)))
      · skip
        refine fr_bipush dX10_fence_45 (by decide) ?_
        exact fr_iret dX10_fence_47 rfl (fr_pi (by first | exact Or.inl ⟨by omega, rfl, rfl⟩ | exact Or.inr (Or.inl ⟨by omega, by rw [← t1]; assumption, rfl, rfl⟩) | exact Or.inr (Or.inr ⟨by omega, by rw [← t1]; assumption, t6, rfl⟩)))
    · skip
      refine fr_iconst dX10_fence_22 ?_
      exact fr_iret dX10_fence_23 rfl (fr_pi (by first | exact Or.inl ⟨by omega, rfl, rfl⟩ | exact Or.inr (Or.inl ⟨by omega, by rw [← t1]; assumption, rfl, rfl⟩) | exact Or.inr (Or.inr ⟨by omega, by rw [← t1]; assumption, t6, rfl⟩)))
set_option maxRecDepth 20000 in
theorem kcX10_climb {l : Launch} {κ : fr_Ka} {w : Int → Int} {μ : fr_Me} (hG : fr_G w μ) (hI : fr_I w) {t c : Int} (rt : -2147483648 ≤ t ∧ t ≤ 2147483647) (rc : -2147483648 ≤ c ∧ c ≤ 2147483647) : fr_C l κ fmX10_climb 4 [fr_r κ 0, fr_i t, fr_i c] μ (fr_Pi (fun z m => (¬ ((0 ≤ t ∧ t < w 0) ∧ (c = 5 ∨ (0 ≤ c ∧ c < w 43))) ∧ z = -1 ∧ m = μ) ∨ (((0 ≤ t ∧ t < w 0) ∧ (c = 5 ∨ (0 ≤ c ∧ c < w 43))) ∧ ¬ sp_may w t c ∧ z = -2 ∧ m = μ) ∨ (((0 ≤ t ∧ t < w 0) ∧ (c = 5 ∨ (0 ≤ c ∧ c < w 43))) ∧ sp_may w t c ∧ z = w (7 + t) ∧ m = fr_up μ (36 + t) 1 c))) := by
  have iN := hI.n
  have iM := hI.many
  have gN := hG.n
  have gM := hG.many
  refine fr_enter (by decide +kernel) (ls := [some (fr_r κ 0), some (fr_i t), some (fr_i c), none, none]) rfl (Nat.le_of_ble_eq_true rfl) ?_
  refine fr_al0 dX10_climb_0 ?_
  refine fr_getr (cz := 1) dX10_climb_1 flX10_12 ⟨by decide, by decide, rfl⟩ rfl rfl ?_
  refine fr_il1 dX10_climb_4 ?_
  refine fr_cVi (mi' := fmX1_hasTree) dX10_climb_5 mlX10_88 mvX1_hasTree ⟨1, _, ⟨by decide, by decide, rfl⟩, rfl, rfl⟩ (Nat.le_of_ble_eq_true rfl) (kcX1_hasTree hG hI (by omega)) rfl rfl (Nat.le_of_ble_eq_true rfl) ?_
  refine fr_ifb_eq (tgt := 22) dX10_climb_8 (by decide) (fun h1 => ?_) (fun h1 => ?_)
  · skip
    refine fr_iconst dX10_climb_22 ?_
    exact fr_iret dX10_climb_23 rfl (fr_pi (by first | exact Or.inl ⟨by omega, rfl, rfl⟩ | exact Or.inr (Or.inl ⟨by omega, by assumption, rfl, rfl⟩) | exact Or.inr (Or.inr ⟨by omega, by assumption, (hG.tree (t := t) (by omega) (by omega)).2.1, rfl⟩)))
  · skip
    refine fr_al0 dX10_climb_11 ?_
    refine fr_getr (cz := 1) dX10_climb_12 flX10_12 ⟨by decide, by decide, rfl⟩ rfl rfl ?_
    refine fr_il2 dX10_climb_15 ?_
    refine fr_cVi (mi' := fmX1_isFolk) dX10_climb_16 mlX10_150 mvX1_isFolk ⟨1, _, ⟨by decide, by decide, rfl⟩, rfl, rfl⟩ (Nat.le_of_ble_eq_true rfl) (kcX1_isFolk hG hI (by omega)) rfl rfl (Nat.le_of_ble_eq_true rfl) ?_
    refine fr_ifb_ne (tgt := 24) dX10_climb_19 (by decide) (fun h2 => ?_) (fun h2 => ?_)
    · skip
      refine fr_al0 dX10_climb_24 ?_
      refine fr_getr (cz := 1) dX10_climb_25 flX10_12 ⟨by decide, by decide, rfl⟩ rfl rfl ?_
      refine fr_il1 dX10_climb_28 ?_
      refine fr_il2 dX10_climb_29 ?_
      refine fr_cVi (mi' := fmX1_mayClimbNow) dX10_climb_30 mlX10_153 mvX1_mayClimbNow ⟨1, _, ⟨by decide, by decide, rfl⟩, rfl, rfl⟩ (Nat.le_of_ble_eq_true rfl) (kcX1_mayClimbNow hG hI (by omega) (by omega)) rfl rfl (Nat.le_of_ble_eq_true rfl) ?_
      refine fr_ifb_ne (tgt := 39) dX10_climb_33 (by decide) (fun h3 => ?_) (fun h3 => ?_)
      · skip
        refine fr_al0 dX10_climb_39 ?_
        refine fr_getr (cz := 1) dX10_climb_40 flX10_12 ⟨by decide, by decide, rfl⟩ rfl rfl ?_
        refine fr_getr (cz := 2) dX10_climb_43 flX10_122 ⟨by decide, by decide, rfl⟩ rfl rfl ?_
        refine fr_il1 dX10_climb_46 ?_
        refine fr_aaT dX10_climb_47 (by omega) (by omega) ?_
        refine fr_as3 dX10_climb_48 rfl (Nat.le_of_ble_eq_true rfl) ?_
        refine fr_al3 dX10_climb_49 ?_
        refine fr_geti (kz := 1) dX10_climb_50 flX10_141 (fr_obT (by omega) (by omega)) rfl rfl ?_
        refine fr_is4 dX10_climb_53 rfl (Nat.le_of_ble_eq_true rfl) ?_
        refine fr_al3 dX10_climb_55 ?_
        refine fr_il2 dX10_climb_56 ?_
        refine fr_put (kz := 1) dX10_climb_57 fpX10_141 (fr_obT (by omega) (by omega)) rfl rfl (fun h => by cases h) ?_
        refine fr_il4 dX10_climb_60 ?_
        exact fr_iret dX10_climb_62 rfl (fr_pi (by first | exact Or.inl ⟨by omega, rfl, rfl⟩ | exact Or.inr (Or.inl ⟨by omega, by assumption, rfl, rfl⟩) | exact Or.inr (Or.inr ⟨by omega, by assumption, (hG.tree (t := t) (by omega) (by omega)).2.1, rfl⟩)))
      · skip
        refine fr_bipush dX10_climb_36 (by decide) ?_
        exact fr_iret dX10_climb_38 rfl (fr_pi (by first | exact Or.inl ⟨by omega, rfl, rfl⟩ | exact Or.inr (Or.inl ⟨by omega, by assumption, rfl, rfl⟩) | exact Or.inr (Or.inr ⟨by omega, by assumption, (hG.tree (t := t) (by omega) (by omega)).2.1, rfl⟩)))
    · skip
      refine fr_iconst dX10_climb_22 ?_
      exact fr_iret dX10_climb_23 rfl (fr_pi (by first | exact Or.inl ⟨by omega, rfl, rfl⟩ | exact Or.inr (Or.inl ⟨by omega, by assumption, rfl, rfl⟩) | exact Or.inr (Or.inr ⟨by omega, by assumption, (hG.tree (t := t) (by omega) (by omega)).2.1, rfl⟩)))
set_option maxRecDepth 20000 in
theorem kcX10_type {l : Launch} {κ : fr_Ka} {μ : fr_Me} (ht : 0 ≤ μ 9 4 ∧ μ 9 4 ≤ 60) {c : Int} (rc : -2147483648 ≤ c ∧ c ≤ 2147483647) : fr_C l κ fmX10_type 2 [fr_r κ 0, fr_i c] μ (fr_Pi (fun z m => (¬ (32 ≤ c ∧ c ≤ 126) ∧ z = -1 ∧ m = μ) ∨ ((32 ≤ c ∧ c ≤ 126) ∧ μ 9 4 = 60 ∧ z = -3 ∧ m = μ) ∨ ((32 ≤ c ∧ c ≤ 126) ∧ μ 9 4 < 60 ∧ z = μ 9 4 + 1 ∧ m = fr_up (fr_up μ 10 (μ 9 4) c) 9 4 (μ 9 4 + 1)))) := by
  refine fr_enter (by decide +kernel) (ls := [some (fr_r κ 0), some (fr_i c)]) rfl (Nat.le_of_ble_eq_true rfl) ?_
  refine fr_il1 dX10_type_0 ?_
  refine fr_bipush dX10_type_1 (by decide) ?_
  refine fr_bipush dX10_type_3 (by decide) ?_
  refine fr_cSi (mi' := fmX10_isWithin) dX10_type_5 mlX10_76 msX10_isWithin (Nat.le_of_ble_eq_true rfl) (kcX10_isWithin (by omega) (by omega) (by omega)) rfl rfl (Nat.le_of_ble_eq_true rfl) ?_
  refine fr_ifb_ne (tgt := 13) dX10_type_8 (by decide) (fun h1 => ?_) (fun h1 => ?_)
  · skip
    refine fr_al0 dX10_type_13 ?_
    refine fr_getr (cz := 9) dX10_type_14 flX10_22 ⟨by decide, by decide, rfl⟩ rfl rfl ?_
    refine fr_geti (kz := 4) dX10_type_17 flX10_156 ⟨by decide, by decide, rfl⟩ rfl rfl ?_
    refine fr_bipush dX10_type_20 (by decide) ?_
    refine fr_icmp_lt (tgt := 30) dX10_type_22 (by decide) (by omega) (by omega) (fun h2 => ?_) (fun h2 => ?_)
    · skip
      refine fr_al0 dX10_type_30 ?_
      refine fr_getr (cz := 9) dX10_type_31 flX10_22 ⟨by decide, by decide, rfl⟩ rfl rfl ?_
      refine fr_il1 dX10_type_34 ?_
      refine fr_cVP (mi' := fmX6_write) dX10_type_35 mlX10_159 mvX6_write ⟨6, _, ⟨by decide, by decide, rfl⟩, rfl, rfl⟩ (Nat.le_of_ble_eq_true rfl) (kcX6_write (by omega)) rfl rfl (Nat.le_of_ble_eq_true rfl) (fun z m hz => ?_)
      obtain ⟨rfl, rfl⟩ := hz
      exact fr_iret dX10_type_38 rfl (fr_pi (by first | exact Or.inl ⟨by omega, rfl, rfl⟩ | exact Or.inr (Or.inl ⟨by omega, by omega, rfl, rfl⟩) | exact Or.inr (Or.inr ⟨by omega, by omega, rfl, rfl⟩)))
    · skip
      refine fr_bipush dX10_type_25 (by decide) ?_
      refine fr_goto (tgt := 38) dX10_type_27 (by decide) ?_
      exact fr_iret dX10_type_38 rfl (fr_pi (by first | exact Or.inl ⟨by omega, rfl, rfl⟩ | exact Or.inr (Or.inl ⟨by omega, by omega, rfl, rfl⟩) | exact Or.inr (Or.inr ⟨by omega, by omega, rfl, rfl⟩)))
  · skip
    refine fr_iconst dX10_type_11 ?_
    exact fr_iret dX10_type_12 rfl (fr_pi (by first | exact Or.inl ⟨by omega, rfl, rfl⟩ | exact Or.inr (Or.inl ⟨by omega, by omega, rfl, rfl⟩) | exact Or.inr (Or.inr ⟨by omega, by omega, rfl, rfl⟩)))
set_option maxRecDepth 20000 in
theorem kcX10_count {l : Launch} {κ : fr_Ka} {w : Int → Int} {μ : fr_Me} (hG : fr_G w μ) (hI : fr_I w) {what : Int} (rwhat : -2147483648 ≤ what ∧ what ≤ 2147483647) : fr_C l κ fmX10_count 2 [fr_r κ 0, fr_i what] μ (fr_Ei (if what = 0 then w 0 else if what = 1 then w 43 else if what = 2 then w 75 else if what = 3 then w 76 else if what = 4 then fr_and (sp_orl (w 0).toNat (fun t => fr_shl 1 (w (7 + t)))) (-33) else -1) μ) := by
  have iN := hI.n
  have iM := hI.many
  have gN := hG.n
  have gM := hG.many
  refine fr_enter (by decide +kernel) (ls := [some (fr_r κ 0), some (fr_i what)]) rfl (Nat.le_of_ble_eq_true rfl) ?_
  refine fr_il1 dX10_count_0 ?_
  rcases (by omega : what < 0 ∨ 4 < what ∨ what = 0 ∨ what = 1 ∨ what = 2 ∨ what = 3 ∨ what = 4) with h1 | h1 | h1 | h1 | h1 | h1 | h1
  · skip
    refine fr_tswOut (tgt := 76) dX10_count_1 (by omega) (Or.inl h1) (by decide) ?_
    refine fr_iconst dX10_count_76 ?_
    exact fr_iret dX10_count_77 rfl (fr_e (by have g5 := hG.years; have g6 := hG.fallen; (repeat' split) <;> first | rfl | omega) rfl)
  · skip
    refine fr_tswOut (tgt := 76) dX10_count_1 (by omega) (Or.inr h1) (by decide) ?_
    refine fr_iconst dX10_count_76 ?_
    exact fr_iret dX10_count_77 rfl (fr_e (by have g5 := hG.years; have g6 := hG.fallen; (repeat' split) <;> first | rfl | omega) rfl)
  · skip
    refine fr_tswIn (tgt := 36) (off := 35) dX10_count_1 (by omega) (by omega) (by omega) (by rw [h1]; rfl) (by decide) ?_
    refine fr_al0 dX10_count_36 ?_
    refine fr_getr (cz := 1) dX10_count_37 flX10_12 ⟨by decide, by decide, rfl⟩ rfl rfl ?_
    refine fr_geti (kz := 3) dX10_count_40 flX10_80 ⟨by decide, by decide, rfl⟩ rfl rfl ?_
    exact fr_iret dX10_count_43 rfl (fr_e (by have g5 := hG.years; have g6 := hG.fallen; (repeat' split) <;> first | rfl | omega) rfl)
  · skip
    refine fr_tswIn (tgt := 44) (off := 43) dX10_count_1 (by omega) (by omega) (by omega) (by rw [h1]; rfl) (by decide) ?_
    refine fr_al0 dX10_count_44 ?_
    refine fr_getr (cz := 1) dX10_count_45 flX10_12 ⟨by decide, by decide, rfl⟩ rfl rfl ?_
    refine fr_geti (kz := 4) dX10_count_48 flX10_99 ⟨by decide, by decide, rfl⟩ rfl rfl ?_
    exact fr_iret dX10_count_51 rfl (fr_e (by have g5 := hG.years; have g6 := hG.fallen; (repeat' split) <;> first | rfl | omega) rfl)
  · skip
    refine fr_tswIn (tgt := 52) (off := 51) dX10_count_1 (by omega) (by omega) (by omega) (by rw [h1]; rfl) (by decide) ?_
    refine fr_al0 dX10_count_52 ?_
    refine fr_getr (cz := 1) dX10_count_53 flX10_12 ⟨by decide, by decide, rfl⟩ rfl rfl ?_
    refine fr_geti (kz := 6) dX10_count_56 flX10_169 ⟨by decide, by decide, rfl⟩ rfl rfl ?_
    exact fr_iret dX10_count_59 rfl (fr_e (by have g5 := hG.years; have g6 := hG.fallen; (repeat' split) <;> first | rfl | omega) rfl)
  · skip
    refine fr_tswIn (tgt := 60) (off := 59) dX10_count_1 (by omega) (by omega) (by omega) (by rw [h1]; rfl) (by decide) ?_
    refine fr_al0 dX10_count_60 ?_
    refine fr_getr (cz := 1) dX10_count_61 flX10_12 ⟨by decide, by decide, rfl⟩ rfl rfl ?_
    refine fr_geti (kz := 7) dX10_count_64 flX10_172 ⟨by decide, by decide, rfl⟩ rfl rfl ?_
    exact fr_iret dX10_count_67 rfl (fr_e (by have g5 := hG.years; have g6 := hG.fallen; (repeat' split) <;> first | rfl | omega) rfl)
  · skip
    refine fr_tswIn (tgt := 68) (off := 67) dX10_count_1 (by omega) (by omega) (by omega) (by rw [h1]; rfl) (by decide) ?_
    refine fr_al0 dX10_count_68 ?_
    refine fr_getr (cz := 1) dX10_count_69 flX10_12 ⟨by decide, by decide, rfl⟩ rfl rfl ?_
    refine fr_cVi (mi' := fmX1_climbersNow) dX10_count_72 mlX10_175 mvX1_climbersNow ⟨1, _, ⟨by decide, by decide, rfl⟩, rfl, rfl⟩ (Nat.le_of_ble_eq_true rfl) (kcX1_climbersNow hG hI) rfl rfl (Nat.le_of_ble_eq_true rfl) ?_
    exact fr_iret dX10_count_75 rfl (fr_e (by have g5 := hG.years; have g6 := hG.fallen; (repeat' split) <;> first | rfl | omega) rfl)
set_option maxRecDepth 20000 in
theorem kcX10_bears {l : Launch} {κ : fr_Ka} {w : Int → Int} {μ : fr_Me} (hG : fr_G w μ) (hI : fr_I w) {t f : Int} (rt : -2147483648 ≤ t ∧ t ≤ 2147483647) (rf : -2147483648 ≤ f ∧ f ≤ 2147483647) : fr_C l κ fmX10_bears 5 [fr_r κ 0, fr_i t, fr_i f] μ (fr_Ei (if (0 ≤ t ∧ t < w 0) ∧ (0 ≤ f ∧ f ≤ 9) then sp_now w t f else -1) μ) := by
  have iN := hI.n
  have iM := hI.many
  have gN := hG.n
  have gM := hG.many
  refine fr_enter (by decide +kernel) (ls := [some (fr_r κ 0), some (fr_i t), some (fr_i f)]) rfl (Nat.le_of_ble_eq_true rfl) ?_
  refine fr_al0 dX10_bears_0 ?_
  refine fr_getr (cz := 1) dX10_bears_1 flX10_12 ⟨by decide, by decide, rfl⟩ rfl rfl ?_
  refine fr_il1 dX10_bears_4 ?_
  refine fr_cVi (mi' := fmX1_hasTree) dX10_bears_5 mlX10_88 mvX1_hasTree ⟨1, _, ⟨by decide, by decide, rfl⟩, rfl, rfl⟩ (Nat.le_of_ble_eq_true rfl) (kcX1_hasTree hG hI (by omega)) rfl rfl (Nat.le_of_ble_eq_true rfl) ?_
  refine fr_ifb_eq (tgt := 30) dX10_bears_8 (by decide) (fun h1 => ?_) (fun h1 => ?_)
  · skip
    refine fr_iconst dX10_bears_30 ?_
    exact fr_iret dX10_bears_31 rfl (fr_e (by first | rw [if_pos (show (0 ≤ t ∧ t < w 0) ∧ (0 ≤ f ∧ f ≤ 9) by omega)] | rw [if_neg (show ¬ ((0 ≤ t ∧ t < w 0) ∧ (0 ≤ f ∧ f ≤ 9)) by omega)]) rfl)
  · skip
    refine fr_il2 dX10_bears_11 ?_
    refine fr_cSi (mi' := fmX10_isFruit) dX10_bears_12 mlX10_131 msX10_isFruit (Nat.le_of_ble_eq_true rfl) (kcX10_isFruit (by omega)) rfl rfl (Nat.le_of_ble_eq_true rfl) ?_
    refine fr_ifb_eq (tgt := 30) dX10_bears_15 (by decide) (fun h2 => ?_) (fun h2 => ?_)
    · skip
      refine fr_iconst dX10_bears_30 ?_
      exact fr_iret dX10_bears_31 rfl (fr_e (by first | rw [if_pos (show (0 ≤ t ∧ t < w 0) ∧ (0 ≤ f ∧ f ≤ 9) by omega)] | rw [if_neg (show ¬ ((0 ≤ t ∧ t < w 0) ∧ (0 ≤ f ∧ f ≤ 9)) by omega)]) rfl)
    · skip
      refine fr_al0 dX10_bears_18 ?_
      refine fr_getr (cz := 1) dX10_bears_19 flX10_12 ⟨by decide, by decide, rfl⟩ rfl rfl ?_
      refine fr_il1 dX10_bears_22 ?_
      refine fr_il2 dX10_bears_23 ?_
      refine fr_cVi (mi' := fmX1_borne) dX10_bears_24 mlX10_179 mvX1_borne ⟨1, _, ⟨by decide, by decide, rfl⟩, rfl, rfl⟩ (Nat.le_of_ble_eq_true rfl) (kcX1_borne hG hI (by omega) (by omega)) rfl rfl (Nat.le_of_ble_eq_true rfl) ?_
      refine fr_goto (tgt := 31) dX10_bears_27 (by decide) ?_
      exact fr_iret dX10_bears_31 rfl (fr_e (by first | rw [if_pos (show (0 ≤ t ∧ t < w 0) ∧ (0 ≤ f ∧ f ≤ 9) by omega)] | rw [if_neg (show ¬ ((0 ≤ t ∧ t < w 0) ∧ (0 ≤ f ∧ f ≤ 9)) by omega)]) rfl)
set_option maxRecDepth 20000 in
theorem kcX10_basket {l : Launch} {κ : fr_Ka} {w : Int → Int} {μ : fr_Me} (hG : fr_G w μ) (hI : fr_I w) {f what : Int} (rf : -2147483648 ≤ f ∧ f ≤ 2147483647) (rwhat : -2147483648 ≤ what ∧ what ≤ 2147483647) : fr_C l κ fmX10_basket 6 [fr_r κ 0, fr_i f, fr_i what] μ (fr_Ei (if (0 ≤ f ∧ f ≤ 9) ∧ (0 ≤ what ∧ what ≤ 1) then sp_bask w f what else -1) μ) := by
  have iN := hI.n
  have iM := hI.many
  have gN := hG.n
  have gM := hG.many
  refine fr_enter (by decide +kernel) (ls := [some (fr_r κ 0), some (fr_i f), some (fr_i what)]) rfl (Nat.le_of_ble_eq_true rfl) ?_
  refine fr_il1 dX10_basket_0 ?_
  refine fr_cSi (mi' := fmX10_isFruit) dX10_basket_1 mlX10_131 msX10_isFruit (Nat.le_of_ble_eq_true rfl) (kcX10_isFruit (by omega)) rfl rfl (Nat.le_of_ble_eq_true rfl) ?_
  refine fr_ifb_eq (tgt := 16) dX10_basket_4 (by decide) (fun h1 => ?_) (fun h1 => ?_)
  · skip
    refine fr_iconst dX10_basket_16 ?_
    exact fr_iret dX10_basket_17 rfl (fr_e (by first | (rw [if_pos (by omega)]; congr 1; omega) | rw [if_neg (by omega)]) rfl)
  · skip
    refine fr_il2 dX10_basket_7 ?_
    refine fr_iconst dX10_basket_8 ?_
    refine fr_iconst dX10_basket_9 ?_
    refine fr_cSi (mi' := fmX10_isWithin) dX10_basket_10 mlX10_76 msX10_isWithin (Nat.le_of_ble_eq_true rfl) (kcX10_isWithin (by omega) (by omega) (by omega)) rfl rfl (Nat.le_of_ble_eq_true rfl) ?_
    refine fr_ifb_ne (tgt := 18) dX10_basket_13 (by decide) (fun h2 => ?_) (fun h2 => ?_)
    · skip
      refine fr_il2 dX10_basket_18 ?_
      refine fr_if_ne (tgt := 33) dX10_basket_19 (by decide) (by omega) (fun h3 => ?_) (fun h3 => ?_)
      · skip
        refine fr_al0 dX10_basket_33 ?_
        refine fr_getr (cz := 1) dX10_basket_34 flX10_12 ⟨by decide, by decide, rfl⟩ rfl rfl ?_
        refine fr_il1 dX10_basket_37 ?_
        refine fr_cVi (mi' := fmX1_inNext) dX10_basket_38 mlX10_186 mvX1_inNext ⟨1, _, ⟨by decide, by decide, rfl⟩, rfl, rfl⟩ (Nat.le_of_ble_eq_true rfl) (kcX1_inNext hG hI (by omega)) rfl rfl (Nat.le_of_ble_eq_true rfl) ?_
        exact fr_iret dX10_basket_41 rfl (fr_e (by first | (rw [if_pos (by omega)]; congr 1; omega) | rw [if_neg (by omega)]) rfl)
      · skip
        refine fr_al0 dX10_basket_22 ?_
        refine fr_getr (cz := 1) dX10_basket_23 flX10_12 ⟨by decide, by decide, rfl⟩ rfl rfl ?_
        refine fr_il1 dX10_basket_26 ?_
        refine fr_cVi (mi' := fmX1_inBasket) dX10_basket_27 mlX10_183 mvX1_inBasket ⟨1, _, ⟨by decide, by decide, rfl⟩, rfl, rfl⟩ (Nat.le_of_ble_eq_true rfl) (kcX1_inBasket hG hI (by omega)) rfl rfl (Nat.le_of_ble_eq_true rfl) ?_
        refine fr_goto (tgt := 41) dX10_basket_30 (by decide) ?_
        exact fr_iret dX10_basket_41 rfl (fr_e (by first | (rw [if_pos (by omega)]; congr 1; omega) | rw [if_neg (by omega)]) rfl)
    · skip
      refine fr_iconst dX10_basket_16 ?_
      exact fr_iret dX10_basket_17 rfl (fr_e (by first | (rw [if_pos (by omega)]; congr 1; omega) | rw [if_neg (by omega)]) rfl)
set_option maxRecDepth 20000 in
theorem kcX10_value {l : Launch} {κ : fr_Ka} {w : Int → Int} {μ : fr_Me} (hG : fr_G w μ) (hI : fr_I w) {what : Int} (rwhat : -2147483648 ≤ what ∧ what ≤ 2147483647) : fr_C l κ fmX10_value 7 [fr_r κ 0, fr_i what] μ (fr_Ei (if 0 ≤ what ∧ what ≤ 1 then sp_val w what else -100001) μ) := by
  have iN := hI.n
  have iM := hI.many
  have gN := hG.n
  have gM := hG.many
  refine fr_enter (by decide +kernel) (ls := [some (fr_r κ 0), some (fr_i what)]) rfl (Nat.le_of_ble_eq_true rfl) ?_
  refine fr_il1 dX10_value_0 ?_
  refine fr_iconst dX10_value_1 ?_
  refine fr_iconst dX10_value_2 ?_
  refine fr_cSi (mi' := fmX10_isWithin) dX10_value_3 mlX10_76 msX10_isWithin (Nat.le_of_ble_eq_true rfl) (kcX10_isWithin (by omega) (by omega) (by omega)) rfl rfl (Nat.le_of_ble_eq_true rfl) ?_
  refine fr_ifb_ne (tgt := 12) dX10_value_6 (by decide) (fun h1 => ?_) (fun h1 => ?_)
  · skip
    refine fr_il1 dX10_value_12 ?_
    refine fr_if_ne (tgt := 26) dX10_value_13 (by decide) (by omega) (fun h2 => ?_) (fun h2 => ?_)
    · skip
      refine fr_al0 dX10_value_26 ?_
      refine fr_getr (cz := 1) dX10_value_27 flX10_12 ⟨by decide, by decide, rfl⟩ rfl rfl ?_
      refine fr_cVi (mi' := fmX1_nextValue) dX10_value_30 mlX10_192 mvX1_nextValue ⟨1, _, ⟨by decide, by decide, rfl⟩, rfl, rfl⟩ (Nat.le_of_ble_eq_true rfl) (kcX1_nextValue hG hI) rfl rfl (Nat.le_of_ble_eq_true rfl) ?_
      exact fr_iret dX10_value_33 rfl (fr_e (by first | (rw [if_pos (by omega)]; congr 1; omega) | rw [if_neg (by omega)]) rfl)
    · skip
      refine fr_al0 dX10_value_16 ?_
      refine fr_getr (cz := 1) dX10_value_17 flX10_12 ⟨by decide, by decide, rfl⟩ rfl rfl ?_
      refine fr_cVi (mi' := fmX1_basketValue) dX10_value_20 mlX10_189 mvX1_basketValue ⟨1, _, ⟨by decide, by decide, rfl⟩, rfl, rfl⟩ (Nat.le_of_ble_eq_true rfl) (kcX1_basketValue hG hI) rfl rfl (Nat.le_of_ble_eq_true rfl) ?_
      refine fr_goto (tgt := 33) dX10_value_23 (by decide) ?_
      exact fr_iret dX10_value_33 rfl (fr_e (by first | (rw [if_pos (by omega)]; congr 1; omega) | rw [if_neg (by omega)]) rfl)
  · skip
    refine fr_ldc dX10_value_9 cnX10_134 ?_
    exact fr_iret dX10_value_11 rfl (fr_e (by first | (rw [if_pos (by omega)]; congr 1; omega) | rw [if_neg (by omega)]) rfl)
set_option maxRecDepth 20000 in
theorem kcX10_year {l : Launch} {κ : fr_Ka} {w : Int → Int} {μ : fr_Me} (hG : fr_G w μ) (hI : fr_I w)  : fr_C l κ fmX10_year 5 [fr_r κ 0] μ (fr_Pi (fun z m => (w 75 = 9999 ∧ z = -3 ∧ m = μ) ∨ (w 75 < 9999 ∧ z = sp_year w 76 ∧ fr_G (sp_year w) m ∧ ∀ c : Int, (c ≠ 1 ∧ (c < 36 ∨ 42 ≤ c)) → m c = μ c))) := by
  have iN := hI.n
  have iM := hI.many
  have gN := hG.n
  have gM := hG.many
  have g5 := hG.years
  have i5 := hI.years
  refine fr_enter (by decide +kernel) (ls := [some (fr_r κ 0)]) rfl (Nat.le_of_ble_eq_true rfl) ?_
  refine fr_al0 dX10_year_0 ?_
  refine fr_getr (cz := 1) dX10_year_1 flX10_12 ⟨by decide, by decide, rfl⟩ rfl rfl ?_
  refine fr_geti (kz := 6) dX10_year_4 flX10_169 ⟨by decide, by decide, rfl⟩ rfl rfl ?_
  refine fr_sipush dX10_year_7 (by decide) ?_
  refine fr_icmp_lt (tgt := 18) dX10_year_10 (by decide) (by omega) (by omega) (fun h1 => ?_) (fun h1 => ?_)
  · skip
    refine fr_al0 dX10_year_18 ?_
    refine fr_getr (cz := 1) dX10_year_19 flX10_12 ⟨by decide, by decide, rfl⟩ rfl rfl ?_
    refine fr_cVP (mi' := fmX1_passYear) dX10_year_22 mlX10_195 mvX1_passYear ⟨1, _, ⟨by decide, by decide, rfl⟩, rfl, rfl⟩ (Nat.le_of_ble_eq_true rfl) (kcX1_passYear hG hI (by omega)) rfl rfl (Nat.le_of_ble_eq_true rfl) (fun z m hz => ?_)
    exact fr_iret dX10_year_25 rfl (fr_pi (by first | exact Or.inl ⟨by omega, rfl, rfl⟩ | exact Or.inr ⟨by omega, hz⟩))
  · skip
    refine fr_bipush dX10_year_13 (by decide) ?_
    refine fr_goto (tgt := 25) dX10_year_15 (by decide) ?_
    exact fr_iret dX10_year_25 rfl (fr_pi (by first | exact Or.inl ⟨by omega, rfl, rfl⟩ | exact Or.inr ⟨by omega, hz⟩))
set_option maxRecDepth 20000 in
theorem kcX10_seed {l : Launch} {κ : fr_Ka} {w : Int → Int} {μ : fr_Me} (hG : fr_G w μ) (hI : fr_I w) {v : Int} (rv : -2147483648 ≤ v ∧ v ≤ 2147483647) : fr_C l κ fmX10_seed 1 [fr_r κ 0, fr_i v] μ (fr_Pi (fun z m => (v < 0 ∧ z = -1 ∧ m = μ) ∨ (0 ≤ v ∧ z = w 74 ∧ m = fr_up μ 1 5 v))) := by
  refine fr_enter (by decide +kernel) (ls := [some (fr_r κ 0), some (fr_i v), none]) rfl (Nat.le_of_ble_eq_true rfl) ?_
  refine fr_il1 dX10_seed_0 ?_
  refine fr_if_ge (tgt := 6) dX10_seed_1 (by decide) (by omega) (fun h1 => ?_) (fun h1 => ?_)
  · skip
    refine fr_al0 dX10_seed_6 ?_
    refine fr_getr (cz := 1) dX10_seed_7 flX10_12 ⟨by decide, by decide, rfl⟩ rfl rfl ?_
    refine fr_geti (kz := 5) dX10_seed_10 flX10_198 ⟨by decide, by decide, rfl⟩ rfl rfl ?_
    refine fr_is2 dX10_seed_13 rfl (Nat.le_of_ble_eq_true rfl) ?_
    refine fr_al0 dX10_seed_14 ?_
    refine fr_getr (cz := 1) dX10_seed_15 flX10_12 ⟨by decide, by decide, rfl⟩ rfl rfl ?_
    refine fr_il1 dX10_seed_18 ?_
    refine fr_put (kz := 5) dX10_seed_19 fpX10_198 ⟨by decide, by decide, rfl⟩ rfl rfl (fun h => by cases h) ?_
    refine fr_il2 dX10_seed_22 ?_
    exact fr_iret dX10_seed_23 rfl (fr_pi (by first | exact Or.inl ⟨by omega, rfl, rfl⟩ | exact Or.inr ⟨by omega, hG.draw, rfl⟩))
  · skip
    refine fr_iconst dX10_seed_4 ?_
    exact fr_iret dX10_seed_5 rfl (fr_pi (by first | exact Or.inl ⟨by omega, rfl, rfl⟩ | exact Or.inr ⟨by omega, hG.draw, rfl⟩))
