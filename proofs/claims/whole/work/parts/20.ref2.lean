theorem sp_pl_rg (f : Int) : 1 ≤ sp_pl f ∧ sp_pl f ≤ 2 := by unfold sp_pl; split <;> omega
theorem sp_pl_half (f : Int) : (sp_pl f).tdiv 2 = if f = 1 then 0 else 1 := by unfold sp_pl; split <;> rfl
def sp_wn (w : Int → Int) (t c fl : Int) : Int := sp_sum 10 (fun f => w (64 + f) * sp_nxt w t f c fl)
theorem fr_land31 (y : Int) : fr_land y 2147483647 = y % 2147483648 := by
  unfold fr_land
  have h1 : (Int64.ofInt y &&& Int64.ofInt 2147483647).toInt = (BitVec.ofInt 64 y &&& 2147483647#64).toInt := rfl
  rw [h1, BitVec.toInt_eq_toNat_of_lt]
  · rw [BitVec.toNat_and, BitVec.toNat_ofInt, show (2147483647#64).toNat = 2 ^ 31 - 1 from rfl, Nat.and_two_pow_sub_one_eq_mod]
    omega
  · rw [BitVec.toNat_and, show (2147483647#64).toNat = 2 ^ 31 - 1 from rfl, Nat.and_two_pow_sub_one_eq_mod]
    have := Nat.mod_lt (BitVec.ofInt 64 y).toNat (show 0 < 2 ^ 31 by decide)
    omega
def sp_trm (m : fr_Me) (t fl : Int) : fr_Me := fr_up (fr_up (fr_up (fr_up (fr_up m 67 (19 + t) (m 67 (13 + t))) 67 (31 + t) (m 67 (25 + t))) 67 (13 + t) (m 67 (7 + t))) 67 (25 + t) fl) 67 (7 + t) 5
theorem sp_trm_nc (m : fr_Me) (t fl : Int) {c : Int} (h : c ≠ 67) : sp_trm m t fl c = m c := by unfold sp_trm; simp only [fr_up_nc _ _ _ h]
theorem fr_yt67 {m1 : fr_Me} {w : Int → Int} {t fl : Int} (h0 : 0 ≤ t) (h1 : t < 6) (hfl : fl = sp_fl w t) (e4 : m1 67 74 = sp_dw w t) (e6 : m1 67 76 = w 76 + fl) (eo : ∀ k, k ≠ 74 → k ≠ 76 → m1 67 k = w k) : sp_trm m1 t fl 67 = sp_yt w t := by
  funext k
  have a1 := eo (13 + t) (by omega) (by omega)
  have a2 := eo (25 + t) (by omega) (by omega)
  have a3 := eo (7 + t) (by omega) (by omega)
  simp only [sp_trm, fr_up_get, sp_yt, a1, a2, a3, ← hfl, true_and]
  by_cases h74 : k = 74
  · subst h74
    rw [if_neg (by omega), if_neg (by omega), if_neg (by omega), if_neg (by omega), if_neg (by omega), if_pos rfl]; exact e4
  · by_cases h76 : k = 76
    · subst h76
      rw [if_neg (by omega), if_neg (by omega), if_neg (by omega), if_neg (by omega), if_neg (by omega), if_neg (by omega), if_pos rfl]; exact e6
    · rw [if_neg h74, if_neg h76, eo k h74 h76]
      (repeat' split) <;> omega
theorem sp_may_iff {w : Int → Int} (hI : fr_I w) {t c : Int} (hc : c = 5 ∨ (0 ≤ c ∧ c < w 43)) : ((c = 5 ∨ ¬ sp_in (w (37 + t)) c) ∧ ∀ u : Int, 0 ≤ u → u < (w 0).toNat → (c = 5 ∨ u = t ∨ w (7 + u) ≠ c ∨ w (44 + c) = 2)) ↔ sp_may w t c := by
  have hm := hI.many
  have hn := hI.n
  unfold sp_may
  constructor
  · rintro ⟨h1, h2⟩
    by_cases h5 : c = 5
    · exact Or.inl (by omega)
    · refine Or.inr ⟨h1.resolve_left h5, ?_⟩
      by_cases hk : w (44 + c) = 2
      · exact Or.inl hk
      · refine Or.inr ?_
        rintro ⟨u, g0, g1, g2, g3⟩
        have := h2 u g0 (by omega)
        omega
  · intro h
    rcases h with h | ⟨h1, h2⟩
    · exact ⟨Or.inl (by omega), fun u _ _ => Or.inl (by omega)⟩
    · refine ⟨Or.inr h1, fun u g0 g1 => ?_⟩
      rcases h2 with h2 | h2
      · omega
      · by_cases hu : u = t
        · omega
        · by_cases hw : w (7 + u) = c
          · exact absurd ⟨u, g0, by omega, hu, hw⟩ h2
          · omega
set_option maxRecDepth 20000 in
theorem kcX11_told {l : Launch} {κ : fr_Ka} {μ : fr_Me} (hI : fr_I (μ 67)) {c what : Int} (rc : -2147483648 ≤ c ∧ c ≤ 2147483647) (rwhat : -2147483648 ≤ what ∧ what ≤ 2147483647) : fr_C l κ fmX11_told 3 [fr_r κ 66, fr_i c, fr_i what] μ (fr_Ei (if (0 ≤ c ∧ c < μ 67 43) ∧ (0 ≤ what ∧ what ≤ 4) then (if what = 4 then sp_br (μ 67) c else μ 67 (44 + 5 * what + c)) else -1) μ) := by
  have iN := hI.n
  have iM := hI.many
  refine fr_enter (by decide +kernel) (ls := [some (fr_r κ 66), some (fr_i c), some (fr_i what)]) rfl (Nat.le_of_ble_eq_true rfl) ?_
  refine fr_al0 dX11_told_0 ?_
  refine fr_il1 dX11_told_1 ?_
  refine fr_cVi (mi' := fmX11_isClimber) dX11_told_2 mlX11_71 mvX11_isClimber ⟨11, _, ⟨by decide, by decide, rfl⟩, rfl, rfl⟩ (Nat.le_of_ble_eq_true rfl) (kcX11_isClimber hI (by omega)) rfl rfl (Nat.le_of_ble_eq_true rfl) ?_
  refine fr_ifb_eq (tgt := 20) dX11_told_5 (by decide) (fun h1 => ?_) (fun h1 => ?_)
  · skip
    refine fr_iconst dX11_told_20 ?_
    exact fr_iret dX11_told_21 rfl (fr_e (by (repeat' split) <;> first | rfl | omega) rfl)
  · skip
    refine fr_il2 dX11_told_8 ?_
    refine fr_i2l dX11_told_9 (by omega) ?_
    refine fr_lconst0 dX11_told_10 ?_
    refine fr_ldc2 dX11_told_11 clX11_74 ?_
    refine fr_cSi (mi' := fmX11_in) dX11_told_14 mlX11_51 msX11_in (Nat.le_of_ble_eq_true rfl) (kcX11_in (by omega) (by omega) (by omega)) rfl rfl (Nat.le_of_ble_eq_true rfl) ?_
    refine fr_ifb_ne (tgt := 22) dX11_told_17 (by decide) (fun h2 => ?_) (fun h2 => ?_)
    · skip
      refine fr_il2 dX11_told_22 ?_
      refine fr_iconst dX11_told_23 ?_
      refine fr_icmp_ne (tgt := 35) dX11_told_24 (by decide) (by omega) (by omega) (fun h3 => ?_) (fun h3 => ?_)
      · skip
        refine fr_al0 dX11_told_35 ?_
        refine fr_getr (cz := 67) dX11_told_36 flX11_7 ⟨by decide, by decide, rfl⟩ rfl rfl ?_
        refine fr_bipush dX11_told_39 (by decide) ?_
        refine fr_iconst dX11_told_41 ?_
        refine fr_il2 dX11_told_42 ?_
        refine fr_imul dX11_told_43 ?_
        refine fr_iadd dX11_told_44 ?_
        refine fr_il1 dX11_told_45 ?_
        refine fr_iadd dX11_told_46 ?_
        refine fr_iald dX11_told_47 ⟨by decide, by decide, rfl, by decide⟩ (by omega) (by omega) ?_
        exact fr_iret dX11_told_48 rfl (fr_e (by (repeat' split) <;> first | rfl | omega) rfl)
      · skip
        refine fr_al0 dX11_told_27 ?_
        refine fr_il1 dX11_told_28 ?_
        refine fr_cVi (mi' := fmX11_brings) dX11_told_29 mlX11_76 mvX11_brings ⟨11, _, ⟨by decide, by decide, rfl⟩, rfl, rfl⟩ (Nat.le_of_ble_eq_true rfl) (kcX11_brings hI (by omega)) rfl rfl (Nat.le_of_ble_eq_true rfl) ?_
        refine fr_goto (tgt := 48) dX11_told_32 (by decide) ?_
        exact fr_iret dX11_told_48 rfl (fr_e (by (repeat' split) <;> first | rfl | omega) rfl)
    · skip
      refine fr_iconst dX11_told_20 ?_
      exact fr_iret dX11_told_21 rfl (fr_e (by (repeat' split) <;> first | rfl | omega) rfl)
set_option maxRecDepth 20000 in
theorem kcX11_of {l : Launch} {κ : fr_Ka} {μ : fr_Me} (hI : fr_I (μ 67)) {t what : Int} (rt : -2147483648 ≤ t ∧ t ≤ 2147483647) (rwhat : -2147483648 ≤ what ∧ what ≤ 2147483647) : fr_C l κ fmX11_of 3 [fr_r κ 66, fr_i t, fr_i what] μ (fr_Ei (if (0 ≤ t ∧ t < μ 67 0) ∧ (0 ≤ what ∧ what ≤ 6) then μ 67 (1 + 6 * what + t) else -1) μ) := by
  have iN := hI.n
  have iM := hI.many
  refine fr_enter (by decide +kernel) (ls := [some (fr_r κ 66), some (fr_i t), some (fr_i what)]) rfl (Nat.le_of_ble_eq_true rfl) ?_
  refine fr_al0 dX11_of_0 ?_
  refine fr_il1 dX11_of_1 ?_
  refine fr_cVi (mi' := fmX11_isTree) dX11_of_2 mlX11_61 mvX11_isTree ⟨11, _, ⟨by decide, by decide, rfl⟩, rfl, rfl⟩ (Nat.le_of_ble_eq_true rfl) (kcX11_isTree hI (by omega)) rfl rfl (Nat.le_of_ble_eq_true rfl) ?_
  refine fr_ifb_eq (tgt := 36) dX11_of_5 (by decide) (fun h1 => ?_) (fun h1 => ?_)
  · skip
    refine fr_iconst dX11_of_36 ?_
    exact fr_iret dX11_of_37 rfl (fr_e (by (repeat' split) <;> first | rfl | omega) rfl)
  · skip
    refine fr_il2 dX11_of_8 ?_
    refine fr_i2l dX11_of_9 (by omega) ?_
    refine fr_lconst0 dX11_of_10 ?_
    refine fr_ldc2 dX11_of_11 clX11_80 ?_
    refine fr_cSi (mi' := fmX11_in) dX11_of_14 mlX11_51 msX11_in (Nat.le_of_ble_eq_true rfl) (kcX11_in (by omega) (by omega) (by omega)) rfl rfl (Nat.le_of_ble_eq_true rfl) ?_
    refine fr_ifb_eq (tgt := 36) dX11_of_17 (by decide) (fun h2 => ?_) (fun h2 => ?_)
    · skip
      refine fr_iconst dX11_of_36 ?_
      exact fr_iret dX11_of_37 rfl (fr_e (by (repeat' split) <;> first | rfl | omega) rfl)
    · skip
      refine fr_al0 dX11_of_20 ?_
      refine fr_getr (cz := 67) dX11_of_21 flX11_7 ⟨by decide, by decide, rfl⟩ rfl rfl ?_
      refine fr_iconst dX11_of_24 ?_
      refine fr_bipush dX11_of_25 (by decide) ?_
      refine fr_il2 dX11_of_27 ?_
      refine fr_imul dX11_of_28 ?_
      refine fr_iadd dX11_of_29 ?_
      refine fr_il1 dX11_of_30 ?_
      refine fr_iadd dX11_of_31 ?_
      refine fr_iald dX11_of_32 ⟨by decide, by decide, rfl, by decide⟩ (by omega) (by omega) ?_
      refine fr_goto (tgt := 37) dX11_of_33 (by decide) ?_
      exact fr_iret dX11_of_37 rfl (fr_e (by (repeat' split) <;> first | rfl | omega) rfl)
set_option maxRecDepth 20000 in
theorem kcX11_price {l : Launch} {κ : fr_Ka} {μ : fr_Me} (hI : fr_I (μ 67)) {f v : Int} (rf : -2147483648 ≤ f ∧ f ≤ 2147483647) (rv : -2147483648 ≤ v ∧ v ≤ 2147483647) : fr_C l κ fmX11_price 2 [fr_r κ 66, fr_i f, fr_i v] μ (fr_Pi (fun z m => (¬ ((0 ≤ f ∧ f ≤ 9) ∧ (-9 ≤ v ∧ v ≤ 99)) ∧ z = -100001 ∧ m = μ) ∨ (((0 ≤ f ∧ f ≤ 9) ∧ (-9 ≤ v ∧ v ≤ 99)) ∧ z = μ 67 (64 + f) ∧ m = fr_up μ 67 (64 + f) v))) := by
  have iN := hI.n
  have iM := hI.many
  refine fr_enter (by decide +kernel) (ls := [some (fr_r κ 66), some (fr_i f), some (fr_i v), none]) rfl (Nat.le_of_ble_eq_true rfl) ?_
  refine fr_il1 dX11_price_0 ?_
  refine fr_i2l dX11_price_1 (by omega) ?_
  refine fr_lconst0 dX11_price_2 ?_
  refine fr_ldc2 dX11_price_3 clX11_65 ?_
  refine fr_cSi (mi' := fmX11_in) dX11_price_6 mlX11_51 msX11_in (Nat.le_of_ble_eq_true rfl) (kcX11_in (by omega) (by omega) (by omega)) rfl rfl (Nat.le_of_ble_eq_true rfl) ?_
  refine fr_ifb_eq (tgt := 26) dX11_price_9 (by decide) (fun h1 => ?_) (fun h1 => ?_)
  · skip
    refine fr_ldc dX11_price_26 cnX11_84 ?_
    exact fr_iret dX11_price_28 rfl (fr_pi (by first | exact Or.inl ⟨by omega, rfl, rfl⟩ | exact Or.inr ⟨by omega, rfl, rfl⟩))
  · skip
    refine fr_il2 dX11_price_12 ?_
    refine fr_i2l dX11_price_13 (by omega) ?_
    refine fr_ldc2 dX11_price_14 clX11_82 ?_
    refine fr_ldc2 dX11_price_17 clX11_67 ?_
    refine fr_cSi (mi' := fmX11_in) dX11_price_20 mlX11_51 msX11_in (Nat.le_of_ble_eq_true rfl) (kcX11_in (by omega) (by omega) (by omega)) rfl rfl (Nat.le_of_ble_eq_true rfl) ?_
    refine fr_ifb_ne (tgt := 29) dX11_price_23 (by decide) (fun h2 => ?_) (fun h2 => ?_)
    · skip
      refine fr_al0 dX11_price_29 ?_
      refine fr_getr (cz := 67) dX11_price_30 flX11_7 ⟨by decide, by decide, rfl⟩ rfl rfl ?_
      refine fr_bipush dX11_price_33 (by decide) ?_
      refine fr_il1 dX11_price_35 ?_
      refine fr_iadd dX11_price_36 ?_
      refine fr_iald dX11_price_37 ⟨by decide, by decide, rfl, by decide⟩ (by omega) (by omega) ?_
      refine fr_is3 dX11_price_38 rfl (Nat.le_of_ble_eq_true rfl) ?_
      refine fr_al0 dX11_price_39 ?_
      refine fr_getr (cz := 67) dX11_price_40 flX11_7 ⟨by decide, by decide, rfl⟩ rfl rfl ?_
      refine fr_bipush dX11_price_43 (by decide) ?_
      refine fr_il1 dX11_price_45 ?_
      refine fr_iadd dX11_price_46 ?_
      refine fr_il2 dX11_price_47 ?_
      refine fr_iast dX11_price_48 ⟨by decide, by decide, rfl, by decide⟩ (by omega) (by omega) ?_
      refine fr_il3 dX11_price_49 ?_
      exact fr_iret dX11_price_50 rfl (fr_pi (by first | exact Or.inl ⟨by omega, rfl, rfl⟩ | exact Or.inr ⟨by omega, rfl, rfl⟩))
    · skip
      refine fr_ldc dX11_price_26 cnX11_84 ?_
      exact fr_iret dX11_price_28 rfl (fr_pi (by first | exact Or.inl ⟨by omega, rfl, rfl⟩ | exact Or.inr ⟨by omega, rfl, rfl⟩))
set_option maxRecDepth 20000 in
theorem kcX11_isSet {l : Launch} {κ : fr_Ka} {μ : fr_Me} (hI : fr_I (μ 67)) {set : Int} (rset : -2147483648 ≤ set ∧ set ≤ 2147483647) : fr_C l κ fmX11_isSet 2 [fr_r κ 66, fr_i set] μ (fr_Ei (fr_b (0 ≤ set ∧ set ≤ fr_shl 1 (μ 67 43) - 1)) μ) := by
  have iN := hI.n
  have iM := hI.many
  have hs := fr_shl1_rg (m := μ 67 43) (by omega)
  refine fr_enter (by decide +kernel) (ls := [some (fr_r κ 66), some (fr_i set)]) rfl (Nat.le_of_ble_eq_true rfl) ?_
  refine fr_il1 dX11_isSet_0 ?_
  refine fr_i2l dX11_isSet_1 (by omega) ?_
  refine fr_lconst0 dX11_isSet_2 ?_
  refine fr_iconst dX11_isSet_3 ?_
  refine fr_al0 dX11_isSet_4 ?_
  refine fr_getr (cz := 67) dX11_isSet_5 flX11_7 ⟨by decide, by decide, rfl⟩ rfl rfl ?_
  refine fr_bipush dX11_isSet_8 (by decide) ?_
  refine fr_iald dX11_isSet_10 ⟨by decide, by decide, rfl, by decide⟩ (by omega) (by omega) ?_
  refine fr_ishl dX11_isSet_11 ?_
  refine fr_iconst dX11_isSet_12 ?_
  refine fr_isub dX11_isSet_13 ?_
  refine fr_i2l dX11_isSet_14 (by omega) ?_
  refine fr_cSi (mi' := fmX11_in) dX11_isSet_15 mlX11_51 msX11_in (Nat.le_of_ble_eq_true rfl) (kcX11_in (by omega) (by omega) (by omega)) rfl rfl (Nat.le_of_ble_eq_true rfl) ?_
  exact fr_zret dX11_isSet_18 rfl (fr_b01 _) (fr_e (by first | rfl | exact (fr_bT (by omega)).symm | exact (fr_bF (by omega)).symm | exact fr_bc (by omega)) rfl)
set_option maxRecDepth 20000 in
theorem kcX11_fence {l : Launch} {κ : fr_Ka} {μ : fr_Me} (hI : fr_I (μ 67)) {t set : Int} (rt : -2147483648 ≤ t ∧ t ≤ 2147483647) (rset : -2147483648 ≤ set ∧ set ≤ 2147483647) : fr_C l κ fmX11_fence 3 [fr_r κ 66, fr_i t, fr_i set] μ (fr_Pi (fun z m => (¬ ((0 ≤ t ∧ t < μ 67 0) ∧ (0 ≤ set ∧ set ≤ fr_shl 1 (μ 67 43) - 1)) ∧ z = -1 ∧ m = μ) ∨ (((0 ≤ t ∧ t < μ 67 0) ∧ (0 ≤ set ∧ set ≤ fr_shl 1 (μ 67 43) - 1)) ∧ (μ 67 (7 + t) ≠ 5 ∧ sp_in set (μ 67 (7 + t))) ∧ z = -2 ∧ m = μ) ∨ (((0 ≤ t ∧ t < μ 67 0) ∧ (0 ≤ set ∧ set ≤ fr_shl 1 (μ 67 43) - 1)) ∧ ¬ (μ 67 (7 + t) ≠ 5 ∧ sp_in set (μ 67 (7 + t))) ∧ z = μ 67 (37 + t) ∧ m = fr_up μ 67 (37 + t) set))) := by
  have iN := hI.n
  have iM := hI.many
  refine fr_enter (by decide +kernel) (ls := [some (fr_r κ 66), some (fr_i t), some (fr_i set), none]) rfl (Nat.le_of_ble_eq_true rfl) ?_
  refine fr_al0 dX11_fence_0 ?_
  refine fr_il1 dX11_fence_1 ?_
  refine fr_cVi (mi' := fmX11_isTree) dX11_fence_2 mlX11_61 mvX11_isTree ⟨11, _, ⟨by decide, by decide, rfl⟩, rfl, rfl⟩ (Nat.le_of_ble_eq_true rfl) (kcX11_isTree hI (by omega)) rfl rfl (Nat.le_of_ble_eq_true rfl) ?_
  refine fr_ifb_eq (tgt := 16) dX11_fence_5 (by decide) (fun h1 => ?_) (fun h1 => ?_)
  · skip
    refine fr_iconst dX11_fence_16 ?_
    exact fr_iret dX11_fence_17 rfl (fr_pi (by first | exact Or.inl ⟨by omega, rfl, rfl⟩ | exact Or.inr (Or.inl ⟨by omega, ⟨by omega, by assumption⟩, rfl, rfl⟩) | exact Or.inr (Or.inr ⟨by omega, fun h => h.1 (by assumption), rfl, rfl⟩) | exact Or.inr (Or.inr ⟨by omega, fun h => absurd h.2 (by assumption), rfl, rfl⟩)))
  · skip
    refine fr_al0 dX11_fence_8 ?_
    refine fr_il2 dX11_fence_9 ?_
    refine fr_cVi (mi' := fmX11_isSet) dX11_fence_10 mlX11_85 mvX11_isSet ⟨11, _, ⟨by decide, by decide, rfl⟩, rfl, rfl⟩ (Nat.le_of_ble_eq_true rfl) (kcX11_isSet hI (by omega)) rfl rfl (Nat.le_of_ble_eq_true rfl) ?_
    refine fr_ifb_ne (tgt := 18) dX11_fence_13 (by decide) (fun h2 => ?_) (fun h2 => ?_)
    · skip
      have iT := hI.tree (t := t) (by omega) (by omega)
      unfold fr_It at iT
      refine fr_al0 dX11_fence_18 ?_
      refine fr_getr (cz := 67) dX11_fence_19 flX11_7 ⟨by decide, by decide, rfl⟩ rfl rfl ?_
      refine fr_bipush dX11_fence_22 (by decide) ?_
      refine fr_il1 dX11_fence_24 ?_
      refine fr_iadd dX11_fence_25 ?_
      refine fr_iald dX11_fence_26 ⟨by decide, by decide, rfl, by decide⟩ (by omega) (by omega) ?_
      refine fr_iconst dX11_fence_27 ?_
      refine fr_icmp_eq (tgt := 50) dX11_fence_28 (by decide) (by omega) (by omega) (fun h3 => ?_) (fun h3 => ?_)
      · skip
        refine fr_al0 dX11_fence_50 ?_
        refine fr_getr (cz := 67) dX11_fence_51 flX11_7 ⟨by decide, by decide, rfl⟩ rfl rfl ?_
        refine fr_bipush dX11_fence_54 (by decide) ?_
        refine fr_il1 dX11_fence_56 ?_
        refine fr_iadd dX11_fence_57 ?_
        refine fr_iald dX11_fence_58 ⟨by decide, by decide, rfl, by decide⟩ (by omega) (by omega) ?_
        refine fr_is3 dX11_fence_59 rfl (Nat.le_of_ble_eq_true rfl) ?_
        refine fr_al0 dX11_fence_60 ?_
        refine fr_getr (cz := 67) dX11_fence_61 flX11_7 ⟨by decide, by decide, rfl⟩ rfl rfl ?_
        refine fr_bipush dX11_fence_64 (by decide) ?_
        refine fr_il1 dX11_fence_66 ?_
        refine fr_iadd dX11_fence_67 ?_
        refine fr_il2 dX11_fence_68 ?_
        refine fr_iast dX11_fence_69 ⟨by decide, by decide, rfl, by decide⟩ (by omega) (by omega) ?_
        refine fr_il3 dX11_fence_70 ?_
        exact fr_iret dX11_fence_71 rfl (fr_pi (by first | exact Or.inl ⟨by omega, rfl, rfl⟩ | exact Or.inr (Or.inl ⟨by omega, ⟨by omega, by assumption⟩, rfl, rfl⟩) | exact Or.inr (Or.inr ⟨by omega, fun h => h.1 (by assumption), rfl, rfl⟩) | exact Or.inr (Or.inr ⟨by omega, fun h => absurd h.2 (by assumption), rfl, rfl⟩)))
      · skip
        refine fr_il2 dX11_fence_31 ?_
        refine fr_al0 dX11_fence_32 ?_
        refine fr_getr (cz := 67) dX11_fence_33 flX11_7 ⟨by decide, by decide, rfl⟩ rfl rfl ?_
        refine fr_bipush dX11_fence_36 (by decide) ?_
        refine fr_il1 dX11_fence_38 ?_
        refine fr_iadd dX11_fence_39 ?_
        refine fr_iald dX11_fence_40 ⟨by decide, by decide, rfl, by decide⟩ (by omega) (by omega) ?_
        refine fr_cSi (mi' := fmX11_has) dX11_fence_41 mlX11_88 msX11_has (Nat.le_of_ble_eq_true rfl) (kcX11_has) rfl rfl (Nat.le_of_ble_eq_true rfl) ?_
        refine fr_ifb_eq (tgt := 50) dX11_fence_44 (by decide) (fun h4 => ?_) (fun h4 => ?_)
        · skip
          refine fr_al0 dX11_fence_50 ?_
          refine fr_getr (cz := 67) dX11_fence_51 flX11_7 ⟨by decide, by decide, rfl⟩ rfl rfl ?_
          refine fr_bipush dX11_fence_54 (by decide) ?_
          refine fr_il1 dX11_fence_56 ?_
          refine fr_iadd dX11_fence_57 ?_
          refine fr_iald dX11_fence_58 ⟨by decide, by decide, rfl, by decide⟩ (by omega) (by omega) ?_
          refine fr_is3 dX11_fence_59 rfl (Nat.le_of_ble_eq_true rfl) ?_
          refine fr_al0 dX11_fence_60 ?_
          refine fr_getr (cz := 67) dX11_fence_61 flX11_7 ⟨by decide, by decide, rfl⟩ rfl rfl ?_
          refine fr_bipush dX11_fence_64 (by decide) ?_
          refine fr_il1 dX11_fence_66 ?_
          refine fr_iadd dX11_fence_67 ?_
          refine fr_il2 dX11_fence_68 ?_
          refine fr_iast dX11_fence_69 ⟨by decide, by decide, rfl, by decide⟩ (by omega) (by omega) ?_
          refine fr_il3 dX11_fence_70 ?_
          exact fr_iret dX11_fence_71 rfl (fr_pi (by first | exact Or.inl ⟨by omega, rfl, rfl⟩ | exact Or.inr (Or.inl ⟨by omega, ⟨by omega, by assumption⟩, rfl, rfl⟩) | exact Or.inr (Or.inr ⟨by omega, fun h => h.1 (by assumption), rfl, rfl⟩) | exact Or.inr (Or.inr ⟨by omega, fun h => absurd h.2 (by assumption), rfl, rfl⟩)))
        · skip
          refine fr_bipush dX11_fence_47 (by decide) ?_
          exact fr_iret dX11_fence_49 rfl (fr_pi (by first | exact Or.inl ⟨by omega, rfl, rfl⟩ | exact Or.inr (Or.inl ⟨by omega, ⟨by omega, by assumption⟩, rfl, rfl⟩) | exact Or.inr (Or.inr ⟨by omega, fun h => h.1 (by assumption), rfl, rfl⟩) | exact Or.inr (Or.inr ⟨by omega, fun h => absurd h.2 (by assumption), rfl, rfl⟩)))
    · skip
      refine fr_iconst dX11_fence_16 ?_
      exact fr_iret dX11_fence_17 rfl (fr_pi (by first | exact Or.inl ⟨by omega, rfl, rfl⟩ | exact Or.inr (Or.inl ⟨by omega, ⟨by omega, by assumption⟩, rfl, rfl⟩) | exact Or.inr (Or.inr ⟨by omega, fun h => h.1 (by assumption), rfl, rfl⟩) | exact Or.inr (Or.inr ⟨by omega, fun h => absurd h.2 (by assumption), rfl, rfl⟩)))
set_option maxRecDepth 20000 in
theorem kcX11_climb {l : Launch} {κ : fr_Ka} {μ : fr_Me} (hI : fr_I (μ 67)) {t c : Int} (rt : -2147483648 ≤ t ∧ t ≤ 2147483647) (rc : -2147483648 ≤ c ∧ c ≤ 2147483647) : fr_C l κ fmX11_climb 3 [fr_r κ 66, fr_i t, fr_i c] μ (fr_Pi (fun z m => (¬ ((0 ≤ t ∧ t < μ 67 0) ∧ (c = 5 ∨ (0 ≤ c ∧ c < μ 67 43))) ∧ z = -1 ∧ m = μ) ∨ (((0 ≤ t ∧ t < μ 67 0) ∧ (c = 5 ∨ (0 ≤ c ∧ c < μ 67 43))) ∧ ¬ sp_may (μ 67) t c ∧ z = -2 ∧ m = μ) ∨ (((0 ≤ t ∧ t < μ 67 0) ∧ (c = 5 ∨ (0 ≤ c ∧ c < μ 67 43))) ∧ sp_may (μ 67) t c ∧ z = μ 67 (7 + t) ∧ m = fr_up μ 67 (7 + t) c))) := by
  have iN := hI.n
  have iM := hI.many
  refine fr_enter (by decide +kernel) (ls := [some (fr_r κ 66), some (fr_i t), some (fr_i c), none, none]) rfl (Nat.le_of_ble_eq_true rfl) ?_
  refine fr_al0 dX11_climb_0 ?_
  refine fr_il1 dX11_climb_1 ?_
  refine fr_cVi (mi' := fmX11_isTree) dX11_climb_2 mlX11_61 mvX11_isTree ⟨11, _, ⟨by decide, by decide, rfl⟩, rfl, rfl⟩ (Nat.le_of_ble_eq_true rfl) (kcX11_isTree hI (by omega)) rfl rfl (Nat.le_of_ble_eq_true rfl) ?_
  refine fr_ifb_eq (tgt := 21) dX11_climb_5 (by decide) (fun h1 => ?_) (fun h1 => ?_)
  · skip
    refine fr_iconst dX11_climb_21 ?_
    exact fr_iret dX11_climb_22 rfl (fr_pi (by first | exact Or.inl ⟨by omega, rfl, rfl⟩ | exact Or.inr (Or.inl ⟨by omega, fun h => hP (hmi.mpr h), rfl, rfl⟩) | exact Or.inr (Or.inr ⟨by omega, hmi.mp hP, rfl, rfl⟩)))
  · skip
    refine fr_al0 dX11_climb_8 ?_
    refine fr_il2 dX11_climb_9 ?_
    refine fr_cVi (mi' := fmX11_isClimber) dX11_climb_10 mlX11_71 mvX11_isClimber ⟨11, _, ⟨by decide, by decide, rfl⟩, rfl, rfl⟩ (Nat.le_of_ble_eq_true rfl) (kcX11_isClimber hI (by omega)) rfl rfl (Nat.le_of_ble_eq_true rfl) ?_
    refine fr_ifb_ne (tgt := 23) dX11_climb_13 (by decide) (fun h2 => ?_) (fun h2 => ?_)
    · skip
      refine fr_il2 dX11_climb_23 ?_
      refine fr_iconst dX11_climb_24 ?_
      refine fr_icmp_eq (tgt := 44) dX11_climb_25 (by decide) (by omega) (by omega) (fun h3 => ?_) (fun h3 => ?_)
      · skip
        refine fr_iconst dX11_climb_44 ?_
        refine fr_goto (tgt := 49) dX11_climb_45 (by decide) ?_
        refine fr_is3 dX11_climb_49 rfl (Nat.le_of_ble_eq_true rfl) ?_
        refine fr_iconst dX11_climb_50 ?_
        refine fr_is4 dX11_climb_51 rfl (Nat.le_of_ble_eq_true rfl) ?_
        refine fr_wk ?_ (ls := [some (fr_r κ 66), some (fr_i t), some (fr_i c), some (fr_i _), some (fr_i (0 : Int))]) ⟨rfl, rfl, rfl, rfl, rfl, trivial⟩
        refine (fr_down (P := fun j : Nat => ∀ (x : Int), (x = fr_b ((c = 5 ∨ ¬ sp_in (μ 67 (37 + t)) c) ∧ ∀ u : Int, 0 ≤ u → u < j → (c = 5 ∨ u = t ∨ μ 67 (7 + u) ≠ c ∨ μ 67 (44 + c) = 2))) → fr_A l κ fmX11_climb 3 (fr_Pi (fun z m => (¬ ((0 ≤ t ∧ t < μ 67 0) ∧ (c = 5 ∨ (0 ≤ c ∧ c < μ 67 43))) ∧ z = -1 ∧ m = μ) ∨ (((0 ≤ t ∧ t < μ 67 0) ∧ (c = 5 ∨ (0 ≤ c ∧ c < μ 67 43))) ∧ ¬ sp_may (μ 67) t c ∧ z = -2 ∧ m = μ) ∨ (((0 ≤ t ∧ t < μ 67 0) ∧ (c = 5 ∨ (0 ≤ c ∧ c < μ 67 43))) ∧ sp_may (μ 67) t c ∧ z = μ 67 (7 + t) ∧ m = fr_up μ 67 (7 + t) c))) 53 [some (fr_r κ 66), some (fr_i t), some (fr_i c), some (fr_i x), some (fr_i (j : Int))] [] μ) (μ 67 0).toNat ?_ (fun j hj53 ih53 => ?_)) _ ((fr_bT ⟨by first | exact Or.inl (by omega) | exact Or.inr (by assumption), fun u h0 h1 => by omega⟩).symm)
        · skip
          intro x hx
          have hmi := sp_may_iff hI (t := t) (c := c) (by omega)
          rcases Classical.em ((c = 5 ∨ ¬ sp_in (μ 67 (37 + t)) c) ∧ ∀ u : Int, 0 ≤ u → u < (μ 67 0).toNat → (c = 5 ∨ u = t ∨ μ 67 (7 + u) ≠ c ∨ μ 67 (44 + c) = 2)) with hP | hP
          · skip
            rw [fr_bT hP] at hx
            subst hx
            refine fr_il4 dX11_climb_53 ?_
            refine fr_al0 dX11_climb_55 ?_
            refine fr_getr (cz := 67) dX11_climb_56 flX11_7 ⟨by decide, by decide, rfl⟩ rfl rfl ?_
            refine fr_iconst dX11_climb_59 ?_
            refine fr_iald dX11_climb_60 ⟨by decide, by decide, rfl, by decide⟩ (by omega) (by omega) ?_
            refine fr_icmp_ge (tgt := 118) dX11_climb_61 (by decide) (by omega) (by omega) (fun h4 => ?_) (fun h4 => ?_)
            · skip
              refine fr_il3 dX11_climb_118 ?_
              refine fr_if_ne (tgt := 125) dX11_climb_119 (by decide) (by decide) (fun _ => ?_) (fun h5 => absurd h5 (by decide))
              refine fr_al0 dX11_climb_125 ?_
              refine fr_getr (cz := 67) dX11_climb_126 flX11_7 ⟨by decide, by decide, rfl⟩ rfl rfl ?_
              refine fr_bipush dX11_climb_129 (by decide) ?_
              refine fr_il1 dX11_climb_131 ?_
              refine fr_iadd dX11_climb_132 ?_
              refine fr_iald dX11_climb_133 ⟨by decide, by decide, rfl, by decide⟩ (by omega) (by omega) ?_
              refine fr_is4 dX11_climb_134 rfl (Nat.le_of_ble_eq_true rfl) ?_
              refine fr_al0 dX11_climb_136 ?_
              refine fr_getr (cz := 67) dX11_climb_137 flX11_7 ⟨by decide, by decide, rfl⟩ rfl rfl ?_
              refine fr_bipush dX11_climb_140 (by decide) ?_
              refine fr_il1 dX11_climb_142 ?_
              refine fr_iadd dX11_climb_143 ?_
              refine fr_il2 dX11_climb_144 ?_
              refine fr_iast dX11_climb_145 ⟨by decide, by decide, rfl, by decide⟩ (by omega) (by omega) ?_
              refine fr_il4 dX11_climb_146 ?_
              exact fr_iret dX11_climb_148 rfl (fr_pi (by first | exact Or.inl ⟨by omega, rfl, rfl⟩ | exact Or.inr (Or.inl ⟨by omega, fun h => hP (hmi.mpr h), rfl, rfl⟩) | exact Or.inr (Or.inr ⟨by omega, hmi.mp hP, rfl, rfl⟩)))
            · skip
              exfalso; omega
          · skip
            rw [fr_bF hP] at hx
            subst hx
            refine fr_il4 dX11_climb_53 ?_
            refine fr_al0 dX11_climb_55 ?_
            refine fr_getr (cz := 67) dX11_climb_56 flX11_7 ⟨by decide, by decide, rfl⟩ rfl rfl ?_
            refine fr_iconst dX11_climb_59 ?_
            refine fr_iald dX11_climb_60 ⟨by decide, by decide, rfl, by decide⟩ (by omega) (by omega) ?_
            refine fr_icmp_ge (tgt := 118) dX11_climb_61 (by decide) (by omega) (by omega) (fun h6 => ?_) (fun h6 => ?_)
            · skip
              refine fr_il3 dX11_climb_118 ?_
              refine fr_if_ne (tgt := 125) dX11_climb_119 (by decide) (by decide) (fun h7 => absurd h7 (by decide)) (fun _ => ?_)
              refine fr_bipush dX11_climb_122 (by decide) ?_
              exact fr_iret dX11_climb_124 rfl (fr_pi (by first | exact Or.inl ⟨by omega, rfl, rfl⟩ | exact Or.inr (Or.inl ⟨by omega, fun h => hP (hmi.mpr h), rfl, rfl⟩) | exact Or.inr (Or.inr ⟨by omega, hmi.mp hP, rfl, rfl⟩)))
            · skip
              exfalso; omega
        · skip
          intro x hx
          have iU := hI.tree (t := (j : Int)) (by omega) (by omega)
          unfold fr_It at iU
          rcases Classical.em ((c = 5 ∨ ¬ sp_in (μ 67 (37 + t)) c) ∧ ∀ u : Int, 0 ≤ u → u < j → (c = 5 ∨ u = t ∨ μ 67 (7 + u) ≠ c ∨ μ 67 (44 + c) = 2)) with hP | hP
          · skip
            rw [fr_bT hP] at hx
            subst hx
            refine fr_il4 dX11_climb_53 ?_
            refine fr_al0 dX11_climb_55 ?_
            refine fr_getr (cz := 67) dX11_climb_56 flX11_7 ⟨by decide, by decide, rfl⟩ rfl rfl ?_
            refine fr_iconst dX11_climb_59 ?_
            refine fr_iald dX11_climb_60 ⟨by decide, by decide, rfl, by decide⟩ (by omega) (by omega) ?_
            refine fr_icmp_ge (tgt := 118) dX11_climb_61 (by decide) (by omega) (by omega) (fun h8 => ?_) (fun h8 => ?_)
            · skip
              exfalso; omega
            · skip
              refine fr_il3 dX11_climb_64 ?_
              refine fr_if_eq (tgt := 110) dX11_climb_65 (by decide) (by decide) (fun h9 => absurd h9 (by decide)) (fun _ => ?_)
              refine fr_il2 dX11_climb_68 ?_
              refine fr_iconst dX11_climb_69 ?_
              refine fr_icmp_eq (tgt := 106) dX11_climb_70 (by decide) (by omega) (by omega) (fun h10 => ?_) (fun h10 => ?_)
              · skip
                refine fr_iconst dX11_climb_106 ?_
                refine fr_goto (tgt := 111) dX11_climb_107 (by decide) ?_
                refine fr_is3 dX11_climb_111 rfl (Nat.le_of_ble_eq_true rfl) ?_
                refine fr_ii4 dX11_climb_112 rfl (Nat.le_of_ble_eq_true rfl) ?_
                refine fr_goto (tgt := 53) dX11_climb_115 (by decide) ?_
                exact fr_wk (ih53 _ ((fr_bT ⟨hP.1, fun u h0 h1 => (by omega : u < j ∨ u = j).elim (fun h => hP.2 u h0 h) (fun h => by subst h; omega)⟩).symm)) ⟨rfl, rfl, rfl, rfl, rfl, trivial⟩
              · skip
                refine fr_il4 dX11_climb_73 ?_
                refine fr_il1 dX11_climb_75 ?_
                refine fr_icmp_eq (tgt := 106) dX11_climb_76 (by decide) (by omega) (by omega) (fun h11 => ?_) (fun h11 => ?_)
                · skip
                  refine fr_iconst dX11_climb_106 ?_
                  refine fr_goto (tgt := 111) dX11_climb_107 (by decide) ?_
                  refine fr_is3 dX11_climb_111 rfl (Nat.le_of_ble_eq_true rfl) ?_
                  refine fr_ii4 dX11_climb_112 rfl (Nat.le_of_ble_eq_true rfl) ?_
                  refine fr_goto (tgt := 53) dX11_climb_115 (by decide) ?_
                  exact fr_wk (ih53 _ ((fr_bT ⟨hP.1, fun u h0 h1 => (by omega : u < j ∨ u = j).elim (fun h => hP.2 u h0 h) (fun h => by subst h; omega)⟩).symm)) ⟨rfl, rfl, rfl, rfl, rfl, trivial⟩
                · skip
                  refine fr_al0 dX11_climb_79 ?_
                  refine fr_getr (cz := 67) dX11_climb_80 flX11_7 ⟨by decide, by decide, rfl⟩ rfl rfl ?_
                  refine fr_bipush dX11_climb_83 (by decide) ?_
                  refine fr_il4 dX11_climb_85 ?_
                  refine fr_iadd dX11_climb_87 ?_
                  refine fr_iald dX11_climb_88 ⟨by decide, by decide, rfl, by decide⟩ (by omega) (by omega) ?_
                  refine fr_il2 dX11_climb_89 ?_
                  refine fr_icmp_ne (tgt := 106) dX11_climb_90 (by decide) (by omega) (by omega) (fun h12 => ?_) (fun h12 => ?_)
                  · skip
                    refine fr_iconst dX11_climb_106 ?_
                    refine fr_goto (tgt := 111) dX11_climb_107 (by decide) ?_
                    refine fr_is3 dX11_climb_111 rfl (Nat.le_of_ble_eq_true rfl) ?_
                    refine fr_ii4 dX11_climb_112 rfl (Nat.le_of_ble_eq_true rfl) ?_
                    refine fr_goto (tgt := 53) dX11_climb_115 (by decide) ?_
                    exact fr_wk (ih53 _ ((fr_bT ⟨hP.1, fun u h0 h1 => (by omega : u < j ∨ u = j).elim (fun h => hP.2 u h0 h) (fun h => by subst h; omega)⟩).symm)) ⟨rfl, rfl, rfl, rfl, rfl, trivial⟩
                  · skip
                    refine fr_al0 dX11_climb_93 ?_
                    refine fr_getr (cz := 67) dX11_climb_94 flX11_7 ⟨by decide, by decide, rfl⟩ rfl rfl ?_
                    refine fr_bipush dX11_climb_97 (by decide) ?_
                    refine fr_il2 dX11_climb_99 ?_
                    refine fr_iadd dX11_climb_100 ?_
                    have iC := hI.cl (c := c) (by omega) (by omega)
                    unfold fr_Ic at iC
                    refine fr_iald dX11_climb_101 ⟨by decide, by decide, rfl, by decide⟩ (by omega) (by omega) ?_
                    refine fr_iconst dX11_climb_102 ?_
                    refine fr_icmp_ne (tgt := 110) dX11_climb_103 (by decide) (by omega) (by omega) (fun h13 => ?_) (fun h13 => ?_)
                    · skip
                      refine fr_iconst dX11_climb_110 ?_
                      refine fr_is3 dX11_climb_111 rfl (Nat.le_of_ble_eq_true rfl) ?_
                      refine fr_ii4 dX11_climb_112 rfl (Nat.le_of_ble_eq_true rfl) ?_
                      refine fr_goto (tgt := 53) dX11_climb_115 (by decide) ?_
                      exact fr_wk (ih53 _ ((fr_bF (by first | exact fun h => hP ⟨h.1, fun u h0 h1 => h.2 u h0 (by omega)⟩ | (intro h; have := h.2 (j : Int) (by omega) (by omega); omega))).symm)) ⟨rfl, rfl, rfl, rfl, rfl, trivial⟩
                    · skip
                      refine fr_iconst dX11_climb_106 ?_
                      refine fr_goto (tgt := 111) dX11_climb_107 (by decide) ?_
                      refine fr_is3 dX11_climb_111 rfl (Nat.le_of_ble_eq_true rfl) ?_
                      refine fr_ii4 dX11_climb_112 rfl (Nat.le_of_ble_eq_true rfl) ?_
                      refine fr_goto (tgt := 53) dX11_climb_115 (by decide) ?_
                      exact fr_wk (ih53 _ ((fr_bT ⟨hP.1, fun u h0 h1 => (by omega : u < j ∨ u = j).elim (fun h => hP.2 u h0 h) (fun h => by subst h; omega)⟩).symm)) ⟨rfl, rfl, rfl, rfl, rfl, trivial⟩
          · skip
            rw [fr_bF hP] at hx
            subst hx
            refine fr_il4 dX11_climb_53 ?_
            refine fr_al0 dX11_climb_55 ?_
            refine fr_getr (cz := 67) dX11_climb_56 flX11_7 ⟨by decide, by decide, rfl⟩ rfl rfl ?_
            refine fr_iconst dX11_climb_59 ?_
            refine fr_iald dX11_climb_60 ⟨by decide, by decide, rfl, by decide⟩ (by omega) (by omega) ?_
            refine fr_icmp_ge (tgt := 118) dX11_climb_61 (by decide) (by omega) (by omega) (fun h14 => ?_) (fun h14 => ?_)
            · skip
              exfalso; omega
            · skip
              refine fr_il3 dX11_climb_64 ?_
              refine fr_if_eq (tgt := 110) dX11_climb_65 (by decide) (by decide) (fun _ => ?_) (fun h15 => absurd h15 (by decide))
              refine fr_iconst dX11_climb_110 ?_
              refine fr_is3 dX11_climb_111 rfl (Nat.le_of_ble_eq_true rfl) ?_
              refine fr_ii4 dX11_climb_112 rfl (Nat.le_of_ble_eq_true rfl) ?_
              refine fr_goto (tgt := 53) dX11_climb_115 (by decide) ?_
              exact fr_wk (ih53 _ ((fr_bF (by first | exact fun h => hP ⟨h.1, fun u h0 h1 => h.2 u h0 (by omega)⟩ | (intro h; have := h.2 (j : Int) (by omega) (by omega); omega))).symm)) ⟨rfl, rfl, rfl, rfl, rfl, trivial⟩
      · skip
        refine fr_al0 dX11_climb_28 ?_
        refine fr_getr (cz := 67) dX11_climb_29 flX11_7 ⟨by decide, by decide, rfl⟩ rfl rfl ?_
        refine fr_bipush dX11_climb_32 (by decide) ?_
        refine fr_il1 dX11_climb_34 ?_
        refine fr_iadd dX11_climb_35 ?_
        refine fr_iald dX11_climb_36 ⟨by decide, by decide, rfl, by decide⟩ (by omega) (by omega) ?_
        refine fr_il2 dX11_climb_37 ?_
        refine fr_cSi (mi' := fmX11_has) dX11_climb_38 mlX11_88 msX11_has (Nat.le_of_ble_eq_true rfl) (kcX11_has) rfl rfl (Nat.le_of_ble_eq_true rfl) ?_
        refine fr_ifb_ne (tgt := 48) dX11_climb_41 (by decide) (fun h16 => ?_) (fun h16 => ?_)
        · skip
          refine fr_iconst dX11_climb_48 ?_
          refine fr_is3 dX11_climb_49 rfl (Nat.le_of_ble_eq_true rfl) ?_
          refine fr_iconst dX11_climb_50 ?_
          refine fr_is4 dX11_climb_51 rfl (Nat.le_of_ble_eq_true rfl) ?_
          refine fr_wk ?_ (ls := [some (fr_r κ 66), some (fr_i t), some (fr_i c), some (fr_i _), some (fr_i (0 : Int))]) ⟨rfl, rfl, rfl, rfl, rfl, trivial⟩
          refine (fr_down (P := fun j : Nat => ∀ (x : Int), (x = fr_b ((c = 5 ∨ ¬ sp_in (μ 67 (37 + t)) c) ∧ ∀ u : Int, 0 ≤ u → u < j → (c = 5 ∨ u = t ∨ μ 67 (7 + u) ≠ c ∨ μ 67 (44 + c) = 2))) → fr_A l κ fmX11_climb 3 (fr_Pi (fun z m => (¬ ((0 ≤ t ∧ t < μ 67 0) ∧ (c = 5 ∨ (0 ≤ c ∧ c < μ 67 43))) ∧ z = -1 ∧ m = μ) ∨ (((0 ≤ t ∧ t < μ 67 0) ∧ (c = 5 ∨ (0 ≤ c ∧ c < μ 67 43))) ∧ ¬ sp_may (μ 67) t c ∧ z = -2 ∧ m = μ) ∨ (((0 ≤ t ∧ t < μ 67 0) ∧ (c = 5 ∨ (0 ≤ c ∧ c < μ 67 43))) ∧ sp_may (μ 67) t c ∧ z = μ 67 (7 + t) ∧ m = fr_up μ 67 (7 + t) c))) 53 [some (fr_r κ 66), some (fr_i t), some (fr_i c), some (fr_i x), some (fr_i (j : Int))] [] μ) (μ 67 0).toNat ?_ (fun j hj53 ih53 => ?_)) _ ((fr_bF (fun h => h.1.elim (fun e => by omega) (fun e => e (by assumption)))).symm)
          · skip
            intro x hx
            have hmi := sp_may_iff hI (t := t) (c := c) (by omega)
            rcases Classical.em ((c = 5 ∨ ¬ sp_in (μ 67 (37 + t)) c) ∧ ∀ u : Int, 0 ≤ u → u < (μ 67 0).toNat → (c = 5 ∨ u = t ∨ μ 67 (7 + u) ≠ c ∨ μ 67 (44 + c) = 2)) with hP | hP
            · skip
              rw [fr_bT hP] at hx
              subst hx
              refine fr_il4 dX11_climb_53 ?_
              refine fr_al0 dX11_climb_55 ?_
              refine fr_getr (cz := 67) dX11_climb_56 flX11_7 ⟨by decide, by decide, rfl⟩ rfl rfl ?_
              refine fr_iconst dX11_climb_59 ?_
              refine fr_iald dX11_climb_60 ⟨by decide, by decide, rfl, by decide⟩ (by omega) (by omega) ?_
              refine fr_icmp_ge (tgt := 118) dX11_climb_61 (by decide) (by omega) (by omega) (fun h17 => ?_) (fun h17 => ?_)
              · skip
                refine fr_il3 dX11_climb_118 ?_
                refine fr_if_ne (tgt := 125) dX11_climb_119 (by decide) (by decide) (fun _ => ?_) (fun h18 => absurd h18 (by decide))
                refine fr_al0 dX11_climb_125 ?_
                refine fr_getr (cz := 67) dX11_climb_126 flX11_7 ⟨by decide, by decide, rfl⟩ rfl rfl ?_
                refine fr_bipush dX11_climb_129 (by decide) ?_
                refine fr_il1 dX11_climb_131 ?_
                refine fr_iadd dX11_climb_132 ?_
                refine fr_iald dX11_climb_133 ⟨by decide, by decide, rfl, by decide⟩ (by omega) (by omega) ?_
                refine fr_is4 dX11_climb_134 rfl (Nat.le_of_ble_eq_true rfl) ?_
                refine fr_al0 dX11_climb_136 ?_
                refine fr_getr (cz := 67) dX11_climb_137 flX11_7 ⟨by decide, by decide, rfl⟩ rfl rfl ?_
                refine fr_bipush dX11_climb_140 (by decide) ?_
                refine fr_il1 dX11_climb_142 ?_
                refine fr_iadd dX11_climb_143 ?_
                refine fr_il2 dX11_climb_144 ?_
                refine fr_iast dX11_climb_145 ⟨by decide, by decide, rfl, by decide⟩ (by omega) (by omega) ?_
                refine fr_il4 dX11_climb_146 ?_
                exact fr_iret dX11_climb_148 rfl (fr_pi (by first | exact Or.inl ⟨by omega, rfl, rfl⟩ | exact Or.inr (Or.inl ⟨by omega, fun h => hP (hmi.mpr h), rfl, rfl⟩) | exact Or.inr (Or.inr ⟨by omega, hmi.mp hP, rfl, rfl⟩)))
              · skip
                exfalso; omega
            · skip
              rw [fr_bF hP] at hx
              subst hx
              refine fr_il4 dX11_climb_53 ?_
              refine fr_al0 dX11_climb_55 ?_
              refine fr_getr (cz := 67) dX11_climb_56 flX11_7 ⟨by decide, by decide, rfl⟩ rfl rfl ?_
              refine fr_iconst dX11_climb_59 ?_
              refine fr_iald dX11_climb_60 ⟨by decide, by decide, rfl, by decide⟩ (by omega) (by omega) ?_
              refine fr_icmp_ge (tgt := 118) dX11_climb_61 (by decide) (by omega) (by omega) (fun h19 => ?_) (fun h19 => ?_)
              · skip
                refine fr_il3 dX11_climb_118 ?_
                refine fr_if_ne (tgt := 125) dX11_climb_119 (by decide) (by decide) (fun h20 => absurd h20 (by decide)) (fun _ => ?_)
                refine fr_bipush dX11_climb_122 (by decide) ?_
                exact fr_iret dX11_climb_124 rfl (fr_pi (by first | exact Or.inl ⟨by omega, rfl, rfl⟩ | exact Or.inr (Or.inl ⟨by omega, fun h => hP (hmi.mpr h), rfl, rfl⟩) | exact Or.inr (Or.inr ⟨by omega, hmi.mp hP, rfl, rfl⟩)))
              · skip
                exfalso; omega
          · skip
            intro x hx
            have iU := hI.tree (t := (j : Int)) (by omega) (by omega)
            unfold fr_It at iU
            rcases Classical.em ((c = 5 ∨ ¬ sp_in (μ 67 (37 + t)) c) ∧ ∀ u : Int, 0 ≤ u → u < j → (c = 5 ∨ u = t ∨ μ 67 (7 + u) ≠ c ∨ μ 67 (44 + c) = 2)) with hP | hP
            · skip
              rw [fr_bT hP] at hx
              subst hx
              refine fr_il4 dX11_climb_53 ?_
              refine fr_al0 dX11_climb_55 ?_
              refine fr_getr (cz := 67) dX11_climb_56 flX11_7 ⟨by decide, by decide, rfl⟩ rfl rfl ?_
              refine fr_iconst dX11_climb_59 ?_
              refine fr_iald dX11_climb_60 ⟨by decide, by decide, rfl, by decide⟩ (by omega) (by omega) ?_
              refine fr_icmp_ge (tgt := 118) dX11_climb_61 (by decide) (by omega) (by omega) (fun h21 => ?_) (fun h21 => ?_)
              · skip
                exfalso; omega
              · skip
                refine fr_il3 dX11_climb_64 ?_
                refine fr_if_eq (tgt := 110) dX11_climb_65 (by decide) (by decide) (fun h22 => absurd h22 (by decide)) (fun _ => ?_)
                refine fr_il2 dX11_climb_68 ?_
                refine fr_iconst dX11_climb_69 ?_
                refine fr_icmp_eq (tgt := 106) dX11_climb_70 (by decide) (by omega) (by omega) (fun h23 => ?_) (fun h23 => ?_)
                · skip
                  refine fr_iconst dX11_climb_106 ?_
                  refine fr_goto (tgt := 111) dX11_climb_107 (by decide) ?_
                  refine fr_is3 dX11_climb_111 rfl (Nat.le_of_ble_eq_true rfl) ?_
                  refine fr_ii4 dX11_climb_112 rfl (Nat.le_of_ble_eq_true rfl) ?_
                  refine fr_goto (tgt := 53) dX11_climb_115 (by decide) ?_
                  exact fr_wk (ih53 _ ((fr_bT ⟨hP.1, fun u h0 h1 => (by omega : u < j ∨ u = j).elim (fun h => hP.2 u h0 h) (fun h => by subst h; omega)⟩).symm)) ⟨rfl, rfl, rfl, rfl, rfl, trivial⟩
                · skip
                  refine fr_il4 dX11_climb_73 ?_
                  refine fr_il1 dX11_climb_75 ?_
                  refine fr_icmp_eq (tgt := 106) dX11_climb_76 (by decide) (by omega) (by omega) (fun h24 => ?_) (fun h24 => ?_)
                  · skip
                    refine fr_iconst dX11_climb_106 ?_
                    refine fr_goto (tgt := 111) dX11_climb_107 (by decide) ?_
                    refine fr_is3 dX11_climb_111 rfl (Nat.le_of_ble_eq_true rfl) ?_
                    refine fr_ii4 dX11_climb_112 rfl (Nat.le_of_ble_eq_true rfl) ?_
                    refine fr_goto (tgt := 53) dX11_climb_115 (by decide) ?_
                    exact fr_wk (ih53 _ ((fr_bT ⟨hP.1, fun u h0 h1 => (by omega : u < j ∨ u = j).elim (fun h => hP.2 u h0 h) (fun h => by subst h; omega)⟩).symm)) ⟨rfl, rfl, rfl, rfl, rfl, trivial⟩
                  · skip
                    refine fr_al0 dX11_climb_79 ?_
                    refine fr_getr (cz := 67) dX11_climb_80 flX11_7 ⟨by decide, by decide, rfl⟩ rfl rfl ?_
                    refine fr_bipush dX11_climb_83 (by decide) ?_
                    refine fr_il4 dX11_climb_85 ?_
                    refine fr_iadd dX11_climb_87 ?_
                    refine fr_iald dX11_climb_88 ⟨by decide, by decide, rfl, by decide⟩ (by omega) (by omega) ?_
                    refine fr_il2 dX11_climb_89 ?_
                    refine fr_icmp_ne (tgt := 106) dX11_climb_90 (by decide) (by omega) (by omega) (fun h25 => ?_) (fun h25 => ?_)
                    · skip
                      refine fr_iconst dX11_climb_106 ?_
                      refine fr_goto (tgt := 111) dX11_climb_107 (by decide) ?_
                      refine fr_is3 dX11_climb_111 rfl (Nat.le_of_ble_eq_true rfl) ?_
                      refine fr_ii4 dX11_climb_112 rfl (Nat.le_of_ble_eq_true rfl) ?_
                      refine fr_goto (tgt := 53) dX11_climb_115 (by decide) ?_
                      exact fr_wk (ih53 _ ((fr_bT ⟨hP.1, fun u h0 h1 => (by omega : u < j ∨ u = j).elim (fun h => hP.2 u h0 h) (fun h => by subst h; omega)⟩).symm)) ⟨rfl, rfl, rfl, rfl, rfl, trivial⟩
                    · skip
                      refine fr_al0 dX11_climb_93 ?_
                      refine fr_getr (cz := 67) dX11_climb_94 flX11_7 ⟨by decide, by decide, rfl⟩ rfl rfl ?_
                      refine fr_bipush dX11_climb_97 (by decide) ?_
                      refine fr_il2 dX11_climb_99 ?_
                      refine fr_iadd dX11_climb_100 ?_
                      have iC := hI.cl (c := c) (by omega) (by omega)
                      unfold fr_Ic at iC
                      refine fr_iald dX11_climb_101 ⟨by decide, by decide, rfl, by decide⟩ (by omega) (by omega) ?_
                      refine fr_iconst dX11_climb_102 ?_
                      refine fr_icmp_ne (tgt := 110) dX11_climb_103 (by decide) (by omega) (by omega) (fun h26 => ?_) (fun h26 => ?_)
                      · skip
                        refine fr_iconst dX11_climb_110 ?_
                        refine fr_is3 dX11_climb_111 rfl (Nat.le_of_ble_eq_true rfl) ?_
                        refine fr_ii4 dX11_climb_112 rfl (Nat.le_of_ble_eq_true rfl) ?_
                        refine fr_goto (tgt := 53) dX11_climb_115 (by decide) ?_
                        exact fr_wk (ih53 _ ((fr_bF (by first | exact fun h => hP ⟨h.1, fun u h0 h1 => h.2 u h0 (by omega)⟩ | (intro h; have := h.2 (j : Int) (by omega) (by omega); omega))).symm)) ⟨rfl, rfl, rfl, rfl, rfl, trivial⟩
                      · skip
                        refine fr_iconst dX11_climb_106 ?_
                        refine fr_goto (tgt := 111) dX11_climb_107 (by decide) ?_
                        refine fr_is3 dX11_climb_111 rfl (Nat.le_of_ble_eq_true rfl) ?_
                        refine fr_ii4 dX11_climb_112 rfl (Nat.le_of_ble_eq_true rfl) ?_
                        refine fr_goto (tgt := 53) dX11_climb_115 (by decide) ?_
                        exact fr_wk (ih53 _ ((fr_bT ⟨hP.1, fun u h0 h1 => (by omega : u < j ∨ u = j).elim (fun h => hP.2 u h0 h) (fun h => by subst h; omega)⟩).symm)) ⟨rfl, rfl, rfl, rfl, rfl, trivial⟩
            · skip
              rw [fr_bF hP] at hx
              subst hx
              refine fr_il4 dX11_climb_53 ?_
              refine fr_al0 dX11_climb_55 ?_
              refine fr_getr (cz := 67) dX11_climb_56 flX11_7 ⟨by decide, by decide, rfl⟩ rfl rfl ?_
              refine fr_iconst dX11_climb_59 ?_
              refine fr_iald dX11_climb_60 ⟨by decide, by decide, rfl, by decide⟩ (by omega) (by omega) ?_
              refine fr_icmp_ge (tgt := 118) dX11_climb_61 (by decide) (by omega) (by omega) (fun h27 => ?_) (fun h27 => ?_)
              · skip
                exfalso; omega
              · skip
                refine fr_il3 dX11_climb_64 ?_
                refine fr_if_eq (tgt := 110) dX11_climb_65 (by decide) (by decide) (fun _ => ?_) (fun h28 => absurd h28 (by decide))
                refine fr_iconst dX11_climb_110 ?_
                refine fr_is3 dX11_climb_111 rfl (Nat.le_of_ble_eq_true rfl) ?_
                refine fr_ii4 dX11_climb_112 rfl (Nat.le_of_ble_eq_true rfl) ?_
                refine fr_goto (tgt := 53) dX11_climb_115 (by decide) ?_
                exact fr_wk (ih53 _ ((fr_bF (by first | exact fun h => hP ⟨h.1, fun u h0 h1 => h.2 u h0 (by omega)⟩ | (intro h; have := h.2 (j : Int) (by omega) (by omega); omega))).symm)) ⟨rfl, rfl, rfl, rfl, rfl, trivial⟩
        · skip
          refine fr_iconst dX11_climb_44 ?_
          refine fr_goto (tgt := 49) dX11_climb_45 (by decide) ?_
          refine fr_is3 dX11_climb_49 rfl (Nat.le_of_ble_eq_true rfl) ?_
          refine fr_iconst dX11_climb_50 ?_
          refine fr_is4 dX11_climb_51 rfl (Nat.le_of_ble_eq_true rfl) ?_
          refine fr_wk ?_ (ls := [some (fr_r κ 66), some (fr_i t), some (fr_i c), some (fr_i _), some (fr_i (0 : Int))]) ⟨rfl, rfl, rfl, rfl, rfl, trivial⟩
          refine (fr_down (P := fun j : Nat => ∀ (x : Int), (x = fr_b ((c = 5 ∨ ¬ sp_in (μ 67 (37 + t)) c) ∧ ∀ u : Int, 0 ≤ u → u < j → (c = 5 ∨ u = t ∨ μ 67 (7 + u) ≠ c ∨ μ 67 (44 + c) = 2))) → fr_A l κ fmX11_climb 3 (fr_Pi (fun z m => (¬ ((0 ≤ t ∧ t < μ 67 0) ∧ (c = 5 ∨ (0 ≤ c ∧ c < μ 67 43))) ∧ z = -1 ∧ m = μ) ∨ (((0 ≤ t ∧ t < μ 67 0) ∧ (c = 5 ∨ (0 ≤ c ∧ c < μ 67 43))) ∧ ¬ sp_may (μ 67) t c ∧ z = -2 ∧ m = μ) ∨ (((0 ≤ t ∧ t < μ 67 0) ∧ (c = 5 ∨ (0 ≤ c ∧ c < μ 67 43))) ∧ sp_may (μ 67) t c ∧ z = μ 67 (7 + t) ∧ m = fr_up μ 67 (7 + t) c))) 53 [some (fr_r κ 66), some (fr_i t), some (fr_i c), some (fr_i x), some (fr_i (j : Int))] [] μ) (μ 67 0).toNat ?_ (fun j hj53 ih53 => ?_)) _ ((fr_bT ⟨by first | exact Or.inl (by omega) | exact Or.inr (by assumption), fun u h0 h1 => by omega⟩).symm)
          · skip
            intro x hx
            have hmi := sp_may_iff hI (t := t) (c := c) (by omega)
            rcases Classical.em ((c = 5 ∨ ¬ sp_in (μ 67 (37 + t)) c) ∧ ∀ u : Int, 0 ≤ u → u < (μ 67 0).toNat → (c = 5 ∨ u = t ∨ μ 67 (7 + u) ≠ c ∨ μ 67 (44 + c) = 2)) with hP | hP
            · skip
              rw [fr_bT hP] at hx
              subst hx
              refine fr_il4 dX11_climb_53 ?_
              refine fr_al0 dX11_climb_55 ?_
              refine fr_getr (cz := 67) dX11_climb_56 flX11_7 ⟨by decide, by decide, rfl⟩ rfl rfl ?_
              refine fr_iconst dX11_climb_59 ?_
              refine fr_iald dX11_climb_60 ⟨by decide, by decide, rfl, by decide⟩ (by omega) (by omega) ?_
              refine fr_icmp_ge (tgt := 118) dX11_climb_61 (by decide) (by omega) (by omega) (fun h29 => ?_) (fun h29 => ?_)
              · skip
                refine fr_il3 dX11_climb_118 ?_
                refine fr_if_ne (tgt := 125) dX11_climb_119 (by decide) (by decide) (fun _ => ?_) (fun h30 => absurd h30 (by decide))
                refine fr_al0 dX11_climb_125 ?_
                refine fr_getr (cz := 67) dX11_climb_126 flX11_7 ⟨by decide, by decide, rfl⟩ rfl rfl ?_
                refine fr_bipush dX11_climb_129 (by decide) ?_
                refine fr_il1 dX11_climb_131 ?_
                refine fr_iadd dX11_climb_132 ?_
                refine fr_iald dX11_climb_133 ⟨by decide, by decide, rfl, by decide⟩ (by omega) (by omega) ?_
                refine fr_is4 dX11_climb_134 rfl (Nat.le_of_ble_eq_true rfl) ?_
                refine fr_al0 dX11_climb_136 ?_
                refine fr_getr (cz := 67) dX11_climb_137 flX11_7 ⟨by decide, by decide, rfl⟩ rfl rfl ?_
                refine fr_bipush dX11_climb_140 (by decide) ?_
                refine fr_il1 dX11_climb_142 ?_
                refine fr_iadd dX11_climb_143 ?_
                refine fr_il2 dX11_climb_144 ?_
                refine fr_iast dX11_climb_145 ⟨by decide, by decide, rfl, by decide⟩ (by omega) (by omega) ?_
                refine fr_il4 dX11_climb_146 ?_
                exact fr_iret dX11_climb_148 rfl (fr_pi (by first | exact Or.inl ⟨by omega, rfl, rfl⟩ | exact Or.inr (Or.inl ⟨by omega, fun h => hP (hmi.mpr h), rfl, rfl⟩) | exact Or.inr (Or.inr ⟨by omega, hmi.mp hP, rfl, rfl⟩)))
              · skip
                exfalso; omega
            · skip
              rw [fr_bF hP] at hx
              subst hx
              refine fr_il4 dX11_climb_53 ?_
              refine fr_al0 dX11_climb_55 ?_
              refine fr_getr (cz := 67) dX11_climb_56 flX11_7 ⟨by decide, by decide, rfl⟩ rfl rfl ?_
              refine fr_iconst dX11_climb_59 ?_
              refine fr_iald dX11_climb_60 ⟨by decide, by decide, rfl, by decide⟩ (by omega) (by omega) ?_
              refine fr_icmp_ge (tgt := 118) dX11_climb_61 (by decide) (by omega) (by omega) (fun h31 => ?_) (fun h31 => ?_)
              · skip
                refine fr_il3 dX11_climb_118 ?_
                refine fr_if_ne (tgt := 125) dX11_climb_119 (by decide) (by decide) (fun h32 => absurd h32 (by decide)) (fun _ => ?_)
                refine fr_bipush dX11_climb_122 (by decide) ?_
                exact fr_iret dX11_climb_124 rfl (fr_pi (by first | exact Or.inl ⟨by omega, rfl, rfl⟩ | exact Or.inr (Or.inl ⟨by omega, fun h => hP (hmi.mpr h), rfl, rfl⟩) | exact Or.inr (Or.inr ⟨by omega, hmi.mp hP, rfl, rfl⟩)))
              · skip
                exfalso; omega
          · skip
            intro x hx
            have iU := hI.tree (t := (j : Int)) (by omega) (by omega)
            unfold fr_It at iU
            rcases Classical.em ((c = 5 ∨ ¬ sp_in (μ 67 (37 + t)) c) ∧ ∀ u : Int, 0 ≤ u → u < j → (c = 5 ∨ u = t ∨ μ 67 (7 + u) ≠ c ∨ μ 67 (44 + c) = 2)) with hP | hP
            · skip
              rw [fr_bT hP] at hx
              subst hx
              refine fr_il4 dX11_climb_53 ?_
              refine fr_al0 dX11_climb_55 ?_
              refine fr_getr (cz := 67) dX11_climb_56 flX11_7 ⟨by decide, by decide, rfl⟩ rfl rfl ?_
              refine fr_iconst dX11_climb_59 ?_
              refine fr_iald dX11_climb_60 ⟨by decide, by decide, rfl, by decide⟩ (by omega) (by omega) ?_
              refine fr_icmp_ge (tgt := 118) dX11_climb_61 (by decide) (by omega) (by omega) (fun h33 => ?_) (fun h33 => ?_)
              · skip
                exfalso; omega
              · skip
                refine fr_il3 dX11_climb_64 ?_
                refine fr_if_eq (tgt := 110) dX11_climb_65 (by decide) (by decide) (fun h34 => absurd h34 (by decide)) (fun _ => ?_)
                refine fr_il2 dX11_climb_68 ?_
                refine fr_iconst dX11_climb_69 ?_
                refine fr_icmp_eq (tgt := 106) dX11_climb_70 (by decide) (by omega) (by omega) (fun h35 => ?_) (fun h35 => ?_)
                · skip
                  refine fr_iconst dX11_climb_106 ?_
                  refine fr_goto (tgt := 111) dX11_climb_107 (by decide) ?_
                  refine fr_is3 dX11_climb_111 rfl (Nat.le_of_ble_eq_true rfl) ?_
                  refine fr_ii4 dX11_climb_112 rfl (Nat.le_of_ble_eq_true rfl) ?_
                  refine fr_goto (tgt := 53) dX11_climb_115 (by decide) ?_
                  exact fr_wk (ih53 _ ((fr_bT ⟨hP.1, fun u h0 h1 => (by omega : u < j ∨ u = j).elim (fun h => hP.2 u h0 h) (fun h => by subst h; omega)⟩).symm)) ⟨rfl, rfl, rfl, rfl, rfl, trivial⟩
                · skip
                  refine fr_il4 dX11_climb_73 ?_
                  refine fr_il1 dX11_climb_75 ?_
                  refine fr_icmp_eq (tgt := 106) dX11_climb_76 (by decide) (by omega) (by omega) (fun h36 => ?_) (fun h36 => ?_)
                  · skip
                    refine fr_iconst dX11_climb_106 ?_
                    refine fr_goto (tgt := 111) dX11_climb_107 (by decide) ?_
                    refine fr_is3 dX11_climb_111 rfl (Nat.le_of_ble_eq_true rfl) ?_
                    refine fr_ii4 dX11_climb_112 rfl (Nat.le_of_ble_eq_true rfl) ?_
                    refine fr_goto (tgt := 53) dX11_climb_115 (by decide) ?_
                    exact fr_wk (ih53 _ ((fr_bT ⟨hP.1, fun u h0 h1 => (by omega : u < j ∨ u = j).elim (fun h => hP.2 u h0 h) (fun h => by subst h; omega)⟩).symm)) ⟨rfl, rfl, rfl, rfl, rfl, trivial⟩
                  · skip
                    refine fr_al0 dX11_climb_79 ?_
                    refine fr_getr (cz := 67) dX11_climb_80 flX11_7 ⟨by decide, by decide, rfl⟩ rfl rfl ?_
                    refine fr_bipush dX11_climb_83 (by decide) ?_
                    refine fr_il4 dX11_climb_85 ?_
                    refine fr_iadd dX11_climb_87 ?_
                    refine fr_iald dX11_climb_88 ⟨by decide, by decide, rfl, by decide⟩ (by omega) (by omega) ?_
                    refine fr_il2 dX11_climb_89 ?_
                    refine fr_icmp_ne (tgt := 106) dX11_climb_90 (by decide) (by omega) (by omega) (fun h37 => ?_) (fun h37 => ?_)
                    · skip
                      refine fr_iconst dX11_climb_106 ?_
                      refine fr_goto (tgt := 111) dX11_climb_107 (by decide) ?_
                      refine fr_is3 dX11_climb_111 rfl (Nat.le_of_ble_eq_true rfl) ?_
                      refine fr_ii4 dX11_climb_112 rfl (Nat.le_of_ble_eq_true rfl) ?_
                      refine fr_goto (tgt := 53) dX11_climb_115 (by decide) ?_
                      exact fr_wk (ih53 _ ((fr_bT ⟨hP.1, fun u h0 h1 => (by omega : u < j ∨ u = j).elim (fun h => hP.2 u h0 h) (fun h => by subst h; omega)⟩).symm)) ⟨rfl, rfl, rfl, rfl, rfl, trivial⟩
                    · skip
                      refine fr_al0 dX11_climb_93 ?_
                      refine fr_getr (cz := 67) dX11_climb_94 flX11_7 ⟨by decide, by decide, rfl⟩ rfl rfl ?_
                      refine fr_bipush dX11_climb_97 (by decide) ?_
                      refine fr_il2 dX11_climb_99 ?_
                      refine fr_iadd dX11_climb_100 ?_
                      have iC := hI.cl (c := c) (by omega) (by omega)
                      unfold fr_Ic at iC
                      refine fr_iald dX11_climb_101 ⟨by decide, by decide, rfl, by decide⟩ (by omega) (by omega) ?_
                      refine fr_iconst dX11_climb_102 ?_
                      refine fr_icmp_ne (tgt := 110) dX11_climb_103 (by decide) (by omega) (by omega) (fun h38 => ?_) (fun h38 => ?_)
                      · skip
                        refine fr_iconst dX11_climb_110 ?_
                        refine fr_is3 dX11_climb_111 rfl (Nat.le_of_ble_eq_true rfl) ?_
                        refine fr_ii4 dX11_climb_112 rfl (Nat.le_of_ble_eq_true rfl) ?_
                        refine fr_goto (tgt := 53) dX11_climb_115 (by decide) ?_
                        exact fr_wk (ih53 _ ((fr_bF (by first | exact fun h => hP ⟨h.1, fun u h0 h1 => h.2 u h0 (by omega)⟩ | (intro h; have := h.2 (j : Int) (by omega) (by omega); omega))).symm)) ⟨rfl, rfl, rfl, rfl, rfl, trivial⟩
                      · skip
                        refine fr_iconst dX11_climb_106 ?_
                        refine fr_goto (tgt := 111) dX11_climb_107 (by decide) ?_
                        refine fr_is3 dX11_climb_111 rfl (Nat.le_of_ble_eq_true rfl) ?_
                        refine fr_ii4 dX11_climb_112 rfl (Nat.le_of_ble_eq_true rfl) ?_
                        refine fr_goto (tgt := 53) dX11_climb_115 (by decide) ?_
                        exact fr_wk (ih53 _ ((fr_bT ⟨hP.1, fun u h0 h1 => (by omega : u < j ∨ u = j).elim (fun h => hP.2 u h0 h) (fun h => by subst h; omega)⟩).symm)) ⟨rfl, rfl, rfl, rfl, rfl, trivial⟩
            · skip
              rw [fr_bF hP] at hx
              subst hx
              refine fr_il4 dX11_climb_53 ?_
              refine fr_al0 dX11_climb_55 ?_
              refine fr_getr (cz := 67) dX11_climb_56 flX11_7 ⟨by decide, by decide, rfl⟩ rfl rfl ?_
              refine fr_iconst dX11_climb_59 ?_
              refine fr_iald dX11_climb_60 ⟨by decide, by decide, rfl, by decide⟩ (by omega) (by omega) ?_
              refine fr_icmp_ge (tgt := 118) dX11_climb_61 (by decide) (by omega) (by omega) (fun h39 => ?_) (fun h39 => ?_)
              · skip
                exfalso; omega
              · skip
                refine fr_il3 dX11_climb_64 ?_
                refine fr_if_eq (tgt := 110) dX11_climb_65 (by decide) (by decide) (fun _ => ?_) (fun h40 => absurd h40 (by decide))
                refine fr_iconst dX11_climb_110 ?_
                refine fr_is3 dX11_climb_111 rfl (Nat.le_of_ble_eq_true rfl) ?_
                refine fr_ii4 dX11_climb_112 rfl (Nat.le_of_ble_eq_true rfl) ?_
                refine fr_goto (tgt := 53) dX11_climb_115 (by decide) ?_
                exact fr_wk (ih53 _ ((fr_bF (by first | exact fun h => hP ⟨h.1, fun u h0 h1 => h.2 u h0 (by omega)⟩ | (intro h; have := h.2 (j : Int) (by omega) (by omega); omega))).symm)) ⟨rfl, rfl, rfl, rfl, rfl, trivial⟩
    · skip
      refine fr_il2 dX11_climb_16 ?_
      refine fr_iconst dX11_climb_17 ?_
      refine fr_icmp_eq (tgt := 23) dX11_climb_18 (by decide) (by omega) (by omega) (fun h41 => ?_) (fun h41 => ?_)
      · skip
        refine fr_il2 dX11_climb_23 ?_
        refine fr_iconst dX11_climb_24 ?_
        refine fr_icmp_eq (tgt := 44) dX11_climb_25 (by decide) (by omega) (by omega) (fun h42 => ?_) (fun h42 => ?_)
        · skip
          refine fr_iconst dX11_climb_44 ?_
          refine fr_goto (tgt := 49) dX11_climb_45 (by decide) ?_
          refine fr_is3 dX11_climb_49 rfl (Nat.le_of_ble_eq_true rfl) ?_
          refine fr_iconst dX11_climb_50 ?_
          refine fr_is4 dX11_climb_51 rfl (Nat.le_of_ble_eq_true rfl) ?_
          refine fr_wk ?_ (ls := [some (fr_r κ 66), some (fr_i t), some (fr_i c), some (fr_i _), some (fr_i (0 : Int))]) ⟨rfl, rfl, rfl, rfl, rfl, trivial⟩
          refine (fr_down (P := fun j : Nat => ∀ (x : Int), (x = fr_b ((c = 5 ∨ ¬ sp_in (μ 67 (37 + t)) c) ∧ ∀ u : Int, 0 ≤ u → u < j → (c = 5 ∨ u = t ∨ μ 67 (7 + u) ≠ c ∨ μ 67 (44 + c) = 2))) → fr_A l κ fmX11_climb 3 (fr_Pi (fun z m => (¬ ((0 ≤ t ∧ t < μ 67 0) ∧ (c = 5 ∨ (0 ≤ c ∧ c < μ 67 43))) ∧ z = -1 ∧ m = μ) ∨ (((0 ≤ t ∧ t < μ 67 0) ∧ (c = 5 ∨ (0 ≤ c ∧ c < μ 67 43))) ∧ ¬ sp_may (μ 67) t c ∧ z = -2 ∧ m = μ) ∨ (((0 ≤ t ∧ t < μ 67 0) ∧ (c = 5 ∨ (0 ≤ c ∧ c < μ 67 43))) ∧ sp_may (μ 67) t c ∧ z = μ 67 (7 + t) ∧ m = fr_up μ 67 (7 + t) c))) 53 [some (fr_r κ 66), some (fr_i t), some (fr_i c), some (fr_i x), some (fr_i (j : Int))] [] μ) (μ 67 0).toNat ?_ (fun j hj53 ih53 => ?_)) _ ((fr_bT ⟨by first | exact Or.inl (by omega) | exact Or.inr (by assumption), fun u h0 h1 => by omega⟩).symm)
          · skip
            intro x hx
            have hmi := sp_may_iff hI (t := t) (c := c) (by omega)
            rcases Classical.em ((c = 5 ∨ ¬ sp_in (μ 67 (37 + t)) c) ∧ ∀ u : Int, 0 ≤ u → u < (μ 67 0).toNat → (c = 5 ∨ u = t ∨ μ 67 (7 + u) ≠ c ∨ μ 67 (44 + c) = 2)) with hP | hP
            · skip
              rw [fr_bT hP] at hx
              subst hx
              refine fr_il4 dX11_climb_53 ?_
              refine fr_al0 dX11_climb_55 ?_
              refine fr_getr (cz := 67) dX11_climb_56 flX11_7 ⟨by decide, by decide, rfl⟩ rfl rfl ?_
              refine fr_iconst dX11_climb_59 ?_
              refine fr_iald dX11_climb_60 ⟨by decide, by decide, rfl, by decide⟩ (by omega) (by omega) ?_
              refine fr_icmp_ge (tgt := 118) dX11_climb_61 (by decide) (by omega) (by omega) (fun h43 => ?_) (fun h43 => ?_)
              · skip
                refine fr_il3 dX11_climb_118 ?_
                refine fr_if_ne (tgt := 125) dX11_climb_119 (by decide) (by decide) (fun _ => ?_) (fun h44 => absurd h44 (by decide))
                refine fr_al0 dX11_climb_125 ?_
                refine fr_getr (cz := 67) dX11_climb_126 flX11_7 ⟨by decide, by decide, rfl⟩ rfl rfl ?_
                refine fr_bipush dX11_climb_129 (by decide) ?_
                refine fr_il1 dX11_climb_131 ?_
                refine fr_iadd dX11_climb_132 ?_
                refine fr_iald dX11_climb_133 ⟨by decide, by decide, rfl, by decide⟩ (by omega) (by omega) ?_
                refine fr_is4 dX11_climb_134 rfl (Nat.le_of_ble_eq_true rfl) ?_
                refine fr_al0 dX11_climb_136 ?_
                refine fr_getr (cz := 67) dX11_climb_137 flX11_7 ⟨by decide, by decide, rfl⟩ rfl rfl ?_
                refine fr_bipush dX11_climb_140 (by decide) ?_
                refine fr_il1 dX11_climb_142 ?_
                refine fr_iadd dX11_climb_143 ?_
                refine fr_il2 dX11_climb_144 ?_
                refine fr_iast dX11_climb_145 ⟨by decide, by decide, rfl, by decide⟩ (by omega) (by omega) ?_
                refine fr_il4 dX11_climb_146 ?_
                exact fr_iret dX11_climb_148 rfl (fr_pi (by first | exact Or.inl ⟨by omega, rfl, rfl⟩ | exact Or.inr (Or.inl ⟨by omega, fun h => hP (hmi.mpr h), rfl, rfl⟩) | exact Or.inr (Or.inr ⟨by omega, hmi.mp hP, rfl, rfl⟩)))
              · skip
                exfalso; omega
            · skip
              rw [fr_bF hP] at hx
              subst hx
              refine fr_il4 dX11_climb_53 ?_
              refine fr_al0 dX11_climb_55 ?_
              refine fr_getr (cz := 67) dX11_climb_56 flX11_7 ⟨by decide, by decide, rfl⟩ rfl rfl ?_
              refine fr_iconst dX11_climb_59 ?_
              refine fr_iald dX11_climb_60 ⟨by decide, by decide, rfl, by decide⟩ (by omega) (by omega) ?_
              refine fr_icmp_ge (tgt := 118) dX11_climb_61 (by decide) (by omega) (by omega) (fun h45 => ?_) (fun h45 => ?_)
              · skip
                refine fr_il3 dX11_climb_118 ?_
                refine fr_if_ne (tgt := 125) dX11_climb_119 (by decide) (by decide) (fun h46 => absurd h46 (by decide)) (fun _ => ?_)
                refine fr_bipush dX11_climb_122 (by decide) ?_
                exact fr_iret dX11_climb_124 rfl (fr_pi (by first | exact Or.inl ⟨by omega, rfl, rfl⟩ | exact Or.inr (Or.inl ⟨by omega, fun h => hP (hmi.mpr h), rfl, rfl⟩) | exact Or.inr (Or.inr ⟨by omega, hmi.mp hP, rfl, rfl⟩)))
              · skip
                exfalso; omega
          · skip
            intro x hx
            have iU := hI.tree (t := (j : Int)) (by omega) (by omega)
            unfold fr_It at iU
            rcases Classical.em ((c = 5 ∨ ¬ sp_in (μ 67 (37 + t)) c) ∧ ∀ u : Int, 0 ≤ u → u < j → (c = 5 ∨ u = t ∨ μ 67 (7 + u) ≠ c ∨ μ 67 (44 + c) = 2)) with hP | hP
            · skip
              rw [fr_bT hP] at hx
              subst hx
              refine fr_il4 dX11_climb_53 ?_
              refine fr_al0 dX11_climb_55 ?_
              refine fr_getr (cz := 67) dX11_climb_56 flX11_7 ⟨by decide, by decide, rfl⟩ rfl rfl ?_
              refine fr_iconst dX11_climb_59 ?_
              refine fr_iald dX11_climb_60 ⟨by decide, by decide, rfl, by decide⟩ (by omega) (by omega) ?_
              refine fr_icmp_ge (tgt := 118) dX11_climb_61 (by decide) (by omega) (by omega) (fun h47 => ?_) (fun h47 => ?_)
              · skip
                exfalso; omega
              · skip
                refine fr_il3 dX11_climb_64 ?_
                refine fr_if_eq (tgt := 110) dX11_climb_65 (by decide) (by decide) (fun h48 => absurd h48 (by decide)) (fun _ => ?_)
                refine fr_il2 dX11_climb_68 ?_
                refine fr_iconst dX11_climb_69 ?_
                refine fr_icmp_eq (tgt := 106) dX11_climb_70 (by decide) (by omega) (by omega) (fun h49 => ?_) (fun h49 => ?_)
                · skip
                  refine fr_iconst dX11_climb_106 ?_
                  refine fr_goto (tgt := 111) dX11_climb_107 (by decide) ?_
                  refine fr_is3 dX11_climb_111 rfl (Nat.le_of_ble_eq_true rfl) ?_
                  refine fr_ii4 dX11_climb_112 rfl (Nat.le_of_ble_eq_true rfl) ?_
                  refine fr_goto (tgt := 53) dX11_climb_115 (by decide) ?_
                  exact fr_wk (ih53 _ ((fr_bT ⟨hP.1, fun u h0 h1 => (by omega : u < j ∨ u = j).elim (fun h => hP.2 u h0 h) (fun h => by subst h; omega)⟩).symm)) ⟨rfl, rfl, rfl, rfl, rfl, trivial⟩
                · skip
                  refine fr_il4 dX11_climb_73 ?_
                  refine fr_il1 dX11_climb_75 ?_
                  refine fr_icmp_eq (tgt := 106) dX11_climb_76 (by decide) (by omega) (by omega) (fun h50 => ?_) (fun h50 => ?_)
                  · skip
                    refine fr_iconst dX11_climb_106 ?_
                    refine fr_goto (tgt := 111) dX11_climb_107 (by decide) ?_
                    refine fr_is3 dX11_climb_111 rfl (Nat.le_of_ble_eq_true rfl) ?_
                    refine fr_ii4 dX11_climb_112 rfl (Nat.le_of_ble_eq_true rfl) ?_
                    refine fr_goto (tgt := 53) dX11_climb_115 (by decide) ?_
                    exact fr_wk (ih53 _ ((fr_bT ⟨hP.1, fun u h0 h1 => (by omega : u < j ∨ u = j).elim (fun h => hP.2 u h0 h) (fun h => by subst h; omega)⟩).symm)) ⟨rfl, rfl, rfl, rfl, rfl, trivial⟩
                  · skip
                    refine fr_al0 dX11_climb_79 ?_
                    refine fr_getr (cz := 67) dX11_climb_80 flX11_7 ⟨by decide, by decide, rfl⟩ rfl rfl ?_
                    refine fr_bipush dX11_climb_83 (by decide) ?_
                    refine fr_il4 dX11_climb_85 ?_
                    refine fr_iadd dX11_climb_87 ?_
                    refine fr_iald dX11_climb_88 ⟨by decide, by decide, rfl, by decide⟩ (by omega) (by omega) ?_
                    refine fr_il2 dX11_climb_89 ?_
                    refine fr_icmp_ne (tgt := 106) dX11_climb_90 (by decide) (by omega) (by omega) (fun h51 => ?_) (fun h51 => ?_)
                    · skip
                      refine fr_iconst dX11_climb_106 ?_
                      refine fr_goto (tgt := 111) dX11_climb_107 (by decide) ?_
                      refine fr_is3 dX11_climb_111 rfl (Nat.le_of_ble_eq_true rfl) ?_
                      refine fr_ii4 dX11_climb_112 rfl (Nat.le_of_ble_eq_true rfl) ?_
                      refine fr_goto (tgt := 53) dX11_climb_115 (by decide) ?_
                      exact fr_wk (ih53 _ ((fr_bT ⟨hP.1, fun u h0 h1 => (by omega : u < j ∨ u = j).elim (fun h => hP.2 u h0 h) (fun h => by subst h; omega)⟩).symm)) ⟨rfl, rfl, rfl, rfl, rfl, trivial⟩
                    · skip
                      refine fr_al0 dX11_climb_93 ?_
                      refine fr_getr (cz := 67) dX11_climb_94 flX11_7 ⟨by decide, by decide, rfl⟩ rfl rfl ?_
                      refine fr_bipush dX11_climb_97 (by decide) ?_
                      refine fr_il2 dX11_climb_99 ?_
                      refine fr_iadd dX11_climb_100 ?_
                      have iC := hI.cl (c := c) (by omega) (by omega)
                      unfold fr_Ic at iC
                      refine fr_iald dX11_climb_101 ⟨by decide, by decide, rfl, by decide⟩ (by omega) (by omega) ?_
                      refine fr_iconst dX11_climb_102 ?_
                      refine fr_icmp_ne (tgt := 110) dX11_climb_103 (by decide) (by omega) (by omega) (fun h52 => ?_) (fun h52 => ?_)
                      · skip
                        refine fr_iconst dX11_climb_110 ?_
                        refine fr_is3 dX11_climb_111 rfl (Nat.le_of_ble_eq_true rfl) ?_
                        refine fr_ii4 dX11_climb_112 rfl (Nat.le_of_ble_eq_true rfl) ?_
                        refine fr_goto (tgt := 53) dX11_climb_115 (by decide) ?_
                        exact fr_wk (ih53 _ ((fr_bF (by first | exact fun h => hP ⟨h.1, fun u h0 h1 => h.2 u h0 (by omega)⟩ | (intro h; have := h.2 (j : Int) (by omega) (by omega); omega))).symm)) ⟨rfl, rfl, rfl, rfl, rfl, trivial⟩
                      · skip
                        refine fr_iconst dX11_climb_106 ?_
                        refine fr_goto (tgt := 111) dX11_climb_107 (by decide) ?_
                        refine fr_is3 dX11_climb_111 rfl (Nat.le_of_ble_eq_true rfl) ?_
                        refine fr_ii4 dX11_climb_112 rfl (Nat.le_of_ble_eq_true rfl) ?_
                        refine fr_goto (tgt := 53) dX11_climb_115 (by decide) ?_
                        exact fr_wk (ih53 _ ((fr_bT ⟨hP.1, fun u h0 h1 => (by omega : u < j ∨ u = j).elim (fun h => hP.2 u h0 h) (fun h => by subst h; omega)⟩).symm)) ⟨rfl, rfl, rfl, rfl, rfl, trivial⟩
            · skip
              rw [fr_bF hP] at hx
              subst hx
              refine fr_il4 dX11_climb_53 ?_
              refine fr_al0 dX11_climb_55 ?_
              refine fr_getr (cz := 67) dX11_climb_56 flX11_7 ⟨by decide, by decide, rfl⟩ rfl rfl ?_
              refine fr_iconst dX11_climb_59 ?_
              refine fr_iald dX11_climb_60 ⟨by decide, by decide, rfl, by decide⟩ (by omega) (by omega) ?_
              refine fr_icmp_ge (tgt := 118) dX11_climb_61 (by decide) (by omega) (by omega) (fun h53 => ?_) (fun h53 => ?_)
              · skip
                exfalso; omega
              · skip
                refine fr_il3 dX11_climb_64 ?_
                refine fr_if_eq (tgt := 110) dX11_climb_65 (by decide) (by decide) (fun _ => ?_) (fun h54 => absurd h54 (by decide))
                refine fr_iconst dX11_climb_110 ?_
                refine fr_is3 dX11_climb_111 rfl (Nat.le_of_ble_eq_true rfl) ?_
                refine fr_ii4 dX11_climb_112 rfl (Nat.le_of_ble_eq_true rfl) ?_
                refine fr_goto (tgt := 53) dX11_climb_115 (by decide) ?_
                exact fr_wk (ih53 _ ((fr_bF (by first | exact fun h => hP ⟨h.1, fun u h0 h1 => h.2 u h0 (by omega)⟩ | (intro h; have := h.2 (j : Int) (by omega) (by omega); omega))).symm)) ⟨rfl, rfl, rfl, rfl, rfl, trivial⟩
        · skip
          refine fr_al0 dX11_climb_28 ?_
          refine fr_getr (cz := 67) dX11_climb_29 flX11_7 ⟨by decide, by decide, rfl⟩ rfl rfl ?_
          refine fr_bipush dX11_climb_32 (by decide) ?_
          refine fr_il1 dX11_climb_34 ?_
          refine fr_iadd dX11_climb_35 ?_
          refine fr_iald dX11_climb_36 ⟨by decide, by decide, rfl, by decide⟩ (by omega) (by omega) ?_
          refine fr_il2 dX11_climb_37 ?_
          refine fr_cSi (mi' := fmX11_has) dX11_climb_38 mlX11_88 msX11_has (Nat.le_of_ble_eq_true rfl) (kcX11_has) rfl rfl (Nat.le_of_ble_eq_true rfl) ?_
          refine fr_ifb_ne (tgt := 48) dX11_climb_41 (by decide) (fun h55 => ?_) (fun h55 => ?_)
          · skip
            refine fr_iconst dX11_climb_48 ?_
            refine fr_is3 dX11_climb_49 rfl (Nat.le_of_ble_eq_true rfl) ?_
            refine fr_iconst dX11_climb_50 ?_
            refine fr_is4 dX11_climb_51 rfl (Nat.le_of_ble_eq_true rfl) ?_
            refine fr_wk ?_ (ls := [some (fr_r κ 66), some (fr_i t), some (fr_i c), some (fr_i _), some (fr_i (0 : Int))]) ⟨rfl, rfl, rfl, rfl, rfl, trivial⟩
            refine (fr_down (P := fun j : Nat => ∀ (x : Int), (x = fr_b ((c = 5 ∨ ¬ sp_in (μ 67 (37 + t)) c) ∧ ∀ u : Int, 0 ≤ u → u < j → (c = 5 ∨ u = t ∨ μ 67 (7 + u) ≠ c ∨ μ 67 (44 + c) = 2))) → fr_A l κ fmX11_climb 3 (fr_Pi (fun z m => (¬ ((0 ≤ t ∧ t < μ 67 0) ∧ (c = 5 ∨ (0 ≤ c ∧ c < μ 67 43))) ∧ z = -1 ∧ m = μ) ∨ (((0 ≤ t ∧ t < μ 67 0) ∧ (c = 5 ∨ (0 ≤ c ∧ c < μ 67 43))) ∧ ¬ sp_may (μ 67) t c ∧ z = -2 ∧ m = μ) ∨ (((0 ≤ t ∧ t < μ 67 0) ∧ (c = 5 ∨ (0 ≤ c ∧ c < μ 67 43))) ∧ sp_may (μ 67) t c ∧ z = μ 67 (7 + t) ∧ m = fr_up μ 67 (7 + t) c))) 53 [some (fr_r κ 66), some (fr_i t), some (fr_i c), some (fr_i x), some (fr_i (j : Int))] [] μ) (μ 67 0).toNat ?_ (fun j hj53 ih53 => ?_)) _ ((fr_bF (fun h => h.1.elim (fun e => by omega) (fun e => e (by assumption)))).symm)
            · skip
              intro x hx
              have hmi := sp_may_iff hI (t := t) (c := c) (by omega)
              rcases Classical.em ((c = 5 ∨ ¬ sp_in (μ 67 (37 + t)) c) ∧ ∀ u : Int, 0 ≤ u → u < (μ 67 0).toNat → (c = 5 ∨ u = t ∨ μ 67 (7 + u) ≠ c ∨ μ 67 (44 + c) = 2)) with hP | hP
              · skip
                rw [fr_bT hP] at hx
                subst hx
                refine fr_il4 dX11_climb_53 ?_
                refine fr_al0 dX11_climb_55 ?_
                refine fr_getr (cz := 67) dX11_climb_56 flX11_7 ⟨by decide, by decide, rfl⟩ rfl rfl ?_
                refine fr_iconst dX11_climb_59 ?_
                refine fr_iald dX11_climb_60 ⟨by decide, by decide, rfl, by decide⟩ (by omega) (by omega) ?_
                refine fr_icmp_ge (tgt := 118) dX11_climb_61 (by decide) (by omega) (by omega) (fun h56 => ?_) (fun h56 => ?_)
                · skip
                  refine fr_il3 dX11_climb_118 ?_
                  refine fr_if_ne (tgt := 125) dX11_climb_119 (by decide) (by decide) (fun _ => ?_) (fun h57 => absurd h57 (by decide))
                  refine fr_al0 dX11_climb_125 ?_
                  refine fr_getr (cz := 67) dX11_climb_126 flX11_7 ⟨by decide, by decide, rfl⟩ rfl rfl ?_
                  refine fr_bipush dX11_climb_129 (by decide) ?_
                  refine fr_il1 dX11_climb_131 ?_
                  refine fr_iadd dX11_climb_132 ?_
                  refine fr_iald dX11_climb_133 ⟨by decide, by decide, rfl, by decide⟩ (by omega) (by omega) ?_
                  refine fr_is4 dX11_climb_134 rfl (Nat.le_of_ble_eq_true rfl) ?_
                  refine fr_al0 dX11_climb_136 ?_
                  refine fr_getr (cz := 67) dX11_climb_137 flX11_7 ⟨by decide, by decide, rfl⟩ rfl rfl ?_
                  refine fr_bipush dX11_climb_140 (by decide) ?_
                  refine fr_il1 dX11_climb_142 ?_
                  refine fr_iadd dX11_climb_143 ?_
                  refine fr_il2 dX11_climb_144 ?_
                  refine fr_iast dX11_climb_145 ⟨by decide, by decide, rfl, by decide⟩ (by omega) (by omega) ?_
                  refine fr_il4 dX11_climb_146 ?_
                  exact fr_iret dX11_climb_148 rfl (fr_pi (by first | exact Or.inl ⟨by omega, rfl, rfl⟩ | exact Or.inr (Or.inl ⟨by omega, fun h => hP (hmi.mpr h), rfl, rfl⟩) | exact Or.inr (Or.inr ⟨by omega, hmi.mp hP, rfl, rfl⟩)))
                · skip
                  exfalso; omega
              · skip
                rw [fr_bF hP] at hx
                subst hx
                refine fr_il4 dX11_climb_53 ?_
                refine fr_al0 dX11_climb_55 ?_
                refine fr_getr (cz := 67) dX11_climb_56 flX11_7 ⟨by decide, by decide, rfl⟩ rfl rfl ?_
                refine fr_iconst dX11_climb_59 ?_
                refine fr_iald dX11_climb_60 ⟨by decide, by decide, rfl, by decide⟩ (by omega) (by omega) ?_
                refine fr_icmp_ge (tgt := 118) dX11_climb_61 (by decide) (by omega) (by omega) (fun h58 => ?_) (fun h58 => ?_)
                · skip
                  refine fr_il3 dX11_climb_118 ?_
                  refine fr_if_ne (tgt := 125) dX11_climb_119 (by decide) (by decide) (fun h59 => absurd h59 (by decide)) (fun _ => ?_)
                  refine fr_bipush dX11_climb_122 (by decide) ?_
                  exact fr_iret dX11_climb_124 rfl (fr_pi (by first | exact Or.inl ⟨by omega, rfl, rfl⟩ | exact Or.inr (Or.inl ⟨by omega, fun h => hP (hmi.mpr h), rfl, rfl⟩) | exact Or.inr (Or.inr ⟨by omega, hmi.mp hP, rfl, rfl⟩)))
                · skip
                  exfalso; omega
            · skip
              intro x hx
              have iU := hI.tree (t := (j : Int)) (by omega) (by omega)
              unfold fr_It at iU
              rcases Classical.em ((c = 5 ∨ ¬ sp_in (μ 67 (37 + t)) c) ∧ ∀ u : Int, 0 ≤ u → u < j → (c = 5 ∨ u = t ∨ μ 67 (7 + u) ≠ c ∨ μ 67 (44 + c) = 2)) with hP | hP
              · skip
                rw [fr_bT hP] at hx
                subst hx
                refine fr_il4 dX11_climb_53 ?_
                refine fr_al0 dX11_climb_55 ?_
                refine fr_getr (cz := 67) dX11_climb_56 flX11_7 ⟨by decide, by decide, rfl⟩ rfl rfl ?_
                refine fr_iconst dX11_climb_59 ?_
                refine fr_iald dX11_climb_60 ⟨by decide, by decide, rfl, by decide⟩ (by omega) (by omega) ?_
                refine fr_icmp_ge (tgt := 118) dX11_climb_61 (by decide) (by omega) (by omega) (fun h60 => ?_) (fun h60 => ?_)
                · skip
                  exfalso; omega
                · skip
                  refine fr_il3 dX11_climb_64 ?_
                  refine fr_if_eq (tgt := 110) dX11_climb_65 (by decide) (by decide) (fun h61 => absurd h61 (by decide)) (fun _ => ?_)
                  refine fr_il2 dX11_climb_68 ?_
                  refine fr_iconst dX11_climb_69 ?_
                  refine fr_icmp_eq (tgt := 106) dX11_climb_70 (by decide) (by omega) (by omega) (fun h62 => ?_) (fun h62 => ?_)
                  · skip
                    refine fr_iconst dX11_climb_106 ?_
                    refine fr_goto (tgt := 111) dX11_climb_107 (by decide) ?_
                    refine fr_is3 dX11_climb_111 rfl (Nat.le_of_ble_eq_true rfl) ?_
                    refine fr_ii4 dX11_climb_112 rfl (Nat.le_of_ble_eq_true rfl) ?_
                    refine fr_goto (tgt := 53) dX11_climb_115 (by decide) ?_
                    exact fr_wk (ih53 _ ((fr_bT ⟨hP.1, fun u h0 h1 => (by omega : u < j ∨ u = j).elim (fun h => hP.2 u h0 h) (fun h => by subst h; omega)⟩).symm)) ⟨rfl, rfl, rfl, rfl, rfl, trivial⟩
                  · skip
                    refine fr_il4 dX11_climb_73 ?_
                    refine fr_il1 dX11_climb_75 ?_
                    refine fr_icmp_eq (tgt := 106) dX11_climb_76 (by decide) (by omega) (by omega) (fun h63 => ?_) (fun h63 => ?_)
                    · skip
                      refine fr_iconst dX11_climb_106 ?_
                      refine fr_goto (tgt := 111) dX11_climb_107 (by decide) ?_
                      refine fr_is3 dX11_climb_111 rfl (Nat.le_of_ble_eq_true rfl) ?_
                      refine fr_ii4 dX11_climb_112 rfl (Nat.le_of_ble_eq_true rfl) ?_
                      refine fr_goto (tgt := 53) dX11_climb_115 (by decide) ?_
                      exact fr_wk (ih53 _ ((fr_bT ⟨hP.1, fun u h0 h1 => (by omega : u < j ∨ u = j).elim (fun h => hP.2 u h0 h) (fun h => by subst h; omega)⟩).symm)) ⟨rfl, rfl, rfl, rfl, rfl, trivial⟩
                    · skip
                      refine fr_al0 dX11_climb_79 ?_
                      refine fr_getr (cz := 67) dX11_climb_80 flX11_7 ⟨by decide, by decide, rfl⟩ rfl rfl ?_
                      refine fr_bipush dX11_climb_83 (by decide) ?_
                      refine fr_il4 dX11_climb_85 ?_
                      refine fr_iadd dX11_climb_87 ?_
                      refine fr_iald dX11_climb_88 ⟨by decide, by decide, rfl, by decide⟩ (by omega) (by omega) ?_
                      refine fr_il2 dX11_climb_89 ?_
                      refine fr_icmp_ne (tgt := 106) dX11_climb_90 (by decide) (by omega) (by omega) (fun h64 => ?_) (fun h64 => ?_)
                      · skip
                        refine fr_iconst dX11_climb_106 ?_
                        refine fr_goto (tgt := 111) dX11_climb_107 (by decide) ?_
                        refine fr_is3 dX11_climb_111 rfl (Nat.le_of_ble_eq_true rfl) ?_
                        refine fr_ii4 dX11_climb_112 rfl (Nat.le_of_ble_eq_true rfl) ?_
                        refine fr_goto (tgt := 53) dX11_climb_115 (by decide) ?_
                        exact fr_wk (ih53 _ ((fr_bT ⟨hP.1, fun u h0 h1 => (by omega : u < j ∨ u = j).elim (fun h => hP.2 u h0 h) (fun h => by subst h; omega)⟩).symm)) ⟨rfl, rfl, rfl, rfl, rfl, trivial⟩
                      · skip
                        refine fr_al0 dX11_climb_93 ?_
                        refine fr_getr (cz := 67) dX11_climb_94 flX11_7 ⟨by decide, by decide, rfl⟩ rfl rfl ?_
                        refine fr_bipush dX11_climb_97 (by decide) ?_
                        refine fr_il2 dX11_climb_99 ?_
                        refine fr_iadd dX11_climb_100 ?_
                        have iC := hI.cl (c := c) (by omega) (by omega)
                        unfold fr_Ic at iC
                        refine fr_iald dX11_climb_101 ⟨by decide, by decide, rfl, by decide⟩ (by omega) (by omega) ?_
                        refine fr_iconst dX11_climb_102 ?_
                        refine fr_icmp_ne (tgt := 110) dX11_climb_103 (by decide) (by omega) (by omega) (fun h65 => ?_) (fun h65 => ?_)
                        · skip
                          refine fr_iconst dX11_climb_110 ?_
                          refine fr_is3 dX11_climb_111 rfl (Nat.le_of_ble_eq_true rfl) ?_
                          refine fr_ii4 dX11_climb_112 rfl (Nat.le_of_ble_eq_true rfl) ?_
                          refine fr_goto (tgt := 53) dX11_climb_115 (by decide) ?_
                          exact fr_wk (ih53 _ ((fr_bF (by first | exact fun h => hP ⟨h.1, fun u h0 h1 => h.2 u h0 (by omega)⟩ | (intro h; have := h.2 (j : Int) (by omega) (by omega); omega))).symm)) ⟨rfl, rfl, rfl, rfl, rfl, trivial⟩
                        · skip
                          refine fr_iconst dX11_climb_106 ?_
                          refine fr_goto (tgt := 111) dX11_climb_107 (by decide) ?_
                          refine fr_is3 dX11_climb_111 rfl (Nat.le_of_ble_eq_true rfl) ?_
                          refine fr_ii4 dX11_climb_112 rfl (Nat.le_of_ble_eq_true rfl) ?_
                          refine fr_goto (tgt := 53) dX11_climb_115 (by decide) ?_
                          exact fr_wk (ih53 _ ((fr_bT ⟨hP.1, fun u h0 h1 => (by omega : u < j ∨ u = j).elim (fun h => hP.2 u h0 h) (fun h => by subst h; omega)⟩).symm)) ⟨rfl, rfl, rfl, rfl, rfl, trivial⟩
              · skip
                rw [fr_bF hP] at hx
                subst hx
                refine fr_il4 dX11_climb_53 ?_
                refine fr_al0 dX11_climb_55 ?_
                refine fr_getr (cz := 67) dX11_climb_56 flX11_7 ⟨by decide, by decide, rfl⟩ rfl rfl ?_
                refine fr_iconst dX11_climb_59 ?_
                refine fr_iald dX11_climb_60 ⟨by decide, by decide, rfl, by decide⟩ (by omega) (by omega) ?_
                refine fr_icmp_ge (tgt := 118) dX11_climb_61 (by decide) (by omega) (by omega) (fun h66 => ?_) (fun h66 => ?_)
                · skip
                  exfalso; omega
                · skip
                  refine fr_il3 dX11_climb_64 ?_
                  refine fr_if_eq (tgt := 110) dX11_climb_65 (by decide) (by decide) (fun _ => ?_) (fun h67 => absurd h67 (by decide))
                  refine fr_iconst dX11_climb_110 ?_
                  refine fr_is3 dX11_climb_111 rfl (Nat.le_of_ble_eq_true rfl) ?_
                  refine fr_ii4 dX11_climb_112 rfl (Nat.le_of_ble_eq_true rfl) ?_
                  refine fr_goto (tgt := 53) dX11_climb_115 (by decide) ?_
                  exact fr_wk (ih53 _ ((fr_bF (by first | exact fun h => hP ⟨h.1, fun u h0 h1 => h.2 u h0 (by omega)⟩ | (intro h; have := h.2 (j : Int) (by omega) (by omega); omega))).symm)) ⟨rfl, rfl, rfl, rfl, rfl, trivial⟩
          · skip
            refine fr_iconst dX11_climb_44 ?_
            refine fr_goto (tgt := 49) dX11_climb_45 (by decide) ?_
            refine fr_is3 dX11_climb_49 rfl (Nat.le_of_ble_eq_true rfl) ?_
            refine fr_iconst dX11_climb_50 ?_
            refine fr_is4 dX11_climb_51 rfl (Nat.le_of_ble_eq_true rfl) ?_
            refine fr_wk ?_ (ls := [some (fr_r κ 66), some (fr_i t), some (fr_i c), some (fr_i _), some (fr_i (0 : Int))]) ⟨rfl, rfl, rfl, rfl, rfl, trivial⟩
            refine (fr_down (P := fun j : Nat => ∀ (x : Int), (x = fr_b ((c = 5 ∨ ¬ sp_in (μ 67 (37 + t)) c) ∧ ∀ u : Int, 0 ≤ u → u < j → (c = 5 ∨ u = t ∨ μ 67 (7 + u) ≠ c ∨ μ 67 (44 + c) = 2))) → fr_A l κ fmX11_climb 3 (fr_Pi (fun z m => (¬ ((0 ≤ t ∧ t < μ 67 0) ∧ (c = 5 ∨ (0 ≤ c ∧ c < μ 67 43))) ∧ z = -1 ∧ m = μ) ∨ (((0 ≤ t ∧ t < μ 67 0) ∧ (c = 5 ∨ (0 ≤ c ∧ c < μ 67 43))) ∧ ¬ sp_may (μ 67) t c ∧ z = -2 ∧ m = μ) ∨ (((0 ≤ t ∧ t < μ 67 0) ∧ (c = 5 ∨ (0 ≤ c ∧ c < μ 67 43))) ∧ sp_may (μ 67) t c ∧ z = μ 67 (7 + t) ∧ m = fr_up μ 67 (7 + t) c))) 53 [some (fr_r κ 66), some (fr_i t), some (fr_i c), some (fr_i x), some (fr_i (j : Int))] [] μ) (μ 67 0).toNat ?_ (fun j hj53 ih53 => ?_)) _ ((fr_bT ⟨by first | exact Or.inl (by omega) | exact Or.inr (by assumption), fun u h0 h1 => by omega⟩).symm)
            · skip
              intro x hx
              have hmi := sp_may_iff hI (t := t) (c := c) (by omega)
              rcases Classical.em ((c = 5 ∨ ¬ sp_in (μ 67 (37 + t)) c) ∧ ∀ u : Int, 0 ≤ u → u < (μ 67 0).toNat → (c = 5 ∨ u = t ∨ μ 67 (7 + u) ≠ c ∨ μ 67 (44 + c) = 2)) with hP | hP
              · skip
                rw [fr_bT hP] at hx
                subst hx
                refine fr_il4 dX11_climb_53 ?_
                refine fr_al0 dX11_climb_55 ?_
                refine fr_getr (cz := 67) dX11_climb_56 flX11_7 ⟨by decide, by decide, rfl⟩ rfl rfl ?_
                refine fr_iconst dX11_climb_59 ?_
                refine fr_iald dX11_climb_60 ⟨by decide, by decide, rfl, by decide⟩ (by omega) (by omega) ?_
                refine fr_icmp_ge (tgt := 118) dX11_climb_61 (by decide) (by omega) (by omega) (fun h68 => ?_) (fun h68 => ?_)
                · skip
                  refine fr_il3 dX11_climb_118 ?_
                  refine fr_if_ne (tgt := 125) dX11_climb_119 (by decide) (by decide) (fun _ => ?_) (fun h69 => absurd h69 (by decide))
                  refine fr_al0 dX11_climb_125 ?_
                  refine fr_getr (cz := 67) dX11_climb_126 flX11_7 ⟨by decide, by decide, rfl⟩ rfl rfl ?_
                  refine fr_bipush dX11_climb_129 (by decide) ?_
                  refine fr_il1 dX11_climb_131 ?_
                  refine fr_iadd dX11_climb_132 ?_
                  refine fr_iald dX11_climb_133 ⟨by decide, by decide, rfl, by decide⟩ (by omega) (by omega) ?_
                  refine fr_is4 dX11_climb_134 rfl (Nat.le_of_ble_eq_true rfl) ?_
                  refine fr_al0 dX11_climb_136 ?_
                  refine fr_getr (cz := 67) dX11_climb_137 flX11_7 ⟨by decide, by decide, rfl⟩ rfl rfl ?_
                  refine fr_bipush dX11_climb_140 (by decide) ?_
                  refine fr_il1 dX11_climb_142 ?_
                  refine fr_iadd dX11_climb_143 ?_
                  refine fr_il2 dX11_climb_144 ?_
                  refine fr_iast dX11_climb_145 ⟨by decide, by decide, rfl, by decide⟩ (by omega) (by omega) ?_
                  refine fr_il4 dX11_climb_146 ?_
                  exact fr_iret dX11_climb_148 rfl (fr_pi (by first | exact Or.inl ⟨by omega, rfl, rfl⟩ | exact Or.inr (Or.inl ⟨by omega, fun h => hP (hmi.mpr h), rfl, rfl⟩) | exact Or.inr (Or.inr ⟨by omega, hmi.mp hP, rfl, rfl⟩)))
                · skip
                  exfalso; omega
              · skip
                rw [fr_bF hP] at hx
                subst hx
                refine fr_il4 dX11_climb_53 ?_
                refine fr_al0 dX11_climb_55 ?_
                refine fr_getr (cz := 67) dX11_climb_56 flX11_7 ⟨by decide, by decide, rfl⟩ rfl rfl ?_
                refine fr_iconst dX11_climb_59 ?_
                refine fr_iald dX11_climb_60 ⟨by decide, by decide, rfl, by decide⟩ (by omega) (by omega) ?_
                refine fr_icmp_ge (tgt := 118) dX11_climb_61 (by decide) (by omega) (by omega) (fun h70 => ?_) (fun h70 => ?_)
                · skip
                  refine fr_il3 dX11_climb_118 ?_
                  refine fr_if_ne (tgt := 125) dX11_climb_119 (by decide) (by decide) (fun h71 => absurd h71 (by decide)) (fun _ => ?_)
                  refine fr_bipush dX11_climb_122 (by decide) ?_
                  exact fr_iret dX11_climb_124 rfl (fr_pi (by first | exact Or.inl ⟨by omega, rfl, rfl⟩ | exact Or.inr (Or.inl ⟨by omega, fun h => hP (hmi.mpr h), rfl, rfl⟩) | exact Or.inr (Or.inr ⟨by omega, hmi.mp hP, rfl, rfl⟩)))
                · skip
                  exfalso; omega
            · skip
              intro x hx
              have iU := hI.tree (t := (j : Int)) (by omega) (by omega)
              unfold fr_It at iU
              rcases Classical.em ((c = 5 ∨ ¬ sp_in (μ 67 (37 + t)) c) ∧ ∀ u : Int, 0 ≤ u → u < j → (c = 5 ∨ u = t ∨ μ 67 (7 + u) ≠ c ∨ μ 67 (44 + c) = 2)) with hP | hP
              · skip
                rw [fr_bT hP] at hx
                subst hx
                refine fr_il4 dX11_climb_53 ?_
                refine fr_al0 dX11_climb_55 ?_
                refine fr_getr (cz := 67) dX11_climb_56 flX11_7 ⟨by decide, by decide, rfl⟩ rfl rfl ?_
                refine fr_iconst dX11_climb_59 ?_
                refine fr_iald dX11_climb_60 ⟨by decide, by decide, rfl, by decide⟩ (by omega) (by omega) ?_
                refine fr_icmp_ge (tgt := 118) dX11_climb_61 (by decide) (by omega) (by omega) (fun h72 => ?_) (fun h72 => ?_)
                · skip
                  exfalso; omega
                · skip
                  refine fr_il3 dX11_climb_64 ?_
                  refine fr_if_eq (tgt := 110) dX11_climb_65 (by decide) (by decide) (fun h73 => absurd h73 (by decide)) (fun _ => ?_)
                  refine fr_il2 dX11_climb_68 ?_
                  refine fr_iconst dX11_climb_69 ?_
                  refine fr_icmp_eq (tgt := 106) dX11_climb_70 (by decide) (by omega) (by omega) (fun h74 => ?_) (fun h74 => ?_)
                  · skip
                    refine fr_iconst dX11_climb_106 ?_
                    refine fr_goto (tgt := 111) dX11_climb_107 (by decide) ?_
                    refine fr_is3 dX11_climb_111 rfl (Nat.le_of_ble_eq_true rfl) ?_
                    refine fr_ii4 dX11_climb_112 rfl (Nat.le_of_ble_eq_true rfl) ?_
                    refine fr_goto (tgt := 53) dX11_climb_115 (by decide) ?_
                    exact fr_wk (ih53 _ ((fr_bT ⟨hP.1, fun u h0 h1 => (by omega : u < j ∨ u = j).elim (fun h => hP.2 u h0 h) (fun h => by subst h; omega)⟩).symm)) ⟨rfl, rfl, rfl, rfl, rfl, trivial⟩
                  · skip
                    refine fr_il4 dX11_climb_73 ?_
                    refine fr_il1 dX11_climb_75 ?_
                    refine fr_icmp_eq (tgt := 106) dX11_climb_76 (by decide) (by omega) (by omega) (fun h75 => ?_) (fun h75 => ?_)
                    · skip
                      refine fr_iconst dX11_climb_106 ?_
                      refine fr_goto (tgt := 111) dX11_climb_107 (by decide) ?_
                      refine fr_is3 dX11_climb_111 rfl (Nat.le_of_ble_eq_true rfl) ?_
                      refine fr_ii4 dX11_climb_112 rfl (Nat.le_of_ble_eq_true rfl) ?_
                      refine fr_goto (tgt := 53) dX11_climb_115 (by decide) ?_
                      exact fr_wk (ih53 _ ((fr_bT ⟨hP.1, fun u h0 h1 => (by omega : u < j ∨ u = j).elim (fun h => hP.2 u h0 h) (fun h => by subst h; omega)⟩).symm)) ⟨rfl, rfl, rfl, rfl, rfl, trivial⟩
                    · skip
                      refine fr_al0 dX11_climb_79 ?_
                      refine fr_getr (cz := 67) dX11_climb_80 flX11_7 ⟨by decide, by decide, rfl⟩ rfl rfl ?_
                      refine fr_bipush dX11_climb_83 (by decide) ?_
                      refine fr_il4 dX11_climb_85 ?_
                      refine fr_iadd dX11_climb_87 ?_
                      refine fr_iald dX11_climb_88 ⟨by decide, by decide, rfl, by decide⟩ (by omega) (by omega) ?_
                      refine fr_il2 dX11_climb_89 ?_
                      refine fr_icmp_ne (tgt := 106) dX11_climb_90 (by decide) (by omega) (by omega) (fun h76 => ?_) (fun h76 => ?_)
                      · skip
                        refine fr_iconst dX11_climb_106 ?_
                        refine fr_goto (tgt := 111) dX11_climb_107 (by decide) ?_
                        refine fr_is3 dX11_climb_111 rfl (Nat.le_of_ble_eq_true rfl) ?_
                        refine fr_ii4 dX11_climb_112 rfl (Nat.le_of_ble_eq_true rfl) ?_
                        refine fr_goto (tgt := 53) dX11_climb_115 (by decide) ?_
                        exact fr_wk (ih53 _ ((fr_bT ⟨hP.1, fun u h0 h1 => (by omega : u < j ∨ u = j).elim (fun h => hP.2 u h0 h) (fun h => by subst h; omega)⟩).symm)) ⟨rfl, rfl, rfl, rfl, rfl, trivial⟩
                      · skip
                        refine fr_al0 dX11_climb_93 ?_
                        refine fr_getr (cz := 67) dX11_climb_94 flX11_7 ⟨by decide, by decide, rfl⟩ rfl rfl ?_
                        refine fr_bipush dX11_climb_97 (by decide) ?_
                        refine fr_il2 dX11_climb_99 ?_
                        refine fr_iadd dX11_climb_100 ?_
                        have iC := hI.cl (c := c) (by omega) (by omega)
                        unfold fr_Ic at iC
                        refine fr_iald dX11_climb_101 ⟨by decide, by decide, rfl, by decide⟩ (by omega) (by omega) ?_
                        refine fr_iconst dX11_climb_102 ?_
                        refine fr_icmp_ne (tgt := 110) dX11_climb_103 (by decide) (by omega) (by omega) (fun h77 => ?_) (fun h77 => ?_)
                        · skip
                          refine fr_iconst dX11_climb_110 ?_
                          refine fr_is3 dX11_climb_111 rfl (Nat.le_of_ble_eq_true rfl) ?_
                          refine fr_ii4 dX11_climb_112 rfl (Nat.le_of_ble_eq_true rfl) ?_
                          refine fr_goto (tgt := 53) dX11_climb_115 (by decide) ?_
                          exact fr_wk (ih53 _ ((fr_bF (by first | exact fun h => hP ⟨h.1, fun u h0 h1 => h.2 u h0 (by omega)⟩ | (intro h; have := h.2 (j : Int) (by omega) (by omega); omega))).symm)) ⟨rfl, rfl, rfl, rfl, rfl, trivial⟩
                        · skip
                          refine fr_iconst dX11_climb_106 ?_
                          refine fr_goto (tgt := 111) dX11_climb_107 (by decide) ?_
                          refine fr_is3 dX11_climb_111 rfl (Nat.le_of_ble_eq_true rfl) ?_
                          refine fr_ii4 dX11_climb_112 rfl (Nat.le_of_ble_eq_true rfl) ?_
                          refine fr_goto (tgt := 53) dX11_climb_115 (by decide) ?_
                          exact fr_wk (ih53 _ ((fr_bT ⟨hP.1, fun u h0 h1 => (by omega : u < j ∨ u = j).elim (fun h => hP.2 u h0 h) (fun h => by subst h; omega)⟩).symm)) ⟨rfl, rfl, rfl, rfl, rfl, trivial⟩
              · skip
                rw [fr_bF hP] at hx
                subst hx
                refine fr_il4 dX11_climb_53 ?_
                refine fr_al0 dX11_climb_55 ?_
                refine fr_getr (cz := 67) dX11_climb_56 flX11_7 ⟨by decide, by decide, rfl⟩ rfl rfl ?_
                refine fr_iconst dX11_climb_59 ?_
                refine fr_iald dX11_climb_60 ⟨by decide, by decide, rfl, by decide⟩ (by omega) (by omega) ?_
                refine fr_icmp_ge (tgt := 118) dX11_climb_61 (by decide) (by omega) (by omega) (fun h78 => ?_) (fun h78 => ?_)
                · skip
                  exfalso; omega
                · skip
                  refine fr_il3 dX11_climb_64 ?_
                  refine fr_if_eq (tgt := 110) dX11_climb_65 (by decide) (by decide) (fun _ => ?_) (fun h79 => absurd h79 (by decide))
                  refine fr_iconst dX11_climb_110 ?_
                  refine fr_is3 dX11_climb_111 rfl (Nat.le_of_ble_eq_true rfl) ?_
                  refine fr_ii4 dX11_climb_112 rfl (Nat.le_of_ble_eq_true rfl) ?_
                  refine fr_goto (tgt := 53) dX11_climb_115 (by decide) ?_
                  exact fr_wk (ih53 _ ((fr_bF (by first | exact fun h => hP ⟨h.1, fun u h0 h1 => h.2 u h0 (by omega)⟩ | (intro h; have := h.2 (j : Int) (by omega) (by omega); omega))).symm)) ⟨rfl, rfl, rfl, rfl, rfl, trivial⟩
      · skip
        refine fr_iconst dX11_climb_21 ?_
        exact fr_iret dX11_climb_22 rfl (fr_pi (by first | exact Or.inl ⟨by omega, rfl, rfl⟩ | exact Or.inr (Or.inl ⟨by omega, fun h => hP (hmi.mpr h), rfl, rfl⟩) | exact Or.inr (Or.inr ⟨by omega, hmi.mp hP, rfl, rfl⟩)))
set_option maxRecDepth 20000 in
theorem kcX11_type {l : Launch} {κ : fr_Ka} {μ : fr_Me} {c : Int} (ht : 0 ≤ μ 66 3 ∧ μ 66 3 ≤ 60) (rc : -2147483648 ≤ c ∧ c ≤ 2147483647) : fr_C l κ fmX11_type 2 [fr_r κ 66, fr_i c] μ (fr_Pi (fun z m => (¬ (32 ≤ c ∧ c ≤ 126) ∧ z = -1 ∧ m = μ) ∨ ((32 ≤ c ∧ c ≤ 126) ∧ μ 66 3 = 60 ∧ z = -3 ∧ m = μ) ∨ ((32 ≤ c ∧ c ≤ 126) ∧ μ 66 3 < 60 ∧ z = μ 66 3 + 1 ∧ m = fr_up (fr_up μ 68 (μ 66 3) c) 66 3 (μ 66 3 + 1)))) := by
  refine fr_enter (by decide +kernel) (ls := [some (fr_r κ 66), some (fr_i c)]) rfl (Nat.le_of_ble_eq_true rfl) ?_
  refine fr_il1 dX11_type_0 ?_
  refine fr_i2l dX11_type_1 (by omega) ?_
  refine fr_ldc2 dX11_type_2 clX11_92 ?_
  refine fr_ldc2 dX11_type_5 clX11_94 ?_
  refine fr_cSi (mi' := fmX11_in) dX11_type_8 mlX11_51 msX11_in (Nat.le_of_ble_eq_true rfl) (kcX11_in (by omega) (by omega) (by omega)) rfl rfl (Nat.le_of_ble_eq_true rfl) ?_
  refine fr_ifb_ne (tgt := 16) dX11_type_11 (by decide) (fun h1 => ?_) (fun h1 => ?_)
  · skip
    refine fr_al0 dX11_type_16 ?_
    refine fr_geti (kz := 3) dX11_type_17 flX11_96 ⟨by decide, by decide, rfl⟩ rfl rfl ?_
    refine fr_bipush dX11_type_20 (by decide) ?_
    refine fr_icmp_ne (tgt := 28) dX11_type_22 (by decide) (by omega) (by omega) (fun h2 => ?_) (fun h2 => ?_)
    · skip
      refine fr_al0 dX11_type_28 ?_
      refine fr_getr (cz := 68) dX11_type_29 flX11_13 ⟨by decide, by decide, rfl⟩ rfl rfl ?_
      refine fr_al0 dX11_type_32 ?_
      refine fr_geti (kz := 3) dX11_type_33 flX11_96 ⟨by decide, by decide, rfl⟩ rfl rfl ?_
      refine fr_il1 dX11_type_36 ?_
      refine fr_iast dX11_type_37 ⟨by decide, by decide, rfl, by decide⟩ (by omega) (by omega) ?_
      refine fr_al0 dX11_type_38 ?_
      refine fr_dup dX11_type_39 rfl ?_
      refine fr_geti (kz := 3) dX11_type_40 flX11_96 ⟨by decide, by decide, rfl⟩ rfl rfl ?_
      refine fr_iconst dX11_type_43 ?_
      refine fr_iadd dX11_type_44 ?_
      refine fr_put (kz := 3) dX11_type_45 fpX11_96 ⟨by decide, by decide, rfl⟩ rfl rfl (fun h => by cases h) ?_
      refine fr_al0 dX11_type_48 ?_
      refine fr_geti (kz := 3) dX11_type_49 flX11_96 ⟨by decide, by decide, rfl⟩ rfl rfl ?_
      exact fr_iret dX11_type_52 rfl (fr_pi (by first | exact Or.inl ⟨by omega, rfl, rfl⟩ | exact Or.inr (Or.inl ⟨by omega, by omega, rfl, rfl⟩) | exact Or.inr (Or.inr ⟨by omega, by omega, by simp [fr_up_get], by simp [fr_up_get]⟩)))
    · skip
      refine fr_bipush dX11_type_25 (by decide) ?_
      exact fr_iret dX11_type_27 rfl (fr_pi (by first | exact Or.inl ⟨by omega, rfl, rfl⟩ | exact Or.inr (Or.inl ⟨by omega, by omega, rfl, rfl⟩) | exact Or.inr (Or.inr ⟨by omega, by omega, by simp [fr_up_get], by simp [fr_up_get]⟩)))
  · skip
    refine fr_iconst dX11_type_14 ?_
    exact fr_iret dX11_type_15 rfl (fr_pi (by first | exact Or.inl ⟨by omega, rfl, rfl⟩ | exact Or.inr (Or.inl ⟨by omega, by omega, rfl, rfl⟩) | exact Or.inr (Or.inr ⟨by omega, by omega, by simp [fr_up_get], by simp [fr_up_get]⟩)))
set_option maxRecDepth 20000 in
theorem kcX11_nowSet {l : Launch} {κ : fr_Ka} {μ : fr_Me} (hI : fr_I (μ 67))  : fr_C l κ fmX11_nowSet 1 [fr_r κ 66] μ (fr_Ei (sp_orl (μ 67 0).toNat (fun t => if μ 67 (7 + t) = 5 then 0 else fr_shl 1 (μ 67 (7 + t)))) μ) := by
  have iN := hI.n
  have iM := hI.many
  refine fr_enter (by decide +kernel) (ls := [some (fr_r κ 66), none, none]) rfl (Nat.le_of_ble_eq_true rfl) ?_
  refine fr_iconst dX11_nowSet_0 ?_
  refine fr_is1 dX11_nowSet_1 rfl (Nat.le_of_ble_eq_true rfl) ?_
  refine fr_iconst dX11_nowSet_2 ?_
  refine fr_is2 dX11_nowSet_3 rfl (Nat.le_of_ble_eq_true rfl) ?_
  refine fr_wk ?_ (ls := [some (fr_r κ 66), some (fr_i _), some (fr_i (0 : Int))]) ⟨rfl, rfl, rfl, trivial⟩
  refine (fr_down (P := fun j : Nat => ∀ (x : Int), (x = sp_orl j (fun t => if μ 67 (7 + t) = 5 then 0 else fr_shl 1 (μ 67 (7 + t)))) → fr_A l κ fmX11_nowSet 1 (fr_Ei (sp_orl (μ 67 0).toNat (fun t => if μ 67 (7 + t) = 5 then 0 else fr_shl 1 (μ 67 (7 + t)))) μ) 4 [some (fr_r κ 66), some (fr_i x), some (fr_i (j : Int))] [] μ) (μ 67 0).toNat ?_ (fun j hj4 ih4 => ?_)) _ (rfl)
  · skip
    intro x hx
    refine fr_il2 dX11_nowSet_4 ?_
    refine fr_al0 dX11_nowSet_5 ?_
    refine fr_getr (cz := 67) dX11_nowSet_6 flX11_7 ⟨by decide, by decide, rfl⟩ rfl rfl ?_
    refine fr_iconst dX11_nowSet_9 ?_
    refine fr_iald dX11_nowSet_10 ⟨by decide, by decide, rfl, by decide⟩ (by omega) (by omega) ?_
    refine fr_icmp_ge (tgt := 51) dX11_nowSet_11 (by decide) (by omega) (by omega) (fun h1 => ?_) (fun h1 => ?_)
    · skip
      refine fr_il1 dX11_nowSet_51 ?_
      exact fr_iret dX11_nowSet_52 rfl (fr_e hx rfl)
    · skip
      exfalso; omega
  · skip
    intro x hx
    have iT := hI.tree (t := (j : Int)) (by omega) (by omega)
    unfold fr_It at iT
    refine fr_il2 dX11_nowSet_4 ?_
    refine fr_al0 dX11_nowSet_5 ?_
    refine fr_getr (cz := 67) dX11_nowSet_6 flX11_7 ⟨by decide, by decide, rfl⟩ rfl rfl ?_
    refine fr_iconst dX11_nowSet_9 ?_
    refine fr_iald dX11_nowSet_10 ⟨by decide, by decide, rfl, by decide⟩ (by omega) (by omega) ?_
    refine fr_icmp_ge (tgt := 51) dX11_nowSet_11 (by decide) (by omega) (by omega) (fun h2 => ?_) (fun h2 => ?_)
    · skip
      exfalso; omega
    · skip
      refine fr_il1 dX11_nowSet_14 ?_
      refine fr_al0 dX11_nowSet_15 ?_
      refine fr_getr (cz := 67) dX11_nowSet_16 flX11_7 ⟨by decide, by decide, rfl⟩ rfl rfl ?_
      refine fr_bipush dX11_nowSet_19 (by decide) ?_
      refine fr_il2 dX11_nowSet_21 ?_
      refine fr_iadd dX11_nowSet_22 ?_
      refine fr_iald dX11_nowSet_23 ⟨by decide, by decide, rfl, by decide⟩ (by omega) (by omega) ?_
      refine fr_iconst dX11_nowSet_24 ?_
      refine fr_icmp_ne (tgt := 32) dX11_nowSet_25 (by decide) (by omega) (by omega) (fun h3 => ?_) (fun h3 => ?_)
      · skip
        refine fr_iconst dX11_nowSet_32 ?_
        refine fr_al0 dX11_nowSet_33 ?_
        refine fr_getr (cz := 67) dX11_nowSet_34 flX11_7 ⟨by decide, by decide, rfl⟩ rfl rfl ?_
        refine fr_bipush dX11_nowSet_37 (by decide) ?_
        refine fr_il2 dX11_nowSet_39 ?_
        refine fr_iadd dX11_nowSet_40 ?_
        refine fr_iald dX11_nowSet_41 ⟨by decide, by decide, rfl, by decide⟩ (by omega) (by omega) ?_
        refine fr_ishl dX11_nowSet_42 ?_
        refine fr_ior dX11_nowSet_43 ?_
        refine fr_is1 dX11_nowSet_44 rfl (Nat.le_of_ble_eq_true rfl) ?_
        refine fr_ii2 dX11_nowSet_45 rfl (Nat.le_of_ble_eq_true rfl) ?_
        refine fr_goto (tgt := 4) dX11_nowSet_48 (by decide) ?_
        exact fr_wk (ih4 _ (by subst hx; simp only [sp_orl]; split <;> first | rfl | omega)) ⟨rfl, rfl, rfl, trivial⟩
      · skip
        refine fr_iconst dX11_nowSet_28 ?_
        refine fr_goto (tgt := 43) dX11_nowSet_29 (by decide) ?_
        refine fr_ior dX11_nowSet_43 ?_
        refine fr_is1 dX11_nowSet_44 rfl (Nat.le_of_ble_eq_true rfl) ?_
        refine fr_ii2 dX11_nowSet_45 rfl (Nat.le_of_ble_eq_true rfl) ?_
        refine fr_goto (tgt := 4) dX11_nowSet_48 (by decide) ?_
        exact fr_wk (ih4 _ (by subst hx; simp only [sp_orl]; split <;> first | rfl | omega)) ⟨rfl, rfl, rfl, trivial⟩
set_option maxRecDepth 20000 in
theorem kcX11_count {l : Launch} {κ : fr_Ka} {μ : fr_Me} (hI : fr_I (μ 67)) {what : Int} (rwhat : -2147483648 ≤ what ∧ what ≤ 2147483647) : fr_C l κ fmX11_count 2 [fr_r κ 66, fr_i what] μ (fr_Ei (if what = 0 then μ 67 0 else if what = 1 then μ 67 43 else if what = 2 then μ 67 75 else if what = 3 then μ 67 76 else if what = 4 then sp_orl (μ 67 0).toNat (fun t => if μ 67 (7 + t) = 5 then 0 else fr_shl 1 (μ 67 (7 + t))) else -1) μ) := by
  have iN := hI.n
  have iM := hI.many
  refine fr_enter (by decide +kernel) (ls := [some (fr_r κ 66), some (fr_i what)]) rfl (Nat.le_of_ble_eq_true rfl) ?_
  refine fr_il1 dX11_count_0 ?_
  rcases (by omega : what < 0 ∨ 4 < what ∨ what = 0 ∨ what = 1 ∨ what = 2 ∨ what = 3 ∨ what = 4) with h1 | h1 | h1 | h1 | h1 | h1 | h1
  · skip
    refine fr_tswOut (tgt := 72) dX11_count_1 (by omega) (Or.inl h1) (by decide) ?_
    refine fr_iconst dX11_count_72 ?_
    exact fr_iret dX11_count_73 rfl (fr_e (by (repeat' split) <;> first | rfl | omega) rfl)
  · skip
    refine fr_tswOut (tgt := 72) dX11_count_1 (by omega) (Or.inr h1) (by decide) ?_
    refine fr_iconst dX11_count_72 ?_
    exact fr_iret dX11_count_73 rfl (fr_e (by (repeat' split) <;> first | rfl | omega) rfl)
  · skip
    refine fr_tswIn (tgt := 36) (off := 35) dX11_count_1 (by omega) (by omega) (by omega) (by rw [h1]; rfl) (by decide) ?_
    refine fr_al0 dX11_count_36 ?_
    refine fr_getr (cz := 67) dX11_count_37 flX11_7 ⟨by decide, by decide, rfl⟩ rfl rfl ?_
    refine fr_iconst dX11_count_40 ?_
    refine fr_iald dX11_count_41 ⟨by decide, by decide, rfl, by decide⟩ (by omega) (by omega) ?_
    exact fr_iret dX11_count_42 rfl (fr_e (by (repeat' split) <;> first | rfl | omega) rfl)
  · skip
    refine fr_tswIn (tgt := 43) (off := 42) dX11_count_1 (by omega) (by omega) (by omega) (by rw [h1]; rfl) (by decide) ?_
    refine fr_al0 dX11_count_43 ?_
    refine fr_getr (cz := 67) dX11_count_44 flX11_7 ⟨by decide, by decide, rfl⟩ rfl rfl ?_
    refine fr_bipush dX11_count_47 (by decide) ?_
    refine fr_iald dX11_count_49 ⟨by decide, by decide, rfl, by decide⟩ (by omega) (by omega) ?_
    exact fr_iret dX11_count_50 rfl (fr_e (by (repeat' split) <;> first | rfl | omega) rfl)
  · skip
    refine fr_tswIn (tgt := 51) (off := 50) dX11_count_1 (by omega) (by omega) (by omega) (by rw [h1]; rfl) (by decide) ?_
    refine fr_al0 dX11_count_51 ?_
    refine fr_getr (cz := 67) dX11_count_52 flX11_7 ⟨by decide, by decide, rfl⟩ rfl rfl ?_
    refine fr_bipush dX11_count_55 (by decide) ?_
    refine fr_iald dX11_count_57 ⟨by decide, by decide, rfl, by decide⟩ (by omega) (by omega) ?_
    exact fr_iret dX11_count_58 rfl (fr_e (by (repeat' split) <;> first | rfl | omega) rfl)
  · skip
    refine fr_tswIn (tgt := 59) (off := 58) dX11_count_1 (by omega) (by omega) (by omega) (by rw [h1]; rfl) (by decide) ?_
    refine fr_al0 dX11_count_59 ?_
    refine fr_getr (cz := 67) dX11_count_60 flX11_7 ⟨by decide, by decide, rfl⟩ rfl rfl ?_
    refine fr_bipush dX11_count_63 (by decide) ?_
    refine fr_iald dX11_count_65 ⟨by decide, by decide, rfl, by decide⟩ (by omega) (by omega) ?_
    exact fr_iret dX11_count_66 rfl (fr_e (by (repeat' split) <;> first | rfl | omega) rfl)
  · skip
    refine fr_tswIn (tgt := 67) (off := 66) dX11_count_1 (by omega) (by omega) (by omega) (by rw [h1]; rfl) (by decide) ?_
    refine fr_al0 dX11_count_67 ?_
    refine fr_cVi (mi' := fmX11_nowSet) dX11_count_68 mlX11_124 mvX11_nowSet ⟨11, _, ⟨by decide, by decide, rfl⟩, rfl, rfl⟩ (Nat.le_of_ble_eq_true rfl) (kcX11_nowSet hI) rfl rfl (Nat.le_of_ble_eq_true rfl) ?_
    exact fr_iret dX11_count_71 rfl (fr_e (by (repeat' split) <;> first | rfl | omega) rfl)
set_option maxRecDepth 20000 in
theorem kcX11_plain {l : Launch} {κ : fr_Ka} {μ : fr_Me} {f : Int} (rf : -2147483648 ≤ f ∧ f ≤ 2147483647) : fr_C l κ fmX11_plain 1 [fr_i f] μ (fr_Ei (sp_pl f) μ) := by
  refine fr_enter (by decide +kernel) (ls := [some (fr_i f)]) rfl (Nat.le_of_ble_eq_true rfl) ?_
  refine fr_il0 dX11_plain_0 ?_
  refine fr_iconst dX11_plain_1 ?_
  refine fr_icmp_ne (tgt := 9) dX11_plain_2 (by decide) (by omega) (by omega) (fun h1 => ?_) (fun h1 => ?_)
  · skip
    refine fr_iconst dX11_plain_9 ?_
    exact fr_iret dX11_plain_10 rfl (fr_e (by unfold sp_pl; split <;> omega) rfl)
  · skip
    refine fr_iconst dX11_plain_5 ?_
    refine fr_goto (tgt := 10) dX11_plain_6 (by decide) ?_
    exact fr_iret dX11_plain_10 rfl (fr_e (by unfold sp_pl; split <;> omega) rfl)
set_option maxRecDepth 20000 in
theorem kcX11_borne {l : Launch} {κ : fr_Ka} {μ : fr_Me} (hI : fr_I (μ 67)) {kind f last fell before fb : Int} (hl : last = 5 ∨ (0 ≤ last ∧ last < μ 67 43)) (hb : before = 5 ∨ (0 ≤ before ∧ before < μ 67 43)) (rkind : -2147483648 ≤ kind ∧ kind ≤ 2147483647) (rf : -2147483648 ≤ f ∧ f ≤ 2147483647) (rfell : -2147483648 ≤ fell ∧ fell ≤ 2147483647) (rfb : -2147483648 ≤ fb ∧ fb ≤ 2147483647) : fr_C l κ fmX11_borne 2 [fr_r κ 66, fr_i kind, fr_i f, fr_i last, fr_i fell, fr_i before, fr_i fb] μ (fr_Ei (sp_bn (μ 67) kind f last fell before fb) μ) := by
  have iN := hI.n
  have iM := hI.many
  have b1 := sp_br_rg hI last
  have b2 := sp_br_rg hI before
  have p1 := sp_pl_rg fell
  have p2 := sp_pl_rg fb
  have d1 := sp_pl_half fell
  have d2 := sp_pl_half fb
  refine fr_enter (by decide +kernel) (ls := [some (fr_r κ 66), some (fr_i kind), some (fr_i f), some (fr_i last), some (fr_i fell), some (fr_i before), some (fr_i fb), none, none]) rfl (Nat.le_of_ble_eq_true rfl) ?_
  refine fr_al0 dX11_borne_0 ?_
  refine fr_il3 dX11_borne_1 ?_
  refine fr_cVi (mi' := fmX11_brings) dX11_borne_2 mlX11_76 mvX11_brings ⟨11, _, ⟨by decide, by decide, rfl⟩, rfl, rfl⟩ (Nat.le_of_ble_eq_true rfl) (kcX11_brings hI (by omega)) rfl rfl (Nat.le_of_ble_eq_true rfl) ?_
  refine fr_il2 dX11_borne_5 ?_
  refine fr_icmp_ne (tgt := 17) dX11_borne_6 (by decide) (by omega) (by omega) (fun h1 => ?_) (fun h1 => ?_)
  · skip
    refine fr_iconst dX11_borne_17 ?_
    refine fr_is7 dX11_borne_18 rfl (Nat.le_of_ble_eq_true rfl) ?_
    refine fr_al0 dX11_borne_20 ?_
    refine fr_il5 dX11_borne_21 ?_
    refine fr_cVi (mi' := fmX11_brings) dX11_borne_23 mlX11_76 mvX11_brings ⟨11, _, ⟨by decide, by decide, rfl⟩, rfl, rfl⟩ (Nat.le_of_ble_eq_true rfl) (kcX11_brings hI (by omega)) rfl rfl (Nat.le_of_ble_eq_true rfl) ?_
    refine fr_il2 dX11_borne_26 ?_
    refine fr_icmp_ne (tgt := 38) dX11_borne_27 (by decide) (by omega) (by omega) (fun h2 => ?_) (fun h2 => ?_)
    · skip
      refine fr_iconst dX11_borne_38 ?_
      refine fr_is8 dX11_borne_39 rfl (Nat.le_of_ble_eq_true rfl) ?_
      refine fr_il1 dX11_borne_41 ?_
      refine fr_iconst dX11_borne_42 ?_
      refine fr_icmp_ne (tgt := 58) dX11_borne_43 (by decide) (by omega) (by omega) (fun h3 => ?_) (fun h3 => ?_)
      · skip
        refine fr_il1 dX11_borne_58 ?_
        refine fr_iconst dX11_borne_59 ?_
        refine fr_icmp_ne (tgt := 70) dX11_borne_60 (by decide) (by omega) (by omega) (fun h4 => ?_) (fun h4 => ?_)
        · skip
          refine fr_il1 dX11_borne_70 ?_
          refine fr_iconst dX11_borne_71 ?_
          refine fr_icmp_ne (tgt := 80) dX11_borne_72 (by decide) (by omega) (by omega) (fun h5 => ?_) (fun h5 => ?_)
          · skip
            refine fr_il7 dX11_borne_80 ?_
            exact fr_iret dX11_borne_82 rfl (fr_e (by unfold sp_bn sp_sl sp_sb; (try simp only [d1, d2, Int.zero_tdiv]); (repeat' split) <;> omega) rfl)
          · skip
            refine fr_il8 dX11_borne_75 ?_
            refine fr_goto (tgt := 82) dX11_borne_77 (by decide) ?_
            exact fr_iret dX11_borne_82 rfl (fr_e (by unfold sp_bn sp_sl sp_sb; (try simp only [d1, d2, Int.zero_tdiv]); (repeat' split) <;> omega) rfl)
        · skip
          refine fr_iconst dX11_borne_63 ?_
          refine fr_il7 dX11_borne_64 ?_
          refine fr_imul dX11_borne_66 ?_
          refine fr_goto (tgt := 82) dX11_borne_67 (by decide) ?_
          exact fr_iret dX11_borne_82 rfl (fr_e (by unfold sp_bn sp_sl sp_sb; (try simp only [d1, d2, Int.zero_tdiv]); (repeat' split) <;> omega) rfl)
      · skip
        refine fr_il7 dX11_borne_46 ?_
        refine fr_iconst dX11_borne_48 ?_
        refine fr_idiv dX11_borne_49 (by omega) (by omega) (by omega) (by omega) ?_
        refine fr_il8 dX11_borne_50 ?_
        refine fr_iconst dX11_borne_52 ?_
        refine fr_idiv dX11_borne_53 (by omega) (by omega) (by omega) (by omega) ?_
        refine fr_iadd dX11_borne_54 ?_
        refine fr_goto (tgt := 82) dX11_borne_55 (by decide) ?_
        exact fr_iret dX11_borne_82 rfl (fr_e (by unfold sp_bn sp_sl sp_sb; (try simp only [d1, d2, Int.zero_tdiv]); (repeat' split) <;> omega) rfl)
    · skip
      refine fr_il6 dX11_borne_30 ?_
      refine fr_cSi (mi' := fmX11_plain) dX11_borne_32 mlX11_127 msX11_plain (Nat.le_of_ble_eq_true rfl) (kcX11_plain (by omega)) rfl rfl (Nat.le_of_ble_eq_true rfl) ?_
      refine fr_goto (tgt := 39) dX11_borne_35 (by decide) ?_
      refine fr_is8 dX11_borne_39 rfl (Nat.le_of_ble_eq_true rfl) ?_
      refine fr_il1 dX11_borne_41 ?_
      refine fr_iconst dX11_borne_42 ?_
      refine fr_icmp_ne (tgt := 58) dX11_borne_43 (by decide) (by omega) (by omega) (fun h6 => ?_) (fun h6 => ?_)
      · skip
        refine fr_il1 dX11_borne_58 ?_
        refine fr_iconst dX11_borne_59 ?_
        refine fr_icmp_ne (tgt := 70) dX11_borne_60 (by decide) (by omega) (by omega) (fun h7 => ?_) (fun h7 => ?_)
        · skip
          refine fr_il1 dX11_borne_70 ?_
          refine fr_iconst dX11_borne_71 ?_
          refine fr_icmp_ne (tgt := 80) dX11_borne_72 (by decide) (by omega) (by omega) (fun h8 => ?_) (fun h8 => ?_)
          · skip
            refine fr_il7 dX11_borne_80 ?_
            exact fr_iret dX11_borne_82 rfl (fr_e (by unfold sp_bn sp_sl sp_sb; (try simp only [d1, d2, Int.zero_tdiv]); (repeat' split) <;> omega) rfl)
          · skip
            refine fr_il8 dX11_borne_75 ?_
            refine fr_goto (tgt := 82) dX11_borne_77 (by decide) ?_
            exact fr_iret dX11_borne_82 rfl (fr_e (by unfold sp_bn sp_sl sp_sb; (try simp only [d1, d2, Int.zero_tdiv]); (repeat' split) <;> omega) rfl)
        · skip
          refine fr_iconst dX11_borne_63 ?_
          refine fr_il7 dX11_borne_64 ?_
          refine fr_imul dX11_borne_66 ?_
          refine fr_goto (tgt := 82) dX11_borne_67 (by decide) ?_
          exact fr_iret dX11_borne_82 rfl (fr_e (by unfold sp_bn sp_sl sp_sb; (try simp only [d1, d2, Int.zero_tdiv]); (repeat' split) <;> omega) rfl)
      · skip
        refine fr_il7 dX11_borne_46 ?_
        refine fr_iconst dX11_borne_48 ?_
        refine fr_idiv dX11_borne_49 (by omega) (by omega) (by omega) (by omega) ?_
        refine fr_il8 dX11_borne_50 ?_
        refine fr_iconst dX11_borne_52 ?_
        refine fr_idiv dX11_borne_53 (by omega) (by omega) (by omega) (by omega) ?_
        refine fr_iadd dX11_borne_54 ?_
        refine fr_goto (tgt := 82) dX11_borne_55 (by decide) ?_
        exact fr_iret dX11_borne_82 rfl (fr_e (by unfold sp_bn sp_sl sp_sb; (try simp only [d1, d2, Int.zero_tdiv]); (repeat' split) <;> omega) rfl)
  · skip
    refine fr_il4 dX11_borne_9 ?_
    refine fr_cSi (mi' := fmX11_plain) dX11_borne_11 mlX11_127 msX11_plain (Nat.le_of_ble_eq_true rfl) (kcX11_plain (by omega)) rfl rfl (Nat.le_of_ble_eq_true rfl) ?_
    refine fr_goto (tgt := 18) dX11_borne_14 (by decide) ?_
    refine fr_is7 dX11_borne_18 rfl (Nat.le_of_ble_eq_true rfl) ?_
    refine fr_al0 dX11_borne_20 ?_
    refine fr_il5 dX11_borne_21 ?_
    refine fr_cVi (mi' := fmX11_brings) dX11_borne_23 mlX11_76 mvX11_brings ⟨11, _, ⟨by decide, by decide, rfl⟩, rfl, rfl⟩ (Nat.le_of_ble_eq_true rfl) (kcX11_brings hI (by omega)) rfl rfl (Nat.le_of_ble_eq_true rfl) ?_
    refine fr_il2 dX11_borne_26 ?_
    refine fr_icmp_ne (tgt := 38) dX11_borne_27 (by decide) (by omega) (by omega) (fun h9 => ?_) (fun h9 => ?_)
    · skip
      refine fr_iconst dX11_borne_38 ?_
      refine fr_is8 dX11_borne_39 rfl (Nat.le_of_ble_eq_true rfl) ?_
      refine fr_il1 dX11_borne_41 ?_
      refine fr_iconst dX11_borne_42 ?_
      refine fr_icmp_ne (tgt := 58) dX11_borne_43 (by decide) (by omega) (by omega) (fun h10 => ?_) (fun h10 => ?_)
      · skip
        refine fr_il1 dX11_borne_58 ?_
        refine fr_iconst dX11_borne_59 ?_
        refine fr_icmp_ne (tgt := 70) dX11_borne_60 (by decide) (by omega) (by omega) (fun h11 => ?_) (fun h11 => ?_)
        · skip
          refine fr_il1 dX11_borne_70 ?_
          refine fr_iconst dX11_borne_71 ?_
          refine fr_icmp_ne (tgt := 80) dX11_borne_72 (by decide) (by omega) (by omega) (fun h12 => ?_) (fun h12 => ?_)
          · skip
            refine fr_il7 dX11_borne_80 ?_
            exact fr_iret dX11_borne_82 rfl (fr_e (by unfold sp_bn sp_sl sp_sb; (try simp only [d1, d2, Int.zero_tdiv]); (repeat' split) <;> omega) rfl)
          · skip
            refine fr_il8 dX11_borne_75 ?_
            refine fr_goto (tgt := 82) dX11_borne_77 (by decide) ?_
            exact fr_iret dX11_borne_82 rfl (fr_e (by unfold sp_bn sp_sl sp_sb; (try simp only [d1, d2, Int.zero_tdiv]); (repeat' split) <;> omega) rfl)
        · skip
          refine fr_iconst dX11_borne_63 ?_
          refine fr_il7 dX11_borne_64 ?_
          refine fr_imul dX11_borne_66 ?_
          refine fr_goto (tgt := 82) dX11_borne_67 (by decide) ?_
          exact fr_iret dX11_borne_82 rfl (fr_e (by unfold sp_bn sp_sl sp_sb; (try simp only [d1, d2, Int.zero_tdiv]); (repeat' split) <;> omega) rfl)
      · skip
        refine fr_il7 dX11_borne_46 ?_
        refine fr_iconst dX11_borne_48 ?_
        refine fr_idiv dX11_borne_49 (by omega) (by omega) (by omega) (by omega) ?_
        refine fr_il8 dX11_borne_50 ?_
        refine fr_iconst dX11_borne_52 ?_
        refine fr_idiv dX11_borne_53 (by omega) (by omega) (by omega) (by omega) ?_
        refine fr_iadd dX11_borne_54 ?_
        refine fr_goto (tgt := 82) dX11_borne_55 (by decide) ?_
        exact fr_iret dX11_borne_82 rfl (fr_e (by unfold sp_bn sp_sl sp_sb; (try simp only [d1, d2, Int.zero_tdiv]); (repeat' split) <;> omega) rfl)
    · skip
      refine fr_il6 dX11_borne_30 ?_
      refine fr_cSi (mi' := fmX11_plain) dX11_borne_32 mlX11_127 msX11_plain (Nat.le_of_ble_eq_true rfl) (kcX11_plain (by omega)) rfl rfl (Nat.le_of_ble_eq_true rfl) ?_
      refine fr_goto (tgt := 39) dX11_borne_35 (by decide) ?_
      refine fr_is8 dX11_borne_39 rfl (Nat.le_of_ble_eq_true rfl) ?_
      refine fr_il1 dX11_borne_41 ?_
      refine fr_iconst dX11_borne_42 ?_
      refine fr_icmp_ne (tgt := 58) dX11_borne_43 (by decide) (by omega) (by omega) (fun h13 => ?_) (fun h13 => ?_)
      · skip
        refine fr_il1 dX11_borne_58 ?_
        refine fr_iconst dX11_borne_59 ?_
        refine fr_icmp_ne (tgt := 70) dX11_borne_60 (by decide) (by omega) (by omega) (fun h14 => ?_) (fun h14 => ?_)
        · skip
          refine fr_il1 dX11_borne_70 ?_
          refine fr_iconst dX11_borne_71 ?_
          refine fr_icmp_ne (tgt := 80) dX11_borne_72 (by decide) (by omega) (by omega) (fun h15 => ?_) (fun h15 => ?_)
          · skip
            refine fr_il7 dX11_borne_80 ?_
            exact fr_iret dX11_borne_82 rfl (fr_e (by unfold sp_bn sp_sl sp_sb; (try simp only [d1, d2, Int.zero_tdiv]); (repeat' split) <;> omega) rfl)
          · skip
            refine fr_il8 dX11_borne_75 ?_
            refine fr_goto (tgt := 82) dX11_borne_77 (by decide) ?_
            exact fr_iret dX11_borne_82 rfl (fr_e (by unfold sp_bn sp_sl sp_sb; (try simp only [d1, d2, Int.zero_tdiv]); (repeat' split) <;> omega) rfl)
        · skip
          refine fr_iconst dX11_borne_63 ?_
          refine fr_il7 dX11_borne_64 ?_
          refine fr_imul dX11_borne_66 ?_
          refine fr_goto (tgt := 82) dX11_borne_67 (by decide) ?_
          exact fr_iret dX11_borne_82 rfl (fr_e (by unfold sp_bn sp_sl sp_sb; (try simp only [d1, d2, Int.zero_tdiv]); (repeat' split) <;> omega) rfl)
      · skip
        refine fr_il7 dX11_borne_46 ?_
        refine fr_iconst dX11_borne_48 ?_
        refine fr_idiv dX11_borne_49 (by omega) (by omega) (by omega) (by omega) ?_
        refine fr_il8 dX11_borne_50 ?_
        refine fr_iconst dX11_borne_52 ?_
        refine fr_idiv dX11_borne_53 (by omega) (by omega) (by omega) (by omega) ?_
        refine fr_iadd dX11_borne_54 ?_
        refine fr_goto (tgt := 82) dX11_borne_55 (by decide) ?_
        exact fr_iret dX11_borne_82 rfl (fr_e (by unfold sp_bn sp_sl sp_sb; (try simp only [d1, d2, Int.zero_tdiv]); (repeat' split) <;> omega) rfl)
set_option maxRecDepth 20000 in
theorem kcX11_bearsNow {l : Launch} {κ : fr_Ka} {μ : fr_Me} (hI : fr_I (μ 67)) {t f : Int} (ht : 0 ≤ t ∧ t < μ 67 0) (hf : 0 ≤ f ∧ f < 10)  : fr_C l κ fmX11_bearsNow 3 [fr_r κ 66, fr_i t, fr_i f] μ (fr_Ei (sp_now (μ 67) t f) μ) := by
  have iN := hI.n
  have iM := hI.many
  have iT := hI.tree (t := t) (by omega) (by omega)
  unfold fr_It at iT
  unfold sp_ok at iT
  refine fr_enter (by decide +kernel) (ls := [some (fr_r κ 66), some (fr_i t), some (fr_i f)]) rfl (Nat.le_of_ble_eq_true rfl) ?_
  refine fr_al0 dX11_bearsNow_0 ?_
  refine fr_al0 dX11_bearsNow_1 ?_
  refine fr_getr (cz := 67) dX11_bearsNow_2 flX11_7 ⟨by decide, by decide, rfl⟩ rfl rfl ?_
  refine fr_iconst dX11_bearsNow_5 ?_
  refine fr_il1 dX11_bearsNow_6 ?_
  refine fr_iadd dX11_bearsNow_7 ?_
  refine fr_iald dX11_bearsNow_8 ⟨by decide, by decide, rfl, by decide⟩ (by omega) (by omega) ?_
  refine fr_il2 dX11_bearsNow_9 ?_
  refine fr_al0 dX11_bearsNow_10 ?_
  refine fr_getr (cz := 67) dX11_bearsNow_11 flX11_7 ⟨by decide, by decide, rfl⟩ rfl rfl ?_
  refine fr_bipush dX11_bearsNow_14 (by decide) ?_
  refine fr_il1 dX11_bearsNow_16 ?_
  refine fr_iadd dX11_bearsNow_17 ?_
  refine fr_iald dX11_bearsNow_18 ⟨by decide, by decide, rfl, by decide⟩ (by omega) (by omega) ?_
  refine fr_al0 dX11_bearsNow_19 ?_
  refine fr_getr (cz := 67) dX11_bearsNow_20 flX11_7 ⟨by decide, by decide, rfl⟩ rfl rfl ?_
  refine fr_bipush dX11_bearsNow_23 (by decide) ?_
  refine fr_il1 dX11_bearsNow_25 ?_
  refine fr_iadd dX11_bearsNow_26 ?_
  refine fr_iald dX11_bearsNow_27 ⟨by decide, by decide, rfl, by decide⟩ (by omega) (by omega) ?_
  refine fr_al0 dX11_bearsNow_28 ?_
  refine fr_getr (cz := 67) dX11_bearsNow_29 flX11_7 ⟨by decide, by decide, rfl⟩ rfl rfl ?_
  refine fr_bipush dX11_bearsNow_32 (by decide) ?_
  refine fr_il1 dX11_bearsNow_34 ?_
  refine fr_iadd dX11_bearsNow_35 ?_
  refine fr_iald dX11_bearsNow_36 ⟨by decide, by decide, rfl, by decide⟩ (by omega) (by omega) ?_
  refine fr_al0 dX11_bearsNow_37 ?_
  refine fr_getr (cz := 67) dX11_bearsNow_38 flX11_7 ⟨by decide, by decide, rfl⟩ rfl rfl ?_
  refine fr_bipush dX11_bearsNow_41 (by decide) ?_
  refine fr_il1 dX11_bearsNow_43 ?_
  refine fr_iadd dX11_bearsNow_44 ?_
  refine fr_iald dX11_bearsNow_45 ⟨by decide, by decide, rfl, by decide⟩ (by omega) (by omega) ?_
  refine fr_cVi (mi' := fmX11_borne) dX11_bearsNow_46 mlX11_130 mvX11_borne ⟨11, _, ⟨by decide, by decide, rfl⟩, rfl, rfl⟩ (Nat.le_of_ble_eq_true rfl) (kcX11_borne hI (by omega) (by omega) (by omega) (by omega) (by omega) (by omega)) rfl rfl (Nat.le_of_ble_eq_true rfl) ?_
  exact fr_iret dX11_bearsNow_49 rfl (fr_e rfl rfl)
set_option maxRecDepth 20000 in
theorem kcX11_bearsNext {l : Launch} {κ : fr_Ka} {μ : fr_Me} (hI : fr_I (μ 67)) {t f : Int} (ht : 0 ≤ t ∧ t < μ 67 0) (hf : 0 ≤ f ∧ f < 10) {c fl : Int} (hc : c = 5 ∨ (0 ≤ c ∧ c < μ 67 43)) (hfl : 0 ≤ fl ∧ fl ≤ 1) : fr_C l κ fmX11_bearsNext 3 [fr_r κ 66, fr_i t, fr_i f, fr_i c, fr_i fl] μ (fr_Ei (sp_nxt (μ 67) t f c fl) μ) := by
  have iN := hI.n
  have iM := hI.many
  have iT := hI.tree (t := t) (by omega) (by omega)
  unfold fr_It at iT
  unfold sp_ok at iT
  refine fr_enter (by decide +kernel) (ls := [some (fr_r κ 66), some (fr_i t), some (fr_i f), some (fr_i c), some (fr_i fl)]) rfl (Nat.le_of_ble_eq_true rfl) ?_
  refine fr_al0 dX11_bearsNext_0 ?_
  refine fr_al0 dX11_bearsNext_1 ?_
  refine fr_getr (cz := 67) dX11_bearsNext_2 flX11_7 ⟨by decide, by decide, rfl⟩ rfl rfl ?_
  refine fr_iconst dX11_bearsNext_5 ?_
  refine fr_il1 dX11_bearsNext_6 ?_
  refine fr_iadd dX11_bearsNext_7 ?_
  refine fr_iald dX11_bearsNext_8 ⟨by decide, by decide, rfl, by decide⟩ (by omega) (by omega) ?_
  refine fr_il2 dX11_bearsNext_9 ?_
  refine fr_il3 dX11_bearsNext_10 ?_
  refine fr_il4 dX11_bearsNext_11 ?_
  refine fr_al0 dX11_bearsNext_13 ?_
  refine fr_getr (cz := 67) dX11_bearsNext_14 flX11_7 ⟨by decide, by decide, rfl⟩ rfl rfl ?_
  refine fr_bipush dX11_bearsNext_17 (by decide) ?_
  refine fr_il1 dX11_bearsNext_19 ?_
  refine fr_iadd dX11_bearsNext_20 ?_
  refine fr_iald dX11_bearsNext_21 ⟨by decide, by decide, rfl, by decide⟩ (by omega) (by omega) ?_
  refine fr_al0 dX11_bearsNext_22 ?_
  refine fr_getr (cz := 67) dX11_bearsNext_23 flX11_7 ⟨by decide, by decide, rfl⟩ rfl rfl ?_
  refine fr_bipush dX11_bearsNext_26 (by decide) ?_
  refine fr_il1 dX11_bearsNext_28 ?_
  refine fr_iadd dX11_bearsNext_29 ?_
  refine fr_iald dX11_bearsNext_30 ⟨by decide, by decide, rfl, by decide⟩ (by omega) (by omega) ?_
  refine fr_cVi (mi' := fmX11_borne) dX11_bearsNext_31 mlX11_130 mvX11_borne ⟨11, _, ⟨by decide, by decide, rfl⟩, rfl, rfl⟩ (Nat.le_of_ble_eq_true rfl) (kcX11_borne hI (by omega) (by omega) (by omega) (by omega) (by omega) (by omega)) rfl rfl (Nat.le_of_ble_eq_true rfl) ?_
  exact fr_iret dX11_bearsNext_34 rfl (fr_e rfl rfl)
set_option maxRecDepth 20000 in
theorem kcX11_worthNext {l : Launch} {κ : fr_Ka} {μ : fr_Me} (hI : fr_I (μ 67)) {t : Int} (ht : 0 ≤ t ∧ t < μ 67 0) {c fl : Int} (hc : c = 5 ∨ (0 ≤ c ∧ c < μ 67 43)) (hfl : 0 ≤ fl ∧ fl ≤ 1) : fr_C l κ fmX11_worthNext 4 [fr_r κ 66, fr_i t, fr_i c, fr_i fl] μ (fr_Ei (sp_wn (μ 67) t c fl) μ) := by
  have iN := hI.n
  have iM := hI.many
  refine fr_enter (by decide +kernel) (ls := [some (fr_r κ 66), some (fr_i t), some (fr_i c), some (fr_i fl), none, none]) rfl (Nat.le_of_ble_eq_true rfl) ?_
  refine fr_iconst dX11_worthNext_0 ?_
  refine fr_is4 dX11_worthNext_1 rfl (Nat.le_of_ble_eq_true rfl) ?_
  refine fr_iconst dX11_worthNext_3 ?_
  refine fr_is5 dX11_worthNext_4 rfl (Nat.le_of_ble_eq_true rfl) ?_
  refine fr_wk ?_ (ls := [some (fr_r κ 66), some (fr_i t), some (fr_i c), some (fr_i fl), some (fr_i (sp_sum 0 (fun f => μ 67 (64 + f) * sp_nxt (μ 67) t f c fl))), some (fr_i (0 : Int))]) ⟨rfl, rfl, rfl, rfl, rfl, rfl, trivial⟩
  refine fr_down (P := fun j : Nat => fr_A l κ fmX11_worthNext 4 (fr_Ei (sp_wn (μ 67) t c fl) μ) 6 [some (fr_r κ 66), some (fr_i t), some (fr_i c), some (fr_i fl), some (fr_i (sp_sum j (fun f => μ 67 (64 + f) * sp_nxt (μ 67) t f c fl))), some (fr_i (j : Int))] [] μ) 10 ?_ (fun j hj6 ih6 => ?_)
  · skip
    refine fr_il5 dX11_worthNext_6 ?_
    refine fr_bipush dX11_worthNext_8 (by decide) ?_
    refine fr_icmp_ge (tgt := 44) dX11_worthNext_10 (by decide) (by omega) (by omega) (fun h1 => ?_) (fun h1 => ?_)
    · skip
      refine fr_il4 dX11_worthNext_44 ?_
      exact fr_iret dX11_worthNext_46 rfl (fr_e rfl rfl)
    · skip
      exfalso; omega
  · skip
    refine fr_il5 dX11_worthNext_6 ?_
    refine fr_bipush dX11_worthNext_8 (by decide) ?_
    refine fr_icmp_ge (tgt := 44) dX11_worthNext_10 (by decide) (by omega) (by omega) (fun h2 => ?_) (fun h2 => ?_)
    · skip
      exfalso; omega
    · skip
      refine fr_il4 dX11_worthNext_13 ?_
      refine fr_al0 dX11_worthNext_15 ?_
      refine fr_getr (cz := 67) dX11_worthNext_16 flX11_7 ⟨by decide, by decide, rfl⟩ rfl rfl ?_
      refine fr_bipush dX11_worthNext_19 (by decide) ?_
      refine fr_il5 dX11_worthNext_21 ?_
      refine fr_iadd dX11_worthNext_23 ?_
      refine fr_iald dX11_worthNext_24 ⟨by decide, by decide, rfl, by decide⟩ (by omega) (by omega) ?_
      refine fr_al0 dX11_worthNext_25 ?_
      refine fr_il1 dX11_worthNext_26 ?_
      refine fr_il5 dX11_worthNext_27 ?_
      refine fr_il2 dX11_worthNext_29 ?_
      refine fr_il3 dX11_worthNext_30 ?_
      refine fr_cVi (mi' := fmX11_bearsNext) dX11_worthNext_31 mlX11_134 mvX11_bearsNext ⟨11, _, ⟨by decide, by decide, rfl⟩, rfl, rfl⟩ (Nat.le_of_ble_eq_true rfl) (kcX11_bearsNext hI (by omega) (by omega) (by omega) (by omega)) rfl rfl (Nat.le_of_ble_eq_true rfl) ?_
      refine fr_imul dX11_worthNext_34 ?_
      refine fr_iadd dX11_worthNext_35 ?_
      refine fr_is4 dX11_worthNext_36 rfl (Nat.le_of_ble_eq_true rfl) ?_
      refine fr_ii5 dX11_worthNext_38 rfl (Nat.le_of_ble_eq_true rfl) ?_
      refine fr_goto (tgt := 6) dX11_worthNext_41 (by decide) ?_
      exact fr_wk (ih6) ⟨rfl, rfl, rfl, rfl, rfl, rfl, trivial⟩
set_option maxRecDepth 20000 in
theorem kcX11_bears {l : Launch} {κ : fr_Ka} {μ : fr_Me} (hI : fr_I (μ 67)) {t f : Int} (rt : -2147483648 ≤ t ∧ t ≤ 2147483647) (rf : -2147483648 ≤ f ∧ f ≤ 2147483647) : fr_C l κ fmX11_bears 4 [fr_r κ 66, fr_i t, fr_i f] μ (fr_Ei (if (0 ≤ t ∧ t < μ 67 0) ∧ (0 ≤ f ∧ f ≤ 9) then sp_now (μ 67) t f else -1) μ) := by
  have iN := hI.n
  have iM := hI.many
  refine fr_enter (by decide +kernel) (ls := [some (fr_r κ 66), some (fr_i t), some (fr_i f)]) rfl (Nat.le_of_ble_eq_true rfl) ?_
  refine fr_al0 dX11_bears_0 ?_
  refine fr_il1 dX11_bears_1 ?_
  refine fr_cVi (mi' := fmX11_isTree) dX11_bears_2 mlX11_61 mvX11_isTree ⟨11, _, ⟨by decide, by decide, rfl⟩, rfl, rfl⟩ (Nat.le_of_ble_eq_true rfl) (kcX11_isTree hI (by omega)) rfl rfl (Nat.le_of_ble_eq_true rfl) ?_
  refine fr_ifb_eq (tgt := 29) dX11_bears_5 (by decide) (fun h1 => ?_) (fun h1 => ?_)
  · skip
    refine fr_iconst dX11_bears_29 ?_
    exact fr_iret dX11_bears_30 rfl (fr_e (by (repeat' split) <;> first | rfl | omega) rfl)
  · skip
    refine fr_il2 dX11_bears_8 ?_
    refine fr_i2l dX11_bears_9 (by omega) ?_
    refine fr_lconst0 dX11_bears_10 ?_
    refine fr_ldc2 dX11_bears_11 clX11_65 ?_
    refine fr_cSi (mi' := fmX11_in) dX11_bears_14 mlX11_51 msX11_in (Nat.le_of_ble_eq_true rfl) (kcX11_in (by omega) (by omega) (by omega)) rfl rfl (Nat.le_of_ble_eq_true rfl) ?_
    refine fr_ifb_eq (tgt := 29) dX11_bears_17 (by decide) (fun h2 => ?_) (fun h2 => ?_)
    · skip
      refine fr_iconst dX11_bears_29 ?_
      exact fr_iret dX11_bears_30 rfl (fr_e (by (repeat' split) <;> first | rfl | omega) rfl)
    · skip
      refine fr_al0 dX11_bears_20 ?_
      refine fr_il1 dX11_bears_21 ?_
      refine fr_il2 dX11_bears_22 ?_
      refine fr_cVi (mi' := fmX11_bearsNow) dX11_bears_23 mlX11_138 mvX11_bearsNow ⟨11, _, ⟨by decide, by decide, rfl⟩, rfl, rfl⟩ (Nat.le_of_ble_eq_true rfl) (kcX11_bearsNow hI (by omega) (by omega)) rfl rfl (Nat.le_of_ble_eq_true rfl) ?_
      refine fr_goto (tgt := 30) dX11_bears_26 (by decide) ?_
      exact fr_iret dX11_bears_30 rfl (fr_e (by (repeat' split) <;> first | rfl | omega) rfl)
set_option maxRecDepth 20000 in
theorem kcX11_basketOf {l : Launch} {κ : fr_Ka} {μ : fr_Me} (hI : fr_I (μ 67)) {f what : Int} (hf : 0 ≤ f ∧ f < 10) (hw : 0 ≤ what ∧ what ≤ 1) : fr_C l κ fmX11_basketOf 4 [fr_r κ 66, fr_i f, fr_i what] μ (fr_Ei (sp_bask (μ 67) f what) μ) := by
  have iN := hI.n
  have iM := hI.many
  refine fr_enter (by decide +kernel) (ls := [some (fr_r κ 66), some (fr_i f), some (fr_i what), none, none]) rfl (Nat.le_of_ble_eq_true rfl) ?_
  refine fr_iconst dX11_basketOf_0 ?_
  refine fr_is3 dX11_basketOf_1 rfl (Nat.le_of_ble_eq_true rfl) ?_
  refine fr_iconst dX11_basketOf_2 ?_
  refine fr_is4 dX11_basketOf_3 rfl (Nat.le_of_ble_eq_true rfl) ?_
  refine fr_wk ?_ (ls := [some (fr_r κ 66), some (fr_i f), some (fr_i what), some (fr_i _), some (fr_i (0 : Int))]) ⟨rfl, rfl, rfl, rfl, rfl, trivial⟩
  refine (fr_down (P := fun j : Nat => ∀ (x : Int), (x = sp_sum j (fun t => if what = 0 then sp_now (μ 67) t f else sp_nxt (μ 67) t f (μ 67 (7 + t)) 0)) → fr_A l κ fmX11_basketOf 4 (fr_Ei (sp_bask (μ 67) f what) μ) 5 [some (fr_r κ 66), some (fr_i f), some (fr_i what), some (fr_i x), some (fr_i (j : Int))] [] μ) (μ 67 0).toNat ?_ (fun j hj5 ih5 => ?_)) _ (rfl)
  · skip
    intro x hx
    refine fr_il4 dX11_basketOf_5 ?_
    refine fr_al0 dX11_basketOf_7 ?_
    refine fr_getr (cz := 67) dX11_basketOf_8 flX11_7 ⟨by decide, by decide, rfl⟩ rfl rfl ?_
    refine fr_iconst dX11_basketOf_11 ?_
    refine fr_iald dX11_basketOf_12 ⟨by decide, by decide, rfl, by decide⟩ (by omega) (by omega) ?_
    refine fr_icmp_ge (tgt := 57) dX11_basketOf_13 (by decide) (by omega) (by omega) (fun h1 => ?_) (fun h1 => ?_)
    · skip
      refine fr_il3 dX11_basketOf_57 ?_
      exact fr_iret dX11_basketOf_58 rfl (fr_e hx rfl)
    · skip
      exfalso; omega
  · skip
    intro x hx
    have iT := hI.tree (t := (j : Int)) (by omega) (by omega)
    unfold fr_It at iT
    unfold sp_ok at iT
    refine fr_il4 dX11_basketOf_5 ?_
    refine fr_al0 dX11_basketOf_7 ?_
    refine fr_getr (cz := 67) dX11_basketOf_8 flX11_7 ⟨by decide, by decide, rfl⟩ rfl rfl ?_
    refine fr_iconst dX11_basketOf_11 ?_
    refine fr_iald dX11_basketOf_12 ⟨by decide, by decide, rfl, by decide⟩ (by omega) (by omega) ?_
    refine fr_icmp_ge (tgt := 57) dX11_basketOf_13 (by decide) (by omega) (by omega) (fun h2 => ?_) (fun h2 => ?_)
    · skip
      exfalso; omega
    · skip
      refine fr_il3 dX11_basketOf_16 ?_
      refine fr_il2 dX11_basketOf_17 ?_
      refine fr_if_ne (tgt := 31) dX11_basketOf_18 (by decide) (by omega) (fun h3 => ?_) (fun h3 => ?_)
      · skip
        refine fr_al0 dX11_basketOf_31 ?_
        refine fr_il4 dX11_basketOf_32 ?_
        refine fr_il1 dX11_basketOf_34 ?_
        refine fr_al0 dX11_basketOf_35 ?_
        refine fr_getr (cz := 67) dX11_basketOf_36 flX11_7 ⟨by decide, by decide, rfl⟩ rfl rfl ?_
        refine fr_bipush dX11_basketOf_39 (by decide) ?_
        refine fr_il4 dX11_basketOf_41 ?_
        refine fr_iadd dX11_basketOf_43 ?_
        refine fr_iald dX11_basketOf_44 ⟨by decide, by decide, rfl, by decide⟩ (by omega) (by omega) ?_
        refine fr_iconst dX11_basketOf_45 ?_
        refine fr_cVi (mi' := fmX11_bearsNext) dX11_basketOf_46 mlX11_134 mvX11_bearsNext ⟨11, _, ⟨by decide, by decide, rfl⟩, rfl, rfl⟩ (Nat.le_of_ble_eq_true rfl) (kcX11_bearsNext hI (by omega) (by omega) (by omega) (by omega)) rfl rfl (Nat.le_of_ble_eq_true rfl) ?_
        refine fr_iadd dX11_basketOf_49 ?_
        refine fr_is3 dX11_basketOf_50 rfl (Nat.le_of_ble_eq_true rfl) ?_
        refine fr_ii4 dX11_basketOf_51 rfl (Nat.le_of_ble_eq_true rfl) ?_
        refine fr_goto (tgt := 5) dX11_basketOf_54 (by decide) ?_
        exact fr_wk (ih5 _ (by subst hx; simp only [sp_sum]; split <;> first | rfl | omega)) ⟨rfl, rfl, rfl, rfl, rfl, trivial⟩
      · skip
        refine fr_al0 dX11_basketOf_21 ?_
        refine fr_il4 dX11_basketOf_22 ?_
        refine fr_il1 dX11_basketOf_24 ?_
        refine fr_cVi (mi' := fmX11_bearsNow) dX11_basketOf_25 mlX11_138 mvX11_bearsNow ⟨11, _, ⟨by decide, by decide, rfl⟩, rfl, rfl⟩ (Nat.le_of_ble_eq_true rfl) (kcX11_bearsNow hI (by omega) (by omega)) rfl rfl (Nat.le_of_ble_eq_true rfl) ?_
        refine fr_goto (tgt := 49) dX11_basketOf_28 (by decide) ?_
        refine fr_iadd dX11_basketOf_49 ?_
        refine fr_is3 dX11_basketOf_50 rfl (Nat.le_of_ble_eq_true rfl) ?_
        refine fr_ii4 dX11_basketOf_51 rfl (Nat.le_of_ble_eq_true rfl) ?_
        refine fr_goto (tgt := 5) dX11_basketOf_54 (by decide) ?_
        exact fr_wk (ih5 _ (by subst hx; simp only [sp_sum]; split <;> first | rfl | omega)) ⟨rfl, rfl, rfl, rfl, rfl, trivial⟩
set_option maxRecDepth 20000 in
theorem kcX11_basket {l : Launch} {κ : fr_Ka} {μ : fr_Me} (hI : fr_I (μ 67)) {f what : Int} (rf : -2147483648 ≤ f ∧ f ≤ 2147483647) (rwhat : -2147483648 ≤ what ∧ what ≤ 2147483647) : fr_C l κ fmX11_basket 5 [fr_r κ 66, fr_i f, fr_i what] μ (fr_Ei (if (0 ≤ f ∧ f ≤ 9) ∧ (0 ≤ what ∧ what ≤ 1) then sp_bask (μ 67) f what else -1) μ) := by
  have iN := hI.n
  have iM := hI.many
  refine fr_enter (by decide +kernel) (ls := [some (fr_r κ 66), some (fr_i f), some (fr_i what)]) rfl (Nat.le_of_ble_eq_true rfl) ?_
  refine fr_il1 dX11_basket_0 ?_
  refine fr_i2l dX11_basket_1 (by omega) ?_
  refine fr_lconst0 dX11_basket_2 ?_
  refine fr_ldc2 dX11_basket_3 clX11_65 ?_
  refine fr_cSi (mi' := fmX11_in) dX11_basket_6 mlX11_51 msX11_in (Nat.le_of_ble_eq_true rfl) (kcX11_in (by omega) (by omega) (by omega)) rfl rfl (Nat.le_of_ble_eq_true rfl) ?_
  refine fr_ifb_eq (tgt := 31) dX11_basket_9 (by decide) (fun h1 => ?_) (fun h1 => ?_)
  · skip
    refine fr_iconst dX11_basket_31 ?_
    exact fr_iret dX11_basket_32 rfl (fr_e (by (repeat' split) <;> first | rfl | omega) rfl)
  · skip
    refine fr_il2 dX11_basket_12 ?_
    refine fr_i2l dX11_basket_13 (by omega) ?_
    refine fr_lconst0 dX11_basket_14 ?_
    refine fr_lconst1 dX11_basket_15 ?_
    refine fr_cSi (mi' := fmX11_in) dX11_basket_16 mlX11_51 msX11_in (Nat.le_of_ble_eq_true rfl) (kcX11_in (by omega) (by omega) (by omega)) rfl rfl (Nat.le_of_ble_eq_true rfl) ?_
    refine fr_ifb_eq (tgt := 31) dX11_basket_19 (by decide) (fun h2 => ?_) (fun h2 => ?_)
    · skip
      refine fr_iconst dX11_basket_31 ?_
      exact fr_iret dX11_basket_32 rfl (fr_e (by (repeat' split) <;> first | rfl | omega) rfl)
    · skip
      refine fr_al0 dX11_basket_22 ?_
      refine fr_il1 dX11_basket_23 ?_
      refine fr_il2 dX11_basket_24 ?_
      refine fr_cVi (mi' := fmX11_basketOf) dX11_basket_25 mlX11_142 mvX11_basketOf ⟨11, _, ⟨by decide, by decide, rfl⟩, rfl, rfl⟩ (Nat.le_of_ble_eq_true rfl) (kcX11_basketOf hI (by omega) (by omega)) rfl rfl (Nat.le_of_ble_eq_true rfl) ?_
      refine fr_goto (tgt := 32) dX11_basket_28 (by decide) ?_
      exact fr_iret dX11_basket_32 rfl (fr_e (by (repeat' split) <;> first | rfl | omega) rfl)
set_option maxRecDepth 20000 in
theorem kcX11_valueOf {l : Launch} {κ : fr_Ka} {μ : fr_Me} (hI : fr_I (μ 67)) {what : Int} (hw : 0 ≤ what ∧ what ≤ 1) : fr_C l κ fmX11_valueOf 5 [fr_r κ 66, fr_i what] μ (fr_Ei (sp_val (μ 67) what) μ) := by
  have iN := hI.n
  have iM := hI.many
  refine fr_enter (by decide +kernel) (ls := [some (fr_r κ 66), some (fr_i what), none, none]) rfl (Nat.le_of_ble_eq_true rfl) ?_
  refine fr_iconst dX11_valueOf_0 ?_
  refine fr_is2 dX11_valueOf_1 rfl (Nat.le_of_ble_eq_true rfl) ?_
  refine fr_iconst dX11_valueOf_2 ?_
  refine fr_is3 dX11_valueOf_3 rfl (Nat.le_of_ble_eq_true rfl) ?_
  refine fr_wk ?_ (ls := [some (fr_r κ 66), some (fr_i what), some (fr_i (sp_sum 0 (fun f => μ 67 (64 + f) * sp_bask (μ 67) f what))), some (fr_i (0 : Int))]) ⟨rfl, rfl, rfl, rfl, trivial⟩
  refine fr_down (P := fun j : Nat => fr_A l κ fmX11_valueOf 5 (fr_Ei (sp_val (μ 67) what) μ) 4 [some (fr_r κ 66), some (fr_i what), some (fr_i (sp_sum j (fun f => μ 67 (64 + f) * sp_bask (μ 67) f what))), some (fr_i (j : Int))] [] μ) 10 ?_ (fun j hj4 ih4 => ?_)
  · skip
    refine fr_il3 dX11_valueOf_4 ?_
    refine fr_bipush dX11_valueOf_5 (by decide) ?_
    refine fr_icmp_ge (tgt := 35) dX11_valueOf_7 (by decide) (by omega) (by omega) (fun h1 => ?_) (fun h1 => ?_)
    · skip
      refine fr_il2 dX11_valueOf_35 ?_
      exact fr_iret dX11_valueOf_36 rfl (fr_e rfl rfl)
    · skip
      exfalso; omega
  · skip
    refine fr_il3 dX11_valueOf_4 ?_
    refine fr_bipush dX11_valueOf_5 (by decide) ?_
    refine fr_icmp_ge (tgt := 35) dX11_valueOf_7 (by decide) (by omega) (by omega) (fun h2 => ?_) (fun h2 => ?_)
    · skip
      exfalso; omega
    · skip
      refine fr_il2 dX11_valueOf_10 ?_
      refine fr_al0 dX11_valueOf_11 ?_
      refine fr_getr (cz := 67) dX11_valueOf_12 flX11_7 ⟨by decide, by decide, rfl⟩ rfl rfl ?_
      refine fr_bipush dX11_valueOf_15 (by decide) ?_
      refine fr_il3 dX11_valueOf_17 ?_
      refine fr_iadd dX11_valueOf_18 ?_
      refine fr_iald dX11_valueOf_19 ⟨by decide, by decide, rfl, by decide⟩ (by omega) (by omega) ?_
      refine fr_al0 dX11_valueOf_20 ?_
      refine fr_il3 dX11_valueOf_21 ?_
      refine fr_il1 dX11_valueOf_22 ?_
      refine fr_cVi (mi' := fmX11_basketOf) dX11_valueOf_23 mlX11_142 mvX11_basketOf ⟨11, _, ⟨by decide, by decide, rfl⟩, rfl, rfl⟩ (Nat.le_of_ble_eq_true rfl) (kcX11_basketOf hI (by omega) (by omega)) rfl rfl (Nat.le_of_ble_eq_true rfl) ?_
      refine fr_imul dX11_valueOf_26 ?_
      refine fr_iadd dX11_valueOf_27 ?_
      refine fr_is2 dX11_valueOf_28 rfl (Nat.le_of_ble_eq_true rfl) ?_
      refine fr_ii3 dX11_valueOf_29 rfl (Nat.le_of_ble_eq_true rfl) ?_
      refine fr_goto (tgt := 4) dX11_valueOf_32 (by decide) ?_
      exact fr_wk (ih4) ⟨rfl, rfl, rfl, rfl, trivial⟩
set_option maxRecDepth 20000 in
theorem kcX11_value {l : Launch} {κ : fr_Ka} {μ : fr_Me} (hI : fr_I (μ 67)) {what : Int} (rwhat : -2147483648 ≤ what ∧ what ≤ 2147483647) : fr_C l κ fmX11_value 6 [fr_r κ 66, fr_i what] μ (fr_Ei (if 0 ≤ what ∧ what ≤ 1 then sp_val (μ 67) what else -100001) μ) := by
  have iN := hI.n
  have iM := hI.many
  refine fr_enter (by decide +kernel) (ls := [some (fr_r κ 66), some (fr_i what)]) rfl (Nat.le_of_ble_eq_true rfl) ?_
  refine fr_il1 dX11_value_0 ?_
  refine fr_i2l dX11_value_1 (by omega) ?_
  refine fr_lconst0 dX11_value_2 ?_
  refine fr_lconst1 dX11_value_3 ?_
  refine fr_cSi (mi' := fmX11_in) dX11_value_4 mlX11_51 msX11_in (Nat.le_of_ble_eq_true rfl) (kcX11_in (by omega) (by omega) (by omega)) rfl rfl (Nat.le_of_ble_eq_true rfl) ?_
  refine fr_ifb_eq (tgt := 18) dX11_value_7 (by decide) (fun h1 => ?_) (fun h1 => ?_)
  · skip
    refine fr_ldc dX11_value_18 cnX11_84 ?_
    exact fr_iret dX11_value_20 rfl (fr_e (by (repeat' split) <;> first | rfl | omega) rfl)
  · skip
    refine fr_al0 dX11_value_10 ?_
    refine fr_il1 dX11_value_11 ?_
    refine fr_cVi (mi' := fmX11_valueOf) dX11_value_12 mlX11_145 mvX11_valueOf ⟨11, _, ⟨by decide, by decide, rfl⟩, rfl, rfl⟩ (Nat.le_of_ble_eq_true rfl) (kcX11_valueOf hI (by omega)) rfl rfl (Nat.le_of_ble_eq_true rfl) ?_
    refine fr_goto (tgt := 20) dX11_value_15 (by decide) ?_
    exact fr_iret dX11_value_20 rfl (fr_e (by (repeat' split) <;> first | rfl | omega) rfl)
set_option maxRecDepth 20000 in
theorem kcX11_draw {l : Launch} {κ : fr_Ka} {μ : fr_Me} (hd : 0 ≤ μ 67 74 ∧ μ 67 74 ≤ 2147483647) : fr_C l κ fmX11_draw 1 [fr_r κ 66, fr_i 10] μ (fr_Ei (((sp_dr (μ 67 74)).tdiv 65536).tmod 10) (fr_up μ 67 74 (sp_dr (μ 67 74)))) := by
  have hr := sp_dr_rg (μ 67 74)
  have hq : (sp_dr (μ 67 74)).tdiv 65536 = sp_dr (μ 67 74) / 65536 := Int.tdiv_eq_ediv_of_nonneg hr.1
  refine fr_enter (by decide +kernel) (ls := [some (fr_r κ 66), some (fr_i 10)]) rfl (Nat.le_of_ble_eq_true rfl) ?_
  refine fr_al0 dX11_draw_0 ?_
  refine fr_getr (cz := 67) dX11_draw_1 flX11_7 ⟨by decide, by decide, rfl⟩ rfl rfl ?_
  refine fr_bipush dX11_draw_4 (by decide) ?_
  refine fr_al0 dX11_draw_6 ?_
  refine fr_getr (cz := 67) dX11_draw_7 flX11_7 ⟨by decide, by decide, rfl⟩ rfl rfl ?_
  refine fr_bipush dX11_draw_10 (by decide) ?_
  refine fr_iald dX11_draw_12 ⟨by decide, by decide, rfl, by decide⟩ (by omega) (by omega) ?_
  refine fr_i2l dX11_draw_13 (by omega) ?_
  refine fr_ldc2 dX11_draw_14 clX11_148 ?_
  refine fr_lmul dX11_draw_17 ?_
  refine fr_ldc2 dX11_draw_18 clX11_150 ?_
  refine fr_ladd dX11_draw_21 ?_
  refine fr_ldc2 dX11_draw_22 clX11_152 ?_
  refine fr_landR dX11_draw_25 ?_
  rw [show fr_land (μ 67 74 * 1103515245 + 12345) 2147483647 = sp_dr (μ 67 74) from fr_land31 _]
  refine fr_l2i dX11_draw_26 ?_
  refine fr_iast dX11_draw_27 ⟨by decide, by decide, rfl, by decide⟩ (by omega) (by omega) ?_
  refine fr_al0 dX11_draw_28 ?_
  refine fr_getr (cz := 67) dX11_draw_29 flX11_7 ⟨by decide, by decide, rfl⟩ rfl rfl ?_
  refine fr_bipush dX11_draw_32 (by decide) ?_
  refine fr_iald dX11_draw_34 ⟨by decide, by decide, rfl, by decide⟩ (by omega) (by omega) ?_
  rw [fr_up_eq]
  refine fr_ldc dX11_draw_35 cnX11_154 ?_
  refine fr_idiv dX11_draw_37 (by omega) (by omega) (by omega) (by omega) ?_
  refine fr_il1 dX11_draw_38 ?_
  refine fr_irem dX11_draw_39 (by omega) (by omega) (by omega) ?_
  exact fr_iret dX11_draw_40 rfl (fr_e rfl rfl)
set_option maxRecDepth 20000 in
theorem kcX11_turns {l : Launch} {κ : fr_Ka} {μ : fr_Me} {t fl : Int} (ht : 0 ≤ t ∧ t < 6) : fr_C l κ fmX11_turns 1 [fr_r κ 66, fr_i t, fr_i fl] μ (fr_Ev (sp_trm μ t fl)) := by
  refine fr_enter (by decide +kernel) (ls := [some (fr_r κ 66), some (fr_i t), some (fr_i fl)]) rfl (Nat.le_of_ble_eq_true rfl) ?_
  refine fr_al0 dX11_turns_0 ?_
  refine fr_getr (cz := 67) dX11_turns_1 flX11_7 ⟨by decide, by decide, rfl⟩ rfl rfl ?_
  refine fr_bipush dX11_turns_4 (by decide) ?_
  refine fr_il1 dX11_turns_6 ?_
  refine fr_iadd dX11_turns_7 ?_
  refine fr_al0 dX11_turns_8 ?_
  refine fr_getr (cz := 67) dX11_turns_9 flX11_7 ⟨by decide, by decide, rfl⟩ rfl rfl ?_
  refine fr_bipush dX11_turns_12 (by decide) ?_
  refine fr_il1 dX11_turns_14 ?_
  refine fr_iadd dX11_turns_15 ?_
  refine fr_iald dX11_turns_16 ⟨by decide, by decide, rfl, by decide⟩ (by omega) (by omega) ?_
  refine fr_iast dX11_turns_17 ⟨by decide, by decide, rfl, by decide⟩ (by omega) (by omega) ?_
  refine fr_al0 dX11_turns_18 ?_
  refine fr_getr (cz := 67) dX11_turns_19 flX11_7 ⟨by decide, by decide, rfl⟩ rfl rfl ?_
  refine fr_bipush dX11_turns_22 (by decide) ?_
  refine fr_il1 dX11_turns_24 ?_
  refine fr_iadd dX11_turns_25 ?_
  refine fr_al0 dX11_turns_26 ?_
  refine fr_getr (cz := 67) dX11_turns_27 flX11_7 ⟨by decide, by decide, rfl⟩ rfl rfl ?_
  refine fr_bipush dX11_turns_30 (by decide) ?_
  refine fr_il1 dX11_turns_32 ?_
  refine fr_iadd dX11_turns_33 ?_
  refine fr_iald dX11_turns_34 ⟨by decide, by decide, rfl, by decide⟩ (by omega) (by omega) ?_
  refine fr_iast dX11_turns_35 ⟨by decide, by decide, rfl, by decide⟩ (by omega) (by omega) ?_
  refine fr_al0 dX11_turns_36 ?_
  refine fr_getr (cz := 67) dX11_turns_37 flX11_7 ⟨by decide, by decide, rfl⟩ rfl rfl ?_
  refine fr_bipush dX11_turns_40 (by decide) ?_
  refine fr_il1 dX11_turns_42 ?_
  refine fr_iadd dX11_turns_43 ?_
  refine fr_al0 dX11_turns_44 ?_
  refine fr_getr (cz := 67) dX11_turns_45 flX11_7 ⟨by decide, by decide, rfl⟩ rfl rfl ?_
  refine fr_bipush dX11_turns_48 (by decide) ?_
  refine fr_il1 dX11_turns_50 ?_
  refine fr_iadd dX11_turns_51 ?_
  refine fr_iald dX11_turns_52 ⟨by decide, by decide, rfl, by decide⟩ (by omega) (by omega) ?_
  refine fr_iast dX11_turns_53 ⟨by decide, by decide, rfl, by decide⟩ (by omega) (by omega) ?_
  refine fr_al0 dX11_turns_54 ?_
  refine fr_getr (cz := 67) dX11_turns_55 flX11_7 ⟨by decide, by decide, rfl⟩ rfl rfl ?_
  refine fr_bipush dX11_turns_58 (by decide) ?_
  refine fr_il1 dX11_turns_60 ?_
  refine fr_iadd dX11_turns_61 ?_
  refine fr_il2 dX11_turns_62 ?_
  refine fr_iast dX11_turns_63 ⟨by decide, by decide, rfl, by decide⟩ (by omega) (by omega) ?_
  refine fr_al0 dX11_turns_64 ?_
  refine fr_getr (cz := 67) dX11_turns_65 flX11_7 ⟨by decide, by decide, rfl⟩ rfl rfl ?_
  refine fr_bipush dX11_turns_68 (by decide) ?_
  refine fr_il1 dX11_turns_70 ?_
  refine fr_iadd dX11_turns_71 ?_
  refine fr_iconst dX11_turns_72 ?_
  refine fr_iast dX11_turns_73 ⟨by decide, by decide, rfl, by decide⟩ (by omega) (by omega) ?_
  exact fr_vret dX11_turns_74 rfl (fr_ev (by unfold sp_trm; simp only [fr_up_get, true_and, if_neg (by omega : ¬ ((25 : Int) + t = 19 + t)), if_neg (by omega : ¬ ((7 : Int) + t = 31 + t)), if_neg (by omega : ¬ ((7 : Int) + t = 19 + t))]))
set_option maxRecDepth 20000 in
theorem kcX11_year {l : Launch} {κ : fr_Ka} {μ : fr_Me} (hI : fr_I (μ 67))  : fr_C l κ fmX11_year 2 [fr_r κ 66] μ (fr_Pi (fun z m => (μ 67 75 = 9999 ∧ z = -3 ∧ m = μ) ∨ (μ 67 75 < 9999 ∧ z = sp_year (μ 67) 76 ∧ m 67 = sp_year (μ 67) ∧ ∀ c, c ≠ 67 → m c = μ c))) := by
  have iN := hI.n
  have iM := hI.many
  have iY := hI.years
  refine fr_enter (by decide +kernel) (ls := [some (fr_r κ 66), none, none, none, none]) rfl (Nat.le_of_ble_eq_true rfl) ?_
  refine fr_al0 dX11_year_0 ?_
  refine fr_getr (cz := 67) dX11_year_1 flX11_7 ⟨by decide, by decide, rfl⟩ rfl rfl ?_
  refine fr_bipush dX11_year_4 (by decide) ?_
  refine fr_iald dX11_year_6 ⟨by decide, by decide, rfl, by decide⟩ (by omega) (by omega) ?_
  refine fr_sipush dX11_year_7 (by decide) ?_
  refine fr_icmp_ne (tgt := 16) dX11_year_10 (by decide) (by omega) (by omega) (fun h1 => ?_) (fun h1 => ?_)
  · skip
    refine fr_al0 dX11_year_16 ?_
    refine fr_getr (cz := 67) dX11_year_17 flX11_7 ⟨by decide, by decide, rfl⟩ rfl rfl ?_
    refine fr_bipush dX11_year_20 (by decide) ?_
    refine fr_iconst dX11_year_22 ?_
    refine fr_iast dX11_year_23 ⟨by decide, by decide, rfl, by decide⟩ (by omega) (by omega) ?_
    refine fr_iconst dX11_year_24 ?_
    refine fr_is1 dX11_year_25 rfl (Nat.le_of_ble_eq_true rfl) ?_
    refine fr_wk ?_ (ls := [some (fr_r κ 66), some (fr_i (0 : Int)), none, none, none]) ⟨rfl, rfl, trivial⟩
    refine (fr_down (P := fun j : Nat => ∀ (m : fr_Me), (m 67 = sp_yl j (μ 67) ∧ ∀ c, c ≠ 67 → m c = μ c) → fr_A l κ fmX11_year 2 (fr_Pi (fun z m => (μ 67 75 = 9999 ∧ z = -3 ∧ m = μ) ∨ (μ 67 75 < 9999 ∧ z = sp_year (μ 67) 76 ∧ m 67 = sp_year (μ 67) ∧ ∀ c, c ≠ 67 → m c = μ c))) 26 [some (fr_r κ 66), some (fr_i (j : Int)), none, none, none] [] m) (μ 67 0).toNat ?_ (fun j hj26 ih26 => ?_)) _ (⟨fr_up_u _ _ _ _, fun c hc => fr_up_nc _ _ _ hc⟩)
    · skip
      intro m hm
      have e0 := sp_yl_lo (μ 67) (μ 67 0).toNat (by omega) (k := 0) (by omega)
      have e75 := sp_yl_lo (μ 67) (μ 67 0).toNat (by omega) (k := 75) (by omega)
      have en : m 67 0 = μ 67 0 := by rw [hm.1]; exact e0
      have ey : m 67 75 = μ 67 75 := by rw [hm.1]; exact e75
      refine fr_il1 dX11_year_26 ?_
      refine fr_al0 dX11_year_27 ?_
      refine fr_getr (cz := 67) dX11_year_28 flX11_7 ⟨by decide, by decide, rfl⟩ rfl rfl ?_
      refine fr_iconst dX11_year_31 ?_
      refine fr_iald dX11_year_32 ⟨by decide, by decide, rfl, by decide⟩ (by omega) (by omega) ?_
      refine fr_icmp_ge (tgt := 117) dX11_year_33 (by decide) (by omega) (by omega) (fun h2 => ?_) (fun h2 => ?_)
      · skip
        refine fr_al0 dX11_year_117 ?_
        refine fr_getr (cz := 67) dX11_year_118 flX11_7 ⟨by decide, by decide, rfl⟩ rfl rfl ?_
        refine fr_bipush dX11_year_121 (by decide) ?_
        refine fr_dup2 dX11_year_123 rfl rfl ?_
        refine fr_iald dX11_year_124 ⟨by decide, by decide, rfl, by decide⟩ (by omega) (by omega) ?_
        refine fr_iconst dX11_year_125 ?_
        refine fr_iadd dX11_year_126 ?_
        refine fr_iast dX11_year_127 ⟨by decide, by decide, rfl, by decide⟩ (by omega) (by omega) ?_
        refine fr_al0 dX11_year_128 ?_
        refine fr_getr (cz := 67) dX11_year_129 flX11_7 ⟨by decide, by decide, rfl⟩ rfl rfl ?_
        refine fr_bipush dX11_year_132 (by decide) ?_
        refine fr_iald dX11_year_134 ⟨by decide, by decide, rfl, by decide⟩ (by omega) (by omega) ?_
        exact fr_iret dX11_year_135 rfl (fr_pi (by first | exact Or.inl ⟨by omega, rfl, rfl⟩ | exact Or.inr ⟨by omega, by simp [fr_up_get, sp_year, sp_u, hm.1], by rw [fr_up_u, hm.1, e75]; rfl, fun c hc => by rw [fr_up_nc _ _ _ hc]; exact hm.2 c hc⟩))
      · skip
        exfalso; omega
    · skip
      intro m hm
      have e0 := sp_yl_lo (μ 67) j (by omega) (k := 0) (by omega)
      have e43 := sp_yl_lo (μ 67) j (by omega) (k := 43) (by omega)
      obtain ⟨hIj, hf6⟩ := hI.yl j (by omega)
      have iT := hIj.tree (t := (j : Int)) (by omega) (by omega)
      unfold fr_It sp_ok at iT
      have en : m 67 0 = μ 67 0 := by rw [hm.1]; exact e0
      have x1 : m 67 (7 + j) = sp_yl j (μ 67) (7 + j) := by rw [hm.1]
      have ed : m 67 74 = sp_yl j (μ 67) 74 := by rw [hm.1]
      have id := hIj.draw
      have efa : m 67 76 = sp_yl j (μ 67) 76 := by rw [hm.1]
      have t10 : ∀ x : Int, -10 < x.tmod 10 ∧ x.tmod 10 < 10 := fun x => tmod_bounds (by omega)
      have tt := t10 ((sp_dr (m 67 74)).tdiv 65536)
      have dr := sp_dr_rg (m 67 74)
      have tn : 0 ≤ ((sp_dr (m 67 74)).tdiv 65536).tmod 10 := Int.tmod_nonneg _ (Int.tdiv_nonneg dr.1 (by omega))
      refine fr_il1 dX11_year_26 ?_
      refine fr_al0 dX11_year_27 ?_
      refine fr_getr (cz := 67) dX11_year_28 flX11_7 ⟨by decide, by decide, rfl⟩ rfl rfl ?_
      refine fr_iconst dX11_year_31 ?_
      refine fr_iald dX11_year_32 ⟨by decide, by decide, rfl, by decide⟩ (by omega) (by omega) ?_
      refine fr_icmp_ge (tgt := 117) dX11_year_33 (by decide) (by omega) (by omega) (fun h3 => ?_) (fun h3 => ?_)
      · skip
        exfalso; omega
      · skip
        refine fr_al0 dX11_year_36 ?_
        refine fr_getr (cz := 67) dX11_year_37 flX11_7 ⟨by decide, by decide, rfl⟩ rfl rfl ?_
        refine fr_bipush dX11_year_40 (by decide) ?_
        refine fr_il1 dX11_year_42 ?_
        refine fr_iadd dX11_year_43 ?_
        refine fr_iald dX11_year_44 ⟨by decide, by decide, rfl, by decide⟩ (by omega) (by omega) ?_
        refine fr_is2 dX11_year_45 rfl (Nat.le_of_ble_eq_true rfl) ?_
        refine fr_iconst dX11_year_46 ?_
        refine fr_is3 dX11_year_47 rfl (Nat.le_of_ble_eq_true rfl) ?_
        refine fr_il2 dX11_year_48 ?_
        refine fr_iconst dX11_year_49 ?_
        refine fr_icmp_eq (tgt := 94) dX11_year_50 (by decide) (by omega) (by omega) (fun h4 => ?_) (fun h4 => ?_)
        · skip
          refine fr_al0 dX11_year_94 ?_
          refine fr_getr (cz := 67) dX11_year_95 flX11_7 ⟨by decide, by decide, rfl⟩ rfl rfl ?_
          refine fr_bipush dX11_year_98 (by decide) ?_
          refine fr_dup2 dX11_year_100 rfl rfl ?_
          refine fr_iald dX11_year_101 ⟨by decide, by decide, rfl, by decide⟩ (by omega) (by omega) ?_
          refine fr_il3 dX11_year_102 ?_
          refine fr_iadd dX11_year_103 ?_
          refine fr_iast dX11_year_104 ⟨by decide, by decide, rfl, by decide⟩ (by omega) (by omega) ?_
          refine fr_al0 dX11_year_105 ?_
          refine fr_il1 dX11_year_106 ?_
          refine fr_il3 dX11_year_107 ?_
          refine fr_cVv (mi' := fmX11_turns) dX11_year_108 mlX11_158 mvX11_turns ⟨11, _, ⟨by decide, by decide, rfl⟩, rfl, rfl⟩ (Nat.le_of_ble_eq_true rfl) (kcX11_turns (by omega)) rfl rfl (Nat.le_of_ble_eq_true rfl) ?_
          refine fr_ii1 dX11_year_111 rfl (Nat.le_of_ble_eq_true rfl) ?_
          refine fr_goto (tgt := 26) dX11_year_114 (by decide) ?_
          have hfl : (0 : Int) = sp_fl (sp_yl j (μ 67)) j := by unfold sp_fl; rw [if_pos (by omega)]
          exact fr_wk (ih26 _ (⟨fr_yt67 (by omega) (by omega) hfl (by unfold sp_dw; rw [if_pos (by omega)]; simp [fr_up_get, ed]) (by simp [fr_up_get, efa]) (fun k h1 h2 => by simp [fr_up_get, h1, h2, hm.1]), fun c hc => by rw [sp_trm_nc _ _ _ hc, fr_up_nc _ _ _ hc]; exact hm.2 c hc⟩)) ⟨rfl, rfl, trivial⟩
        · skip
          refine fr_al0 dX11_year_53 ?_
          refine fr_bipush dX11_year_54 (by decide) ?_
          refine fr_cVi (mi' := fmX11_draw) dX11_year_56 mlX11_155 mvX11_draw ⟨11, _, ⟨by decide, by decide, rfl⟩, rfl, rfl⟩ (Nat.le_of_ble_eq_true rfl) (kcX11_draw (by omega)) rfl rfl (Nat.le_of_ble_eq_true rfl) ?_
          have iC := hIj.cl (c := m 67 (7 + j)) (by omega) (by omega)
          unfold fr_Ic at iC
          have x59 : fr_up m 67 74 (sp_dr (m 67 74)) 67 (59 + m 67 (7 + j)) = sp_yl j (μ 67) (59 + m 67 (7 + j)) := by simp only [fr_up_get]; rw [if_neg (by omega), hm.1]
          have x44 : fr_up m 67 74 (sp_dr (m 67 74)) 67 (44 + m 67 (7 + j)) = sp_yl j (μ 67) (44 + m 67 (7 + j)) := by simp only [fr_up_get]; rw [if_neg (by omega), hm.1]
          rw [x1] at iC x59 x44 ⊢
          refine fr_is4 dX11_year_59 rfl (Nat.le_of_ble_eq_true rfl) ?_
          refine fr_il4 dX11_year_61 ?_
          refine fr_al0 dX11_year_63 ?_
          refine fr_getr (cz := 67) dX11_year_64 flX11_7 ⟨by decide, by decide, rfl⟩ rfl rfl ?_
          refine fr_bipush dX11_year_67 (by decide) ?_
          refine fr_il2 dX11_year_69 ?_
          refine fr_iadd dX11_year_70 ?_
          refine fr_iald dX11_year_71 ⟨by decide, by decide, rfl, by decide⟩ (by omega) (by omega) ?_
          refine fr_icmp_ge (tgt := 92) dX11_year_72 (by decide) (by omega) (by omega) (fun h5 => ?_) (fun h5 => ?_)
          · skip
            refine fr_iconst dX11_year_92 ?_
            refine fr_is3 dX11_year_93 rfl (Nat.le_of_ble_eq_true rfl) ?_
            refine fr_al0 dX11_year_94 ?_
            refine fr_getr (cz := 67) dX11_year_95 flX11_7 ⟨by decide, by decide, rfl⟩ rfl rfl ?_
            refine fr_bipush dX11_year_98 (by decide) ?_
            refine fr_dup2 dX11_year_100 rfl rfl ?_
            refine fr_iald dX11_year_101 ⟨by decide, by decide, rfl, by decide⟩ (by omega) (by omega) ?_
            refine fr_il3 dX11_year_102 ?_
            refine fr_iadd dX11_year_103 ?_
            refine fr_iast dX11_year_104 ⟨by decide, by decide, rfl, by decide⟩ (by omega) (by omega) ?_
            refine fr_al0 dX11_year_105 ?_
            refine fr_il1 dX11_year_106 ?_
            refine fr_il3 dX11_year_107 ?_
            refine fr_cVv (mi' := fmX11_turns) dX11_year_108 mlX11_158 mvX11_turns ⟨11, _, ⟨by decide, by decide, rfl⟩, rfl, rfl⟩ (Nat.le_of_ble_eq_true rfl) (kcX11_turns (by omega)) rfl rfl (Nat.le_of_ble_eq_true rfl) ?_
            refine fr_ii1 dX11_year_111 rfl (Nat.le_of_ble_eq_true rfl) ?_
            refine fr_goto (tgt := 26) dX11_year_114 (by decide) ?_
            have hfl : (0 : Int) = sp_fl (sp_yl j (μ 67)) j := by unfold sp_fl sp_od; rw [if_neg (by omega), if_neg (by rw [← ed]; (repeat' split) <;> omega)]
            exact fr_wk (ih26 _ (⟨fr_yt67 (by omega) (by omega) hfl (by unfold sp_dw; rw [if_neg (by omega)]; simp [fr_up_get, ed]) (by simp [fr_up_get, efa]) (fun k h1 h2 => by simp [fr_up_get, h1, h2, hm.1]), fun c hc => by rw [sp_trm_nc _ _ _ hc, fr_up_nc _ _ _ hc, fr_up_nc _ _ _ hc]; exact hm.2 c hc⟩)) ⟨rfl, rfl, trivial⟩
          · skip
            refine fr_al0 dX11_year_75 ?_
            refine fr_getr (cz := 67) dX11_year_76 flX11_7 ⟨by decide, by decide, rfl⟩ rfl rfl ?_
            refine fr_bipush dX11_year_79 (by decide) ?_
            refine fr_il2 dX11_year_81 ?_
            refine fr_iadd dX11_year_82 ?_
            refine fr_iald dX11_year_83 ⟨by decide, by decide, rfl, by decide⟩ (by omega) (by omega) ?_
            refine fr_iconst dX11_year_84 ?_
            refine fr_icmp_eq (tgt := 92) dX11_year_85 (by decide) (by omega) (by omega) (fun h6 => ?_) (fun h6 => ?_)
            · skip
              refine fr_iconst dX11_year_92 ?_
              refine fr_is3 dX11_year_93 rfl (Nat.le_of_ble_eq_true rfl) ?_
              refine fr_al0 dX11_year_94 ?_
              refine fr_getr (cz := 67) dX11_year_95 flX11_7 ⟨by decide, by decide, rfl⟩ rfl rfl ?_
              refine fr_bipush dX11_year_98 (by decide) ?_
              refine fr_dup2 dX11_year_100 rfl rfl ?_
              refine fr_iald dX11_year_101 ⟨by decide, by decide, rfl, by decide⟩ (by omega) (by omega) ?_
              refine fr_il3 dX11_year_102 ?_
              refine fr_iadd dX11_year_103 ?_
              refine fr_iast dX11_year_104 ⟨by decide, by decide, rfl, by decide⟩ (by omega) (by omega) ?_
              refine fr_al0 dX11_year_105 ?_
              refine fr_il1 dX11_year_106 ?_
              refine fr_il3 dX11_year_107 ?_
              refine fr_cVv (mi' := fmX11_turns) dX11_year_108 mlX11_158 mvX11_turns ⟨11, _, ⟨by decide, by decide, rfl⟩, rfl, rfl⟩ (Nat.le_of_ble_eq_true rfl) (kcX11_turns (by omega)) rfl rfl (Nat.le_of_ble_eq_true rfl) ?_
              refine fr_ii1 dX11_year_111 rfl (Nat.le_of_ble_eq_true rfl) ?_
              refine fr_goto (tgt := 26) dX11_year_114 (by decide) ?_
              have hfl : (0 : Int) = sp_fl (sp_yl j (μ 67)) j := by unfold sp_fl sp_od; rw [if_neg (by omega), if_neg (by rw [← ed]; (repeat' split) <;> omega)]
              exact fr_wk (ih26 _ (⟨fr_yt67 (by omega) (by omega) hfl (by unfold sp_dw; rw [if_neg (by omega)]; simp [fr_up_get, ed]) (by simp [fr_up_get, efa]) (fun k h1 h2 => by simp [fr_up_get, h1, h2, hm.1]), fun c hc => by rw [sp_trm_nc _ _ _ hc, fr_up_nc _ _ _ hc, fr_up_nc _ _ _ hc]; exact hm.2 c hc⟩)) ⟨rfl, rfl, trivial⟩
            · skip
              refine fr_iconst dX11_year_88 ?_
              refine fr_goto (tgt := 93) dX11_year_89 (by decide) ?_
              refine fr_is3 dX11_year_93 rfl (Nat.le_of_ble_eq_true rfl) ?_
              refine fr_al0 dX11_year_94 ?_
              refine fr_getr (cz := 67) dX11_year_95 flX11_7 ⟨by decide, by decide, rfl⟩ rfl rfl ?_
              refine fr_bipush dX11_year_98 (by decide) ?_
              refine fr_dup2 dX11_year_100 rfl rfl ?_
              refine fr_iald dX11_year_101 ⟨by decide, by decide, rfl, by decide⟩ (by omega) (by omega) ?_
              refine fr_il3 dX11_year_102 ?_
              refine fr_iadd dX11_year_103 ?_
              refine fr_iast dX11_year_104 ⟨by decide, by decide, rfl, by decide⟩ (by omega) (by omega) ?_
              refine fr_al0 dX11_year_105 ?_
              refine fr_il1 dX11_year_106 ?_
              refine fr_il3 dX11_year_107 ?_
              refine fr_cVv (mi' := fmX11_turns) dX11_year_108 mlX11_158 mvX11_turns ⟨11, _, ⟨by decide, by decide, rfl⟩, rfl, rfl⟩ (Nat.le_of_ble_eq_true rfl) (kcX11_turns (by omega)) rfl rfl (Nat.le_of_ble_eq_true rfl) ?_
              refine fr_ii1 dX11_year_111 rfl (Nat.le_of_ble_eq_true rfl) ?_
              refine fr_goto (tgt := 26) dX11_year_114 (by decide) ?_
              have hfl : (1 : Int) = sp_fl (sp_yl j (μ 67)) j := by unfold sp_fl sp_od; rw [if_neg (by omega), if_pos (by rw [← ed, if_pos (by omega), if_neg (by omega)]; omega)]
              exact fr_wk (ih26 _ (⟨fr_yt67 (by omega) (by omega) hfl (by unfold sp_dw; rw [if_neg (by omega)]; simp [fr_up_get, ed]) (by simp [fr_up_get, efa]) (fun k h1 h2 => by simp [fr_up_get, h1, h2, hm.1]), fun c hc => by rw [sp_trm_nc _ _ _ hc, fr_up_nc _ _ _ hc, fr_up_nc _ _ _ hc]; exact hm.2 c hc⟩)) ⟨rfl, rfl, trivial⟩
  · skip
    refine fr_bipush dX11_year_13 (by decide) ?_
    exact fr_iret dX11_year_15 rfl (fr_pi (by first | exact Or.inl ⟨by omega, rfl, rfl⟩ | exact Or.inr ⟨by omega, by simp [fr_up_get, sp_year, sp_u, hm.1], by rw [fr_up_u, hm.1, e75]; rfl, fun c hc => by rw [fr_up_nc _ _ _ hc]; exact hm.2 c hc⟩))
set_option maxRecDepth 20000 in
theorem kcX11_seed {l : Launch} {κ : fr_Ka} {μ : fr_Me} {v : Int} (rv : -2147483648 ≤ v ∧ v ≤ 2147483647) : fr_C l κ fmX11_seed 1 [fr_r κ 66, fr_i v] μ (fr_Pi (fun z m => (v < 0 ∧ z = -1 ∧ m = μ) ∨ (0 ≤ v ∧ z = μ 67 74 ∧ m = fr_up μ 67 74 v))) := by
  refine fr_enter (by decide +kernel) (ls := [some (fr_r κ 66), some (fr_i v), none]) rfl (Nat.le_of_ble_eq_true rfl) ?_
  refine fr_il1 dX11_seed_0 ?_
  refine fr_if_ge (tgt := 6) dX11_seed_1 (by decide) (by omega) (fun h1 => ?_) (fun h1 => ?_)
  · skip
    refine fr_al0 dX11_seed_6 ?_
    refine fr_getr (cz := 67) dX11_seed_7 flX11_7 ⟨by decide, by decide, rfl⟩ rfl rfl ?_
    refine fr_bipush dX11_seed_10 (by decide) ?_
    refine fr_iald dX11_seed_12 ⟨by decide, by decide, rfl, by decide⟩ (by omega) (by omega) ?_
    refine fr_is2 dX11_seed_13 rfl (Nat.le_of_ble_eq_true rfl) ?_
    refine fr_al0 dX11_seed_14 ?_
    refine fr_getr (cz := 67) dX11_seed_15 flX11_7 ⟨by decide, by decide, rfl⟩ rfl rfl ?_
    refine fr_bipush dX11_seed_18 (by decide) ?_
    refine fr_il1 dX11_seed_20 ?_
    refine fr_iast dX11_seed_21 ⟨by decide, by decide, rfl, by decide⟩ (by omega) (by omega) ?_
    refine fr_il2 dX11_seed_22 ?_
    exact fr_iret dX11_seed_23 rfl (fr_pi (by first | exact Or.inl ⟨by omega, rfl, rfl⟩ | exact Or.inr ⟨by omega, rfl, rfl⟩))
  · skip
    refine fr_iconst dX11_seed_4 ?_
    exact fr_iret dX11_seed_5 rfl (fr_pi (by first | exact Or.inl ⟨by omega, rfl, rfl⟩ | exact Or.inr ⟨by omega, rfl, rfl⟩))
