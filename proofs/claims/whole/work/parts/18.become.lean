/-- a ground's cells (g itself, its prices p, its trees from t0 on, its climbers from c0 on) hold what another's hold -/
def fr_Cp (μ m : fr_Me) (g p t0 c0 g' p' t0' c0' : Int) : Prop := (∀ t, 0 ≤ t → t < 6 → ∀ f, 0 ≤ f → f < 7 → m (t0 + t) f = μ (t0' + t) f) ∧ (∀ c, 0 ≤ c → c < 5 → ∀ f, 0 ≤ f → f < 4 → m (c0 + c) f = μ (c0' + c) f) ∧ (∀ f, 0 ≤ f → f < 10 → m p f = μ p' f) ∧ (∀ f, 3 ≤ f → f < 8 → m g f = μ g' f) ∧ ∀ c, (c ≠ g ∧ c ≠ p ∧ (c < t0 ∨ t0 + 6 ≤ c) ∧ (c < c0 ∨ c0 + 5 ≤ c)) → m c = μ c
set_option maxRecDepth 20000 in
theorem kcX1_becomeK {l : Launch} {κ : fr_Ka} {μ : fr_Me} (hb : ∀ t, 0 ≤ t → t < 6 → (0 ≤ μ (36 + t) 4 ∧ μ (36 + t) 4 ≤ 1) ∧ 0 ≤ μ (36 + t) 5 ∧ μ (36 + t) 5 ≤ 1) : fr_C l κ fmX1_become 4 [fr_r κ 5, fr_r κ 1] μ (fr_Pv (fun m => fr_Cp μ m 5 8 42 53 1 4 36 48)) := by
  refine fr_enter (by decide +kernel) (ls := [some (fr_r κ 5), some (fr_r κ 1), none, none]) rfl (Nat.le_of_ble_eq_true rfl) ?_
  refine fr_iconst dX1_become_0 ?_
  refine fr_is2 dX1_become_1 rfl (Nat.le_of_ble_eq_true rfl) ?_
  refine fr_wk ?_ (ls := [some (fr_r κ 5), some (fr_r κ 1), some (fr_i (0 : Int)), none]) ⟨rfl, rfl, rfl, trivial⟩
  refine (fr_down (P := fun j : Nat => ∀ m : fr_Me, ((∀ t : Int, 0 ≤ t → t < j → ∀ f, 0 ≤ f → f < 7 → m (42 + t) f = μ (36 + t) f) ∧ ∀ c, (c < 42 ∨ 42 + 6 ≤ c) → m c = μ c) → fr_A l κ fmX1_become 4 (fr_Pv (fun m => fr_Cp μ m 5 8 42 53 1 4 36 48)) 2 [some (fr_r κ 5), some (fr_r κ 1), some (fr_i (j : Int)), none] [] m) 6 ?_ (fun j hj2 ih2 => ?_)) _ (⟨fun t h0 h1 => by omega, fun c hc => rfl⟩)
  · skip
    intro m hm
    refine fr_il2 dX1_become_2 ?_
    refine fr_bipush dX1_become_3 (by decide) ?_
    refine fr_icmp_ge (tgt := 29) dX1_become_5 (by decide) (by omega) (by omega) (fun h1 => ?_) (fun h1 => ?_)
    · skip
      refine fr_iconst dX1_become_29 ?_
      refine fr_is2 dX1_become_30 rfl (Nat.le_of_ble_eq_true rfl) ?_
      refine fr_wk ?_ (ls := [some (fr_r κ 5), some (fr_r κ 1), some (fr_i (0 : Int)), none]) ⟨rfl, rfl, rfl, trivial⟩
      refine (fr_down (P := fun j : Nat => ∀ m2 : fr_Me, ((∀ c : Int, 0 ≤ c → c < j → ∀ f, 0 ≤ f → f < 4 → m2 (53 + c) f = μ (48 + c) f) ∧ ∀ c, (c < 53 ∨ 53 + 5 ≤ c) → m2 c = m c) → fr_A l κ fmX1_become 4 (fr_Pv (fun m => fr_Cp μ m 5 8 42 53 1 4 36 48)) 31 [some (fr_r κ 5), some (fr_r κ 1), some (fr_i (j : Int)), none] [] m2) 5 ?_ (fun j hj31 ih31 => ?_)) _ (⟨fun t h0 h1 => by omega, fun c hc => rfl⟩)
      · skip
        intro m2 hm2
        refine fr_il2 dX1_become_31 ?_
        refine fr_iconst dX1_become_32 ?_
        refine fr_icmp_ge (tgt := 74) dX1_become_33 (by decide) (by omega) (by omega) (fun h2 => ?_) (fun h2 => ?_)
        · skip
          refine fr_al1 dX1_become_74 ?_
          refine fr_getr (cz := 4) dX1_become_75 flX1_23 ⟨by decide, by decide, rfl⟩ rfl rfl ?_
          refine fr_iconst dX1_become_78 ?_
          refine fr_al0 dX1_become_79 ?_
          refine fr_getr (cz := 8) dX1_become_80 flX1_23 ⟨by decide, by decide, rfl⟩ rfl rfl ?_
          refine fr_iconst dX1_become_83 ?_
          refine fr_bipush dX1_become_84 (by decide) ?_
          refine fr_acpi dX1_become_86 cyX1_52 ⟨by decide, by decide, rfl, by decide⟩ ⟨by decide, by decide, rfl, by decide⟩ (by omega) (by omega) (by omega) (by omega) (by omega) (Nat.le_of_ble_eq_true rfl) (Nat.le_of_ble_eq_true rfl) ?_
          refine fr_al0 dX1_become_89 ?_
          refine fr_al1 dX1_become_90 ?_
          refine fr_geti (kz := 3) dX1_become_91 flX1_58 ⟨by decide, by decide, rfl⟩ rfl rfl ?_
          refine fr_put (kz := 3) dX1_become_94 fpX1_58 ⟨by decide, by decide, rfl⟩ rfl rfl (fun h => by cases h) ?_
          refine fr_al0 dX1_become_97 ?_
          refine fr_al1 dX1_become_98 ?_
          refine fr_geti (kz := 4) dX1_become_99 flX1_61 ⟨by decide, by decide, rfl⟩ rfl rfl ?_
          refine fr_put (kz := 4) dX1_become_102 fpX1_61 ⟨by decide, by decide, rfl⟩ rfl rfl (fun h => by cases h) ?_
          refine fr_al0 dX1_become_105 ?_
          refine fr_al1 dX1_become_106 ?_
          refine fr_geti (kz := 5) dX1_become_107 flX1_27 ⟨by decide, by decide, rfl⟩ rfl rfl ?_
          refine fr_put (kz := 5) dX1_become_110 fpX1_27 ⟨by decide, by decide, rfl⟩ rfl rfl (fun h => by cases h) ?_
          refine fr_al0 dX1_become_113 ?_
          refine fr_al1 dX1_become_114 ?_
          refine fr_geti (kz := 6) dX1_become_115 flX1_64 ⟨by decide, by decide, rfl⟩ rfl rfl ?_
          refine fr_put (kz := 6) dX1_become_118 fpX1_64 ⟨by decide, by decide, rfl⟩ rfl rfl (fun h => by cases h) ?_
          refine fr_al0 dX1_become_121 ?_
          refine fr_al1 dX1_become_122 ?_
          refine fr_geti (kz := 7) dX1_become_123 flX1_67 ⟨by decide, by decide, rfl⟩ rfl rfl ?_
          refine fr_put (kz := 7) dX1_become_126 fpX1_67 ⟨by decide, by decide, rfl⟩ rfl rfl (fun h => by cases h) ?_
          exact fr_vret dX1_become_129 rfl (fr_pv ⟨fun t h0 h1 f g0 g1 => by simp only [fr_up_nc _ _ _ (by omega : (42 : Int) + t ≠ 5), sp_cpy_nc _ _ _ _ _ (by omega : (42 : Int) + t ≠ 8)]; rw [hm2.2 _ (by omega)]; exact hm.1 t h0 (by omega) f g0 g1, fun c h0 h1 f g0 g1 => by simp only [fr_up_nc _ _ _ (by omega : (53 : Int) + c ≠ 5), sp_cpy_nc _ _ _ _ _ (by omega : (53 : Int) + c ≠ 8)]; exact hm2.1 c h0 (by omega) f g0 g1, fun f g0 g1 => by simp only [fr_up_nc _ _ _ (by omega : (8 : Int) ≠ 5), sp_cpy]; rw [if_pos ⟨trivial, by omega, by omega⟩, show (0 : Int) + (f - 0) = f by omega, hm2.2 _ (by omega), hm.2 _ (by omega)], fun f g0 g1 => by rcases (by omega : f = 3 ∨ f = 4 ∨ f = 5 ∨ f = 6 ∨ f = 7) with h | h | h | h | h <;> subst h <;> simp [fr_up_get, sp_cpy, hm2.2 1 (by omega), hm.2 1 (by omega)], fun c hc => by simp only [fr_up_nc _ _ _ (by omega : c ≠ 5), sp_cpy_nc _ _ _ _ _ (by omega : c ≠ 8)]; rw [hm2.2 c (by omega), hm.2 c (by omega)]⟩)
        · skip
          exfalso; omega
      · skip
        intro m2 hm2
        have hs := (hm2.2 (48 + (j : Int)) (by omega)).trans (hm.2 _ (by omega))
        refine fr_il2 dX1_become_31 ?_
        refine fr_iconst dX1_become_32 ?_
        refine fr_icmp_ge (tgt := 74) dX1_become_33 (by decide) (by omega) (by omega) (fun h3 => ?_) (fun h3 => ?_)
        · skip
          exfalso; omega
        · skip
          refine fr_al1 dX1_become_36 ?_
          refine fr_getr (cz := 3) dX1_become_37 flX1_19 ⟨by decide, by decide, rfl⟩ rfl rfl ?_
          refine fr_il2 dX1_become_40 ?_
          refine fr_aaC dX1_become_41 (by omega) (by omega) ?_
          refine fr_as3 dX1_become_42 rfl (Nat.le_of_ble_eq_true rfl) ?_
          refine fr_al0 dX1_become_43 ?_
          refine fr_getr (cz := 7) dX1_become_44 flX1_19 ⟨by decide, by decide, rfl⟩ rfl rfl ?_
          refine fr_il2 dX1_become_47 ?_
          refine fr_aaD dX1_become_48 (by omega) (by omega) ?_
          refine fr_al3 dX1_become_49 ?_
          refine fr_geti (kz := 0) dX1_become_50 flX1_37 (fr_obC (by omega) (by omega)) rfl rfl ?_
          refine fr_al3 dX1_become_53 ?_
          refine fr_geti (kz := 1) dX1_become_54 flX1_40 (fr_obC (by omega) (by omega)) rfl rfl ?_
          refine fr_al3 dX1_become_57 ?_
          refine fr_geti (kz := 2) dX1_become_58 flX1_43 (fr_obC (by omega) (by omega)) rfl rfl ?_
          refine fr_al3 dX1_become_61 ?_
          refine fr_geti (kz := 3) dX1_become_62 flX1_46 (fr_obC (by omega) (by omega)) rfl rfl ?_
          refine fr_cVv (mi' := fmX0_become) dX1_become_65 mlX1_49 mvX0_become ⟨0, _, (fr_obD (by omega) (by omega)), rfl, rfl⟩ (Nat.le_of_ble_eq_true rfl) (kcX0_become (fr_obD (by omega) (by omega))) rfl rfl (Nat.le_of_ble_eq_true rfl) ?_
          refine fr_ii2 dX1_become_68 rfl (Nat.le_of_ble_eq_true rfl) ?_
          refine fr_goto (tgt := 31) dX1_become_71 (by decide) ?_
          exact fr_wk (ih31 _ (⟨fun t h0 h1 f g0 g1 => by (by_cases ht : t = j); (· subst ht; rw [← hs]; rcases (by omega : f = 0 ∨ f = 1 ∨ f = 2 ∨ f = 3) with h | h | h | h <;> subst h <;> simp [fr_up_get]); (· rw [fr_up_nc _ _ _ (by omega), fr_up_nc _ _ _ (by omega), fr_up_nc _ _ _ (by omega), fr_up_nc _ _ _ (by omega)]; exact hm2.1 t h0 (by omega) f g0 g1), fun c hc => by rw [fr_up_nc _ _ _ (by omega), fr_up_nc _ _ _ (by omega), fr_up_nc _ _ _ (by omega), fr_up_nc _ _ _ (by omega)]; exact hm2.2 c hc⟩)) ⟨rfl, rfl, rfl, trivial⟩
    · skip
      exfalso; omega
  · skip
    intro m hm
    have hs := hm.2 (36 + (j : Int)) (by omega)
    have hv := hb (j : Int) (by omega) (by omega)
    have hne : (36 : Int) + j ≠ 42 + j := by omega
    rw [← hs] at hv
    refine fr_il2 dX1_become_2 ?_
    refine fr_bipush dX1_become_3 (by decide) ?_
    refine fr_icmp_ge (tgt := 29) dX1_become_5 (by decide) (by omega) (by omega) (fun h4 => ?_) (fun h4 => ?_)
    · skip
      exfalso; omega
    · skip
      refine fr_al0 dX1_become_8 ?_
      refine fr_getr (cz := 6) dX1_become_9 flX1_11 ⟨by decide, by decide, rfl⟩ rfl rfl ?_
      refine fr_il2 dX1_become_12 ?_
      refine fr_aaK dX1_become_13 (by omega) (by omega) ?_
      refine fr_al1 dX1_become_14 ?_
      refine fr_getr (cz := 2) dX1_become_15 flX1_11 ⟨by decide, by decide, rfl⟩ rfl rfl ?_
      refine fr_il2 dX1_become_18 ?_
      refine fr_aaT dX1_become_19 (by omega) (by omega) ?_
      refine fr_cVv (mi' := fmX7_become) dX1_become_20 mlX1_33 mvX7_become ⟨7, _, (fr_obK (by omega) (by omega)), rfl, rfl⟩ (Nat.le_of_ble_eq_true rfl) (kcX7_become (fr_obK (by omega) (by omega)) (fr_obT (by omega) (by omega)) hne hv.1 hv.2) rfl rfl (Nat.le_of_ble_eq_true rfl) ?_
      refine fr_ii2 dX1_become_23 rfl (Nat.le_of_ble_eq_true rfl) ?_
      refine fr_goto (tgt := 2) dX1_become_26 (by decide) ?_
      exact fr_wk (ih2 _ (⟨fun t h0 h1 f g0 g1 => by (by_cases ht : t = j); (· subst ht; rw [← hs]; rcases (by omega : f = 0 ∨ f = 1 ∨ f = 2 ∨ f = 3 ∨ f = 4 ∨ f = 5 ∨ f = 6) with h | h | h | h | h | h | h <;> subst h <;> simp [sp_cut, sp_begin, fr_up_get]); (· rw [fr_up_nc _ _ _ (by omega), fr_up_nc _ _ _ (by omega), sp_cut_nc _ _ (by omega)]; exact hm.1 t h0 (by omega) f g0 g1), fun c hc => by rw [fr_up_nc _ _ _ (by omega), fr_up_nc _ _ _ (by omega), sp_cut_nc _ _ (by omega)]; exact hm.2 c hc⟩)) ⟨rfl, rfl, rfl, trivial⟩
set_option maxRecDepth 20000 in
theorem kcX1_becomeG {l : Launch} {κ : fr_Ka} {μ : fr_Me} (hb : ∀ t, 0 ≤ t → t < 6 → (0 ≤ μ (42 + t) 4 ∧ μ (42 + t) 4 ≤ 1) ∧ 0 ≤ μ (42 + t) 5 ∧ μ (42 + t) 5 ≤ 1) : fr_C l κ fmX1_become 4 [fr_r κ 1, fr_r κ 5] μ (fr_Pv (fun m => fr_Cp μ m 1 4 36 48 5 8 42 53)) := by
  refine fr_enter (by decide +kernel) (ls := [some (fr_r κ 1), some (fr_r κ 5), none, none]) rfl (Nat.le_of_ble_eq_true rfl) ?_
  refine fr_iconst dX1_become_0 ?_
  refine fr_is2 dX1_become_1 rfl (Nat.le_of_ble_eq_true rfl) ?_
  refine fr_wk ?_ (ls := [some (fr_r κ 1), some (fr_r κ 5), some (fr_i (0 : Int)), none]) ⟨rfl, rfl, rfl, trivial⟩
  refine (fr_down (P := fun j : Nat => ∀ m : fr_Me, ((∀ t : Int, 0 ≤ t → t < j → ∀ f, 0 ≤ f → f < 7 → m (36 + t) f = μ (42 + t) f) ∧ ∀ c, (c < 36 ∨ 36 + 6 ≤ c) → m c = μ c) → fr_A l κ fmX1_become 4 (fr_Pv (fun m => fr_Cp μ m 1 4 36 48 5 8 42 53)) 2 [some (fr_r κ 1), some (fr_r κ 5), some (fr_i (j : Int)), none] [] m) 6 ?_ (fun j hj2 ih2 => ?_)) _ (⟨fun t h0 h1 => by omega, fun c hc => rfl⟩)
  · skip
    intro m hm
    refine fr_il2 dX1_become_2 ?_
    refine fr_bipush dX1_become_3 (by decide) ?_
    refine fr_icmp_ge (tgt := 29) dX1_become_5 (by decide) (by omega) (by omega) (fun h1 => ?_) (fun h1 => ?_)
    · skip
      refine fr_iconst dX1_become_29 ?_
      refine fr_is2 dX1_become_30 rfl (Nat.le_of_ble_eq_true rfl) ?_
      refine fr_wk ?_ (ls := [some (fr_r κ 1), some (fr_r κ 5), some (fr_i (0 : Int)), none]) ⟨rfl, rfl, rfl, trivial⟩
      refine (fr_down (P := fun j : Nat => ∀ m2 : fr_Me, ((∀ c : Int, 0 ≤ c → c < j → ∀ f, 0 ≤ f → f < 4 → m2 (48 + c) f = μ (53 + c) f) ∧ ∀ c, (c < 48 ∨ 48 + 5 ≤ c) → m2 c = m c) → fr_A l κ fmX1_become 4 (fr_Pv (fun m => fr_Cp μ m 1 4 36 48 5 8 42 53)) 31 [some (fr_r κ 1), some (fr_r κ 5), some (fr_i (j : Int)), none] [] m2) 5 ?_ (fun j hj31 ih31 => ?_)) _ (⟨fun t h0 h1 => by omega, fun c hc => rfl⟩)
      · skip
        intro m2 hm2
        refine fr_il2 dX1_become_31 ?_
        refine fr_iconst dX1_become_32 ?_
        refine fr_icmp_ge (tgt := 74) dX1_become_33 (by decide) (by omega) (by omega) (fun h2 => ?_) (fun h2 => ?_)
        · skip
          refine fr_al1 dX1_become_74 ?_
          refine fr_getr (cz := 8) dX1_become_75 flX1_23 ⟨by decide, by decide, rfl⟩ rfl rfl ?_
          refine fr_iconst dX1_become_78 ?_
          refine fr_al0 dX1_become_79 ?_
          refine fr_getr (cz := 4) dX1_become_80 flX1_23 ⟨by decide, by decide, rfl⟩ rfl rfl ?_
          refine fr_iconst dX1_become_83 ?_
          refine fr_bipush dX1_become_84 (by decide) ?_
          refine fr_acpi dX1_become_86 cyX1_52 ⟨by decide, by decide, rfl, by decide⟩ ⟨by decide, by decide, rfl, by decide⟩ (by omega) (by omega) (by omega) (by omega) (by omega) (Nat.le_of_ble_eq_true rfl) (Nat.le_of_ble_eq_true rfl) ?_
          refine fr_al0 dX1_become_89 ?_
          refine fr_al1 dX1_become_90 ?_
          refine fr_geti (kz := 3) dX1_become_91 flX1_58 ⟨by decide, by decide, rfl⟩ rfl rfl ?_
          refine fr_put (kz := 3) dX1_become_94 fpX1_58 ⟨by decide, by decide, rfl⟩ rfl rfl (fun h => by cases h) ?_
          refine fr_al0 dX1_become_97 ?_
          refine fr_al1 dX1_become_98 ?_
          refine fr_geti (kz := 4) dX1_become_99 flX1_61 ⟨by decide, by decide, rfl⟩ rfl rfl ?_
          refine fr_put (kz := 4) dX1_become_102 fpX1_61 ⟨by decide, by decide, rfl⟩ rfl rfl (fun h => by cases h) ?_
          refine fr_al0 dX1_become_105 ?_
          refine fr_al1 dX1_become_106 ?_
          refine fr_geti (kz := 5) dX1_become_107 flX1_27 ⟨by decide, by decide, rfl⟩ rfl rfl ?_
          refine fr_put (kz := 5) dX1_become_110 fpX1_27 ⟨by decide, by decide, rfl⟩ rfl rfl (fun h => by cases h) ?_
          refine fr_al0 dX1_become_113 ?_
          refine fr_al1 dX1_become_114 ?_
          refine fr_geti (kz := 6) dX1_become_115 flX1_64 ⟨by decide, by decide, rfl⟩ rfl rfl ?_
          refine fr_put (kz := 6) dX1_become_118 fpX1_64 ⟨by decide, by decide, rfl⟩ rfl rfl (fun h => by cases h) ?_
          refine fr_al0 dX1_become_121 ?_
          refine fr_al1 dX1_become_122 ?_
          refine fr_geti (kz := 7) dX1_become_123 flX1_67 ⟨by decide, by decide, rfl⟩ rfl rfl ?_
          refine fr_put (kz := 7) dX1_become_126 fpX1_67 ⟨by decide, by decide, rfl⟩ rfl rfl (fun h => by cases h) ?_
          exact fr_vret dX1_become_129 rfl (fr_pv ⟨fun t h0 h1 f g0 g1 => by simp only [fr_up_nc _ _ _ (by omega : (36 : Int) + t ≠ 1), sp_cpy_nc _ _ _ _ _ (by omega : (36 : Int) + t ≠ 4)]; rw [hm2.2 _ (by omega)]; exact hm.1 t h0 (by omega) f g0 g1, fun c h0 h1 f g0 g1 => by simp only [fr_up_nc _ _ _ (by omega : (48 : Int) + c ≠ 1), sp_cpy_nc _ _ _ _ _ (by omega : (48 : Int) + c ≠ 4)]; exact hm2.1 c h0 (by omega) f g0 g1, fun f g0 g1 => by simp only [fr_up_nc _ _ _ (by omega : (4 : Int) ≠ 1), sp_cpy]; rw [if_pos ⟨trivial, by omega, by omega⟩, show (0 : Int) + (f - 0) = f by omega, hm2.2 _ (by omega), hm.2 _ (by omega)], fun f g0 g1 => by rcases (by omega : f = 3 ∨ f = 4 ∨ f = 5 ∨ f = 6 ∨ f = 7) with h | h | h | h | h <;> subst h <;> simp [fr_up_get, sp_cpy, hm2.2 5 (by omega), hm.2 5 (by omega)], fun c hc => by simp only [fr_up_nc _ _ _ (by omega : c ≠ 1), sp_cpy_nc _ _ _ _ _ (by omega : c ≠ 4)]; rw [hm2.2 c (by omega), hm.2 c (by omega)]⟩)
        · skip
          exfalso; omega
      · skip
        intro m2 hm2
        have hs := (hm2.2 (53 + (j : Int)) (by omega)).trans (hm.2 _ (by omega))
        refine fr_il2 dX1_become_31 ?_
        refine fr_iconst dX1_become_32 ?_
        refine fr_icmp_ge (tgt := 74) dX1_become_33 (by decide) (by omega) (by omega) (fun h3 => ?_) (fun h3 => ?_)
        · skip
          exfalso; omega
        · skip
          refine fr_al1 dX1_become_36 ?_
          refine fr_getr (cz := 7) dX1_become_37 flX1_19 ⟨by decide, by decide, rfl⟩ rfl rfl ?_
          refine fr_il2 dX1_become_40 ?_
          refine fr_aaD dX1_become_41 (by omega) (by omega) ?_
          refine fr_as3 dX1_become_42 rfl (Nat.le_of_ble_eq_true rfl) ?_
          refine fr_al0 dX1_become_43 ?_
          refine fr_getr (cz := 3) dX1_become_44 flX1_19 ⟨by decide, by decide, rfl⟩ rfl rfl ?_
          refine fr_il2 dX1_become_47 ?_
          refine fr_aaC dX1_become_48 (by omega) (by omega) ?_
          refine fr_al3 dX1_become_49 ?_
          refine fr_geti (kz := 0) dX1_become_50 flX1_37 (fr_obD (by omega) (by omega)) rfl rfl ?_
          refine fr_al3 dX1_become_53 ?_
          refine fr_geti (kz := 1) dX1_become_54 flX1_40 (fr_obD (by omega) (by omega)) rfl rfl ?_
          refine fr_al3 dX1_become_57 ?_
          refine fr_geti (kz := 2) dX1_become_58 flX1_43 (fr_obD (by omega) (by omega)) rfl rfl ?_
          refine fr_al3 dX1_become_61 ?_
          refine fr_geti (kz := 3) dX1_become_62 flX1_46 (fr_obD (by omega) (by omega)) rfl rfl ?_
          refine fr_cVv (mi' := fmX0_become) dX1_become_65 mlX1_49 mvX0_become ⟨0, _, (fr_obC (by omega) (by omega)), rfl, rfl⟩ (Nat.le_of_ble_eq_true rfl) (kcX0_become (fr_obC (by omega) (by omega))) rfl rfl (Nat.le_of_ble_eq_true rfl) ?_
          refine fr_ii2 dX1_become_68 rfl (Nat.le_of_ble_eq_true rfl) ?_
          refine fr_goto (tgt := 31) dX1_become_71 (by decide) ?_
          exact fr_wk (ih31 _ (⟨fun t h0 h1 f g0 g1 => by (by_cases ht : t = j); (· subst ht; rw [← hs]; rcases (by omega : f = 0 ∨ f = 1 ∨ f = 2 ∨ f = 3) with h | h | h | h <;> subst h <;> simp [fr_up_get]); (· rw [fr_up_nc _ _ _ (by omega), fr_up_nc _ _ _ (by omega), fr_up_nc _ _ _ (by omega), fr_up_nc _ _ _ (by omega)]; exact hm2.1 t h0 (by omega) f g0 g1), fun c hc => by rw [fr_up_nc _ _ _ (by omega), fr_up_nc _ _ _ (by omega), fr_up_nc _ _ _ (by omega), fr_up_nc _ _ _ (by omega)]; exact hm2.2 c hc⟩)) ⟨rfl, rfl, rfl, trivial⟩
    · skip
      exfalso; omega
  · skip
    intro m hm
    have hs := hm.2 (42 + (j : Int)) (by omega)
    have hv := hb (j : Int) (by omega) (by omega)
    have hne : (42 : Int) + j ≠ 36 + j := by omega
    rw [← hs] at hv
    refine fr_il2 dX1_become_2 ?_
    refine fr_bipush dX1_become_3 (by decide) ?_
    refine fr_icmp_ge (tgt := 29) dX1_become_5 (by decide) (by omega) (by omega) (fun h4 => ?_) (fun h4 => ?_)
    · skip
      exfalso; omega
    · skip
      refine fr_al0 dX1_become_8 ?_
      refine fr_getr (cz := 2) dX1_become_9 flX1_11 ⟨by decide, by decide, rfl⟩ rfl rfl ?_
      refine fr_il2 dX1_become_12 ?_
      refine fr_aaT dX1_become_13 (by omega) (by omega) ?_
      refine fr_al1 dX1_become_14 ?_
      refine fr_getr (cz := 6) dX1_become_15 flX1_11 ⟨by decide, by decide, rfl⟩ rfl rfl ?_
      refine fr_il2 dX1_become_18 ?_
      refine fr_aaK dX1_become_19 (by omega) (by omega) ?_
      refine fr_cVv (mi' := fmX7_become) dX1_become_20 mlX1_33 mvX7_become ⟨7, _, (fr_obT (by omega) (by omega)), rfl, rfl⟩ (Nat.le_of_ble_eq_true rfl) (kcX7_become (fr_obT (by omega) (by omega)) (fr_obK (by omega) (by omega)) hne hv.1 hv.2) rfl rfl (Nat.le_of_ble_eq_true rfl) ?_
      refine fr_ii2 dX1_become_23 rfl (Nat.le_of_ble_eq_true rfl) ?_
      refine fr_goto (tgt := 2) dX1_become_26 (by decide) ?_
      exact fr_wk (ih2 _ (⟨fun t h0 h1 f g0 g1 => by (by_cases ht : t = j); (· subst ht; rw [← hs]; rcases (by omega : f = 0 ∨ f = 1 ∨ f = 2 ∨ f = 3 ∨ f = 4 ∨ f = 5 ∨ f = 6) with h | h | h | h | h | h | h <;> subst h <;> simp [sp_cut, sp_begin, fr_up_get]); (· rw [fr_up_nc _ _ _ (by omega), fr_up_nc _ _ _ (by omega), sp_cut_nc _ _ (by omega)]; exact hm.1 t h0 (by omega) f g0 g1), fun c hc => by rw [fr_up_nc _ _ _ (by omega), fr_up_nc _ _ _ (by omega), sp_cut_nc _ _ (by omega)]; exact hm.2 c hc⟩)) ⟨rfl, rfl, rfl, trivial⟩
