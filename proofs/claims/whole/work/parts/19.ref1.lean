theorem fr_up_u (μ : fr_Me) (c k z : Int) : fr_up μ c k z c = sp_u (μ c) k z := by
  funext k'
  simp [fr_up, sp_u]
def sp_addm (μ : fr_Me) (k l b f g : Int) : fr_Me := fr_up (fr_up (fr_up (fr_up (fr_up (fr_up (fr_up (fr_up μ 67 (1 + μ 67 0) k) 67 (7 + μ 67 0) 5) 67 (13 + μ 67 0) l) 67 (19 + μ 67 0) b) 67 (25 + μ 67 0) f) 67 (31 + μ 67 0) g) 67 (37 + μ 67 0) 0) 67 0 (μ 67 0 + 1)
def sp_clm (μ : fr_Me) (a b d e : Int) : fr_Me := fr_up (fr_up (fr_up (fr_up (fr_up μ 67 (44 + μ 67 43) a) 67 (49 + μ 67 43) b) 67 (54 + μ 67 43) d) 67 (59 + μ 67 43) e) 67 43 (μ 67 43 + 1)
section L2
variable {l : Launch} {κ : fr_Ka} {mi : fr_Mi} {k : Nat} {Q : Option Value → fr_Me → Prop} {pc idx : Nat} {ls : List (Option Value)} {st : List Value} {μ : fr_Me}
theorem fr_l2iB {a : Int} (hd : decode mi.2.1 pc = .ok (.l2i, 1)) (kk : fr_A l κ mi k Q (pc + 1) ls (fr_i (a.bmod 4294967296) :: st) μ) : fr_A l κ mi k Q pc ls (fr_j a :: st) μ := by
  refine fr_l2i hd ?_
  have e : Int32.ofInt (a.bmod 4294967296) = Int32.ofInt a := by
    rw [← Int32.toInt_inj, Int32.toInt_ofInt, Int32.toInt_ofInt]
    exact Int.bmod_bmod
  rw [fr_i, e] at kk
  exact kk
end L2
set_option maxRecDepth 20000 in
theorem kcX11_in {l : Launch} {κ : fr_Ka} {μ : fr_Me} {v a b : Int} (rv : -9223372036854775808 ≤ v ∧ v ≤ 9223372036854775807) (ra : -9223372036854775808 ≤ a ∧ a ≤ 9223372036854775807) (rb : -9223372036854775808 ≤ b ∧ b ≤ 9223372036854775807) : fr_C l κ fmX11_in 1 [fr_j v, fr_j a, fr_j b] μ (fr_Ei (fr_b (a ≤ v ∧ v ≤ b)) μ) := by
  refine fr_enter (by decide +kernel) (ls := [some (fr_j v), none, some (fr_j a), none, some (fr_j b), none]) rfl (Nat.le_of_ble_eq_true rfl) ?_
  refine fr_ll0 dX11_in_0 ?_
  refine fr_ll2 dX11_in_1 ?_
  refine fr_lcmpR dX11_in_2 (by omega) (by omega) ?_
  refine fr_if_lt (tgt := 17) dX11_in_3 (by decide) (by omega) (fun h1 => ?_) (fun h1 => ?_)
  · skip
    refine fr_iconst dX11_in_17 ?_
    exact fr_zret dX11_in_18 rfl (Or.inl rfl) (fr_e (by first | rfl | exact (fr_bT (by omega)).symm | exact (fr_bF (by omega)).symm | exact fr_bc (by omega)) rfl)
  · skip
    refine fr_ll0 dX11_in_6 ?_
    refine fr_ll4 dX11_in_7 ?_
    refine fr_lcmpR dX11_in_9 (by omega) (by omega) ?_
    refine fr_if_gt (tgt := 17) dX11_in_10 (by decide) (by omega) (fun h2 => ?_) (fun h2 => ?_)
    · skip
      refine fr_iconst dX11_in_17 ?_
      exact fr_zret dX11_in_18 rfl (Or.inl rfl) (fr_e (by first | rfl | exact (fr_bT (by omega)).symm | exact (fr_bF (by omega)).symm | exact fr_bc (by omega)) rfl)
    · skip
      refine fr_iconst dX11_in_13 ?_
      refine fr_goto (tgt := 18) dX11_in_14 (by decide) ?_
      exact fr_zret dX11_in_18 rfl (Or.inr rfl) (fr_e (by first | rfl | exact (fr_bT (by omega)).symm | exact (fr_bF (by omega)).symm | exact fr_bc (by omega)) rfl)
set_option maxRecDepth 20000 in
theorem kcX11_has {l : Launch} {κ : fr_Ka} {μ : fr_Me} {set k : Int} : fr_C l κ fmX11_has 1 [fr_i set, fr_i k] μ (fr_Ei (fr_b (sp_in set k)) μ) := by
  have hr := fr_and_rg (fr_shr set k) 1
  refine fr_enter (by decide +kernel) (ls := [some (fr_i set), some (fr_i k)]) rfl (Nat.le_of_ble_eq_true rfl) ?_
  refine fr_il0 dX11_has_0 ?_
  refine fr_il1 dX11_has_1 ?_
  refine fr_ishr dX11_has_2 ?_
  refine fr_iconst dX11_has_3 ?_
  refine fr_iand dX11_has_4 ?_
  refine fr_iconst dX11_has_5 ?_
  refine fr_icmp_ne (tgt := 13) dX11_has_6 (by decide) (by omega) (by omega) (fun h1 => ?_) (fun h1 => ?_)
  · skip
    refine fr_iconst dX11_has_13 ?_
    exact fr_zret dX11_has_14 rfl (Or.inl rfl) (fr_e (by first | exact (fr_bT (by assumption)).symm | exact (fr_bF (by assumption)).symm) rfl)
  · skip
    refine fr_iconst dX11_has_9 ?_
    refine fr_goto (tgt := 14) dX11_has_10 (by decide) ?_
    exact fr_zret dX11_has_14 rfl (Or.inr rfl) (fr_e (by first | exact (fr_bT (by assumption)).symm | exact (fr_bF (by assumption)).symm) rfl)
set_option maxRecDepth 20000 in
theorem kcX11_size {l : Launch} {κ : fr_Ka} {μ : fr_Me} {set : Int} : fr_C l κ fmX11_size 1 [fr_i set] μ (fr_Ei (sp_sum 6 (fun k => fr_and (fr_shr set k) 1)) μ) := by
  refine fr_enter (by decide +kernel) (ls := [some (fr_i set), none, none]) rfl (Nat.le_of_ble_eq_true rfl) ?_
  refine fr_iconst dX11_size_0 ?_
  refine fr_is1 dX11_size_1 rfl (Nat.le_of_ble_eq_true rfl) ?_
  refine fr_iconst dX11_size_2 ?_
  refine fr_is2 dX11_size_3 rfl (Nat.le_of_ble_eq_true rfl) ?_
  refine fr_wk ?_ (ls := [some (fr_i set), some (fr_i (sp_sum 0 (fun k => fr_and (fr_shr set k) 1))), some (fr_i (0 : Int))]) ⟨rfl, rfl, rfl, trivial⟩
  refine fr_down (P := fun j : Nat => fr_A l κ fmX11_size 1 (fr_Ei (sp_sum 6 (fun k => fr_and (fr_shr set k) 1)) μ) 4 [some (fr_i set), some (fr_i (sp_sum j (fun k => fr_and (fr_shr set k) 1))), some (fr_i (j : Int))] [] μ) 6 ?_ (fun j hj4 ih4 => ?_)
  · skip
    refine fr_il2 dX11_size_4 ?_
    refine fr_bipush dX11_size_5 (by decide) ?_
    refine fr_icmp_ge (tgt := 24) dX11_size_7 (by decide) (by omega) (by omega) (fun h1 => ?_) (fun h1 => ?_)
    · skip
      refine fr_il1 dX11_size_24 ?_
      exact fr_iret dX11_size_25 rfl (fr_e rfl rfl)
    · skip
      exfalso; omega
  · skip
    refine fr_il2 dX11_size_4 ?_
    refine fr_bipush dX11_size_5 (by decide) ?_
    refine fr_icmp_ge (tgt := 24) dX11_size_7 (by decide) (by omega) (by omega) (fun h2 => ?_) (fun h2 => ?_)
    · skip
      exfalso; omega
    · skip
      refine fr_il1 dX11_size_10 ?_
      refine fr_il0 dX11_size_11 ?_
      refine fr_il2 dX11_size_12 ?_
      refine fr_ishr dX11_size_13 ?_
      refine fr_iconst dX11_size_14 ?_
      refine fr_iand dX11_size_15 ?_
      refine fr_iadd dX11_size_16 ?_
      refine fr_is1 dX11_size_17 rfl (Nat.le_of_ble_eq_true rfl) ?_
      refine fr_ii2 dX11_size_18 rfl (Nat.le_of_ble_eq_true rfl) ?_
      refine fr_goto (tgt := 4) dX11_size_21 (by decide) ?_
      exact fr_wk (ih4) ⟨rfl, rfl, rfl, trivial⟩
set_option maxRecDepth 20000 in
theorem kcX11_isTree {l : Launch} {κ : fr_Ka} {μ : fr_Me} (hI : fr_I (μ 67)) {t : Int} (rt : -2147483648 ≤ t ∧ t ≤ 2147483647) : fr_C l κ fmX11_isTree 2 [fr_r κ 66, fr_i t] μ (fr_Ei (fr_b (0 ≤ t ∧ t < μ 67 0)) μ) := by
  have iN := hI.n
  have iM := hI.many
  refine fr_enter (by decide +kernel) (ls := [some (fr_r κ 66), some (fr_i t)]) rfl (Nat.le_of_ble_eq_true rfl) ?_
  refine fr_il1 dX11_isTree_0 ?_
  refine fr_i2l dX11_isTree_1 (by omega) ?_
  refine fr_lconst0 dX11_isTree_2 ?_
  refine fr_al0 dX11_isTree_3 ?_
  refine fr_getr (cz := 67) dX11_isTree_4 flX11_7 ⟨by decide, by decide, rfl⟩ rfl rfl ?_
  refine fr_iconst dX11_isTree_7 ?_
  refine fr_iald dX11_isTree_8 ⟨by decide, by decide, rfl, by decide⟩ (by omega) (by omega) ?_
  refine fr_iconst dX11_isTree_9 ?_
  refine fr_isub dX11_isTree_10 ?_
  refine fr_i2l dX11_isTree_11 (by omega) ?_
  refine fr_cSi (mi' := fmX11_in) dX11_isTree_12 mlX11_51 msX11_in (Nat.le_of_ble_eq_true rfl) (kcX11_in (by omega) (by omega) (by omega)) rfl rfl (Nat.le_of_ble_eq_true rfl) ?_
  exact fr_zret dX11_isTree_15 rfl (fr_b01 _) (fr_e (by first | rfl | exact (fr_bT (by omega)).symm | exact (fr_bF (by omega)).symm | exact fr_bc (by omega)) rfl)
set_option maxRecDepth 20000 in
theorem kcX11_isClimber {l : Launch} {κ : fr_Ka} {μ : fr_Me} (hI : fr_I (μ 67)) {c : Int} (rc : -2147483648 ≤ c ∧ c ≤ 2147483647) : fr_C l κ fmX11_isClimber 2 [fr_r κ 66, fr_i c] μ (fr_Ei (fr_b (0 ≤ c ∧ c < μ 67 43)) μ) := by
  have iN := hI.n
  have iM := hI.many
  refine fr_enter (by decide +kernel) (ls := [some (fr_r κ 66), some (fr_i c)]) rfl (Nat.le_of_ble_eq_true rfl) ?_
  refine fr_il1 dX11_isClimber_0 ?_
  refine fr_i2l dX11_isClimber_1 (by omega) ?_
  refine fr_lconst0 dX11_isClimber_2 ?_
  refine fr_al0 dX11_isClimber_3 ?_
  refine fr_getr (cz := 67) dX11_isClimber_4 flX11_7 ⟨by decide, by decide, rfl⟩ rfl rfl ?_
  refine fr_bipush dX11_isClimber_7 (by decide) ?_
  refine fr_iald dX11_isClimber_9 ⟨by decide, by decide, rfl, by decide⟩ (by omega) (by omega) ?_
  refine fr_iconst dX11_isClimber_10 ?_
  refine fr_isub dX11_isClimber_11 ?_
  refine fr_i2l dX11_isClimber_12 (by omega) ?_
  refine fr_cSi (mi' := fmX11_in) dX11_isClimber_13 mlX11_51 msX11_in (Nat.le_of_ble_eq_true rfl) (kcX11_in (by omega) (by omega) (by omega)) rfl rfl (Nat.le_of_ble_eq_true rfl) ?_
  exact fr_zret dX11_isClimber_16 rfl (fr_b01 _) (fr_e (by first | rfl | exact (fr_bT (by omega)).symm | exact (fr_bF (by omega)).symm | exact fr_bc (by omega)) rfl)
set_option maxRecDepth 20000 in
theorem kcX11_add {l : Launch} {κ : fr_Ka} {μ : fr_Me} {k a b f g : Int} (hn : 0 ≤ μ 67 0 ∧ μ 67 0 < 6) : fr_C l κ fmX11_add 1 [fr_r κ 66, fr_i k, fr_i a, fr_i b, fr_i f, fr_i g] μ (fr_Ei (μ 67 0) (sp_addm μ k a b f g)) := by
  refine fr_enter (by decide +kernel) (ls := [some (fr_r κ 66), some (fr_i k), some (fr_i a), some (fr_i b), some (fr_i f), some (fr_i g), none]) rfl (Nat.le_of_ble_eq_true rfl) ?_
  refine fr_al0 dX11_add_0 ?_
  refine fr_getr (cz := 67) dX11_add_1 flX11_7 ⟨by decide, by decide, rfl⟩ rfl rfl ?_
  refine fr_iconst dX11_add_4 ?_
  refine fr_iald dX11_add_5 ⟨by decide, by decide, rfl, by decide⟩ (by omega) (by omega) ?_
  refine fr_is6 dX11_add_6 rfl (Nat.le_of_ble_eq_true rfl) ?_
  refine fr_al0 dX11_add_8 ?_
  refine fr_getr (cz := 67) dX11_add_9 flX11_7 ⟨by decide, by decide, rfl⟩ rfl rfl ?_
  refine fr_iconst dX11_add_12 ?_
  refine fr_il6 dX11_add_13 ?_
  refine fr_iadd dX11_add_15 ?_
  refine fr_il1 dX11_add_16 ?_
  refine fr_iast dX11_add_17 ⟨by decide, by decide, rfl, by decide⟩ (by omega) (by omega) ?_
  refine fr_al0 dX11_add_18 ?_
  refine fr_getr (cz := 67) dX11_add_19 flX11_7 ⟨by decide, by decide, rfl⟩ rfl rfl ?_
  refine fr_bipush dX11_add_22 (by decide) ?_
  refine fr_il6 dX11_add_24 ?_
  refine fr_iadd dX11_add_26 ?_
  refine fr_iconst dX11_add_27 ?_
  refine fr_iast dX11_add_28 ⟨by decide, by decide, rfl, by decide⟩ (by omega) (by omega) ?_
  refine fr_al0 dX11_add_29 ?_
  refine fr_getr (cz := 67) dX11_add_30 flX11_7 ⟨by decide, by decide, rfl⟩ rfl rfl ?_
  refine fr_bipush dX11_add_33 (by decide) ?_
  refine fr_il6 dX11_add_35 ?_
  refine fr_iadd dX11_add_37 ?_
  refine fr_il2 dX11_add_38 ?_
  refine fr_iast dX11_add_39 ⟨by decide, by decide, rfl, by decide⟩ (by omega) (by omega) ?_
  refine fr_al0 dX11_add_40 ?_
  refine fr_getr (cz := 67) dX11_add_41 flX11_7 ⟨by decide, by decide, rfl⟩ rfl rfl ?_
  refine fr_bipush dX11_add_44 (by decide) ?_
  refine fr_il6 dX11_add_46 ?_
  refine fr_iadd dX11_add_48 ?_
  refine fr_il3 dX11_add_49 ?_
  refine fr_iast dX11_add_50 ⟨by decide, by decide, rfl, by decide⟩ (by omega) (by omega) ?_
  refine fr_al0 dX11_add_51 ?_
  refine fr_getr (cz := 67) dX11_add_52 flX11_7 ⟨by decide, by decide, rfl⟩ rfl rfl ?_
  refine fr_bipush dX11_add_55 (by decide) ?_
  refine fr_il6 dX11_add_57 ?_
  refine fr_iadd dX11_add_59 ?_
  refine fr_il4 dX11_add_60 ?_
  refine fr_iast dX11_add_62 ⟨by decide, by decide, rfl, by decide⟩ (by omega) (by omega) ?_
  refine fr_al0 dX11_add_63 ?_
  refine fr_getr (cz := 67) dX11_add_64 flX11_7 ⟨by decide, by decide, rfl⟩ rfl rfl ?_
  refine fr_bipush dX11_add_67 (by decide) ?_
  refine fr_il6 dX11_add_69 ?_
  refine fr_iadd dX11_add_71 ?_
  refine fr_il5 dX11_add_72 ?_
  refine fr_iast dX11_add_74 ⟨by decide, by decide, rfl, by decide⟩ (by omega) (by omega) ?_
  refine fr_al0 dX11_add_75 ?_
  refine fr_getr (cz := 67) dX11_add_76 flX11_7 ⟨by decide, by decide, rfl⟩ rfl rfl ?_
  refine fr_bipush dX11_add_79 (by decide) ?_
  refine fr_il6 dX11_add_81 ?_
  refine fr_iadd dX11_add_83 ?_
  refine fr_iconst dX11_add_84 ?_
  refine fr_iast dX11_add_85 ⟨by decide, by decide, rfl, by decide⟩ (by omega) (by omega) ?_
  refine fr_al0 dX11_add_86 ?_
  refine fr_getr (cz := 67) dX11_add_87 flX11_7 ⟨by decide, by decide, rfl⟩ rfl rfl ?_
  refine fr_iconst dX11_add_90 ?_
  refine fr_dup2 dX11_add_91 rfl rfl ?_
  refine fr_iald dX11_add_92 ⟨by decide, by decide, rfl, by decide⟩ (by omega) (by omega) ?_
  refine fr_iconst dX11_add_93 ?_
  refine fr_iadd dX11_add_94 ?_
  refine fr_iast dX11_add_95 ⟨by decide, by decide, rfl, by decide⟩ (by omega) (by omega) ?_
  refine fr_il6 dX11_add_96 ?_
  exact fr_iret dX11_add_98 rfl (fr_e rfl (by unfold sp_addm; congr 1; simp only [fr_up_get]; (repeat rw [if_neg (by omega)])))
set_option maxRecDepth 20000 in
theorem kcX11_tree {l : Launch} {κ : fr_Ka} {μ : fr_Me} (hI : fr_I (μ 67)) {k : Int} (rk : -2147483648 ≤ k ∧ k ≤ 2147483647) : fr_C l κ fmX11_tree 2 [fr_r κ 66, fr_i k] μ (fr_Pi (fun z m => (¬ (0 ≤ k ∧ k ≤ 3) ∧ z = -1 ∧ m = μ) ∨ ((0 ≤ k ∧ k ≤ 3) ∧ μ 67 0 = 6 ∧ z = -3 ∧ m = μ) ∨ ((0 ≤ k ∧ k ≤ 3) ∧ μ 67 0 < 6 ∧ z = μ 67 0 ∧ m = sp_addm μ k 5 5 0 0))) := by
  have iN := hI.n
  have iM := hI.many
  refine fr_enter (by decide +kernel) (ls := [some (fr_r κ 66), some (fr_i k)]) rfl (Nat.le_of_ble_eq_true rfl) ?_
  refine fr_il1 dX11_tree_0 ?_
  refine fr_i2l dX11_tree_1 (by omega) ?_
  refine fr_lconst0 dX11_tree_2 ?_
  refine fr_ldc2 dX11_tree_3 clX11_55 ?_
  refine fr_cSi (mi' := fmX11_in) dX11_tree_6 mlX11_51 msX11_in (Nat.le_of_ble_eq_true rfl) (kcX11_in (by omega) (by omega) (by omega)) rfl rfl (Nat.le_of_ble_eq_true rfl) ?_
  refine fr_ifb_ne (tgt := 14) dX11_tree_9 (by decide) (fun h1 => ?_) (fun h1 => ?_)
  · skip
    refine fr_al0 dX11_tree_14 ?_
    refine fr_getr (cz := 67) dX11_tree_15 flX11_7 ⟨by decide, by decide, rfl⟩ rfl rfl ?_
    refine fr_iconst dX11_tree_18 ?_
    refine fr_iald dX11_tree_19 ⟨by decide, by decide, rfl, by decide⟩ (by omega) (by omega) ?_
    refine fr_bipush dX11_tree_20 (by decide) ?_
    refine fr_icmp_ne (tgt := 30) dX11_tree_22 (by decide) (by omega) (by omega) (fun h2 => ?_) (fun h2 => ?_)
    · skip
      refine fr_al0 dX11_tree_30 ?_
      refine fr_il1 dX11_tree_31 ?_
      refine fr_iconst dX11_tree_32 ?_
      refine fr_iconst dX11_tree_33 ?_
      refine fr_iconst dX11_tree_34 ?_
      refine fr_iconst dX11_tree_35 ?_
      refine fr_cVi (mi' := fmX11_add) dX11_tree_36 mlX11_57 mvX11_add ⟨11, _, ⟨by decide, by decide, rfl⟩, rfl, rfl⟩ (Nat.le_of_ble_eq_true rfl) (kcX11_add (by omega)) rfl rfl (Nat.le_of_ble_eq_true rfl) ?_
      exact fr_iret dX11_tree_39 rfl (fr_pi (by first | exact Or.inl ⟨by omega, rfl, rfl⟩ | exact Or.inr (Or.inl ⟨by omega, by omega, rfl, rfl⟩) | exact Or.inr (Or.inr ⟨by omega, by omega, rfl, rfl⟩)))
    · skip
      refine fr_bipush dX11_tree_25 (by decide) ?_
      refine fr_goto (tgt := 39) dX11_tree_27 (by decide) ?_
      exact fr_iret dX11_tree_39 rfl (fr_pi (by first | exact Or.inl ⟨by omega, rfl, rfl⟩ | exact Or.inr (Or.inl ⟨by omega, by omega, rfl, rfl⟩) | exact Or.inr (Or.inr ⟨by omega, by omega, rfl, rfl⟩)))
  · skip
    refine fr_iconst dX11_tree_12 ?_
    exact fr_iret dX11_tree_13 rfl (fr_pi (by first | exact Or.inl ⟨by omega, rfl, rfl⟩ | exact Or.inr (Or.inl ⟨by omega, by omega, rfl, rfl⟩) | exact Or.inr (Or.inr ⟨by omega, by omega, rfl, rfl⟩)))
set_option maxRecDepth 20000 in
theorem kcX11_cutting {l : Launch} {κ : fr_Ka} {μ : fr_Me} (hI : fr_I (μ 67)) {t : Int} (rt : -2147483648 ≤ t ∧ t ≤ 2147483647) : fr_C l κ fmX11_cutting 3 [fr_r κ 66, fr_i t] μ (fr_Pi (fun z m => (¬ (0 ≤ t ∧ t < μ 67 0) ∧ z = -1 ∧ m = μ) ∨ ((0 ≤ t ∧ t < μ 67 0) ∧ μ 67 0 = 6 ∧ z = -3 ∧ m = μ) ∨ ((0 ≤ t ∧ t < μ 67 0) ∧ μ 67 0 < 6 ∧ z = μ 67 0 ∧ m = sp_addm μ (μ 67 (1 + t)) (μ 67 (13 + t)) (μ 67 (19 + t)) (μ 67 (25 + t)) (μ 67 (31 + t))))) := by
  have iN := hI.n
  have iM := hI.many
  refine fr_enter (by decide +kernel) (ls := [some (fr_r κ 66), some (fr_i t)]) rfl (Nat.le_of_ble_eq_true rfl) ?_
  refine fr_al0 dX11_cutting_0 ?_
  refine fr_il1 dX11_cutting_1 ?_
  refine fr_cVi (mi' := fmX11_isTree) dX11_cutting_2 mlX11_61 mvX11_isTree ⟨11, _, ⟨by decide, by decide, rfl⟩, rfl, rfl⟩ (Nat.le_of_ble_eq_true rfl) (kcX11_isTree hI (by omega)) rfl rfl (Nat.le_of_ble_eq_true rfl) ?_
  refine fr_ifb_ne (tgt := 10) dX11_cutting_5 (by decide) (fun h1 => ?_) (fun h1 => ?_)
  · skip
    refine fr_al0 dX11_cutting_10 ?_
    refine fr_getr (cz := 67) dX11_cutting_11 flX11_7 ⟨by decide, by decide, rfl⟩ rfl rfl ?_
    refine fr_iconst dX11_cutting_14 ?_
    refine fr_iald dX11_cutting_15 ⟨by decide, by decide, rfl, by decide⟩ (by omega) (by omega) ?_
    refine fr_bipush dX11_cutting_16 (by decide) ?_
    refine fr_icmp_ne (tgt := 26) dX11_cutting_18 (by decide) (by omega) (by omega) (fun h2 => ?_) (fun h2 => ?_)
    · skip
      refine fr_al0 dX11_cutting_26 ?_
      refine fr_al0 dX11_cutting_27 ?_
      refine fr_getr (cz := 67) dX11_cutting_28 flX11_7 ⟨by decide, by decide, rfl⟩ rfl rfl ?_
      refine fr_iconst dX11_cutting_31 ?_
      refine fr_il1 dX11_cutting_32 ?_
      refine fr_iadd dX11_cutting_33 ?_
      refine fr_iald dX11_cutting_34 ⟨by decide, by decide, rfl, by decide⟩ (by omega) (by omega) ?_
      refine fr_al0 dX11_cutting_35 ?_
      refine fr_getr (cz := 67) dX11_cutting_36 flX11_7 ⟨by decide, by decide, rfl⟩ rfl rfl ?_
      refine fr_bipush dX11_cutting_39 (by decide) ?_
      refine fr_il1 dX11_cutting_41 ?_
      refine fr_iadd dX11_cutting_42 ?_
      refine fr_iald dX11_cutting_43 ⟨by decide, by decide, rfl, by decide⟩ (by omega) (by omega) ?_
      refine fr_al0 dX11_cutting_44 ?_
      refine fr_getr (cz := 67) dX11_cutting_45 flX11_7 ⟨by decide, by decide, rfl⟩ rfl rfl ?_
      refine fr_bipush dX11_cutting_48 (by decide) ?_
      refine fr_il1 dX11_cutting_50 ?_
      refine fr_iadd dX11_cutting_51 ?_
      refine fr_iald dX11_cutting_52 ⟨by decide, by decide, rfl, by decide⟩ (by omega) (by omega) ?_
      refine fr_al0 dX11_cutting_53 ?_
      refine fr_getr (cz := 67) dX11_cutting_54 flX11_7 ⟨by decide, by decide, rfl⟩ rfl rfl ?_
      refine fr_bipush dX11_cutting_57 (by decide) ?_
      refine fr_il1 dX11_cutting_59 ?_
      refine fr_iadd dX11_cutting_60 ?_
      refine fr_iald dX11_cutting_61 ⟨by decide, by decide, rfl, by decide⟩ (by omega) (by omega) ?_
      refine fr_al0 dX11_cutting_62 ?_
      refine fr_getr (cz := 67) dX11_cutting_63 flX11_7 ⟨by decide, by decide, rfl⟩ rfl rfl ?_
      refine fr_bipush dX11_cutting_66 (by decide) ?_
      refine fr_il1 dX11_cutting_68 ?_
      refine fr_iadd dX11_cutting_69 ?_
      refine fr_iald dX11_cutting_70 ⟨by decide, by decide, rfl, by decide⟩ (by omega) (by omega) ?_
      refine fr_cVi (mi' := fmX11_add) dX11_cutting_71 mlX11_57 mvX11_add ⟨11, _, ⟨by decide, by decide, rfl⟩, rfl, rfl⟩ (Nat.le_of_ble_eq_true rfl) (kcX11_add (by omega)) rfl rfl (Nat.le_of_ble_eq_true rfl) ?_
      exact fr_iret dX11_cutting_74 rfl (fr_pi (by first | exact Or.inl ⟨by omega, rfl, rfl⟩ | exact Or.inr (Or.inl ⟨by omega, by omega, rfl, rfl⟩) | exact Or.inr (Or.inr ⟨by omega, by omega, rfl, rfl⟩)))
    · skip
      refine fr_bipush dX11_cutting_21 (by decide) ?_
      refine fr_goto (tgt := 74) dX11_cutting_23 (by decide) ?_
      exact fr_iret dX11_cutting_74 rfl (fr_pi (by first | exact Or.inl ⟨by omega, rfl, rfl⟩ | exact Or.inr (Or.inl ⟨by omega, by omega, rfl, rfl⟩) | exact Or.inr (Or.inr ⟨by omega, by omega, rfl, rfl⟩)))
  · skip
    refine fr_iconst dX11_cutting_8 ?_
    exact fr_iret dX11_cutting_9 rfl (fr_pi (by first | exact Or.inl ⟨by omega, rfl, rfl⟩ | exact Or.inr (Or.inl ⟨by omega, by omega, rfl, rfl⟩) | exact Or.inr (Or.inr ⟨by omega, by omega, rfl, rfl⟩)))
set_option maxRecDepth 20000 in
theorem kcX11_climber {l : Launch} {κ : fr_Ka} {μ : fr_Me} (hI : fr_I (μ 67)) {a b d e : Int} (ra : -2147483648 ≤ a ∧ a ≤ 2147483647) (rb : -2147483648 ≤ b ∧ b ≤ 2147483647) (rd : -2147483648 ≤ d ∧ d ≤ 2147483647) (re : -2147483648 ≤ e ∧ e ≤ 2147483647) : fr_C l κ fmX11_climber 2 [fr_r κ 66, fr_i a, fr_i b, fr_i d, fr_i e] μ (fr_Pi (fun z m => (¬ ((0 ≤ a ∧ a ≤ 3) ∧ (1 ≤ b ∧ b ≤ 9) ∧ (0 ≤ d ∧ d ≤ 99) ∧ (0 ≤ e ∧ e ≤ 10)) ∧ z = -1 ∧ m = μ) ∨ (((0 ≤ a ∧ a ≤ 3) ∧ (1 ≤ b ∧ b ≤ 9) ∧ (0 ≤ d ∧ d ≤ 99) ∧ (0 ≤ e ∧ e ≤ 10)) ∧ μ 67 43 = 5 ∧ z = -3 ∧ m = μ) ∨ (((0 ≤ a ∧ a ≤ 3) ∧ (1 ≤ b ∧ b ≤ 9) ∧ (0 ≤ d ∧ d ≤ 99) ∧ (0 ≤ e ∧ e ≤ 10)) ∧ μ 67 43 < 5 ∧ z = μ 67 43 ∧ m = sp_clm μ a b d e))) := by
  have iN := hI.n
  have iM := hI.many
  refine fr_enter (by decide +kernel) (ls := [some (fr_r κ 66), some (fr_i a), some (fr_i b), some (fr_i d), some (fr_i e), none]) rfl (Nat.le_of_ble_eq_true rfl) ?_
  refine fr_il1 dX11_climber_0 ?_
  refine fr_i2l dX11_climber_1 (by omega) ?_
  refine fr_lconst0 dX11_climber_2 ?_
  refine fr_ldc2 dX11_climber_3 clX11_55 ?_
  refine fr_cSi (mi' := fmX11_in) dX11_climber_6 mlX11_51 msX11_in (Nat.le_of_ble_eq_true rfl) (kcX11_in (by omega) (by omega) (by omega)) rfl rfl (Nat.le_of_ble_eq_true rfl) ?_
  refine fr_ifb_eq (tgt := 49) dX11_climber_9 (by decide) (fun h1 => ?_) (fun h1 => ?_)
  · skip
    refine fr_iconst dX11_climber_49 ?_
    exact fr_iret dX11_climber_50 rfl (fr_pi (by first | exact Or.inl ⟨by omega, rfl, rfl⟩ | exact Or.inr (Or.inl ⟨by omega, by omega, rfl, rfl⟩) | exact Or.inr (Or.inr ⟨by omega, by omega, rfl, by unfold sp_clm; congr 1; simp only [fr_up_get]; (repeat rw [if_neg (by omega)])⟩)))
  · skip
    refine fr_il2 dX11_climber_12 ?_
    refine fr_i2l dX11_climber_13 (by omega) ?_
    refine fr_lconst1 dX11_climber_14 ?_
    refine fr_ldc2 dX11_climber_15 clX11_65 ?_
    refine fr_cSi (mi' := fmX11_in) dX11_climber_18 mlX11_51 msX11_in (Nat.le_of_ble_eq_true rfl) (kcX11_in (by omega) (by omega) (by omega)) rfl rfl (Nat.le_of_ble_eq_true rfl) ?_
    refine fr_ifb_eq (tgt := 49) dX11_climber_21 (by decide) (fun h2 => ?_) (fun h2 => ?_)
    · skip
      refine fr_iconst dX11_climber_49 ?_
      exact fr_iret dX11_climber_50 rfl (fr_pi (by first | exact Or.inl ⟨by omega, rfl, rfl⟩ | exact Or.inr (Or.inl ⟨by omega, by omega, rfl, rfl⟩) | exact Or.inr (Or.inr ⟨by omega, by omega, rfl, by unfold sp_clm; congr 1; simp only [fr_up_get]; (repeat rw [if_neg (by omega)])⟩)))
    · skip
      refine fr_il3 dX11_climber_24 ?_
      refine fr_i2l dX11_climber_25 (by omega) ?_
      refine fr_lconst0 dX11_climber_26 ?_
      refine fr_ldc2 dX11_climber_27 clX11_67 ?_
      refine fr_cSi (mi' := fmX11_in) dX11_climber_30 mlX11_51 msX11_in (Nat.le_of_ble_eq_true rfl) (kcX11_in (by omega) (by omega) (by omega)) rfl rfl (Nat.le_of_ble_eq_true rfl) ?_
      refine fr_ifb_eq (tgt := 49) dX11_climber_33 (by decide) (fun h3 => ?_) (fun h3 => ?_)
      · skip
        refine fr_iconst dX11_climber_49 ?_
        exact fr_iret dX11_climber_50 rfl (fr_pi (by first | exact Or.inl ⟨by omega, rfl, rfl⟩ | exact Or.inr (Or.inl ⟨by omega, by omega, rfl, rfl⟩) | exact Or.inr (Or.inr ⟨by omega, by omega, rfl, by unfold sp_clm; congr 1; simp only [fr_up_get]; (repeat rw [if_neg (by omega)])⟩)))
      · skip
        refine fr_il4 dX11_climber_36 ?_
        refine fr_i2l dX11_climber_38 (by omega) ?_
        refine fr_lconst0 dX11_climber_39 ?_
        refine fr_ldc2 dX11_climber_40 clX11_69 ?_
        refine fr_cSi (mi' := fmX11_in) dX11_climber_43 mlX11_51 msX11_in (Nat.le_of_ble_eq_true rfl) (kcX11_in (by omega) (by omega) (by omega)) rfl rfl (Nat.le_of_ble_eq_true rfl) ?_
        refine fr_ifb_ne (tgt := 51) dX11_climber_46 (by decide) (fun h4 => ?_) (fun h4 => ?_)
        · skip
          refine fr_al0 dX11_climber_51 ?_
          refine fr_getr (cz := 67) dX11_climber_52 flX11_7 ⟨by decide, by decide, rfl⟩ rfl rfl ?_
          refine fr_bipush dX11_climber_55 (by decide) ?_
          refine fr_iald dX11_climber_57 ⟨by decide, by decide, rfl, by decide⟩ (by omega) (by omega) ?_
          refine fr_is5 dX11_climber_58 rfl (Nat.le_of_ble_eq_true rfl) ?_
          refine fr_il5 dX11_climber_60 ?_
          refine fr_iconst dX11_climber_62 ?_
          refine fr_icmp_ne (tgt := 69) dX11_climber_63 (by decide) (by omega) (by omega) (fun h5 => ?_) (fun h5 => ?_)
          · skip
            refine fr_al0 dX11_climber_69 ?_
            refine fr_getr (cz := 67) dX11_climber_70 flX11_7 ⟨by decide, by decide, rfl⟩ rfl rfl ?_
            refine fr_bipush dX11_climber_73 (by decide) ?_
            refine fr_il5 dX11_climber_75 ?_
            refine fr_iadd dX11_climber_77 ?_
            refine fr_il1 dX11_climber_78 ?_
            refine fr_iast dX11_climber_79 ⟨by decide, by decide, rfl, by decide⟩ (by omega) (by omega) ?_
            refine fr_al0 dX11_climber_80 ?_
            refine fr_getr (cz := 67) dX11_climber_81 flX11_7 ⟨by decide, by decide, rfl⟩ rfl rfl ?_
            refine fr_bipush dX11_climber_84 (by decide) ?_
            refine fr_il5 dX11_climber_86 ?_
            refine fr_iadd dX11_climber_88 ?_
            refine fr_il2 dX11_climber_89 ?_
            refine fr_iast dX11_climber_90 ⟨by decide, by decide, rfl, by decide⟩ (by omega) (by omega) ?_
            refine fr_al0 dX11_climber_91 ?_
            refine fr_getr (cz := 67) dX11_climber_92 flX11_7 ⟨by decide, by decide, rfl⟩ rfl rfl ?_
            refine fr_bipush dX11_climber_95 (by decide) ?_
            refine fr_il5 dX11_climber_97 ?_
            refine fr_iadd dX11_climber_99 ?_
            refine fr_il3 dX11_climber_100 ?_
            refine fr_iast dX11_climber_101 ⟨by decide, by decide, rfl, by decide⟩ (by omega) (by omega) ?_
            refine fr_al0 dX11_climber_102 ?_
            refine fr_getr (cz := 67) dX11_climber_103 flX11_7 ⟨by decide, by decide, rfl⟩ rfl rfl ?_
            refine fr_bipush dX11_climber_106 (by decide) ?_
            refine fr_il5 dX11_climber_108 ?_
            refine fr_iadd dX11_climber_110 ?_
            refine fr_il4 dX11_climber_111 ?_
            refine fr_iast dX11_climber_113 ⟨by decide, by decide, rfl, by decide⟩ (by omega) (by omega) ?_
            refine fr_al0 dX11_climber_114 ?_
            refine fr_getr (cz := 67) dX11_climber_115 flX11_7 ⟨by decide, by decide, rfl⟩ rfl rfl ?_
            refine fr_bipush dX11_climber_118 (by decide) ?_
            refine fr_dup2 dX11_climber_120 rfl rfl ?_
            refine fr_iald dX11_climber_121 ⟨by decide, by decide, rfl, by decide⟩ (by omega) (by omega) ?_
            refine fr_iconst dX11_climber_122 ?_
            refine fr_iadd dX11_climber_123 ?_
            refine fr_iast dX11_climber_124 ⟨by decide, by decide, rfl, by decide⟩ (by omega) (by omega) ?_
            refine fr_il5 dX11_climber_125 ?_
            exact fr_iret dX11_climber_127 rfl (fr_pi (by first | exact Or.inl ⟨by omega, rfl, rfl⟩ | exact Or.inr (Or.inl ⟨by omega, by omega, rfl, rfl⟩) | exact Or.inr (Or.inr ⟨by omega, by omega, rfl, by unfold sp_clm; congr 1; simp only [fr_up_get]; (repeat rw [if_neg (by omega)])⟩)))
          · skip
            refine fr_bipush dX11_climber_66 (by decide) ?_
            exact fr_iret dX11_climber_68 rfl (fr_pi (by first | exact Or.inl ⟨by omega, rfl, rfl⟩ | exact Or.inr (Or.inl ⟨by omega, by omega, rfl, rfl⟩) | exact Or.inr (Or.inr ⟨by omega, by omega, rfl, by unfold sp_clm; congr 1; simp only [fr_up_get]; (repeat rw [if_neg (by omega)])⟩)))
        · skip
          refine fr_iconst dX11_climber_49 ?_
          exact fr_iret dX11_climber_50 rfl (fr_pi (by first | exact Or.inl ⟨by omega, rfl, rfl⟩ | exact Or.inr (Or.inl ⟨by omega, by omega, rfl, rfl⟩) | exact Or.inr (Or.inr ⟨by omega, by omega, rfl, by unfold sp_clm; congr 1; simp only [fr_up_get]; (repeat rw [if_neg (by omega)])⟩)))
set_option maxRecDepth 20000 in
theorem kcX11_set {l : Launch} {κ : fr_Ka} {μ : fr_Me} (hI : fr_I (μ 67)) {c what v : Int} (rc : -2147483648 ≤ c ∧ c ≤ 2147483647) (rwhat : -2147483648 ≤ what ∧ what ≤ 2147483647) (rv : -2147483648 ≤ v ∧ v ≤ 2147483647) : fr_C l κ fmX11_set 3 [fr_r κ 66, fr_i c, fr_i what, fr_i v] μ (fr_Pi (fun z m => (¬ ((0 ≤ c ∧ c < μ 67 43) ∧ ((what = 1 ∧ 1 ≤ v ∧ v ≤ 9) ∨ (what = 2 ∧ 0 ≤ v ∧ v ≤ 99) ∨ (what = 3 ∧ 0 ≤ v ∧ v ≤ 10))) ∧ z = -1 ∧ m = μ) ∨ (((0 ≤ c ∧ c < μ 67 43) ∧ ((what = 1 ∧ 1 ≤ v ∧ v ≤ 9) ∨ (what = 2 ∧ 0 ≤ v ∧ v ≤ 99) ∨ (what = 3 ∧ 0 ≤ v ∧ v ≤ 10))) ∧ z = μ 67 (44 + 5 * what + c) ∧ m = fr_up μ 67 (44 + 5 * what + c) v))) := by
  have iN := hI.n
  have iM := hI.many
  refine fr_enter (by decide +kernel) (ls := [some (fr_r κ 66), some (fr_i c), some (fr_i what), some (fr_i v), none, none]) rfl (Nat.le_of_ble_eq_true rfl) ?_
  refine fr_al0 dX11_set_0 ?_
  refine fr_il1 dX11_set_1 ?_
  refine fr_cVi (mi' := fmX11_isClimber) dX11_set_2 mlX11_71 mvX11_isClimber ⟨11, _, ⟨by decide, by decide, rfl⟩, rfl, rfl⟩ (Nat.le_of_ble_eq_true rfl) (kcX11_isClimber hI (by omega)) rfl rfl (Nat.le_of_ble_eq_true rfl) ?_
  refine fr_ifb_eq (tgt := 63) dX11_set_5 (by decide) (fun h1 => ?_) (fun h1 => ?_)
  · skip
    refine fr_iconst dX11_set_63 ?_
    exact fr_iret dX11_set_64 rfl (fr_pi (by first | exact Or.inl ⟨by omega, rfl, rfl⟩ | exact Or.inr ⟨by omega, rfl, rfl⟩))
  · skip
    refine fr_il2 dX11_set_8 ?_
    refine fr_i2l dX11_set_9 (by omega) ?_
    refine fr_lconst1 dX11_set_10 ?_
    refine fr_ldc2 dX11_set_11 clX11_55 ?_
    refine fr_cSi (mi' := fmX11_in) dX11_set_14 mlX11_51 msX11_in (Nat.le_of_ble_eq_true rfl) (kcX11_in (by omega) (by omega) (by omega)) rfl rfl (Nat.le_of_ble_eq_true rfl) ?_
    refine fr_ifb_eq (tgt := 63) dX11_set_17 (by decide) (fun h2 => ?_) (fun h2 => ?_)
    · skip
      refine fr_iconst dX11_set_63 ?_
      exact fr_iret dX11_set_64 rfl (fr_pi (by first | exact Or.inl ⟨by omega, rfl, rfl⟩ | exact Or.inr ⟨by omega, rfl, rfl⟩))
    · skip
      refine fr_il3 dX11_set_20 ?_
      refine fr_i2l dX11_set_21 (by omega) ?_
      refine fr_il2 dX11_set_22 ?_
      refine fr_iconst dX11_set_23 ?_
      refine fr_icmp_ne (tgt := 31) dX11_set_24 (by decide) (by omega) (by omega) (fun h3 => ?_) (fun h3 => ?_)
      · skip
        refine fr_lconst0 dX11_set_31 ?_
        refine fr_il2 dX11_set_32 ?_
        refine fr_iconst dX11_set_33 ?_
        refine fr_icmp_ne (tgt := 43) dX11_set_34 (by decide) (by omega) (by omega) (fun h4 => ?_) (fun h4 => ?_)
        · skip
          refine fr_il2 dX11_set_43 ?_
          refine fr_iconst dX11_set_44 ?_
          refine fr_icmp_ne (tgt := 54) dX11_set_45 (by decide) (by omega) (by omega) (fun h5 => ?_) (fun h5 => ?_)
          · skip
            refine fr_ldc2 dX11_set_54 clX11_69 ?_
            refine fr_cSi (mi' := fmX11_in) dX11_set_57 mlX11_51 msX11_in (Nat.le_of_ble_eq_true rfl) (kcX11_in (by omega) (by omega) (by omega)) rfl rfl (Nat.le_of_ble_eq_true rfl) ?_
            refine fr_ifb_ne (tgt := 65) dX11_set_60 (by decide) (fun h6 => ?_) (fun h6 => ?_)
            · skip
              refine fr_bipush dX11_set_65 (by decide) ?_
              refine fr_iconst dX11_set_67 ?_
              refine fr_il2 dX11_set_68 ?_
              refine fr_imul dX11_set_69 ?_
              refine fr_iadd dX11_set_70 ?_
              refine fr_il1 dX11_set_71 ?_
              refine fr_iadd dX11_set_72 ?_
              refine fr_is4 dX11_set_73 rfl (Nat.le_of_ble_eq_true rfl) ?_
              refine fr_al0 dX11_set_75 ?_
              refine fr_getr (cz := 67) dX11_set_76 flX11_7 ⟨by decide, by decide, rfl⟩ rfl rfl ?_
              refine fr_il4 dX11_set_79 ?_
              refine fr_iald dX11_set_81 ⟨by decide, by decide, rfl, by decide⟩ (by omega) (by omega) ?_
              refine fr_is5 dX11_set_82 rfl (Nat.le_of_ble_eq_true rfl) ?_
              refine fr_al0 dX11_set_84 ?_
              refine fr_getr (cz := 67) dX11_set_85 flX11_7 ⟨by decide, by decide, rfl⟩ rfl rfl ?_
              refine fr_il4 dX11_set_88 ?_
              refine fr_il3 dX11_set_90 ?_
              refine fr_iast dX11_set_91 ⟨by decide, by decide, rfl, by decide⟩ (by omega) (by omega) ?_
              refine fr_il5 dX11_set_92 ?_
              exact fr_iret dX11_set_94 rfl (fr_pi (by first | exact Or.inl ⟨by omega, rfl, rfl⟩ | exact Or.inr ⟨by omega, rfl, rfl⟩))
            · skip
              refine fr_iconst dX11_set_63 ?_
              exact fr_iret dX11_set_64 rfl (fr_pi (by first | exact Or.inl ⟨by omega, rfl, rfl⟩ | exact Or.inr ⟨by omega, rfl, rfl⟩))
          · skip
            refine fr_ldc2 dX11_set_48 clX11_67 ?_
            refine fr_goto (tgt := 57) dX11_set_51 (by decide) ?_
            refine fr_cSi (mi' := fmX11_in) dX11_set_57 mlX11_51 msX11_in (Nat.le_of_ble_eq_true rfl) (kcX11_in (by omega) (by omega) (by omega)) rfl rfl (Nat.le_of_ble_eq_true rfl) ?_
            refine fr_ifb_ne (tgt := 65) dX11_set_60 (by decide) (fun h7 => ?_) (fun h7 => ?_)
            · skip
              refine fr_bipush dX11_set_65 (by decide) ?_
              refine fr_iconst dX11_set_67 ?_
              refine fr_il2 dX11_set_68 ?_
              refine fr_imul dX11_set_69 ?_
              refine fr_iadd dX11_set_70 ?_
              refine fr_il1 dX11_set_71 ?_
              refine fr_iadd dX11_set_72 ?_
              refine fr_is4 dX11_set_73 rfl (Nat.le_of_ble_eq_true rfl) ?_
              refine fr_al0 dX11_set_75 ?_
              refine fr_getr (cz := 67) dX11_set_76 flX11_7 ⟨by decide, by decide, rfl⟩ rfl rfl ?_
              refine fr_il4 dX11_set_79 ?_
              refine fr_iald dX11_set_81 ⟨by decide, by decide, rfl, by decide⟩ (by omega) (by omega) ?_
              refine fr_is5 dX11_set_82 rfl (Nat.le_of_ble_eq_true rfl) ?_
              refine fr_al0 dX11_set_84 ?_
              refine fr_getr (cz := 67) dX11_set_85 flX11_7 ⟨by decide, by decide, rfl⟩ rfl rfl ?_
              refine fr_il4 dX11_set_88 ?_
              refine fr_il3 dX11_set_90 ?_
              refine fr_iast dX11_set_91 ⟨by decide, by decide, rfl, by decide⟩ (by omega) (by omega) ?_
              refine fr_il5 dX11_set_92 ?_
              exact fr_iret dX11_set_94 rfl (fr_pi (by first | exact Or.inl ⟨by omega, rfl, rfl⟩ | exact Or.inr ⟨by omega, rfl, rfl⟩))
            · skip
              refine fr_iconst dX11_set_63 ?_
              exact fr_iret dX11_set_64 rfl (fr_pi (by first | exact Or.inl ⟨by omega, rfl, rfl⟩ | exact Or.inr ⟨by omega, rfl, rfl⟩))
        · skip
          refine fr_ldc2 dX11_set_37 clX11_65 ?_
          refine fr_goto (tgt := 57) dX11_set_40 (by decide) ?_
          refine fr_cSi (mi' := fmX11_in) dX11_set_57 mlX11_51 msX11_in (Nat.le_of_ble_eq_true rfl) (kcX11_in (by omega) (by omega) (by omega)) rfl rfl (Nat.le_of_ble_eq_true rfl) ?_
          refine fr_ifb_ne (tgt := 65) dX11_set_60 (by decide) (fun h8 => ?_) (fun h8 => ?_)
          · skip
            refine fr_bipush dX11_set_65 (by decide) ?_
            refine fr_iconst dX11_set_67 ?_
            refine fr_il2 dX11_set_68 ?_
            refine fr_imul dX11_set_69 ?_
            refine fr_iadd dX11_set_70 ?_
            refine fr_il1 dX11_set_71 ?_
            refine fr_iadd dX11_set_72 ?_
            refine fr_is4 dX11_set_73 rfl (Nat.le_of_ble_eq_true rfl) ?_
            refine fr_al0 dX11_set_75 ?_
            refine fr_getr (cz := 67) dX11_set_76 flX11_7 ⟨by decide, by decide, rfl⟩ rfl rfl ?_
            refine fr_il4 dX11_set_79 ?_
            refine fr_iald dX11_set_81 ⟨by decide, by decide, rfl, by decide⟩ (by omega) (by omega) ?_
            refine fr_is5 dX11_set_82 rfl (Nat.le_of_ble_eq_true rfl) ?_
            refine fr_al0 dX11_set_84 ?_
            refine fr_getr (cz := 67) dX11_set_85 flX11_7 ⟨by decide, by decide, rfl⟩ rfl rfl ?_
            refine fr_il4 dX11_set_88 ?_
            refine fr_il3 dX11_set_90 ?_
            refine fr_iast dX11_set_91 ⟨by decide, by decide, rfl, by decide⟩ (by omega) (by omega) ?_
            refine fr_il5 dX11_set_92 ?_
            exact fr_iret dX11_set_94 rfl (fr_pi (by first | exact Or.inl ⟨by omega, rfl, rfl⟩ | exact Or.inr ⟨by omega, rfl, rfl⟩))
          · skip
            refine fr_iconst dX11_set_63 ?_
            exact fr_iret dX11_set_64 rfl (fr_pi (by first | exact Or.inl ⟨by omega, rfl, rfl⟩ | exact Or.inr ⟨by omega, rfl, rfl⟩))
      · skip
        refine fr_lconst1 dX11_set_27 ?_
        refine fr_goto (tgt := 32) dX11_set_28 (by decide) ?_
        refine fr_il2 dX11_set_32 ?_
        refine fr_iconst dX11_set_33 ?_
        refine fr_icmp_ne (tgt := 43) dX11_set_34 (by decide) (by omega) (by omega) (fun h9 => ?_) (fun h9 => ?_)
        · skip
          refine fr_il2 dX11_set_43 ?_
          refine fr_iconst dX11_set_44 ?_
          refine fr_icmp_ne (tgt := 54) dX11_set_45 (by decide) (by omega) (by omega) (fun h10 => ?_) (fun h10 => ?_)
          · skip
            refine fr_ldc2 dX11_set_54 clX11_69 ?_
            refine fr_cSi (mi' := fmX11_in) dX11_set_57 mlX11_51 msX11_in (Nat.le_of_ble_eq_true rfl) (kcX11_in (by omega) (by omega) (by omega)) rfl rfl (Nat.le_of_ble_eq_true rfl) ?_
            refine fr_ifb_ne (tgt := 65) dX11_set_60 (by decide) (fun h11 => ?_) (fun h11 => ?_)
            · skip
              refine fr_bipush dX11_set_65 (by decide) ?_
              refine fr_iconst dX11_set_67 ?_
              refine fr_il2 dX11_set_68 ?_
              refine fr_imul dX11_set_69 ?_
              refine fr_iadd dX11_set_70 ?_
              refine fr_il1 dX11_set_71 ?_
              refine fr_iadd dX11_set_72 ?_
              refine fr_is4 dX11_set_73 rfl (Nat.le_of_ble_eq_true rfl) ?_
              refine fr_al0 dX11_set_75 ?_
              refine fr_getr (cz := 67) dX11_set_76 flX11_7 ⟨by decide, by decide, rfl⟩ rfl rfl ?_
              refine fr_il4 dX11_set_79 ?_
              refine fr_iald dX11_set_81 ⟨by decide, by decide, rfl, by decide⟩ (by omega) (by omega) ?_
              refine fr_is5 dX11_set_82 rfl (Nat.le_of_ble_eq_true rfl) ?_
              refine fr_al0 dX11_set_84 ?_
              refine fr_getr (cz := 67) dX11_set_85 flX11_7 ⟨by decide, by decide, rfl⟩ rfl rfl ?_
              refine fr_il4 dX11_set_88 ?_
              refine fr_il3 dX11_set_90 ?_
              refine fr_iast dX11_set_91 ⟨by decide, by decide, rfl, by decide⟩ (by omega) (by omega) ?_
              refine fr_il5 dX11_set_92 ?_
              exact fr_iret dX11_set_94 rfl (fr_pi (by first | exact Or.inl ⟨by omega, rfl, rfl⟩ | exact Or.inr ⟨by omega, rfl, rfl⟩))
            · skip
              refine fr_iconst dX11_set_63 ?_
              exact fr_iret dX11_set_64 rfl (fr_pi (by first | exact Or.inl ⟨by omega, rfl, rfl⟩ | exact Or.inr ⟨by omega, rfl, rfl⟩))
          · skip
            refine fr_ldc2 dX11_set_48 clX11_67 ?_
            refine fr_goto (tgt := 57) dX11_set_51 (by decide) ?_
            refine fr_cSi (mi' := fmX11_in) dX11_set_57 mlX11_51 msX11_in (Nat.le_of_ble_eq_true rfl) (kcX11_in (by omega) (by omega) (by omega)) rfl rfl (Nat.le_of_ble_eq_true rfl) ?_
            refine fr_ifb_ne (tgt := 65) dX11_set_60 (by decide) (fun h12 => ?_) (fun h12 => ?_)
            · skip
              refine fr_bipush dX11_set_65 (by decide) ?_
              refine fr_iconst dX11_set_67 ?_
              refine fr_il2 dX11_set_68 ?_
              refine fr_imul dX11_set_69 ?_
              refine fr_iadd dX11_set_70 ?_
              refine fr_il1 dX11_set_71 ?_
              refine fr_iadd dX11_set_72 ?_
              refine fr_is4 dX11_set_73 rfl (Nat.le_of_ble_eq_true rfl) ?_
              refine fr_al0 dX11_set_75 ?_
              refine fr_getr (cz := 67) dX11_set_76 flX11_7 ⟨by decide, by decide, rfl⟩ rfl rfl ?_
              refine fr_il4 dX11_set_79 ?_
              refine fr_iald dX11_set_81 ⟨by decide, by decide, rfl, by decide⟩ (by omega) (by omega) ?_
              refine fr_is5 dX11_set_82 rfl (Nat.le_of_ble_eq_true rfl) ?_
              refine fr_al0 dX11_set_84 ?_
              refine fr_getr (cz := 67) dX11_set_85 flX11_7 ⟨by decide, by decide, rfl⟩ rfl rfl ?_
              refine fr_il4 dX11_set_88 ?_
              refine fr_il3 dX11_set_90 ?_
              refine fr_iast dX11_set_91 ⟨by decide, by decide, rfl, by decide⟩ (by omega) (by omega) ?_
              refine fr_il5 dX11_set_92 ?_
              exact fr_iret dX11_set_94 rfl (fr_pi (by first | exact Or.inl ⟨by omega, rfl, rfl⟩ | exact Or.inr ⟨by omega, rfl, rfl⟩))
            · skip
              refine fr_iconst dX11_set_63 ?_
              exact fr_iret dX11_set_64 rfl (fr_pi (by first | exact Or.inl ⟨by omega, rfl, rfl⟩ | exact Or.inr ⟨by omega, rfl, rfl⟩))
        · skip
          refine fr_ldc2 dX11_set_37 clX11_65 ?_
          refine fr_goto (tgt := 57) dX11_set_40 (by decide) ?_
          refine fr_cSi (mi' := fmX11_in) dX11_set_57 mlX11_51 msX11_in (Nat.le_of_ble_eq_true rfl) (kcX11_in (by omega) (by omega) (by omega)) rfl rfl (Nat.le_of_ble_eq_true rfl) ?_
          refine fr_ifb_ne (tgt := 65) dX11_set_60 (by decide) (fun h13 => ?_) (fun h13 => ?_)
          · skip
            refine fr_bipush dX11_set_65 (by decide) ?_
            refine fr_iconst dX11_set_67 ?_
            refine fr_il2 dX11_set_68 ?_
            refine fr_imul dX11_set_69 ?_
            refine fr_iadd dX11_set_70 ?_
            refine fr_il1 dX11_set_71 ?_
            refine fr_iadd dX11_set_72 ?_
            refine fr_is4 dX11_set_73 rfl (Nat.le_of_ble_eq_true rfl) ?_
            refine fr_al0 dX11_set_75 ?_
            refine fr_getr (cz := 67) dX11_set_76 flX11_7 ⟨by decide, by decide, rfl⟩ rfl rfl ?_
            refine fr_il4 dX11_set_79 ?_
            refine fr_iald dX11_set_81 ⟨by decide, by decide, rfl, by decide⟩ (by omega) (by omega) ?_
            refine fr_is5 dX11_set_82 rfl (Nat.le_of_ble_eq_true rfl) ?_
            refine fr_al0 dX11_set_84 ?_
            refine fr_getr (cz := 67) dX11_set_85 flX11_7 ⟨by decide, by decide, rfl⟩ rfl rfl ?_
            refine fr_il4 dX11_set_88 ?_
            refine fr_il3 dX11_set_90 ?_
            refine fr_iast dX11_set_91 ⟨by decide, by decide, rfl, by decide⟩ (by omega) (by omega) ?_
            refine fr_il5 dX11_set_92 ?_
            exact fr_iret dX11_set_94 rfl (fr_pi (by first | exact Or.inl ⟨by omega, rfl, rfl⟩ | exact Or.inr ⟨by omega, rfl, rfl⟩))
          · skip
            refine fr_iconst dX11_set_63 ?_
            exact fr_iret dX11_set_64 rfl (fr_pi (by first | exact Or.inl ⟨by omega, rfl, rfl⟩ | exact Or.inr ⟨by omega, rfl, rfl⟩))
set_option maxRecDepth 20000 in
theorem kcX11_brings {l : Launch} {κ : fr_Ka} {μ : fr_Me} (hI : fr_I (μ 67)) {c : Int} (hc : c = 5 ∨ (0 ≤ c ∧ c < μ 67 43)) : fr_C l κ fmX11_brings 1 [fr_r κ 66, fr_i c] μ (fr_Ei (sp_br (μ 67) c) μ) := by
  have iN := hI.n
  have iM := hI.many
  refine fr_enter (by decide +kernel) (ls := [some (fr_r κ 66), some (fr_i c), none]) rfl (Nat.le_of_ble_eq_true rfl) ?_
  refine fr_il1 dX11_brings_0 ?_
  refine fr_iconst dX11_brings_1 ?_
  refine fr_icmp_ne (tgt := 7) dX11_brings_2 (by decide) (by omega) (by omega) (fun h1 => ?_) (fun h1 => ?_)
  · skip
    have iC := hI.cl (c := c) (by omega) (by omega)
    unfold fr_Ic at iC
    refine fr_al0 dX11_brings_7 ?_
    refine fr_getr (cz := 67) dX11_brings_8 flX11_7 ⟨by decide, by decide, rfl⟩ rfl rfl ?_
    refine fr_bipush dX11_brings_11 (by decide) ?_
    refine fr_il1 dX11_brings_13 ?_
    refine fr_iadd dX11_brings_14 ?_
    refine fr_iald dX11_brings_15 ⟨by decide, by decide, rfl, by decide⟩ (by omega) (by omega) ?_
    refine fr_iconst dX11_brings_16 ?_
    refine fr_icmp_eq (tgt := 33) dX11_brings_17 (by decide) (by omega) (by omega) (fun h2 => ?_) (fun h2 => ?_)
    · skip
      refine fr_iconst dX11_brings_33 ?_
      refine fr_goto (tgt := 38) dX11_brings_34 (by decide) ?_
      refine fr_is2 dX11_brings_38 rfl (Nat.le_of_ble_eq_true rfl) ?_
      refine fr_il2 dX11_brings_39 ?_
      refine fr_if_eq (tgt := 58) dX11_brings_40 (by decide) (by decide) (fun h3 => absurd h3 (by decide)) (fun _ => ?_)
      refine fr_bipush dX11_brings_43 (by decide) ?_
      refine fr_al0 dX11_brings_45 ?_
      refine fr_getr (cz := 67) dX11_brings_46 flX11_7 ⟨by decide, by decide, rfl⟩ rfl rfl ?_
      refine fr_bipush dX11_brings_49 (by decide) ?_
      refine fr_il1 dX11_brings_51 ?_
      refine fr_iadd dX11_brings_52 ?_
      refine fr_iald dX11_brings_53 ⟨by decide, by decide, rfl, by decide⟩ (by omega) (by omega) ?_
      refine fr_isub dX11_brings_54 ?_
      refine fr_goto (tgt := 67) dX11_brings_55 (by decide) ?_
      exact fr_iret dX11_brings_67 rfl (fr_e (by unfold sp_br; first | rw [if_neg (by omega)] | (rw [if_pos (by omega)]; unfold sp_bv; split <;> omega)) rfl)
    · skip
      refine fr_al0 dX11_brings_20 ?_
      refine fr_getr (cz := 67) dX11_brings_21 flX11_7 ⟨by decide, by decide, rfl⟩ rfl rfl ?_
      refine fr_bipush dX11_brings_24 (by decide) ?_
      refine fr_il1 dX11_brings_26 ?_
      refine fr_iadd dX11_brings_27 ?_
      refine fr_iald dX11_brings_28 ⟨by decide, by decide, rfl, by decide⟩ (by omega) (by omega) ?_
      refine fr_iconst dX11_brings_29 ?_
      refine fr_icmp_ne (tgt := 37) dX11_brings_30 (by decide) (by omega) (by omega) (fun h4 => ?_) (fun h4 => ?_)
      · skip
        refine fr_iconst dX11_brings_37 ?_
        refine fr_is2 dX11_brings_38 rfl (Nat.le_of_ble_eq_true rfl) ?_
        refine fr_il2 dX11_brings_39 ?_
        refine fr_if_eq (tgt := 58) dX11_brings_40 (by decide) (by decide) (fun _ => ?_) (fun h5 => absurd h5 (by decide))
        refine fr_al0 dX11_brings_58 ?_
        refine fr_getr (cz := 67) dX11_brings_59 flX11_7 ⟨by decide, by decide, rfl⟩ rfl rfl ?_
        refine fr_bipush dX11_brings_62 (by decide) ?_
        refine fr_il1 dX11_brings_64 ?_
        refine fr_iadd dX11_brings_65 ?_
        refine fr_iald dX11_brings_66 ⟨by decide, by decide, rfl, by decide⟩ (by omega) (by omega) ?_
        exact fr_iret dX11_brings_67 rfl (fr_e (by unfold sp_br; first | rw [if_neg (by omega)] | (rw [if_pos (by omega)]; unfold sp_bv; split <;> omega)) rfl)
      · skip
        refine fr_iconst dX11_brings_33 ?_
        refine fr_goto (tgt := 38) dX11_brings_34 (by decide) ?_
        refine fr_is2 dX11_brings_38 rfl (Nat.le_of_ble_eq_true rfl) ?_
        refine fr_il2 dX11_brings_39 ?_
        refine fr_if_eq (tgt := 58) dX11_brings_40 (by decide) (by decide) (fun h6 => absurd h6 (by decide)) (fun _ => ?_)
        refine fr_bipush dX11_brings_43 (by decide) ?_
        refine fr_al0 dX11_brings_45 ?_
        refine fr_getr (cz := 67) dX11_brings_46 flX11_7 ⟨by decide, by decide, rfl⟩ rfl rfl ?_
        refine fr_bipush dX11_brings_49 (by decide) ?_
        refine fr_il1 dX11_brings_51 ?_
        refine fr_iadd dX11_brings_52 ?_
        refine fr_iald dX11_brings_53 ⟨by decide, by decide, rfl, by decide⟩ (by omega) (by omega) ?_
        refine fr_isub dX11_brings_54 ?_
        refine fr_goto (tgt := 67) dX11_brings_55 (by decide) ?_
        exact fr_iret dX11_brings_67 rfl (fr_e (by unfold sp_br; first | rw [if_neg (by omega)] | (rw [if_pos (by omega)]; unfold sp_bv; split <;> omega)) rfl)
  · skip
    refine fr_iconst dX11_brings_5 ?_
    exact fr_iret dX11_brings_6 rfl (fr_e (by unfold sp_br; first | rw [if_neg (by omega)] | (rw [if_pos (by omega)]; unfold sp_bv; split <;> omega)) rfl)
