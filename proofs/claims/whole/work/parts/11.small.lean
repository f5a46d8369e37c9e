set_option maxRecDepth 20000 in
theorem kcX10_isWithin {l : Launch} {κ : fr_Ka} {μ : fr_Me} {v a b : Int} (rv : -2147483648 ≤ v ∧ v ≤ 2147483647) (ra : -2147483648 ≤ a ∧ a ≤ 2147483647) (rb : -2147483648 ≤ b ∧ b ≤ 2147483647) : fr_C l κ fmX10_isWithin 1 [fr_i v, fr_i a, fr_i b] μ (fr_Ei (fr_b (a ≤ v ∧ v ≤ b)) μ) := by
  refine fr_enter (by decide +kernel) (ls := [some (fr_i v), some (fr_i a), some (fr_i b)]) rfl (Nat.le_of_ble_eq_true rfl) ?_
  refine fr_il0 dX10_isWithin_0 ?_
  refine fr_il1 dX10_isWithin_1 ?_
  refine fr_icmp_lt (tgt := 14) dX10_isWithin_2 (by decide) (by omega) (by omega) (fun h1 => ?_) (fun h1 => ?_)
  · skip
    refine fr_iconst dX10_isWithin_14 ?_
    exact fr_zret dX10_isWithin_15 rfl (Or.inl rfl) (fr_e (by first | rfl | exact (fr_bT (by omega)).symm | exact (fr_bF (by omega)).symm) rfl)
  · skip
    refine fr_il0 dX10_isWithin_5 ?_
    refine fr_il2 dX10_isWithin_6 ?_
    refine fr_icmp_gt (tgt := 14) dX10_isWithin_7 (by decide) (by omega) (by omega) (fun h2 => ?_) (fun h2 => ?_)
    · skip
      refine fr_iconst dX10_isWithin_14 ?_
      exact fr_zret dX10_isWithin_15 rfl (Or.inl rfl) (fr_e (by first | rfl | exact (fr_bT (by omega)).symm | exact (fr_bF (by omega)).symm) rfl)
    · skip
      refine fr_iconst dX10_isWithin_10 ?_
      refine fr_goto (tgt := 15) dX10_isWithin_11 (by decide) ?_
      exact fr_zret dX10_isWithin_15 rfl (Or.inr rfl) (fr_e (by first | rfl | exact (fr_bT (by omega)).symm | exact (fr_bF (by omega)).symm) rfl)
