/-! the class: the tape, a climber -/
theorem pk_up2 {μ : fr_Me} {c k a b : Int} : fr_up (fr_up μ c k a) c k b = fr_up μ c k b := by
  funext c' k'
  unfold fr_up
  split <;> rfl
set_option maxRecDepth 20000 in
theorem kcX6_parseClimber {l : Launch} {κ : fr_Ka} {μ : fr_Me} (hP : 0 ≤ μ 9 5 ∧ μ 9 5 ≤ μ 9 4 ∧ μ 9 4 ≤ 60) (hT : ∀ i, 0 ≤ i → i < 60 → 0 ≤ μ 10 i ∧ μ 10 i ≤ 1000) {M : Int} (hM : 0 ≤ M ∧ M ≤ 5) : fr_C l κ fmX6_parseClimber 2 [fr_r κ 9, fr_i M] μ (fr_Pi (fun z m => ((if sp_skp (μ 10) (μ 9 4) (μ 9 5) < μ 9 4 then μ 10 (sp_skp (μ 10) (μ 9 4) (μ 9 5)) else 0) ≠ 102 ∧ ¬ (97 ≤ (if sp_skp (μ 10) (μ 9 4) (μ 9 5) < μ 9 4 then μ 10 (sp_skp (μ 10) (μ 9 4) (μ 9 5)) else 0) ∧ (if sp_skp (μ 10) (μ 9 4) (μ 9 5) < μ 9 4 then μ 10 (sp_skp (μ 10) (μ 9 4) (μ 9 5)) else 0) < 97 + M) ∧ z = 5 ∧ m = fr_up μ 9 5 (sp_skp (μ 10) (μ 9 4) (μ 9 5))) ∨ (((if sp_skp (μ 10) (μ 9 4) (μ 9 5) < μ 9 4 then μ 10 (sp_skp (μ 10) (μ 9 4) (μ 9 5)) else 0) = 102 ∨ (97 ≤ (if sp_skp (μ 10) (μ 9 4) (μ 9 5) < μ 9 4 then μ 10 (sp_skp (μ 10) (μ 9 4) (μ 9 5)) else 0) ∧ (if sp_skp (μ 10) (μ 9 4) (μ 9 5) < μ 9 4 then μ 10 (sp_skp (μ 10) (μ 9 4) (μ 9 5)) else 0) < 97 + M)) ∧ z = (if sp_skp (μ 10) (μ 9 4) (μ 9 5) < μ 9 4 then μ 10 (sp_skp (μ 10) (μ 9 4) (μ 9 5)) else 0) - 97 ∧ m = fr_up μ 9 5 (sp_skp (μ 10) (μ 9 4) (μ 9 5) + 1)))) := by
  have hq := sp_skp_ok (μ 10) hP.2.1
  have hq1 := hq.1
  have hq2 := hq.2.1
  clear hq
  refine fr_enter (by decide +kernel) (ls := [some (fr_r κ 9), some (fr_i M), none]) rfl (Nat.le_of_ble_eq_true rfl) ?_
  refine fr_al0 dX6_parseClimber_0 ?_
  refine fr_cVP (mi' := fmX6_peek) dX6_parseClimber_1 mlX6_35 mvX6_peek ⟨6, _, ⟨by decide, by decide, rfl⟩, rfl, rfl⟩ (Nat.le_of_ble_eq_true rfl) (kcX6_peek hP hT) rfl rfl (Nat.le_of_ble_eq_true rfl) (fun z m hz => ?_)
  obtain ⟨hz1, rfl⟩ := hz
  have hzr : 0 ≤ z ∧ z ≤ 1000 := by rw [hz1]; split <;> first | exact hT _ (by omega) (by omega) | omega
  refine fr_bipush dX6_parseClimber_4 (by decide) ?_
  refine fr_isub dX6_parseClimber_6 ?_
  refine fr_is2 dX6_parseClimber_7 rfl (Nat.le_of_ble_eq_true rfl) ?_
  refine fr_il2 dX6_parseClimber_8 ?_
  refine fr_iconst dX6_parseClimber_9 ?_
  refine fr_icmp_eq (tgt := 26) dX6_parseClimber_10 (by decide) (by omega) (by omega) (fun h1 => ?_) (fun h1 => ?_)
  · skip
    refine fr_al0 dX6_parseClimber_26 ?_
    refine fr_dup dX6_parseClimber_27 rfl ?_
    refine fr_geti (kz := 5) dX6_parseClimber_28 flX6_28 ⟨by decide, by decide, rfl⟩ rfl rfl ?_
    refine fr_iconst dX6_parseClimber_31 ?_
    refine fr_iadd dX6_parseClimber_32 ?_
    refine fr_put (kz := 5) dX6_parseClimber_33 fpX6_28 ⟨by decide, by decide, rfl⟩ rfl rfl (fun h => by cases h) ?_
    refine fr_il2 dX6_parseClimber_36 ?_
    exact fr_iret dX6_parseClimber_37 rfl (fr_pi (Or.inr ⟨by rw [← hz1]; omega, by rw [← hz1], by rw [gm_uk, pk_up2]⟩))
  · skip
    refine fr_il2 dX6_parseClimber_13 ?_
    refine fr_iconst dX6_parseClimber_14 ?_
    refine fr_il1 dX6_parseClimber_15 ?_
    refine fr_iconst dX6_parseClimber_16 ?_
    refine fr_isub dX6_parseClimber_17 ?_
    refine fr_cSi (mi' := fmX10_isWithin) dX6_parseClimber_18 mlX6_50 msX10_isWithin (Nat.le_of_ble_eq_true rfl) (kcX10_isWithin (by omega) (by omega) (by omega)) rfl rfl (Nat.le_of_ble_eq_true rfl) ?_
    refine fr_ifb_ne (tgt := 26) dX6_parseClimber_21 (by decide) (fun h2 => ?_) (fun h2 => ?_)
    · skip
      refine fr_al0 dX6_parseClimber_26 ?_
      refine fr_dup dX6_parseClimber_27 rfl ?_
      refine fr_geti (kz := 5) dX6_parseClimber_28 flX6_28 ⟨by decide, by decide, rfl⟩ rfl rfl ?_
      refine fr_iconst dX6_parseClimber_31 ?_
      refine fr_iadd dX6_parseClimber_32 ?_
      refine fr_put (kz := 5) dX6_parseClimber_33 fpX6_28 ⟨by decide, by decide, rfl⟩ rfl rfl (fun h => by cases h) ?_
      refine fr_il2 dX6_parseClimber_36 ?_
      exact fr_iret dX6_parseClimber_37 rfl (fr_pi (Or.inr ⟨by rw [← hz1]; omega, by rw [← hz1], by rw [gm_uk, pk_up2]⟩))
    · skip
      refine fr_iconst dX6_parseClimber_24 ?_
      exact fr_iret dX6_parseClimber_25 rfl (fr_pi (Or.inl ⟨by rw [← hz1]; omega, by rw [← hz1]; omega, rfl, rfl⟩))
