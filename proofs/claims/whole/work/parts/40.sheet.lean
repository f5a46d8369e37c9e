/-! the class: a sheet -/
set_option maxRecDepth 20000 in
theorem kcX5_hasItems {l : Launch} {κ : fr_Ka} {μ : fr_Me} {s : Int} (s0 : 0 ≤ s) (s4 : s < 4) (hL : 0 ≤ μ (58 + s) 3 ∧ μ (58 + s) 3 ≤ 16) {i n : Int} (ri : -2147483648 ≤ i ∧ i ≤ 2147483647) (rn : -2147483648 ≤ n ∧ n ≤ 2147483647) : fr_C l κ fmX5_hasItems 2 [fr_r κ (58 + s), fr_i i, fr_i n] μ (fr_Ei (fr_b (0 ≤ n ∧ n ≤ μ (58 + s) 3 ∧ 0 ≤ i ∧ i ≤ μ (58 + s) 3 - n)) μ) := by
  refine fr_enter (by decide +kernel) (ls := [some (fr_r κ (58 + s)), some (fr_i i), some (fr_i n)]) rfl (Nat.le_of_ble_eq_true rfl) ?_
  refine fr_il2 dX5_hasItems_0 ?_
  refine fr_if_lt (tgt := 30) dX5_hasItems_1 (by decide) (by omega) (fun h1 => ?_) (fun h1 => ?_)
  · skip
    refine fr_iconst dX5_hasItems_30 ?_
    exact fr_zret dX5_hasItems_31 rfl (Or.inl rfl) (fr_e (by first | rfl | exact (fr_bT (by omega)).symm | exact (fr_bF (by omega)).symm | exact fr_bc (by omega)) rfl)
  · skip
    refine fr_il2 dX5_hasItems_4 ?_
    refine fr_al0 dX5_hasItems_5 ?_
    refine fr_geti (kz := 3) dX5_hasItems_6 flX5_25 (fr_obS (by omega) (by omega)) rfl rfl ?_
    refine fr_icmp_gt (tgt := 30) dX5_hasItems_9 (by decide) (by omega) (by omega) (fun h2 => ?_) (fun h2 => ?_)
    · skip
      refine fr_iconst dX5_hasItems_30 ?_
      exact fr_zret dX5_hasItems_31 rfl (Or.inl rfl) (fr_e (by first | rfl | exact (fr_bT (by omega)).symm | exact (fr_bF (by omega)).symm | exact fr_bc (by omega)) rfl)
    · skip
      refine fr_il1 dX5_hasItems_12 ?_
      refine fr_iconst dX5_hasItems_13 ?_
      refine fr_al0 dX5_hasItems_14 ?_
      refine fr_geti (kz := 3) dX5_hasItems_15 flX5_25 (fr_obS (by omega) (by omega)) rfl rfl ?_
      refine fr_il2 dX5_hasItems_18 ?_
      refine fr_isub dX5_hasItems_19 ?_
      refine fr_cSi (mi' := fmX10_isWithin) dX5_hasItems_20 mlX5_32 msX10_isWithin (Nat.le_of_ble_eq_true rfl) (kcX10_isWithin (by omega) (by omega) (by omega)) rfl rfl (Nat.le_of_ble_eq_true rfl) ?_
      refine fr_ifb_eq (tgt := 30) dX5_hasItems_23 (by decide) (fun h3 => ?_) (fun h3 => ?_)
      · skip
        refine fr_iconst dX5_hasItems_30 ?_
        exact fr_zret dX5_hasItems_31 rfl (Or.inl rfl) (fr_e (by first | rfl | exact (fr_bT (by omega)).symm | exact (fr_bF (by omega)).symm | exact fr_bc (by omega)) rfl)
      · skip
        refine fr_iconst dX5_hasItems_26 ?_
        refine fr_goto (tgt := 31) dX5_hasItems_27 (by decide) ?_
        exact fr_zret dX5_hasItems_31 rfl (Or.inr rfl) (fr_e (by first | rfl | exact (fr_bT (by omega)).symm | exact (fr_bF (by omega)).symm | exact fr_bc (by omega)) rfl)
def sp_nr (v f : Int) : Int := if v < 0 then -1 else if f < v then f else v
set_option maxRecDepth 20000 in
theorem kcX5_near {l : Launch} {κ : fr_Ka} {μ : fr_Me} {s : Int} (s0 : 0 ≤ s) (s4 : s < 4) {i f : Int} (hi : 0 ≤ i ∧ i < 16) (hf : 0 ≤ f ∧ f ≤ 2147483647) (hv : -9223372036854775808 ≤ μ (62 + s) i ∧ μ (62 + s) i ≤ 9223372036854775807) : fr_C l κ fmX5_near 1 [fr_r κ (58 + s), fr_i i, fr_i f] μ (fr_Ei (sp_nr (μ (62 + s) i) f) μ) := by
  refine fr_enter (by decide +kernel) (ls := [some (fr_r κ (58 + s)), some (fr_i i), some (fr_i f), none, none]) rfl (Nat.le_of_ble_eq_true rfl) ?_
  refine fr_al0 dX5_near_0 ?_
  refine fr_getSI dX5_near_1 flX5_9 (by omega) (by omega) ?_
  refine fr_il1 dX5_near_4 ?_
  refine fr_lald dX5_near_5 (fr_raS (by omega) (by omega)) (by omega) (by omega) ?_
  refine fr_ls3 dX5_near_6 rfl (Nat.le_of_ble_eq_true rfl) ?_
  refine fr_ll3 dX5_near_7 ?_
  refine fr_lconst0 dX5_near_8 ?_
  refine fr_lcmpR dX5_near_9 (by omega) (by omega) ?_
  refine fr_if_ge (tgt := 17) dX5_near_10 (by decide) (by omega) (fun h1 => ?_) (fun h1 => ?_)
  · skip
    refine fr_ll3 dX5_near_17 ?_
    refine fr_il2 dX5_near_18 ?_
    refine fr_i2l dX5_near_19 (by omega) ?_
    refine fr_lcmpR dX5_near_20 (by omega) (by omega) ?_
    refine fr_if_le (tgt := 28) dX5_near_21 (by decide) (by omega) (fun h2 => ?_) (fun h2 => ?_)
    · skip
      refine fr_ll3 dX5_near_28 ?_
      refine fr_l2i dX5_near_29 ?_
      exact fr_iret dX5_near_30 rfl (fr_e (by unfold sp_nr; split <;> first | omega | (split <;> omega)) rfl)
    · skip
      refine fr_il2 dX5_near_24 ?_
      refine fr_goto (tgt := 30) dX5_near_25 (by decide) ?_
      exact fr_iret dX5_near_30 rfl (fr_e (by unfold sp_nr; split <;> first | omega | (split <;> omega)) rfl)
  · skip
    refine fr_iconst dX5_near_13 ?_
    refine fr_goto (tgt := 30) dX5_near_14 (by decide) ?_
    exact fr_iret dX5_near_30 rfl (fr_e (by unfold sp_nr; split <;> first | omega | (split <;> omega)) rfl)
set_option maxRecDepth 20000 in
theorem kcX5_begin {l : Launch} {κ : fr_Ka} {μ : fr_Me} {s : Int} (s0 : 0 ≤ s) (s4 : s < 4) {lane n : Int} : fr_C l κ fmX5_begin 2 [fr_r κ (58 + s), fr_i lane, fr_i n] μ (fr_Ev (fr_up (fr_up (fr_up (sp_fill μ (62 + s) (16 : Nat) 0) (58 + s) 2 lane) (58 + s) 3 n) (58 + s) 1 1)) := by
  refine fr_enter (by decide +kernel) (ls := [some (fr_r κ (58 + s)), some (fr_i lane), some (fr_i n)]) rfl (Nat.le_of_ble_eq_true rfl) ?_
  refine fr_al0 dX5_begin_0 ?_
  refine fr_getSI dX5_begin_1 flX5_9 (by omega) (by omega) ?_
  refine fr_lconst0 dX5_begin_4 ?_
  refine fr_cSv (mi' := fmJ7_fill_d0a16) dX5_begin_5 mlX5_15 msJ7_fill_d0a16 (Nat.le_of_ble_eq_true rfl) (kcJ7_fill_d0a16 (fr_raS (by omega) (by omega))) rfl rfl (Nat.le_of_ble_eq_true rfl) ?_
  refine fr_al0 dX5_begin_8 ?_
  refine fr_il1 dX5_begin_9 ?_
  refine fr_put (kz := 2) dX5_begin_10 fpX5_21 (fr_obS (by omega) (by omega)) rfl rfl (fun h => by cases h) ?_
  refine fr_al0 dX5_begin_13 ?_
  refine fr_il2 dX5_begin_14 ?_
  refine fr_put (kz := 3) dX5_begin_15 fpX5_25 (fr_obS (by omega) (by omega)) rfl rfl (fun h => by cases h) ?_
  refine fr_al0 dX5_begin_18 ?_
  refine fr_iconst dX5_begin_19 ?_
  refine fr_put (kz := 1) dX5_begin_20 fpX5_28 (fr_obS (by omega) (by omega)) rfl rfl (fun _ => Or.inr rfl) ?_
  exact fr_vret dX5_begin_23 rfl (fr_ev rfl)
set_option maxRecDepth 20000 in
theorem kcX5_put {l : Launch} {κ : fr_Ka} {μ : fr_Me} {s : Int} (s0 : 0 ≤ s) (s4 : s < 4) {i v : Int} (hi : 0 ≤ i ∧ i < 16) (hl : 0 ≤ μ (58 + s) 2 ∧ μ (58 + s) 2 ≤ 3) : fr_C l κ fmX5_put 1 [fr_r κ (58 + s), fr_i i, fr_j v] μ (fr_Ev (fr_up μ (62 + s) i (sp_cutl (μ (58 + s) 2) v))) := by
  have q8 := fr_bm8 v
  have q16 := fr_bm16 v
  have q32 := fr_bm32 v
  refine fr_enter (by decide +kernel) (ls := [some (fr_r κ (58 + s)), some (fr_i i), some (fr_j v), none]) rfl (Nat.le_of_ble_eq_true rfl) ?_
  refine fr_al0 dX5_put_0 ?_
  refine fr_geti (kz := 2) dX5_put_1 flX5_21 (fr_obS (by omega) (by omega)) rfl rfl ?_
  rcases (by omega : μ (58 + s) 2 < 0 ∨ 2 < μ (58 + s) 2 ∨ μ (58 + s) 2 = 0 ∨ μ (58 + s) 2 = 1 ∨ μ (58 + s) 2 = 2) with h1 | h1 | h1 | h1 | h1
  · skip
    refine fr_tswOut (tgt := 70) dX5_put_4 (by omega) (Or.inl h1) (by decide) ?_
    refine fr_al0 dX5_put_70 ?_
    refine fr_getSI dX5_put_71 flX5_9 (by omega) (by omega) ?_
    refine fr_il1 dX5_put_74 ?_
    refine fr_ll2 dX5_put_75 ?_
    refine fr_last dX5_put_76 (fr_raS (by omega) (by omega)) (by omega) (by omega) ?_
    exact fr_vret dX5_put_77 rfl (fr_ev (congrArg (fr_up μ (62 + s) i) (by unfold sp_cutl; (repeat' split) <;> first | rfl | omega)))
  · skip
    refine fr_tswOut (tgt := 70) dX5_put_4 (by omega) (Or.inr h1) (by decide) ?_
    refine fr_al0 dX5_put_70 ?_
    refine fr_getSI dX5_put_71 flX5_9 (by omega) (by omega) ?_
    refine fr_il1 dX5_put_74 ?_
    refine fr_ll2 dX5_put_75 ?_
    refine fr_last dX5_put_76 (fr_raS (by omega) (by omega)) (by omega) (by omega) ?_
    exact fr_vret dX5_put_77 rfl (fr_ev (congrArg (fr_up μ (62 + s) i) (by unfold sp_cutl; (repeat' split) <;> first | rfl | omega)))
  · skip
    refine fr_tswIn (tgt := 32) (off := 28) dX5_put_4 (by omega) (by omega) (by omega) (by rw [h1]; rfl) (by decide) ?_
    refine fr_al0 dX5_put_32 ?_
    refine fr_getSI dX5_put_33 flX5_9 (by omega) (by omega) ?_
    refine fr_il1 dX5_put_36 ?_
    refine fr_ll2 dX5_put_37 ?_
    refine fr_l2i dX5_put_38 ?_
    refine fr_i2b dX5_put_39 ?_
    refine fr_i2l dX5_put_40 (by omega) ?_
    refine fr_last dX5_put_41 (fr_raS (by omega) (by omega)) (by omega) (by omega) ?_
    refine fr_goto (tgt := 77) dX5_put_42 (by decide) ?_
    exact fr_vret dX5_put_77 rfl (fr_ev (congrArg (fr_up μ (62 + s) i) (by unfold sp_cutl; (repeat' split) <;> first | rfl | omega)))
  · skip
    refine fr_tswIn (tgt := 45) (off := 41) dX5_put_4 (by omega) (by omega) (by omega) (by rw [h1]; rfl) (by decide) ?_
    refine fr_al0 dX5_put_45 ?_
    refine fr_getSI dX5_put_46 flX5_9 (by omega) (by omega) ?_
    refine fr_il1 dX5_put_49 ?_
    refine fr_ll2 dX5_put_50 ?_
    refine fr_l2i dX5_put_51 ?_
    refine fr_i2s dX5_put_52 ?_
    refine fr_i2l dX5_put_53 (by omega) ?_
    refine fr_last dX5_put_54 (fr_raS (by omega) (by omega)) (by omega) (by omega) ?_
    refine fr_goto (tgt := 77) dX5_put_55 (by decide) ?_
    exact fr_vret dX5_put_77 rfl (fr_ev (congrArg (fr_up μ (62 + s) i) (by unfold sp_cutl; (repeat' split) <;> first | rfl | omega)))
  · skip
    refine fr_tswIn (tgt := 58) (off := 54) dX5_put_4 (by omega) (by omega) (by omega) (by rw [h1]; rfl) (by decide) ?_
    refine fr_al0 dX5_put_58 ?_
    refine fr_getSI dX5_put_59 flX5_9 (by omega) (by omega) ?_
    refine fr_il1 dX5_put_62 ?_
    refine fr_ll2 dX5_put_63 ?_
    refine fr_l2iB dX5_put_64 ?_
    refine fr_i2l dX5_put_65 (by omega) ?_
    refine fr_last dX5_put_66 (fr_raS (by omega) (by omega)) (by omega) (by omega) ?_
    refine fr_goto (tgt := 77) dX5_put_67 (by decide) ?_
    exact fr_vret dX5_put_77 rfl (fr_ev (congrArg (fr_up μ (62 + s) i) (by unfold sp_cutl; (repeat' split) <;> first | rfl | omega)))
