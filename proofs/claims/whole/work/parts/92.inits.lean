/-! the constructors -/
theorem ncX7 {l : Launch} {κ : fr_Ka} (c : Int) (n t : Nat) : nw_C l κ fmX7_init 1 [fr_r κ c] n t n t := by
  refine nw_enter (by decide) rfl rfl (Nat.le_of_ble_eq_true rfl) ?_
  refine nw_al0 dX7_init_0 ?_
  refine nw_obj dX7_init_1 (fr_mem 109 (by decide +kernel) rfl) (by decide) (by decide) ?_
  exact nw_ret dX7_init_4 rfl
theorem ncX0 {l : Launch} {κ : fr_Ka} (c : Int) (n t : Nat) : nw_C l κ fmX0_init 1 [fr_r κ c] n t n t := by
  refine nw_enter (by decide) rfl rfl (Nat.le_of_ble_eq_true rfl) ?_
  refine nw_al0 dX0_init_0 ?_
  refine nw_obj dX0_init_1 (fr_mem 155 (by decide +kernel) rfl) (by decide) (by decide) ?_
  exact nw_ret dX0_init_4 rfl
set_option maxRecDepth 20000 in
theorem ncX1_1 {l : Launch} {κ : fr_Ka} : nw_C l κ fmX1_init 2 [fr_r κ 1] 2 0 16 25 := by
  refine nw_enter (by decide) rfl rfl (Nat.le_of_ble_eq_true rfl) ?_
  refine nw_al0 dX1_init_0 ?_
  refine nw_obj dX1_init_1 (fr_mem 100 (by decide +kernel) rfl) (by decide) (by decide) ?_
  refine nw_al0 dX1_init_4 ?_
  refine nw_bipush dX1_init_5 (by decide) ?_
  refine nw_newR3 (c := 2) (N := 6) dX1_init_7 (fr_mem 101 (by decide +kernel) rfl) (by decide +kernel) rfl (by decide) (by decide) (by decide) (by decide +kernel) ?_
  refine nw_putR (c := 1) (f := 0) (cz := 2) nw_kX1 dX1_init_10 (by decide) (fr_mem 174 (by decide +kernel) rfl) rfl (by decide +kernel) rfl rfl rfl rfl rfl rfl ?_
  refine nw_al0 dX1_init_13 ?_
  refine nw_iconst dX1_init_14 ?_
  refine nw_newR4 (c := 3) (N := 5) dX1_init_15 (fr_mem 103 (by decide +kernel) rfl) (by decide +kernel) rfl (by decide) (by decide) (by decide) (by decide +kernel) ?_
  refine nw_putR (c := 1) (f := 1) (cz := 3) nw_kX1 dX1_init_18 (by decide) (fr_mem 179 (by decide +kernel) rfl) rfl (by decide +kernel) rfl rfl rfl rfl rfl rfl ?_
  refine nw_al0 dX1_init_21 ?_
  refine nw_bipush dX1_init_22 (by decide) ?_
  refine nw_newI (c := 4) (N := 10) dX1_init_24 (by decide +kernel) rfl (by decide) (by decide) (by decide) (by decide +kernel) ?_
  refine nw_putR (c := 1) (f := 2) (cz := 4) nw_kX1 dX1_init_26 (by decide) (fr_mem 182 (by decide +kernel) rfl) rfl (by decide +kernel) rfl rfl rfl rfl rfl rfl ?_
  refine nw_al0 dX1_init_29 ?_
  refine nw_iconst dX1_init_30 ?_
  refine nw_putI (c := 1) (f := 5) nw_kX1 dX1_init_31 (by decide) (fr_mem 192 (by decide +kernel) rfl) rfl (by decide +kernel) rfl rfl rfl rfl rfl (by decide +kernel) ?_
  refine nw_iconst dX1_init_34 ?_
  refine nw_is1 dX1_init_35 rfl (by decide) ?_
  refine nw_il1 dX1_init_36 ?_
  refine nw_bipush dX1_init_37 (by decide) ?_
  refine nw_geF dX1_init_39 (by decide) (by decide) (by decide) (by decide) ?_
  refine nw_al0 dX1_init_42 ?_
  refine nw_get (c := 1) (f := 0) (cz := 2) dX1_init_43 flX1_11 (by decide +kernel) rfl rfl rfl (by decide +kernel) ?_
  refine nw_il1 dX1_init_46 ?_
  refine nw_new (c := 36) nw_kX7 dX1_init_47 (fr_mem 101 (by decide +kernel) rfl) (by decide +kernel) rfl (by decide +kernel) ?_
  refine nw_dup dX1_init_50 rfl ?_
  refine nw_call (mi' := fmX7_init) (c := 36) (as := []) (st := [fr_r κ 36, fr_i 0, fr_r κ 2]) (n' := 6) (t' := 4) dX1_init_51 mlX1_31 miX7 (by decide) (ncX7 _ _ _) rfl rfl (Nat.le_of_ble_eq_true rfl) (by decide +kernel) ?_
  refine nw_aast (a := 3) (ci := 7) (q := (RX7, TX7, 7)) (c := 2) (N := 6) (cz := 36) (fun _ => rfl) rfl (fun _ => rfl) dX1_init_54 (by decide +kernel) rfl (by decide +kernel) rfl (by decide) (by decide) (by decide) rfl rfl ?_
  refine nw_ii1 (z2 := 1) dX1_init_55 rfl (by decide) (by decide) ?_
  refine nw_goto (tgt := 36) dX1_init_58 (by decide) ?_
  refine nw_il1 dX1_init_36 ?_
  refine nw_bipush dX1_init_37 (by decide) ?_
  refine nw_geF dX1_init_39 (by decide) (by decide) (by decide) (by decide) ?_
  refine nw_al0 dX1_init_42 ?_
  refine nw_get (c := 1) (f := 0) (cz := 2) dX1_init_43 flX1_11 (by decide +kernel) rfl rfl rfl (by decide +kernel) ?_
  refine nw_il1 dX1_init_46 ?_
  refine nw_new (c := 37) nw_kX7 dX1_init_47 (fr_mem 101 (by decide +kernel) rfl) (by decide +kernel) rfl (by decide +kernel) ?_
  refine nw_dup dX1_init_50 rfl ?_
  refine nw_call (mi' := fmX7_init) (c := 37) (as := []) (st := [fr_r κ 37, fr_i 1, fr_r κ 2]) (n' := 7) (t' := 5) dX1_init_51 mlX1_31 miX7 (by decide) (ncX7 _ _ _) rfl rfl (Nat.le_of_ble_eq_true rfl) (by decide +kernel) ?_
  refine nw_aast (a := 3) (ci := 7) (q := (RX7, TX7, 7)) (c := 2) (N := 6) (cz := 37) (fun _ => rfl) rfl (fun _ => rfl) dX1_init_54 (by decide +kernel) rfl (by decide +kernel) rfl (by decide) (by decide) (by decide) rfl rfl ?_
  refine nw_ii1 (z2 := 2) dX1_init_55 rfl (by decide) (by decide) ?_
  refine nw_goto (tgt := 36) dX1_init_58 (by decide) ?_
  refine nw_il1 dX1_init_36 ?_
  refine nw_bipush dX1_init_37 (by decide) ?_
  refine nw_geF dX1_init_39 (by decide) (by decide) (by decide) (by decide) ?_
  refine nw_al0 dX1_init_42 ?_
  refine nw_get (c := 1) (f := 0) (cz := 2) dX1_init_43 flX1_11 (by decide +kernel) rfl rfl rfl (by decide +kernel) ?_
  refine nw_il1 dX1_init_46 ?_
  refine nw_new (c := 38) nw_kX7 dX1_init_47 (fr_mem 101 (by decide +kernel) rfl) (by decide +kernel) rfl (by decide +kernel) ?_
  refine nw_dup dX1_init_50 rfl ?_
  refine nw_call (mi' := fmX7_init) (c := 38) (as := []) (st := [fr_r κ 38, fr_i 2, fr_r κ 2]) (n' := 8) (t' := 6) dX1_init_51 mlX1_31 miX7 (by decide) (ncX7 _ _ _) rfl rfl (Nat.le_of_ble_eq_true rfl) (by decide +kernel) ?_
  refine nw_aast (a := 3) (ci := 7) (q := (RX7, TX7, 7)) (c := 2) (N := 6) (cz := 38) (fun _ => rfl) rfl (fun _ => rfl) dX1_init_54 (by decide +kernel) rfl (by decide +kernel) rfl (by decide) (by decide) (by decide) rfl rfl ?_
  refine nw_ii1 (z2 := 3) dX1_init_55 rfl (by decide) (by decide) ?_
  refine nw_goto (tgt := 36) dX1_init_58 (by decide) ?_
  refine nw_il1 dX1_init_36 ?_
  refine nw_bipush dX1_init_37 (by decide) ?_
  refine nw_geF dX1_init_39 (by decide) (by decide) (by decide) (by decide) ?_
  refine nw_al0 dX1_init_42 ?_
  refine nw_get (c := 1) (f := 0) (cz := 2) dX1_init_43 flX1_11 (by decide +kernel) rfl rfl rfl (by decide +kernel) ?_
  refine nw_il1 dX1_init_46 ?_
  refine nw_new (c := 39) nw_kX7 dX1_init_47 (fr_mem 101 (by decide +kernel) rfl) (by decide +kernel) rfl (by decide +kernel) ?_
  refine nw_dup dX1_init_50 rfl ?_
  refine nw_call (mi' := fmX7_init) (c := 39) (as := []) (st := [fr_r κ 39, fr_i 3, fr_r κ 2]) (n' := 9) (t' := 7) dX1_init_51 mlX1_31 miX7 (by decide) (ncX7 _ _ _) rfl rfl (Nat.le_of_ble_eq_true rfl) (by decide +kernel) ?_
  refine nw_aast (a := 3) (ci := 7) (q := (RX7, TX7, 7)) (c := 2) (N := 6) (cz := 39) (fun _ => rfl) rfl (fun _ => rfl) dX1_init_54 (by decide +kernel) rfl (by decide +kernel) rfl (by decide) (by decide) (by decide) rfl rfl ?_
  refine nw_ii1 (z2 := 4) dX1_init_55 rfl (by decide) (by decide) ?_
  refine nw_goto (tgt := 36) dX1_init_58 (by decide) ?_
  refine nw_il1 dX1_init_36 ?_
  refine nw_bipush dX1_init_37 (by decide) ?_
  refine nw_geF dX1_init_39 (by decide) (by decide) (by decide) (by decide) ?_
  refine nw_al0 dX1_init_42 ?_
  refine nw_get (c := 1) (f := 0) (cz := 2) dX1_init_43 flX1_11 (by decide +kernel) rfl rfl rfl (by decide +kernel) ?_
  refine nw_il1 dX1_init_46 ?_
  refine nw_new (c := 40) nw_kX7 dX1_init_47 (fr_mem 101 (by decide +kernel) rfl) (by decide +kernel) rfl (by decide +kernel) ?_
  refine nw_dup dX1_init_50 rfl ?_
  refine nw_call (mi' := fmX7_init) (c := 40) (as := []) (st := [fr_r κ 40, fr_i 4, fr_r κ 2]) (n' := 10) (t' := 8) dX1_init_51 mlX1_31 miX7 (by decide) (ncX7 _ _ _) rfl rfl (Nat.le_of_ble_eq_true rfl) (by decide +kernel) ?_
  refine nw_aast (a := 3) (ci := 7) (q := (RX7, TX7, 7)) (c := 2) (N := 6) (cz := 40) (fun _ => rfl) rfl (fun _ => rfl) dX1_init_54 (by decide +kernel) rfl (by decide +kernel) rfl (by decide) (by decide) (by decide) rfl rfl ?_
  refine nw_ii1 (z2 := 5) dX1_init_55 rfl (by decide) (by decide) ?_
  refine nw_goto (tgt := 36) dX1_init_58 (by decide) ?_
  refine nw_il1 dX1_init_36 ?_
  refine nw_bipush dX1_init_37 (by decide) ?_
  refine nw_geF dX1_init_39 (by decide) (by decide) (by decide) (by decide) ?_
  refine nw_al0 dX1_init_42 ?_
  refine nw_get (c := 1) (f := 0) (cz := 2) dX1_init_43 flX1_11 (by decide +kernel) rfl rfl rfl (by decide +kernel) ?_
  refine nw_il1 dX1_init_46 ?_
  refine nw_new (c := 41) nw_kX7 dX1_init_47 (fr_mem 101 (by decide +kernel) rfl) (by decide +kernel) rfl (by decide +kernel) ?_
  refine nw_dup dX1_init_50 rfl ?_
  refine nw_call (mi' := fmX7_init) (c := 41) (as := []) (st := [fr_r κ 41, fr_i 5, fr_r κ 2]) (n' := 11) (t' := 9) dX1_init_51 mlX1_31 miX7 (by decide) (ncX7 _ _ _) rfl rfl (Nat.le_of_ble_eq_true rfl) (by decide +kernel) ?_
  refine nw_aast (a := 3) (ci := 7) (q := (RX7, TX7, 7)) (c := 2) (N := 6) (cz := 41) (fun _ => rfl) rfl (fun _ => rfl) dX1_init_54 (by decide +kernel) rfl (by decide +kernel) rfl (by decide) (by decide) (by decide) rfl rfl ?_
  refine nw_ii1 (z2 := 6) dX1_init_55 rfl (by decide) (by decide) ?_
  refine nw_goto (tgt := 36) dX1_init_58 (by decide) ?_
  refine nw_il1 dX1_init_36 ?_
  refine nw_bipush dX1_init_37 (by decide) ?_
  refine nw_geT (tgt := 61) dX1_init_39 (by decide) (by decide) (by decide) (by decide) ?_
  refine nw_iconst dX1_init_61 ?_
  refine nw_is1 dX1_init_62 rfl (by decide) ?_
  refine nw_il1 dX1_init_63 ?_
  refine nw_iconst dX1_init_64 ?_
  refine nw_geF dX1_init_65 (by decide) (by decide) (by decide) (by decide) ?_
  refine nw_al0 dX1_init_68 ?_
  refine nw_get (c := 1) (f := 1) (cz := 3) dX1_init_69 flX1_19 (by decide +kernel) rfl rfl rfl (by decide +kernel) ?_
  refine nw_il1 dX1_init_72 ?_
  refine nw_new (c := 48) nw_kX0 dX1_init_73 (fr_mem 103 (by decide +kernel) rfl) (by decide +kernel) rfl (by decide +kernel) ?_
  refine nw_dup dX1_init_76 rfl ?_
  refine nw_call (mi' := fmX0_init) (c := 48) (as := []) (st := [fr_r κ 48, fr_i 0, fr_r κ 3]) (n' := 12) (t' := 10) dX1_init_77 mlX1_32 miX0 (by decide) (ncX0 _ _ _) rfl rfl (Nat.le_of_ble_eq_true rfl) (by decide +kernel) ?_
  refine nw_aast (a := 4) (ci := 0) (q := (RX0, TX0, 4)) (c := 3) (N := 5) (cz := 48) (fun _ => rfl) rfl (fun _ => rfl) dX1_init_80 (by decide +kernel) rfl (by decide +kernel) rfl (by decide) (by decide) (by decide) rfl rfl ?_
  refine nw_ii1 (z2 := 1) dX1_init_81 rfl (by decide) (by decide) ?_
  refine nw_goto (tgt := 63) dX1_init_84 (by decide) ?_
  refine nw_il1 dX1_init_63 ?_
  refine nw_iconst dX1_init_64 ?_
  refine nw_geF dX1_init_65 (by decide) (by decide) (by decide) (by decide) ?_
  refine nw_al0 dX1_init_68 ?_
  refine nw_get (c := 1) (f := 1) (cz := 3) dX1_init_69 flX1_19 (by decide +kernel) rfl rfl rfl (by decide +kernel) ?_
  refine nw_il1 dX1_init_72 ?_
  refine nw_new (c := 49) nw_kX0 dX1_init_73 (fr_mem 103 (by decide +kernel) rfl) (by decide +kernel) rfl (by decide +kernel) ?_
  refine nw_dup dX1_init_76 rfl ?_
  refine nw_call (mi' := fmX0_init) (c := 49) (as := []) (st := [fr_r κ 49, fr_i 1, fr_r κ 3]) (n' := 13) (t' := 11) dX1_init_77 mlX1_32 miX0 (by decide) (ncX0 _ _ _) rfl rfl (Nat.le_of_ble_eq_true rfl) (by decide +kernel) ?_
  refine nw_aast (a := 4) (ci := 0) (q := (RX0, TX0, 4)) (c := 3) (N := 5) (cz := 49) (fun _ => rfl) rfl (fun _ => rfl) dX1_init_80 (by decide +kernel) rfl (by decide +kernel) rfl (by decide) (by decide) (by decide) rfl rfl ?_
  refine nw_ii1 (z2 := 2) dX1_init_81 rfl (by decide) (by decide) ?_
  refine nw_goto (tgt := 63) dX1_init_84 (by decide) ?_
  refine nw_il1 dX1_init_63 ?_
  refine nw_iconst dX1_init_64 ?_
  refine nw_geF dX1_init_65 (by decide) (by decide) (by decide) (by decide) ?_
  refine nw_al0 dX1_init_68 ?_
  refine nw_get (c := 1) (f := 1) (cz := 3) dX1_init_69 flX1_19 (by decide +kernel) rfl rfl rfl (by decide +kernel) ?_
  refine nw_il1 dX1_init_72 ?_
  refine nw_new (c := 50) nw_kX0 dX1_init_73 (fr_mem 103 (by decide +kernel) rfl) (by decide +kernel) rfl (by decide +kernel) ?_
  refine nw_dup dX1_init_76 rfl ?_
  refine nw_call (mi' := fmX0_init) (c := 50) (as := []) (st := [fr_r κ 50, fr_i 2, fr_r κ 3]) (n' := 14) (t' := 12) dX1_init_77 mlX1_32 miX0 (by decide) (ncX0 _ _ _) rfl rfl (Nat.le_of_ble_eq_true rfl) (by decide +kernel) ?_
  refine nw_aast (a := 4) (ci := 0) (q := (RX0, TX0, 4)) (c := 3) (N := 5) (cz := 50) (fun _ => rfl) rfl (fun _ => rfl) dX1_init_80 (by decide +kernel) rfl (by decide +kernel) rfl (by decide) (by decide) (by decide) rfl rfl ?_
  refine nw_ii1 (z2 := 3) dX1_init_81 rfl (by decide) (by decide) ?_
  refine nw_goto (tgt := 63) dX1_init_84 (by decide) ?_
  refine nw_il1 dX1_init_63 ?_
  refine nw_iconst dX1_init_64 ?_
  refine nw_geF dX1_init_65 (by decide) (by decide) (by decide) (by decide) ?_
  refine nw_al0 dX1_init_68 ?_
  refine nw_get (c := 1) (f := 1) (cz := 3) dX1_init_69 flX1_19 (by decide +kernel) rfl rfl rfl (by decide +kernel) ?_
  refine nw_il1 dX1_init_72 ?_
  refine nw_new (c := 51) nw_kX0 dX1_init_73 (fr_mem 103 (by decide +kernel) rfl) (by decide +kernel) rfl (by decide +kernel) ?_
  refine nw_dup dX1_init_76 rfl ?_
  refine nw_call (mi' := fmX0_init) (c := 51) (as := []) (st := [fr_r κ 51, fr_i 3, fr_r κ 3]) (n' := 15) (t' := 13) dX1_init_77 mlX1_32 miX0 (by decide) (ncX0 _ _ _) rfl rfl (Nat.le_of_ble_eq_true rfl) (by decide +kernel) ?_
  refine nw_aast (a := 4) (ci := 0) (q := (RX0, TX0, 4)) (c := 3) (N := 5) (cz := 51) (fun _ => rfl) rfl (fun _ => rfl) dX1_init_80 (by decide +kernel) rfl (by decide +kernel) rfl (by decide) (by decide) (by decide) rfl rfl ?_
  refine nw_ii1 (z2 := 4) dX1_init_81 rfl (by decide) (by decide) ?_
  refine nw_goto (tgt := 63) dX1_init_84 (by decide) ?_
  refine nw_il1 dX1_init_63 ?_
  refine nw_iconst dX1_init_64 ?_
  refine nw_geF dX1_init_65 (by decide) (by decide) (by decide) (by decide) ?_
  refine nw_al0 dX1_init_68 ?_
  refine nw_get (c := 1) (f := 1) (cz := 3) dX1_init_69 flX1_19 (by decide +kernel) rfl rfl rfl (by decide +kernel) ?_
  refine nw_il1 dX1_init_72 ?_
  refine nw_new (c := 52) nw_kX0 dX1_init_73 (fr_mem 103 (by decide +kernel) rfl) (by decide +kernel) rfl (by decide +kernel) ?_
  refine nw_dup dX1_init_76 rfl ?_
  refine nw_call (mi' := fmX0_init) (c := 52) (as := []) (st := [fr_r κ 52, fr_i 4, fr_r κ 3]) (n' := 16) (t' := 14) dX1_init_77 mlX1_32 miX0 (by decide) (ncX0 _ _ _) rfl rfl (Nat.le_of_ble_eq_true rfl) (by decide +kernel) ?_
  refine nw_aast (a := 4) (ci := 0) (q := (RX0, TX0, 4)) (c := 3) (N := 5) (cz := 52) (fun _ => rfl) rfl (fun _ => rfl) dX1_init_80 (by decide +kernel) rfl (by decide +kernel) rfl (by decide) (by decide) (by decide) rfl rfl ?_
  refine nw_ii1 (z2 := 5) dX1_init_81 rfl (by decide) (by decide) ?_
  refine nw_goto (tgt := 63) dX1_init_84 (by decide) ?_
  refine nw_il1 dX1_init_63 ?_
  refine nw_iconst dX1_init_64 ?_
  refine nw_geT (tgt := 87) dX1_init_65 (by decide) (by decide) (by decide) (by decide) ?_
  refine nw_iconst dX1_init_87 ?_
  refine nw_is1 dX1_init_88 rfl (by decide) ?_
  refine nw_il1 dX1_init_89 ?_
  refine nw_bipush dX1_init_90 (by decide) ?_
  refine nw_geF dX1_init_92 (by decide) (by decide) (by decide) (by decide) ?_
  refine nw_al0 dX1_init_95 ?_
  refine nw_get (c := 1) (f := 2) (cz := 4) dX1_init_96 flX1_23 (by decide +kernel) rfl rfl rfl (by decide +kernel) ?_
  refine nw_il1 dX1_init_99 ?_
  refine nw_il1 dX1_init_100 ?_
  refine nw_iast (c := 4) (N := 10) dX1_init_101 (by decide +kernel) rfl (by decide) (by decide) (by decide) rfl (by decide +kernel) ?_
  refine nw_ii1 (z2 := 1) dX1_init_102 rfl (by decide) (by decide) ?_
  refine nw_goto (tgt := 89) dX1_init_105 (by decide) ?_
  refine nw_il1 dX1_init_89 ?_
  refine nw_bipush dX1_init_90 (by decide) ?_
  refine nw_geF dX1_init_92 (by decide) (by decide) (by decide) (by decide) ?_
  refine nw_al0 dX1_init_95 ?_
  refine nw_get (c := 1) (f := 2) (cz := 4) dX1_init_96 flX1_23 (by decide +kernel) rfl rfl rfl (by decide +kernel) ?_
  refine nw_il1 dX1_init_99 ?_
  refine nw_il1 dX1_init_100 ?_
  refine nw_iast (c := 4) (N := 10) dX1_init_101 (by decide +kernel) rfl (by decide) (by decide) (by decide) rfl (by decide +kernel) ?_
  refine nw_ii1 (z2 := 2) dX1_init_102 rfl (by decide) (by decide) ?_
  refine nw_goto (tgt := 89) dX1_init_105 (by decide) ?_
  refine nw_il1 dX1_init_89 ?_
  refine nw_bipush dX1_init_90 (by decide) ?_
  refine nw_geF dX1_init_92 (by decide) (by decide) (by decide) (by decide) ?_
  refine nw_al0 dX1_init_95 ?_
  refine nw_get (c := 1) (f := 2) (cz := 4) dX1_init_96 flX1_23 (by decide +kernel) rfl rfl rfl (by decide +kernel) ?_
  refine nw_il1 dX1_init_99 ?_
  refine nw_il1 dX1_init_100 ?_
  refine nw_iast (c := 4) (N := 10) dX1_init_101 (by decide +kernel) rfl (by decide) (by decide) (by decide) rfl (by decide +kernel) ?_
  refine nw_ii1 (z2 := 3) dX1_init_102 rfl (by decide) (by decide) ?_
  refine nw_goto (tgt := 89) dX1_init_105 (by decide) ?_
  refine nw_il1 dX1_init_89 ?_
  refine nw_bipush dX1_init_90 (by decide) ?_
  refine nw_geF dX1_init_92 (by decide) (by decide) (by decide) (by decide) ?_
  refine nw_al0 dX1_init_95 ?_
  refine nw_get (c := 1) (f := 2) (cz := 4) dX1_init_96 flX1_23 (by decide +kernel) rfl rfl rfl (by decide +kernel) ?_
  refine nw_il1 dX1_init_99 ?_
  refine nw_il1 dX1_init_100 ?_
  refine nw_iast (c := 4) (N := 10) dX1_init_101 (by decide +kernel) rfl (by decide) (by decide) (by decide) rfl (by decide +kernel) ?_
  refine nw_ii1 (z2 := 4) dX1_init_102 rfl (by decide) (by decide) ?_
  refine nw_goto (tgt := 89) dX1_init_105 (by decide) ?_
  refine nw_il1 dX1_init_89 ?_
  refine nw_bipush dX1_init_90 (by decide) ?_
  refine nw_geF dX1_init_92 (by decide) (by decide) (by decide) (by decide) ?_
  refine nw_al0 dX1_init_95 ?_
  refine nw_get (c := 1) (f := 2) (cz := 4) dX1_init_96 flX1_23 (by decide +kernel) rfl rfl rfl (by decide +kernel) ?_
  refine nw_il1 dX1_init_99 ?_
  refine nw_il1 dX1_init_100 ?_
  refine nw_iast (c := 4) (N := 10) dX1_init_101 (by decide +kernel) rfl (by decide) (by decide) (by decide) rfl (by decide +kernel) ?_
  refine nw_ii1 (z2 := 5) dX1_init_102 rfl (by decide) (by decide) ?_
  refine nw_goto (tgt := 89) dX1_init_105 (by decide) ?_
  refine nw_il1 dX1_init_89 ?_
  refine nw_bipush dX1_init_90 (by decide) ?_
  refine nw_geF dX1_init_92 (by decide) (by decide) (by decide) (by decide) ?_
  refine nw_al0 dX1_init_95 ?_
  refine nw_get (c := 1) (f := 2) (cz := 4) dX1_init_96 flX1_23 (by decide +kernel) rfl rfl rfl (by decide +kernel) ?_
  refine nw_il1 dX1_init_99 ?_
  refine nw_il1 dX1_init_100 ?_
  refine nw_iast (c := 4) (N := 10) dX1_init_101 (by decide +kernel) rfl (by decide) (by decide) (by decide) rfl (by decide +kernel) ?_
  refine nw_ii1 (z2 := 6) dX1_init_102 rfl (by decide) (by decide) ?_
  refine nw_goto (tgt := 89) dX1_init_105 (by decide) ?_
  refine nw_il1 dX1_init_89 ?_
  refine nw_bipush dX1_init_90 (by decide) ?_
  refine nw_geF dX1_init_92 (by decide) (by decide) (by decide) (by decide) ?_
  refine nw_al0 dX1_init_95 ?_
  refine nw_get (c := 1) (f := 2) (cz := 4) dX1_init_96 flX1_23 (by decide +kernel) rfl rfl rfl (by decide +kernel) ?_
  refine nw_il1 dX1_init_99 ?_
  refine nw_il1 dX1_init_100 ?_
  refine nw_iast (c := 4) (N := 10) dX1_init_101 (by decide +kernel) rfl (by decide) (by decide) (by decide) rfl (by decide +kernel) ?_
  refine nw_ii1 (z2 := 7) dX1_init_102 rfl (by decide) (by decide) ?_
  refine nw_goto (tgt := 89) dX1_init_105 (by decide) ?_
  refine nw_il1 dX1_init_89 ?_
  refine nw_bipush dX1_init_90 (by decide) ?_
  refine nw_geF dX1_init_92 (by decide) (by decide) (by decide) (by decide) ?_
  refine nw_al0 dX1_init_95 ?_
  refine nw_get (c := 1) (f := 2) (cz := 4) dX1_init_96 flX1_23 (by decide +kernel) rfl rfl rfl (by decide +kernel) ?_
  refine nw_il1 dX1_init_99 ?_
  refine nw_il1 dX1_init_100 ?_
  refine nw_iast (c := 4) (N := 10) dX1_init_101 (by decide +kernel) rfl (by decide) (by decide) (by decide) rfl (by decide +kernel) ?_
  refine nw_ii1 (z2 := 8) dX1_init_102 rfl (by decide) (by decide) ?_
  refine nw_goto (tgt := 89) dX1_init_105 (by decide) ?_
  refine nw_il1 dX1_init_89 ?_
  refine nw_bipush dX1_init_90 (by decide) ?_
  refine nw_geF dX1_init_92 (by decide) (by decide) (by decide) (by decide) ?_
  refine nw_al0 dX1_init_95 ?_
  refine nw_get (c := 1) (f := 2) (cz := 4) dX1_init_96 flX1_23 (by decide +kernel) rfl rfl rfl (by decide +kernel) ?_
  refine nw_il1 dX1_init_99 ?_
  refine nw_il1 dX1_init_100 ?_
  refine nw_iast (c := 4) (N := 10) dX1_init_101 (by decide +kernel) rfl (by decide) (by decide) (by decide) rfl (by decide +kernel) ?_
  refine nw_ii1 (z2 := 9) dX1_init_102 rfl (by decide) (by decide) ?_
  refine nw_goto (tgt := 89) dX1_init_105 (by decide) ?_
  refine nw_il1 dX1_init_89 ?_
  refine nw_bipush dX1_init_90 (by decide) ?_
  refine nw_geF dX1_init_92 (by decide) (by decide) (by decide) (by decide) ?_
  refine nw_al0 dX1_init_95 ?_
  refine nw_get (c := 1) (f := 2) (cz := 4) dX1_init_96 flX1_23 (by decide +kernel) rfl rfl rfl (by decide +kernel) ?_
  refine nw_il1 dX1_init_99 ?_
  refine nw_il1 dX1_init_100 ?_
  refine nw_iast (c := 4) (N := 10) dX1_init_101 (by decide +kernel) rfl (by decide) (by decide) (by decide) rfl (by decide +kernel) ?_
  refine nw_ii1 (z2 := 10) dX1_init_102 rfl (by decide) (by decide) ?_
  refine nw_goto (tgt := 89) dX1_init_105 (by decide) ?_
  refine nw_il1 dX1_init_89 ?_
  refine nw_bipush dX1_init_90 (by decide) ?_
  refine nw_geT (tgt := 108) dX1_init_92 (by decide) (by decide) (by decide) (by decide) ?_
  exact nw_ret dX1_init_108 rfl
set_option maxRecDepth 20000 in
theorem ncX1_5 {l : Launch} {κ : fr_Ka} : nw_C l κ fmX1_init 2 [fr_r κ 5] 17 26 31 51 := by
  refine nw_enter (by decide) rfl rfl (Nat.le_of_ble_eq_true rfl) ?_
  refine nw_al0 dX1_init_0 ?_
  refine nw_obj dX1_init_1 (fr_mem 100 (by decide +kernel) rfl) (by decide) (by decide) ?_
  refine nw_al0 dX1_init_4 ?_
  refine nw_bipush dX1_init_5 (by decide) ?_
  refine nw_newR3 (c := 6) (N := 6) dX1_init_7 (fr_mem 101 (by decide +kernel) rfl) (by decide +kernel) rfl (by decide) (by decide) (by decide) (by decide +kernel) ?_
  refine nw_putR (c := 5) (f := 0) (cz := 6) nw_kX1 dX1_init_10 (by decide) (fr_mem 174 (by decide +kernel) rfl) rfl (by decide +kernel) rfl rfl rfl rfl rfl rfl ?_
  refine nw_al0 dX1_init_13 ?_
  refine nw_iconst dX1_init_14 ?_
  refine nw_newR4 (c := 7) (N := 5) dX1_init_15 (fr_mem 103 (by decide +kernel) rfl) (by decide +kernel) rfl (by decide) (by decide) (by decide) (by decide +kernel) ?_
  refine nw_putR (c := 5) (f := 1) (cz := 7) nw_kX1 dX1_init_18 (by decide) (fr_mem 179 (by decide +kernel) rfl) rfl (by decide +kernel) rfl rfl rfl rfl rfl rfl ?_
  refine nw_al0 dX1_init_21 ?_
  refine nw_bipush dX1_init_22 (by decide) ?_
  refine nw_newI (c := 8) (N := 10) dX1_init_24 (by decide +kernel) rfl (by decide) (by decide) (by decide) (by decide +kernel) ?_
  refine nw_putR (c := 5) (f := 2) (cz := 8) nw_kX1 dX1_init_26 (by decide) (fr_mem 182 (by decide +kernel) rfl) rfl (by decide +kernel) rfl rfl rfl rfl rfl rfl ?_
  refine nw_al0 dX1_init_29 ?_
  refine nw_iconst dX1_init_30 ?_
  refine nw_putI (c := 5) (f := 5) nw_kX1 dX1_init_31 (by decide) (fr_mem 192 (by decide +kernel) rfl) rfl (by decide +kernel) rfl rfl rfl rfl rfl (by decide +kernel) ?_
  refine nw_iconst dX1_init_34 ?_
  refine nw_is1 dX1_init_35 rfl (by decide) ?_
  refine nw_il1 dX1_init_36 ?_
  refine nw_bipush dX1_init_37 (by decide) ?_
  refine nw_geF dX1_init_39 (by decide) (by decide) (by decide) (by decide) ?_
  refine nw_al0 dX1_init_42 ?_
  refine nw_get (c := 5) (f := 0) (cz := 6) dX1_init_43 flX1_11 (by decide +kernel) rfl rfl rfl (by decide +kernel) ?_
  refine nw_il1 dX1_init_46 ?_
  refine nw_new (c := 42) nw_kX7 dX1_init_47 (fr_mem 101 (by decide +kernel) rfl) (by decide +kernel) rfl (by decide +kernel) ?_
  refine nw_dup dX1_init_50 rfl ?_
  refine nw_call (mi' := fmX7_init) (c := 42) (as := []) (st := [fr_r κ 42, fr_i 0, fr_r κ 6]) (n' := 21) (t' := 30) dX1_init_51 mlX1_31 miX7 (by decide) (ncX7 _ _ _) rfl rfl (Nat.le_of_ble_eq_true rfl) (by decide +kernel) ?_
  refine nw_aast (a := 3) (ci := 7) (q := (RX7, TX7, 7)) (c := 6) (N := 6) (cz := 42) (fun _ => rfl) rfl (fun _ => rfl) dX1_init_54 (by decide +kernel) rfl (by decide +kernel) rfl (by decide) (by decide) (by decide) rfl rfl ?_
  refine nw_ii1 (z2 := 1) dX1_init_55 rfl (by decide) (by decide) ?_
  refine nw_goto (tgt := 36) dX1_init_58 (by decide) ?_
  refine nw_il1 dX1_init_36 ?_
  refine nw_bipush dX1_init_37 (by decide) ?_
  refine nw_geF dX1_init_39 (by decide) (by decide) (by decide) (by decide) ?_
  refine nw_al0 dX1_init_42 ?_
  refine nw_get (c := 5) (f := 0) (cz := 6) dX1_init_43 flX1_11 (by decide +kernel) rfl rfl rfl (by decide +kernel) ?_
  refine nw_il1 dX1_init_46 ?_
  refine nw_new (c := 43) nw_kX7 dX1_init_47 (fr_mem 101 (by decide +kernel) rfl) (by decide +kernel) rfl (by decide +kernel) ?_
  refine nw_dup dX1_init_50 rfl ?_
  refine nw_call (mi' := fmX7_init) (c := 43) (as := []) (st := [fr_r κ 43, fr_i 1, fr_r κ 6]) (n' := 22) (t' := 31) dX1_init_51 mlX1_31 miX7 (by decide) (ncX7 _ _ _) rfl rfl (Nat.le_of_ble_eq_true rfl) (by decide +kernel) ?_
  refine nw_aast (a := 3) (ci := 7) (q := (RX7, TX7, 7)) (c := 6) (N := 6) (cz := 43) (fun _ => rfl) rfl (fun _ => rfl) dX1_init_54 (by decide +kernel) rfl (by decide +kernel) rfl (by decide) (by decide) (by decide) rfl rfl ?_
  refine nw_ii1 (z2 := 2) dX1_init_55 rfl (by decide) (by decide) ?_
  refine nw_goto (tgt := 36) dX1_init_58 (by decide) ?_
  refine nw_il1 dX1_init_36 ?_
  refine nw_bipush dX1_init_37 (by decide) ?_
  refine nw_geF dX1_init_39 (by decide) (by decide) (by decide) (by decide) ?_
  refine nw_al0 dX1_init_42 ?_
  refine nw_get (c := 5) (f := 0) (cz := 6) dX1_init_43 flX1_11 (by decide +kernel) rfl rfl rfl (by decide +kernel) ?_
  refine nw_il1 dX1_init_46 ?_
  refine nw_new (c := 44) nw_kX7 dX1_init_47 (fr_mem 101 (by decide +kernel) rfl) (by decide +kernel) rfl (by decide +kernel) ?_
  refine nw_dup dX1_init_50 rfl ?_
  refine nw_call (mi' := fmX7_init) (c := 44) (as := []) (st := [fr_r κ 44, fr_i 2, fr_r κ 6]) (n' := 23) (t' := 32) dX1_init_51 mlX1_31 miX7 (by decide) (ncX7 _ _ _) rfl rfl (Nat.le_of_ble_eq_true rfl) (by decide +kernel) ?_
  refine nw_aast (a := 3) (ci := 7) (q := (RX7, TX7, 7)) (c := 6) (N := 6) (cz := 44) (fun _ => rfl) rfl (fun _ => rfl) dX1_init_54 (by decide +kernel) rfl (by decide +kernel) rfl (by decide) (by decide) (by decide) rfl rfl ?_
  refine nw_ii1 (z2 := 3) dX1_init_55 rfl (by decide) (by decide) ?_
  refine nw_goto (tgt := 36) dX1_init_58 (by decide) ?_
  refine nw_il1 dX1_init_36 ?_
  refine nw_bipush dX1_init_37 (by decide) ?_
  refine nw_geF dX1_init_39 (by decide) (by decide) (by decide) (by decide) ?_
  refine nw_al0 dX1_init_42 ?_
  refine nw_get (c := 5) (f := 0) (cz := 6) dX1_init_43 flX1_11 (by decide +kernel) rfl rfl rfl (by decide +kernel) ?_
  refine nw_il1 dX1_init_46 ?_
  refine nw_new (c := 45) nw_kX7 dX1_init_47 (fr_mem 101 (by decide +kernel) rfl) (by decide +kernel) rfl (by decide +kernel) ?_
  refine nw_dup dX1_init_50 rfl ?_
  refine nw_call (mi' := fmX7_init) (c := 45) (as := []) (st := [fr_r κ 45, fr_i 3, fr_r κ 6]) (n' := 24) (t' := 33) dX1_init_51 mlX1_31 miX7 (by decide) (ncX7 _ _ _) rfl rfl (Nat.le_of_ble_eq_true rfl) (by decide +kernel) ?_
  refine nw_aast (a := 3) (ci := 7) (q := (RX7, TX7, 7)) (c := 6) (N := 6) (cz := 45) (fun _ => rfl) rfl (fun _ => rfl) dX1_init_54 (by decide +kernel) rfl (by decide +kernel) rfl (by decide) (by decide) (by decide) rfl rfl ?_
  refine nw_ii1 (z2 := 4) dX1_init_55 rfl (by decide) (by decide) ?_
  refine nw_goto (tgt := 36) dX1_init_58 (by decide) ?_
  refine nw_il1 dX1_init_36 ?_
  refine nw_bipush dX1_init_37 (by decide) ?_
  refine nw_geF dX1_init_39 (by decide) (by decide) (by decide) (by decide) ?_
  refine nw_al0 dX1_init_42 ?_
  refine nw_get (c := 5) (f := 0) (cz := 6) dX1_init_43 flX1_11 (by decide +kernel) rfl rfl rfl (by decide +kernel) ?_
  refine nw_il1 dX1_init_46 ?_
  refine nw_new (c := 46) nw_kX7 dX1_init_47 (fr_mem 101 (by decide +kernel) rfl) (by decide +kernel) rfl (by decide +kernel) ?_
  refine nw_dup dX1_init_50 rfl ?_
  refine nw_call (mi' := fmX7_init) (c := 46) (as := []) (st := [fr_r κ 46, fr_i 4, fr_r κ 6]) (n' := 25) (t' := 34) dX1_init_51 mlX1_31 miX7 (by decide) (ncX7 _ _ _) rfl rfl (Nat.le_of_ble_eq_true rfl) (by decide +kernel) ?_
  refine nw_aast (a := 3) (ci := 7) (q := (RX7, TX7, 7)) (c := 6) (N := 6) (cz := 46) (fun _ => rfl) rfl (fun _ => rfl) dX1_init_54 (by decide +kernel) rfl (by decide +kernel) rfl (by decide) (by decide) (by decide) rfl rfl ?_
  refine nw_ii1 (z2 := 5) dX1_init_55 rfl (by decide) (by decide) ?_
  refine nw_goto (tgt := 36) dX1_init_58 (by decide) ?_
  refine nw_il1 dX1_init_36 ?_
  refine nw_bipush dX1_init_37 (by decide) ?_
  refine nw_geF dX1_init_39 (by decide) (by decide) (by decide) (by decide) ?_
  refine nw_al0 dX1_init_42 ?_
  refine nw_get (c := 5) (f := 0) (cz := 6) dX1_init_43 flX1_11 (by decide +kernel) rfl rfl rfl (by decide +kernel) ?_
  refine nw_il1 dX1_init_46 ?_
  refine nw_new (c := 47) nw_kX7 dX1_init_47 (fr_mem 101 (by decide +kernel) rfl) (by decide +kernel) rfl (by decide +kernel) ?_
  refine nw_dup dX1_init_50 rfl ?_
  refine nw_call (mi' := fmX7_init) (c := 47) (as := []) (st := [fr_r κ 47, fr_i 5, fr_r κ 6]) (n' := 26) (t' := 35) dX1_init_51 mlX1_31 miX7 (by decide) (ncX7 _ _ _) rfl rfl (Nat.le_of_ble_eq_true rfl) (by decide +kernel) ?_
  refine nw_aast (a := 3) (ci := 7) (q := (RX7, TX7, 7)) (c := 6) (N := 6) (cz := 47) (fun _ => rfl) rfl (fun _ => rfl) dX1_init_54 (by decide +kernel) rfl (by decide +kernel) rfl (by decide) (by decide) (by decide) rfl rfl ?_
  refine nw_ii1 (z2 := 6) dX1_init_55 rfl (by decide) (by decide) ?_
  refine nw_goto (tgt := 36) dX1_init_58 (by decide) ?_
  refine nw_il1 dX1_init_36 ?_
  refine nw_bipush dX1_init_37 (by decide) ?_
  refine nw_geT (tgt := 61) dX1_init_39 (by decide) (by decide) (by decide) (by decide) ?_
  refine nw_iconst dX1_init_61 ?_
  refine nw_is1 dX1_init_62 rfl (by decide) ?_
  refine nw_il1 dX1_init_63 ?_
  refine nw_iconst dX1_init_64 ?_
  refine nw_geF dX1_init_65 (by decide) (by decide) (by decide) (by decide) ?_
  refine nw_al0 dX1_init_68 ?_
  refine nw_get (c := 5) (f := 1) (cz := 7) dX1_init_69 flX1_19 (by decide +kernel) rfl rfl rfl (by decide +kernel) ?_
  refine nw_il1 dX1_init_72 ?_
  refine nw_new (c := 53) nw_kX0 dX1_init_73 (fr_mem 103 (by decide +kernel) rfl) (by decide +kernel) rfl (by decide +kernel) ?_
  refine nw_dup dX1_init_76 rfl ?_
  refine nw_call (mi' := fmX0_init) (c := 53) (as := []) (st := [fr_r κ 53, fr_i 0, fr_r κ 7]) (n' := 27) (t' := 36) dX1_init_77 mlX1_32 miX0 (by decide) (ncX0 _ _ _) rfl rfl (Nat.le_of_ble_eq_true rfl) (by decide +kernel) ?_
  refine nw_aast (a := 4) (ci := 0) (q := (RX0, TX0, 4)) (c := 7) (N := 5) (cz := 53) (fun _ => rfl) rfl (fun _ => rfl) dX1_init_80 (by decide +kernel) rfl (by decide +kernel) rfl (by decide) (by decide) (by decide) rfl rfl ?_
  refine nw_ii1 (z2 := 1) dX1_init_81 rfl (by decide) (by decide) ?_
  refine nw_goto (tgt := 63) dX1_init_84 (by decide) ?_
  refine nw_il1 dX1_init_63 ?_
  refine nw_iconst dX1_init_64 ?_
  refine nw_geF dX1_init_65 (by decide) (by decide) (by decide) (by decide) ?_
  refine nw_al0 dX1_init_68 ?_
  refine nw_get (c := 5) (f := 1) (cz := 7) dX1_init_69 flX1_19 (by decide +kernel) rfl rfl rfl (by decide +kernel) ?_
  refine nw_il1 dX1_init_72 ?_
  refine nw_new (c := 54) nw_kX0 dX1_init_73 (fr_mem 103 (by decide +kernel) rfl) (by decide +kernel) rfl (by decide +kernel) ?_
  refine nw_dup dX1_init_76 rfl ?_
  refine nw_call (mi' := fmX0_init) (c := 54) (as := []) (st := [fr_r κ 54, fr_i 1, fr_r κ 7]) (n' := 28) (t' := 37) dX1_init_77 mlX1_32 miX0 (by decide) (ncX0 _ _ _) rfl rfl (Nat.le_of_ble_eq_true rfl) (by decide +kernel) ?_
  refine nw_aast (a := 4) (ci := 0) (q := (RX0, TX0, 4)) (c := 7) (N := 5) (cz := 54) (fun _ => rfl) rfl (fun _ => rfl) dX1_init_80 (by decide +kernel) rfl (by decide +kernel) rfl (by decide) (by decide) (by decide) rfl rfl ?_
  refine nw_ii1 (z2 := 2) dX1_init_81 rfl (by decide) (by decide) ?_
  refine nw_goto (tgt := 63) dX1_init_84 (by decide) ?_
  refine nw_il1 dX1_init_63 ?_
  refine nw_iconst dX1_init_64 ?_
  refine nw_geF dX1_init_65 (by decide) (by decide) (by decide) (by decide) ?_
  refine nw_al0 dX1_init_68 ?_
  refine nw_get (c := 5) (f := 1) (cz := 7) dX1_init_69 flX1_19 (by decide +kernel) rfl rfl rfl (by decide +kernel) ?_
  refine nw_il1 dX1_init_72 ?_
  refine nw_new (c := 55) nw_kX0 dX1_init_73 (fr_mem 103 (by decide +kernel) rfl) (by decide +kernel) rfl (by decide +kernel) ?_
  refine nw_dup dX1_init_76 rfl ?_
  refine nw_call (mi' := fmX0_init) (c := 55) (as := []) (st := [fr_r κ 55, fr_i 2, fr_r κ 7]) (n' := 29) (t' := 38) dX1_init_77 mlX1_32 miX0 (by decide) (ncX0 _ _ _) rfl rfl (Nat.le_of_ble_eq_true rfl) (by decide +kernel) ?_
  refine nw_aast (a := 4) (ci := 0) (q := (RX0, TX0, 4)) (c := 7) (N := 5) (cz := 55) (fun _ => rfl) rfl (fun _ => rfl) dX1_init_80 (by decide +kernel) rfl (by decide +kernel) rfl (by decide) (by decide) (by decide) rfl rfl ?_
  refine nw_ii1 (z2 := 3) dX1_init_81 rfl (by decide) (by decide) ?_
  refine nw_goto (tgt := 63) dX1_init_84 (by decide) ?_
  refine nw_il1 dX1_init_63 ?_
  refine nw_iconst dX1_init_64 ?_
  refine nw_geF dX1_init_65 (by decide) (by decide) (by decide) (by decide) ?_
  refine nw_al0 dX1_init_68 ?_
  refine nw_get (c := 5) (f := 1) (cz := 7) dX1_init_69 flX1_19 (by decide +kernel) rfl rfl rfl (by decide +kernel) ?_
  refine nw_il1 dX1_init_72 ?_
  refine nw_new (c := 56) nw_kX0 dX1_init_73 (fr_mem 103 (by decide +kernel) rfl) (by decide +kernel) rfl (by decide +kernel) ?_
  refine nw_dup dX1_init_76 rfl ?_
  refine nw_call (mi' := fmX0_init) (c := 56) (as := []) (st := [fr_r κ 56, fr_i 3, fr_r κ 7]) (n' := 30) (t' := 39) dX1_init_77 mlX1_32 miX0 (by decide) (ncX0 _ _ _) rfl rfl (Nat.le_of_ble_eq_true rfl) (by decide +kernel) ?_
  refine nw_aast (a := 4) (ci := 0) (q := (RX0, TX0, 4)) (c := 7) (N := 5) (cz := 56) (fun _ => rfl) rfl (fun _ => rfl) dX1_init_80 (by decide +kernel) rfl (by decide +kernel) rfl (by decide) (by decide) (by decide) rfl rfl ?_
  refine nw_ii1 (z2 := 4) dX1_init_81 rfl (by decide) (by decide) ?_
  refine nw_goto (tgt := 63) dX1_init_84 (by decide) ?_
  refine nw_il1 dX1_init_63 ?_
  refine nw_iconst dX1_init_64 ?_
  refine nw_geF dX1_init_65 (by decide) (by decide) (by decide) (by decide) ?_
  refine nw_al0 dX1_init_68 ?_
  refine nw_get (c := 5) (f := 1) (cz := 7) dX1_init_69 flX1_19 (by decide +kernel) rfl rfl rfl (by decide +kernel) ?_
  refine nw_il1 dX1_init_72 ?_
  refine nw_new (c := 57) nw_kX0 dX1_init_73 (fr_mem 103 (by decide +kernel) rfl) (by decide +kernel) rfl (by decide +kernel) ?_
  refine nw_dup dX1_init_76 rfl ?_
  refine nw_call (mi' := fmX0_init) (c := 57) (as := []) (st := [fr_r κ 57, fr_i 4, fr_r κ 7]) (n' := 31) (t' := 40) dX1_init_77 mlX1_32 miX0 (by decide) (ncX0 _ _ _) rfl rfl (Nat.le_of_ble_eq_true rfl) (by decide +kernel) ?_
  refine nw_aast (a := 4) (ci := 0) (q := (RX0, TX0, 4)) (c := 7) (N := 5) (cz := 57) (fun _ => rfl) rfl (fun _ => rfl) dX1_init_80 (by decide +kernel) rfl (by decide +kernel) rfl (by decide) (by decide) (by decide) rfl rfl ?_
  refine nw_ii1 (z2 := 5) dX1_init_81 rfl (by decide) (by decide) ?_
  refine nw_goto (tgt := 63) dX1_init_84 (by decide) ?_
  refine nw_il1 dX1_init_63 ?_
  refine nw_iconst dX1_init_64 ?_
  refine nw_geT (tgt := 87) dX1_init_65 (by decide) (by decide) (by decide) (by decide) ?_
  refine nw_iconst dX1_init_87 ?_
  refine nw_is1 dX1_init_88 rfl (by decide) ?_
  refine nw_il1 dX1_init_89 ?_
  refine nw_bipush dX1_init_90 (by decide) ?_
  refine nw_geF dX1_init_92 (by decide) (by decide) (by decide) (by decide) ?_
  refine nw_al0 dX1_init_95 ?_
  refine nw_get (c := 5) (f := 2) (cz := 8) dX1_init_96 flX1_23 (by decide +kernel) rfl rfl rfl (by decide +kernel) ?_
  refine nw_il1 dX1_init_99 ?_
  refine nw_il1 dX1_init_100 ?_
  refine nw_iast (c := 8) (N := 10) dX1_init_101 (by decide +kernel) rfl (by decide) (by decide) (by decide) rfl (by decide +kernel) ?_
  refine nw_ii1 (z2 := 1) dX1_init_102 rfl (by decide) (by decide) ?_
  refine nw_goto (tgt := 89) dX1_init_105 (by decide) ?_
  refine nw_il1 dX1_init_89 ?_
  refine nw_bipush dX1_init_90 (by decide) ?_
  refine nw_geF dX1_init_92 (by decide) (by decide) (by decide) (by decide) ?_
  refine nw_al0 dX1_init_95 ?_
  refine nw_get (c := 5) (f := 2) (cz := 8) dX1_init_96 flX1_23 (by decide +kernel) rfl rfl rfl (by decide +kernel) ?_
  refine nw_il1 dX1_init_99 ?_
  refine nw_il1 dX1_init_100 ?_
  refine nw_iast (c := 8) (N := 10) dX1_init_101 (by decide +kernel) rfl (by decide) (by decide) (by decide) rfl (by decide +kernel) ?_
  refine nw_ii1 (z2 := 2) dX1_init_102 rfl (by decide) (by decide) ?_
  refine nw_goto (tgt := 89) dX1_init_105 (by decide) ?_
  refine nw_il1 dX1_init_89 ?_
  refine nw_bipush dX1_init_90 (by decide) ?_
  refine nw_geF dX1_init_92 (by decide) (by decide) (by decide) (by decide) ?_
  refine nw_al0 dX1_init_95 ?_
  refine nw_get (c := 5) (f := 2) (cz := 8) dX1_init_96 flX1_23 (by decide +kernel) rfl rfl rfl (by decide +kernel) ?_
  refine nw_il1 dX1_init_99 ?_
  refine nw_il1 dX1_init_100 ?_
  refine nw_iast (c := 8) (N := 10) dX1_init_101 (by decide +kernel) rfl (by decide) (by decide) (by decide) rfl (by decide +kernel) ?_
  refine nw_ii1 (z2 := 3) dX1_init_102 rfl (by decide) (by decide) ?_
  refine nw_goto (tgt := 89) dX1_init_105 (by decide) ?_
  refine nw_il1 dX1_init_89 ?_
  refine nw_bipush dX1_init_90 (by decide) ?_
  refine nw_geF dX1_init_92 (by decide) (by decide) (by decide) (by decide) ?_
  refine nw_al0 dX1_init_95 ?_
  refine nw_get (c := 5) (f := 2) (cz := 8) dX1_init_96 flX1_23 (by decide +kernel) rfl rfl rfl (by decide +kernel) ?_
  refine nw_il1 dX1_init_99 ?_
  refine nw_il1 dX1_init_100 ?_
  refine nw_iast (c := 8) (N := 10) dX1_init_101 (by decide +kernel) rfl (by decide) (by decide) (by decide) rfl (by decide +kernel) ?_
  refine nw_ii1 (z2 := 4) dX1_init_102 rfl (by decide) (by decide) ?_
  refine nw_goto (tgt := 89) dX1_init_105 (by decide) ?_
  refine nw_il1 dX1_init_89 ?_
  refine nw_bipush dX1_init_90 (by decide) ?_
  refine nw_geF dX1_init_92 (by decide) (by decide) (by decide) (by decide) ?_
  refine nw_al0 dX1_init_95 ?_
  refine nw_get (c := 5) (f := 2) (cz := 8) dX1_init_96 flX1_23 (by decide +kernel) rfl rfl rfl (by decide +kernel) ?_
  refine nw_il1 dX1_init_99 ?_
  refine nw_il1 dX1_init_100 ?_
  refine nw_iast (c := 8) (N := 10) dX1_init_101 (by decide +kernel) rfl (by decide) (by decide) (by decide) rfl (by decide +kernel) ?_
  refine nw_ii1 (z2 := 5) dX1_init_102 rfl (by decide) (by decide) ?_
  refine nw_goto (tgt := 89) dX1_init_105 (by decide) ?_
  refine nw_il1 dX1_init_89 ?_
  refine nw_bipush dX1_init_90 (by decide) ?_
  refine nw_geF dX1_init_92 (by decide) (by decide) (by decide) (by decide) ?_
  refine nw_al0 dX1_init_95 ?_
  refine nw_get (c := 5) (f := 2) (cz := 8) dX1_init_96 flX1_23 (by decide +kernel) rfl rfl rfl (by decide +kernel) ?_
  refine nw_il1 dX1_init_99 ?_
  refine nw_il1 dX1_init_100 ?_
  refine nw_iast (c := 8) (N := 10) dX1_init_101 (by decide +kernel) rfl (by decide) (by decide) (by decide) rfl (by decide +kernel) ?_
  refine nw_ii1 (z2 := 6) dX1_init_102 rfl (by decide) (by decide) ?_
  refine nw_goto (tgt := 89) dX1_init_105 (by decide) ?_
  refine nw_il1 dX1_init_89 ?_
  refine nw_bipush dX1_init_90 (by decide) ?_
  refine nw_geF dX1_init_92 (by decide) (by decide) (by decide) (by decide) ?_
  refine nw_al0 dX1_init_95 ?_
  refine nw_get (c := 5) (f := 2) (cz := 8) dX1_init_96 flX1_23 (by decide +kernel) rfl rfl rfl (by decide +kernel) ?_
  refine nw_il1 dX1_init_99 ?_
  refine nw_il1 dX1_init_100 ?_
  refine nw_iast (c := 8) (N := 10) dX1_init_101 (by decide +kernel) rfl (by decide) (by decide) (by decide) rfl (by decide +kernel) ?_
  refine nw_ii1 (z2 := 7) dX1_init_102 rfl (by decide) (by decide) ?_
  refine nw_goto (tgt := 89) dX1_init_105 (by decide) ?_
  refine nw_il1 dX1_init_89 ?_
  refine nw_bipush dX1_init_90 (by decide) ?_
  refine nw_geF dX1_init_92 (by decide) (by decide) (by decide) (by decide) ?_
  refine nw_al0 dX1_init_95 ?_
  refine nw_get (c := 5) (f := 2) (cz := 8) dX1_init_96 flX1_23 (by decide +kernel) rfl rfl rfl (by decide +kernel) ?_
  refine nw_il1 dX1_init_99 ?_
  refine nw_il1 dX1_init_100 ?_
  refine nw_iast (c := 8) (N := 10) dX1_init_101 (by decide +kernel) rfl (by decide) (by decide) (by decide) rfl (by decide +kernel) ?_
  refine nw_ii1 (z2 := 8) dX1_init_102 rfl (by decide) (by decide) ?_
  refine nw_goto (tgt := 89) dX1_init_105 (by decide) ?_
  refine nw_il1 dX1_init_89 ?_
  refine nw_bipush dX1_init_90 (by decide) ?_
  refine nw_geF dX1_init_92 (by decide) (by decide) (by decide) (by decide) ?_
  refine nw_al0 dX1_init_95 ?_
  refine nw_get (c := 5) (f := 2) (cz := 8) dX1_init_96 flX1_23 (by decide +kernel) rfl rfl rfl (by decide +kernel) ?_
  refine nw_il1 dX1_init_99 ?_
  refine nw_il1 dX1_init_100 ?_
  refine nw_iast (c := 8) (N := 10) dX1_init_101 (by decide +kernel) rfl (by decide) (by decide) (by decide) rfl (by decide +kernel) ?_
  refine nw_ii1 (z2 := 9) dX1_init_102 rfl (by decide) (by decide) ?_
  refine nw_goto (tgt := 89) dX1_init_105 (by decide) ?_
  refine nw_il1 dX1_init_89 ?_
  refine nw_bipush dX1_init_90 (by decide) ?_
  refine nw_geF dX1_init_92 (by decide) (by decide) (by decide) (by decide) ?_
  refine nw_al0 dX1_init_95 ?_
  refine nw_get (c := 5) (f := 2) (cz := 8) dX1_init_96 flX1_23 (by decide +kernel) rfl rfl rfl (by decide +kernel) ?_
  refine nw_il1 dX1_init_99 ?_
  refine nw_il1 dX1_init_100 ?_
  refine nw_iast (c := 8) (N := 10) dX1_init_101 (by decide +kernel) rfl (by decide) (by decide) (by decide) rfl (by decide +kernel) ?_
  refine nw_ii1 (z2 := 10) dX1_init_102 rfl (by decide) (by decide) ?_
  refine nw_goto (tgt := 89) dX1_init_105 (by decide) ?_
  refine nw_il1 dX1_init_89 ?_
  refine nw_bipush dX1_init_90 (by decide) ?_
  refine nw_geT (tgt := 108) dX1_init_92 (by decide) (by decide) (by decide) (by decide) ?_
  exact nw_ret dX1_init_108 rfl
set_option maxRecDepth 20000 in
theorem ncX6_9 {l : Launch} {κ : fr_Ka} : nw_C l κ fmX6_init 1 [fr_r κ 9] 32 52 36 56 := by
  refine nw_enter (by decide) rfl rfl (Nat.le_of_ble_eq_true rfl) ?_
  refine nw_al0 dX6_init_0 ?_
  refine nw_obj dX6_init_1 (fr_mem 220 (by decide +kernel) rfl) (by decide) (by decide) ?_
  refine nw_al0 dX6_init_4 ?_
  refine nw_bipush dX6_init_5 (by decide) ?_
  refine nw_newI (c := 10) (N := 60) dX6_init_7 (by decide +kernel) rfl (by decide) (by decide) (by decide) (by decide +kernel) ?_
  refine nw_putR (c := 9) (f := 0) (cz := 10) nw_kX6 dX6_init_9 (by decide) (fr_mem 221 (by decide +kernel) rfl) rfl (by decide +kernel) rfl rfl rfl rfl rfl rfl ?_
  refine nw_al0 dX6_init_12 ?_
  refine nw_bipush dX6_init_13 (by decide) ?_
  refine nw_newI (c := 11) (N := 6) dX6_init_15 (by decide +kernel) rfl (by decide) (by decide) (by decide) (by decide +kernel) ?_
  refine nw_putR (c := 9) (f := 1) (cz := 11) nw_kX6 dX6_init_17 (by decide) (fr_mem 222 (by decide +kernel) rfl) rfl (by decide +kernel) rfl rfl rfl rfl rfl rfl ?_
  refine nw_al0 dX6_init_20 ?_
  refine nw_bipush dX6_init_21 (by decide) ?_
  refine nw_newI (c := 12) (N := 6) dX6_init_23 (by decide +kernel) rfl (by decide) (by decide) (by decide) (by decide +kernel) ?_
  refine nw_putR (c := 9) (f := 2) (cz := 12) nw_kX6 dX6_init_25 (by decide) (fr_mem 223 (by decide +kernel) rfl) rfl (by decide +kernel) rfl rfl rfl rfl rfl rfl ?_
  refine nw_al0 dX6_init_28 ?_
  refine nw_bipush dX6_init_29 (by decide) ?_
  refine nw_newI (c := 13) (N := 6) dX6_init_31 (by decide +kernel) rfl (by decide) (by decide) (by decide) (by decide +kernel) ?_
  refine nw_putR (c := 9) (f := 3) (cz := 13) nw_kX6 dX6_init_33 (by decide) (fr_mem 224 (by decide +kernel) rfl) rfl (by decide +kernel) rfl rfl rfl rfl rfl rfl ?_
  exact nw_ret dX6_init_36 rfl
set_option maxRecDepth 20000 in
theorem ncX3_15 {l : Launch} {κ : fr_Ka} : nw_C l κ fmX3_init 1 [fr_r κ 15] 38 58 46 66 := by
  refine nw_enter (by decide) rfl rfl (Nat.le_of_ble_eq_true rfl) ?_
  refine nw_al0 dX3_init_0 ?_
  refine nw_obj dX3_init_1 (fr_mem 248 (by decide +kernel) rfl) (by decide) (by decide) ?_
  refine nw_al0 dX3_init_4 ?_
  refine nw_bipush dX3_init_5 (by decide) ?_
  refine nw_newI (c := 16) (N := 6) dX3_init_7 (by decide +kernel) rfl (by decide) (by decide) (by decide) (by decide +kernel) ?_
  refine nw_putR (c := 15) (f := 0) (cz := 16) nw_kX3 dX3_init_9 (by decide) (fr_mem 249 (by decide +kernel) rfl) rfl (by decide +kernel) rfl rfl rfl rfl rfl rfl ?_
  refine nw_al0 dX3_init_12 ?_
  refine nw_bipush dX3_init_13 (by decide) ?_
  refine nw_newI (c := 17) (N := 6) dX3_init_15 (by decide +kernel) rfl (by decide) (by decide) (by decide) (by decide +kernel) ?_
  refine nw_putR (c := 15) (f := 1) (cz := 17) nw_kX3 dX3_init_17 (by decide) (fr_mem 250 (by decide +kernel) rfl) rfl (by decide +kernel) rfl rfl rfl rfl rfl rfl ?_
  refine nw_al0 dX3_init_20 ?_
  refine nw_bipush dX3_init_21 (by decide) ?_
  refine nw_newI (c := 18) (N := 6) dX3_init_23 (by decide +kernel) rfl (by decide) (by decide) (by decide) (by decide +kernel) ?_
  refine nw_putR (c := 15) (f := 2) (cz := 18) nw_kX3 dX3_init_25 (by decide) (fr_mem 252 (by decide +kernel) rfl) rfl (by decide +kernel) rfl rfl rfl rfl rfl rfl ?_
  refine nw_al0 dX3_init_28 ?_
  refine nw_bipush dX3_init_29 (by decide) ?_
  refine nw_newI (c := 19) (N := 6) dX3_init_31 (by decide +kernel) rfl (by decide) (by decide) (by decide) (by decide +kernel) ?_
  refine nw_putR (c := 15) (f := 3) (cz := 19) nw_kX3 dX3_init_33 (by decide) (fr_mem 254 (by decide +kernel) rfl) rfl (by decide +kernel) rfl rfl rfl rfl rfl rfl ?_
  refine nw_al0 dX3_init_36 ?_
  refine nw_bipush dX3_init_37 (by decide) ?_
  refine nw_newI (c := 20) (N := 7) dX3_init_39 (by decide +kernel) rfl (by decide) (by decide) (by decide) (by decide +kernel) ?_
  refine nw_putR (c := 15) (f := 4) (cz := 20) nw_kX3 dX3_init_41 (by decide) (fr_mem 256 (by decide +kernel) rfl) rfl (by decide +kernel) rfl rfl rfl rfl rfl rfl ?_
  refine nw_al0 dX3_init_44 ?_
  refine nw_bipush dX3_init_45 (by decide) ?_
  refine nw_newI (c := 21) (N := 36) dX3_init_47 (by decide +kernel) rfl (by decide) (by decide) (by decide) (by decide +kernel) ?_
  refine nw_putR (c := 15) (f := 5) (cz := 21) nw_kX3 dX3_init_49 (by decide) (fr_mem 258 (by decide +kernel) rfl) rfl (by decide +kernel) rfl rfl rfl rfl rfl rfl ?_
  refine nw_al0 dX3_init_52 ?_
  refine nw_bipush dX3_init_53 (by decide) ?_
  refine nw_newI (c := 22) (N := 6) dX3_init_55 (by decide +kernel) rfl (by decide) (by decide) (by decide) (by decide +kernel) ?_
  refine nw_putR (c := 15) (f := 6) (cz := 22) nw_kX3 dX3_init_57 (by decide) (fr_mem 259 (by decide +kernel) rfl) rfl (by decide +kernel) rfl rfl rfl rfl rfl rfl ?_
  refine nw_al0 dX3_init_60 ?_
  refine nw_bipush dX3_init_61 (by decide) ?_
  refine nw_newI (c := 23) (N := 6) dX3_init_63 (by decide +kernel) rfl (by decide) (by decide) (by decide) (by decide +kernel) ?_
  refine nw_putR (c := 15) (f := 7) (cz := 23) nw_kX3 dX3_init_65 (by decide) (fr_mem 261 (by decide +kernel) rfl) rfl (by decide +kernel) rfl rfl rfl rfl rfl rfl ?_
  exact nw_ret dX3_init_68 rfl
set_option maxRecDepth 20000 in
theorem ncX2_24 {l : Launch} {κ : fr_Ka} : nw_C l κ fmX2_init 1 [fr_r κ 24, fr_r κ 15] 47 67 49 70 := by
  refine nw_enter (by decide) rfl rfl (Nat.le_of_ble_eq_true rfl) ?_
  refine nw_al0 dX2_init_0 ?_
  refine nw_obj dX2_init_1 (fr_mem 299 (by decide +kernel) rfl) (by decide) (by decide) ?_
  refine nw_al0 dX2_init_4 ?_
  refine nw_sipush dX2_init_5 (by decide) ?_
  refine nw_newI (c := 25) (N := 224) dX2_init_8 (by decide +kernel) rfl (by decide) (by decide) (by decide) (by decide +kernel) ?_
  refine nw_putR (c := 24) (f := 1) (cz := 25) nw_kX2 dX2_init_10 (by decide) (fr_mem 301 (by decide +kernel) rfl) rfl (by decide +kernel) rfl rfl rfl rfl rfl rfl ?_
  refine nw_al0 dX2_init_13 ?_
  refine nw_bipush dX2_init_14 (by decide) ?_
  refine nw_newI (c := 26) (N := 6) dX2_init_16 (by decide +kernel) rfl (by decide) (by decide) (by decide) (by decide +kernel) ?_
  refine nw_putR (c := 24) (f := 2) (cz := 26) nw_kX2 dX2_init_18 (by decide) (fr_mem 302 (by decide +kernel) rfl) rfl (by decide +kernel) rfl rfl rfl rfl rfl rfl ?_
  refine nw_al0 dX2_init_21 ?_
  refine nw_al1 dX2_init_22 ?_
  refine nw_putR (c := 24) (f := 0) (cz := 15) nw_kX2 dX2_init_23 (by decide) (fr_mem 300 (by decide +kernel) rfl) rfl (by decide +kernel) rfl rfl rfl rfl rfl rfl ?_
  exact nw_ret dX2_init_26 rfl
set_option maxRecDepth 20000 in
theorem ncX9_27 {l : Launch} {κ : fr_Ka} : nw_C l κ fmX9_init 1 [fr_r κ 27, fr_r κ 15] 50 71 53 75 := by
  refine nw_enter (by decide) rfl rfl (Nat.le_of_ble_eq_true rfl) ?_
  refine nw_al0 dX9_init_0 ?_
  refine nw_obj dX9_init_1 (fr_mem 330 (by decide +kernel) rfl) (by decide) (by decide) ?_
  refine nw_al0 dX9_init_4 ?_
  refine nw_bipush dX9_init_5 (by decide) ?_
  refine nw_newI (c := 28) (N := 10) dX9_init_7 (by decide +kernel) rfl (by decide) (by decide) (by decide) (by decide +kernel) ?_
  refine nw_putR (c := 27) (f := 1) (cz := 28) nw_kX9 dX9_init_9 (by decide) (fr_mem 332 (by decide +kernel) rfl) rfl (by decide +kernel) rfl rfl rfl rfl rfl rfl ?_
  refine nw_al0 dX9_init_12 ?_
  refine nw_bipush dX9_init_13 (by decide) ?_
  refine nw_newI (c := 29) (N := 6) dX9_init_15 (by decide +kernel) rfl (by decide) (by decide) (by decide) (by decide +kernel) ?_
  refine nw_putR (c := 27) (f := 2) (cz := 29) nw_kX9 dX9_init_17 (by decide) (fr_mem 333 (by decide +kernel) rfl) rfl (by decide +kernel) rfl rfl rfl rfl rfl rfl ?_
  refine nw_al0 dX9_init_20 ?_
  refine nw_bipush dX9_init_21 (by decide) ?_
  refine nw_newI (c := 30) (N := 6) dX9_init_23 (by decide +kernel) rfl (by decide) (by decide) (by decide) (by decide +kernel) ?_
  refine nw_putR (c := 27) (f := 3) (cz := 30) nw_kX9 dX9_init_25 (by decide) (fr_mem 334 (by decide +kernel) rfl) rfl (by decide +kernel) rfl rfl rfl rfl rfl rfl ?_
  refine nw_al0 dX9_init_28 ?_
  refine nw_al1 dX9_init_29 ?_
  refine nw_putR (c := 27) (f := 0) (cz := 15) nw_kX9 dX9_init_30 (by decide) (fr_mem 331 (by decide +kernel) rfl) rfl (by decide +kernel) rfl rfl rfl rfl rfl rfl ?_
  exact nw_ret dX9_init_33 rfl
set_option maxRecDepth 20000 in
theorem ncX8_31 {l : Launch} {κ : fr_Ka} : nw_C l κ fmX8_init 1 [fr_r κ 31, fr_r κ 15] 54 76 55 78 := by
  refine nw_enter (by decide) rfl rfl (Nat.le_of_ble_eq_true rfl) ?_
  refine nw_al0 dX8_init_0 ?_
  refine nw_obj dX8_init_1 (fr_mem 358 (by decide +kernel) rfl) (by decide) (by decide) ?_
  refine nw_al0 dX8_init_4 ?_
  refine nw_sipush dX8_init_5 (by decide) ?_
  refine nw_newI (c := 32) (N := 4096) dX8_init_8 (by decide +kernel) rfl (by decide) (by decide) (by decide) (by decide +kernel) ?_
  refine nw_putR (c := 31) (f := 1) (cz := 32) nw_kX8 dX8_init_10 (by decide) (fr_mem 360 (by decide +kernel) rfl) rfl (by decide +kernel) rfl rfl rfl rfl rfl rfl ?_
  refine nw_al0 dX8_init_13 ?_
  refine nw_al1 dX8_init_14 ?_
  refine nw_putR (c := 31) (f := 0) (cz := 15) nw_kX8 dX8_init_15 (by decide) (fr_mem 359 (by decide +kernel) rfl) rfl (by decide +kernel) rfl rfl rfl rfl rfl rfl ?_
  exact nw_ret dX8_init_18 rfl
set_option maxRecDepth 20000 in
theorem ncX4_33 {l : Launch} {κ : fr_Ka} : nw_C l κ fmX4_init 1 [fr_r κ 33, fr_r κ 1] 56 79 57 82 := by
  refine nw_enter (by decide) rfl rfl (Nat.le_of_ble_eq_true rfl) ?_
  refine nw_al0 dX4_init_0 ?_
  refine nw_obj dX4_init_1 (fr_mem 374 (by decide +kernel) rfl) (by decide) (by decide) ?_
  refine nw_al0 dX4_init_4 ?_
  refine nw_bipush dX4_init_5 (by decide) ?_
  refine nw_newI (c := 34) (N := 8) dX4_init_7 (by decide +kernel) rfl (by decide) (by decide) (by decide) (by decide +kernel) ?_
  refine nw_putR (c := 33) (f := 1) (cz := 34) nw_kX4 dX4_init_9 (by decide) (fr_mem 376 (by decide +kernel) rfl) rfl (by decide +kernel) rfl rfl rfl rfl rfl rfl ?_
  refine nw_al0 dX4_init_12 ?_
  refine nw_iconst dX4_init_13 ?_
  refine nw_putI (c := 33) (f := 2) nw_kX4 dX4_init_14 (by decide) (fr_mem 377 (by decide +kernel) rfl) rfl (by decide +kernel) rfl rfl rfl rfl rfl (by decide +kernel) ?_
  refine nw_al0 dX4_init_17 ?_
  refine nw_al1 dX4_init_18 ?_
  refine nw_putR (c := 33) (f := 0) (cz := 1) nw_kX4 dX4_init_19 (by decide) (fr_mem 375 (by decide +kernel) rfl) rfl (by decide +kernel) rfl rfl rfl rfl rfl rfl ?_
  exact nw_ret dX4_init_22 rfl
set_option maxRecDepth 20000 in
theorem ncX5_58 {l : Launch} {κ : fr_Ka} : nw_C l κ fmX5_init 1 [fr_r κ 58] 59 84 60 85 := by
  refine nw_enter (by decide) rfl rfl (Nat.le_of_ble_eq_true rfl) ?_
  refine nw_al0 dX5_init_0 ?_
  refine nw_obj dX5_init_1 (fr_mem 397 (by decide +kernel) rfl) (by decide) (by decide) ?_
  refine nw_al0 dX5_init_4 ?_
  refine nw_bipush dX5_init_5 (by decide) ?_
  refine nw_newJ (c := 62) (N := 16) dX5_init_7 (by decide +kernel) rfl (by decide) (by decide) (by decide) (by decide +kernel) ?_
  refine nw_putR (c := 58) (f := 0) (cz := 62) nw_kX5 dX5_init_9 (by decide) (fr_mem 398 (by decide +kernel) rfl) rfl (by decide +kernel) rfl rfl rfl rfl rfl rfl ?_
  exact nw_ret dX5_init_12 rfl
set_option maxRecDepth 20000 in
theorem ncX5_59 {l : Launch} {κ : fr_Ka} : nw_C l κ fmX5_init 1 [fr_r κ 59] 61 86 62 87 := by
  refine nw_enter (by decide) rfl rfl (Nat.le_of_ble_eq_true rfl) ?_
  refine nw_al0 dX5_init_0 ?_
  refine nw_obj dX5_init_1 (fr_mem 397 (by decide +kernel) rfl) (by decide) (by decide) ?_
  refine nw_al0 dX5_init_4 ?_
  refine nw_bipush dX5_init_5 (by decide) ?_
  refine nw_newJ (c := 63) (N := 16) dX5_init_7 (by decide +kernel) rfl (by decide) (by decide) (by decide) (by decide +kernel) ?_
  refine nw_putR (c := 59) (f := 0) (cz := 63) nw_kX5 dX5_init_9 (by decide) (fr_mem 398 (by decide +kernel) rfl) rfl (by decide +kernel) rfl rfl rfl rfl rfl rfl ?_
  exact nw_ret dX5_init_12 rfl
set_option maxRecDepth 20000 in
theorem ncX5_60 {l : Launch} {κ : fr_Ka} : nw_C l κ fmX5_init 1 [fr_r κ 60] 63 88 64 89 := by
  refine nw_enter (by decide) rfl rfl (Nat.le_of_ble_eq_true rfl) ?_
  refine nw_al0 dX5_init_0 ?_
  refine nw_obj dX5_init_1 (fr_mem 397 (by decide +kernel) rfl) (by decide) (by decide) ?_
  refine nw_al0 dX5_init_4 ?_
  refine nw_bipush dX5_init_5 (by decide) ?_
  refine nw_newJ (c := 64) (N := 16) dX5_init_7 (by decide +kernel) rfl (by decide) (by decide) (by decide) (by decide +kernel) ?_
  refine nw_putR (c := 60) (f := 0) (cz := 64) nw_kX5 dX5_init_9 (by decide) (fr_mem 398 (by decide +kernel) rfl) rfl (by decide +kernel) rfl rfl rfl rfl rfl rfl ?_
  exact nw_ret dX5_init_12 rfl
set_option maxRecDepth 20000 in
theorem ncX5_61 {l : Launch} {κ : fr_Ka} : nw_C l κ fmX5_init 1 [fr_r κ 61] 65 90 66 91 := by
  refine nw_enter (by decide) rfl rfl (Nat.le_of_ble_eq_true rfl) ?_
  refine nw_al0 dX5_init_0 ?_
  refine nw_obj dX5_init_1 (fr_mem 397 (by decide +kernel) rfl) (by decide) (by decide) ?_
  refine nw_al0 dX5_init_4 ?_
  refine nw_bipush dX5_init_5 (by decide) ?_
  refine nw_newJ (c := 65) (N := 16) dX5_init_7 (by decide +kernel) rfl (by decide) (by decide) (by decide) (by decide +kernel) ?_
  refine nw_putR (c := 61) (f := 0) (cz := 65) nw_kX5 dX5_init_9 (by decide) (fr_mem 398 (by decide +kernel) rfl) rfl (by decide +kernel) rfl rfl rfl rfl rfl rfl ?_
  exact nw_ret dX5_init_12 rfl
set_option maxRecDepth 20000 in
theorem ncX10_0 {l : Launch} {κ : fr_Ka} : nw_C l κ fmX10_init 3 [fr_r κ 0] 1 0 66 92 := by
  refine nw_enter (by decide) rfl rfl (Nat.le_of_ble_eq_true rfl) ?_
  refine nw_al0 dX10_init_0 ?_
  refine nw_obj dX10_init_1 (fr_mem 92 (by decide +kernel) rfl) (by decide) (by decide) ?_
  refine nw_al0 dX10_init_4 ?_
  refine nw_new (c := 1) nw_kX1 dX10_init_5 (fr_mem 95 (by decide +kernel) rfl) (by decide +kernel) rfl (by decide +kernel) ?_
  refine nw_dup dX10_init_8 rfl ?_
  refine nw_call (mi' := fmX1_init) (c := 1) (as := []) (st := [fr_r κ 1, fr_r κ 0]) (n' := 16) (t' := 25) dX10_init_9 mlX10_11 miX1 (by decide) ncX1_1 rfl rfl (Nat.le_of_ble_eq_true rfl) (by decide +kernel) ?_
  refine nw_putR (c := 0) (f := 0) (cz := 1) nw_kX10 dX10_init_12 (by decide) (fr_mem 416 (by decide +kernel) rfl) rfl (by decide +kernel) rfl rfl rfl rfl rfl rfl ?_
  refine nw_al0 dX10_init_15 ?_
  refine nw_new (c := 5) nw_kX1 dX10_init_16 (fr_mem 95 (by decide +kernel) rfl) (by decide +kernel) rfl (by decide +kernel) ?_
  refine nw_dup dX10_init_19 rfl ?_
  refine nw_call (mi' := fmX1_init) (c := 5) (as := []) (st := [fr_r κ 5, fr_r κ 0]) (n' := 31) (t' := 51) dX10_init_20 mlX10_11 miX1 (by decide) ncX1_5 rfl rfl (Nat.le_of_ble_eq_true rfl) (by decide +kernel) ?_
  refine nw_putR (c := 0) (f := 1) (cz := 5) nw_kX10 dX10_init_23 (by decide) (fr_mem 417 (by decide +kernel) rfl) rfl (by decide +kernel) rfl rfl rfl rfl rfl rfl ?_
  refine nw_al0 dX10_init_26 ?_
  refine nw_new (c := 9) nw_kX6 dX10_init_27 (fr_mem 215 (by decide +kernel) rfl) (by decide +kernel) rfl (by decide +kernel) ?_
  refine nw_dup dX10_init_30 rfl ?_
  refine nw_call (mi' := fmX6_init) (c := 9) (as := []) (st := [fr_r κ 9, fr_r κ 0]) (n' := 36) (t' := 56) dX10_init_31 mlX10_21 miX6 (by decide) ncX6_9 rfl rfl (Nat.le_of_ble_eq_true rfl) (by decide +kernel) ?_
  refine nw_putR (c := 0) (f := 3) (cz := 9) nw_kX10 dX10_init_34 (by decide) (fr_mem 419 (by decide +kernel) rfl) rfl (by decide +kernel) rfl rfl rfl rfl rfl rfl ?_
  refine nw_al0 dX10_init_37 ?_
  refine nw_iconst dX10_init_38 ?_
  refine nw_newR5 (c := 14) (N := 4) dX10_init_39 (fr_mem 241 (by decide +kernel) rfl) (by decide +kernel) rfl (by decide) (by decide) (by decide) (by decide +kernel) ?_
  refine nw_putR (c := 0) (f := 4) (cz := 14) nw_kX10 dX10_init_42 (by decide) (fr_mem 420 (by decide +kernel) rfl) rfl (by decide +kernel) rfl rfl rfl rfl rfl rfl ?_
  refine nw_al0 dX10_init_45 ?_
  refine nw_new (c := 15) nw_kX3 dX10_init_46 (fr_mem 243 (by decide +kernel) rfl) (by decide +kernel) rfl (by decide +kernel) ?_
  refine nw_dup dX10_init_49 rfl ?_
  refine nw_call (mi' := fmX3_init) (c := 15) (as := []) (st := [fr_r κ 15, fr_r κ 0]) (n' := 46) (t' := 66) dX10_init_50 mlX10_34 miX3 (by decide) ncX3_15 rfl rfl (Nat.le_of_ble_eq_true rfl) (by decide +kernel) ?_
  refine nw_putR (c := 0) (f := 5) (cz := 15) nw_kX10 dX10_init_53 (by decide) (fr_mem 421 (by decide +kernel) rfl) rfl (by decide +kernel) rfl rfl rfl rfl rfl rfl ?_
  refine nw_al0 dX10_init_56 ?_
  refine nw_new (c := 24) nw_kX2 dX10_init_57 (fr_mem 294 (by decide +kernel) rfl) (by decide +kernel) rfl (by decide +kernel) ?_
  refine nw_dup dX10_init_60 rfl ?_
  refine nw_al0 dX10_init_61 ?_
  refine nw_get (c := 0) (f := 5) (cz := 15) dX10_init_62 flX10_35 (by decide +kernel) rfl rfl rfl (by decide +kernel) ?_
  refine nw_call (mi' := fmX2_init) (c := 24) (as := [fr_r κ 15]) (st := [fr_r κ 24, fr_r κ 0]) (n' := 49) (t' := 70) dX10_init_65 mlX10_41 miX2 (by decide) ncX2_24 rfl rfl (Nat.le_of_ble_eq_true rfl) (by decide +kernel) ?_
  refine nw_putR (c := 0) (f := 6) (cz := 24) nw_kX10 dX10_init_68 (by decide) (fr_mem 422 (by decide +kernel) rfl) rfl (by decide +kernel) rfl rfl rfl rfl rfl rfl ?_
  refine nw_al0 dX10_init_71 ?_
  refine nw_new (c := 27) nw_kX9 dX10_init_72 (fr_mem 325 (by decide +kernel) rfl) (by decide +kernel) rfl (by decide +kernel) ?_
  refine nw_dup dX10_init_75 rfl ?_
  refine nw_al0 dX10_init_76 ?_
  refine nw_get (c := 0) (f := 5) (cz := 15) dX10_init_77 flX10_35 (by decide +kernel) rfl rfl rfl (by decide +kernel) ?_
  refine nw_call (mi' := fmX9_init) (c := 27) (as := [fr_r κ 15]) (st := [fr_r κ 27, fr_r κ 0]) (n' := 53) (t' := 75) dX10_init_80 mlX10_50 miX9 (by decide) ncX9_27 rfl rfl (Nat.le_of_ble_eq_true rfl) (by decide +kernel) ?_
  refine nw_putR (c := 0) (f := 7) (cz := 27) nw_kX10 dX10_init_83 (by decide) (fr_mem 423 (by decide +kernel) rfl) rfl (by decide +kernel) rfl rfl rfl rfl rfl rfl ?_
  refine nw_al0 dX10_init_86 ?_
  refine nw_new (c := 31) nw_kX8 dX10_init_87 (fr_mem 353 (by decide +kernel) rfl) (by decide +kernel) rfl (by decide +kernel) ?_
  refine nw_dup dX10_init_90 rfl ?_
  refine nw_al0 dX10_init_91 ?_
  refine nw_get (c := 0) (f := 5) (cz := 15) dX10_init_92 flX10_35 (by decide +kernel) rfl rfl rfl (by decide +kernel) ?_
  refine nw_call (mi' := fmX8_init) (c := 31) (as := [fr_r κ 15]) (st := [fr_r κ 31, fr_r κ 0]) (n' := 55) (t' := 78) dX10_init_95 mlX10_57 miX8 (by decide) ncX8_31 rfl rfl (Nat.le_of_ble_eq_true rfl) (by decide +kernel) ?_
  refine nw_putR (c := 0) (f := 8) (cz := 31) nw_kX10 dX10_init_98 (by decide) (fr_mem 424 (by decide +kernel) rfl) rfl (by decide +kernel) rfl rfl rfl rfl rfl rfl ?_
  refine nw_al0 dX10_init_101 ?_
  refine nw_new (c := 33) nw_kX4 dX10_init_102 (fr_mem 369 (by decide +kernel) rfl) (by decide +kernel) rfl (by decide +kernel) ?_
  refine nw_dup dX10_init_105 rfl ?_
  refine nw_al0 dX10_init_106 ?_
  refine nw_get (c := 0) (f := 0) (cz := 1) dX10_init_107 flX10_12 (by decide +kernel) rfl rfl rfl (by decide +kernel) ?_
  refine nw_call (mi' := fmX4_init) (c := 33) (as := [fr_r κ 1]) (st := [fr_r κ 33, fr_r κ 0]) (n' := 57) (t' := 82) dX10_init_110 mlX10_64 miX4 (by decide) ncX4_33 rfl rfl (Nat.le_of_ble_eq_true rfl) (by decide +kernel) ?_
  refine nw_putR (c := 0) (f := 9) (cz := 33) nw_kX10 dX10_init_113 (by decide) (fr_mem 425 (by decide +kernel) rfl) rfl (by decide +kernel) rfl rfl rfl rfl rfl rfl ?_
  refine nw_al0 dX10_init_116 ?_
  refine nw_bipush dX10_init_117 (by decide) ?_
  refine nw_newI (c := 35) (N := 6) dX10_init_119 (by decide +kernel) rfl (by decide) (by decide) (by decide) (by decide +kernel) ?_
  refine nw_putR (c := 0) (f := 10) (cz := 35) nw_kX10 dX10_init_121 (by decide) (fr_mem 426 (by decide +kernel) rfl) rfl (by decide +kernel) rfl rfl rfl rfl rfl rfl ?_
  refine nw_iconst dX10_init_124 ?_
  refine nw_is1 dX10_init_125 rfl (by decide) ?_
  refine nw_il1 dX10_init_126 ?_
  refine nw_iconst dX10_init_127 ?_
  refine nw_geF dX10_init_128 (by decide) (by decide) (by decide) (by decide) ?_
  refine nw_al0 dX10_init_131 ?_
  refine nw_get (c := 0) (f := 4) (cz := 14) dX10_init_132 flX10_28 (by decide +kernel) rfl rfl rfl (by decide +kernel) ?_
  refine nw_il1 dX10_init_135 ?_
  refine nw_new (c := 58) nw_kX5 dX10_init_136 (fr_mem 241 (by decide +kernel) rfl) (by decide +kernel) rfl (by decide +kernel) ?_
  refine nw_dup dX10_init_139 rfl ?_
  refine nw_call (mi' := fmX5_init) (c := 58) (as := []) (st := [fr_r κ 58, fr_i 0, fr_r κ 14]) (n' := 60) (t' := 85) dX10_init_140 mlX10_75 miX5 (by decide) ncX5_58 rfl rfl (Nat.le_of_ble_eq_true rfl) (by decide +kernel) ?_
  refine nw_aast (a := 5) (ci := 5) (q := (RX5, TX5, 4)) (c := 14) (N := 4) (cz := 58) (fun _ => rfl) rfl (fun _ => rfl) dX10_init_143 (by decide +kernel) rfl (by decide +kernel) rfl (by decide) (by decide) (by decide) rfl rfl ?_
  refine nw_ii1 (z2 := 1) dX10_init_144 rfl (by decide) (by decide) ?_
  refine nw_goto (tgt := 126) dX10_init_147 (by decide) ?_
  refine nw_il1 dX10_init_126 ?_
  refine nw_iconst dX10_init_127 ?_
  refine nw_geF dX10_init_128 (by decide) (by decide) (by decide) (by decide) ?_
  refine nw_al0 dX10_init_131 ?_
  refine nw_get (c := 0) (f := 4) (cz := 14) dX10_init_132 flX10_28 (by decide +kernel) rfl rfl rfl (by decide +kernel) ?_
  refine nw_il1 dX10_init_135 ?_
  refine nw_new (c := 59) nw_kX5 dX10_init_136 (fr_mem 241 (by decide +kernel) rfl) (by decide +kernel) rfl (by decide +kernel) ?_
  refine nw_dup dX10_init_139 rfl ?_
  refine nw_call (mi' := fmX5_init) (c := 59) (as := []) (st := [fr_r κ 59, fr_i 1, fr_r κ 14]) (n' := 62) (t' := 87) dX10_init_140 mlX10_75 miX5 (by decide) ncX5_59 rfl rfl (Nat.le_of_ble_eq_true rfl) (by decide +kernel) ?_
  refine nw_aast (a := 5) (ci := 5) (q := (RX5, TX5, 4)) (c := 14) (N := 4) (cz := 59) (fun _ => rfl) rfl (fun _ => rfl) dX10_init_143 (by decide +kernel) rfl (by decide +kernel) rfl (by decide) (by decide) (by decide) rfl rfl ?_
  refine nw_ii1 (z2 := 2) dX10_init_144 rfl (by decide) (by decide) ?_
  refine nw_goto (tgt := 126) dX10_init_147 (by decide) ?_
  refine nw_il1 dX10_init_126 ?_
  refine nw_iconst dX10_init_127 ?_
  refine nw_geF dX10_init_128 (by decide) (by decide) (by decide) (by decide) ?_
  refine nw_al0 dX10_init_131 ?_
  refine nw_get (c := 0) (f := 4) (cz := 14) dX10_init_132 flX10_28 (by decide +kernel) rfl rfl rfl (by decide +kernel) ?_
  refine nw_il1 dX10_init_135 ?_
  refine nw_new (c := 60) nw_kX5 dX10_init_136 (fr_mem 241 (by decide +kernel) rfl) (by decide +kernel) rfl (by decide +kernel) ?_
  refine nw_dup dX10_init_139 rfl ?_
  refine nw_call (mi' := fmX5_init) (c := 60) (as := []) (st := [fr_r κ 60, fr_i 2, fr_r κ 14]) (n' := 64) (t' := 89) dX10_init_140 mlX10_75 miX5 (by decide) ncX5_60 rfl rfl (Nat.le_of_ble_eq_true rfl) (by decide +kernel) ?_
  refine nw_aast (a := 5) (ci := 5) (q := (RX5, TX5, 4)) (c := 14) (N := 4) (cz := 60) (fun _ => rfl) rfl (fun _ => rfl) dX10_init_143 (by decide +kernel) rfl (by decide +kernel) rfl (by decide) (by decide) (by decide) rfl rfl ?_
  refine nw_ii1 (z2 := 3) dX10_init_144 rfl (by decide) (by decide) ?_
  refine nw_goto (tgt := 126) dX10_init_147 (by decide) ?_
  refine nw_il1 dX10_init_126 ?_
  refine nw_iconst dX10_init_127 ?_
  refine nw_geF dX10_init_128 (by decide) (by decide) (by decide) (by decide) ?_
  refine nw_al0 dX10_init_131 ?_
  refine nw_get (c := 0) (f := 4) (cz := 14) dX10_init_132 flX10_28 (by decide +kernel) rfl rfl rfl (by decide +kernel) ?_
  refine nw_il1 dX10_init_135 ?_
  refine nw_new (c := 61) nw_kX5 dX10_init_136 (fr_mem 241 (by decide +kernel) rfl) (by decide +kernel) rfl (by decide +kernel) ?_
  refine nw_dup dX10_init_139 rfl ?_
  refine nw_call (mi' := fmX5_init) (c := 61) (as := []) (st := [fr_r κ 61, fr_i 3, fr_r κ 14]) (n' := 66) (t' := 91) dX10_init_140 mlX10_75 miX5 (by decide) ncX5_61 rfl rfl (Nat.le_of_ble_eq_true rfl) (by decide +kernel) ?_
  refine nw_aast (a := 5) (ci := 5) (q := (RX5, TX5, 4)) (c := 14) (N := 4) (cz := 61) (fun _ => rfl) rfl (fun _ => rfl) dX10_init_143 (by decide +kernel) rfl (by decide +kernel) rfl (by decide) (by decide) (by decide) rfl rfl ?_
  refine nw_ii1 (z2 := 4) dX10_init_144 rfl (by decide) (by decide) ?_
  refine nw_goto (tgt := 126) dX10_init_147 (by decide) ?_
  refine nw_il1 dX10_init_126 ?_
  refine nw_iconst dX10_init_127 ?_
  refine nw_geT (tgt := 150) dX10_init_128 (by decide) (by decide) (by decide) (by decide) ?_
  exact nw_ret dX10_init_150 rfl
set_option maxRecDepth 20000 in
theorem ncX11_66 {l : Launch} {κ : fr_Ka} : nw_C l κ fmX11_init 1 [fr_r κ 66] 67 92 80 120 := by
  refine nw_enter (by decide) rfl rfl (Nat.le_of_ble_eq_true rfl) ?_
  refine nw_al0 dX11_init_0 ?_
  refine nw_obj dX11_init_1 (fr_mem 1103 (by decide +kernel) rfl) (by decide) (by decide) ?_
  refine nw_al0 dX11_init_4 ?_
  refine nw_sipush dX11_init_5 (by decide) ?_
  refine nw_newI (c := 67) (N := 154) dX11_init_8 (by decide +kernel) rfl (by decide) (by decide) (by decide) (by decide +kernel) ?_
  refine nw_putR (c := 66) (f := 0) (cz := 67) nw_kX11 dX11_init_10 (by decide) (fr_mem 1104 (by decide +kernel) rfl) rfl (by decide +kernel) rfl rfl rfl rfl rfl rfl ?_
  refine nw_al0 dX11_init_13 ?_
  refine nw_bipush dX11_init_14 (by decide) ?_
  refine nw_newI (c := 68) (N := 60) dX11_init_16 (by decide +kernel) rfl (by decide) (by decide) (by decide) (by decide +kernel) ?_
  refine nw_putR (c := 66) (f := 2) (cz := 68) nw_kX11 dX11_init_18 (by decide) (fr_mem 1106 (by decide +kernel) rfl) rfl (by decide +kernel) rfl rfl rfl rfl rfl rfl ?_
  refine nw_al0 dX11_init_21 ?_
  refine nw_bipush dX11_init_22 (by decide) ?_
  refine nw_newI (c := 69) (N := 18) dX11_init_24 (by decide +kernel) rfl (by decide) (by decide) (by decide) (by decide +kernel) ?_
  refine nw_putR (c := 66) (f := 6) (cz := 69) nw_kX11 dX11_init_26 (by decide) (fr_mem 1110 (by decide +kernel) rfl) rfl (by decide +kernel) rfl rfl rfl rfl rfl rfl ?_
  refine nw_al0 dX11_init_29 ?_
  refine nw_bipush dX11_init_30 (by decide) ?_
  refine nw_newI (c := 70) (N := 6) dX11_init_32 (by decide +kernel) rfl (by decide) (by decide) (by decide) (by decide +kernel) ?_
  refine nw_putR (c := 66) (f := 7) (cz := 70) nw_kX11 dX11_init_34 (by decide) (fr_mem 1111 (by decide +kernel) rfl) rfl (by decide +kernel) rfl rfl rfl rfl rfl rfl ?_
  refine nw_al0 dX11_init_37 ?_
  refine nw_bipush dX11_init_38 (by decide) ?_
  refine nw_newI (c := 71) (N := 36) dX11_init_40 (by decide +kernel) rfl (by decide) (by decide) (by decide) (by decide +kernel) ?_
  refine nw_putR (c := 66) (f := 8) (cz := 71) nw_kX11 dX11_init_42 (by decide) (fr_mem 1112 (by decide +kernel) rfl) rfl (by decide +kernel) rfl rfl rfl rfl rfl rfl ?_
  refine nw_al0 dX11_init_45 ?_
  refine nw_sipush dX11_init_46 (by decide) ?_
  refine nw_newI (c := 72) (N := 4096) dX11_init_49 (by decide +kernel) rfl (by decide) (by decide) (by decide) (by decide +kernel) ?_
  refine nw_putR (c := 66) (f := 10) (cz := 72) nw_kX11 dX11_init_51 (by decide) (fr_mem 1114 (by decide +kernel) rfl) rfl (by decide +kernel) rfl rfl rfl rfl rfl rfl ?_
  refine nw_al0 dX11_init_54 ?_
  refine nw_sipush dX11_init_55 (by decide) ?_
  refine nw_newZ (c := 73) (N := 4096) dX11_init_58 (by decide +kernel) rfl (by decide) (by decide) (by decide) (by decide +kernel) ?_
  refine nw_putR (c := 66) (f := 11) (cz := 73) nw_kX11 dX11_init_60 (by decide) (fr_mem 1115 (by decide +kernel) rfl) rfl (by decide +kernel) rfl rfl rfl rfl rfl rfl ?_
  refine nw_al0 dX11_init_63 ?_
  refine nw_bipush dX11_init_64 (by decide) ?_
  refine nw_newI (c := 74) (N := 16) dX11_init_66 (by decide +kernel) rfl (by decide) (by decide) (by decide) (by decide +kernel) ?_
  refine nw_putR (c := 66) (f := 12) (cz := 74) nw_kX11 dX11_init_68 (by decide) (fr_mem 1116 (by decide +kernel) rfl) rfl (by decide +kernel) rfl rfl rfl rfl rfl rfl ?_
  refine nw_al0 dX11_init_71 ?_
  refine nw_iconst dX11_init_72 ?_
  refine nw_newI (c := 75) (N := 4) dX11_init_73 (by decide +kernel) rfl (by decide) (by decide) (by decide) (by decide +kernel) ?_
  refine nw_putR (c := 66) (f := 13) (cz := 75) nw_kX11 dX11_init_75 (by decide) (fr_mem 1117 (by decide +kernel) rfl) rfl (by decide +kernel) rfl rfl rfl rfl rfl rfl ?_
  refine nw_al0 dX11_init_78 ?_
  refine nw_iconst dX11_init_79 ?_
  refine nw_newI (c := 76) (N := 4) dX11_init_80 (by decide +kernel) rfl (by decide) (by decide) (by decide) (by decide +kernel) ?_
  refine nw_putR (c := 66) (f := 14) (cz := 76) nw_kX11 dX11_init_82 (by decide) (fr_mem 1118 (by decide +kernel) rfl) rfl (by decide +kernel) rfl rfl rfl rfl rfl rfl ?_
  refine nw_al0 dX11_init_85 ?_
  refine nw_bipush dX11_init_86 (by decide) ?_
  refine nw_newJ (c := 77) (N := 64) dX11_init_88 (by decide +kernel) rfl (by decide) (by decide) (by decide) (by decide +kernel) ?_
  refine nw_putR (c := 66) (f := 15) (cz := 77) nw_kX11 dX11_init_90 (by decide) (fr_mem 1119 (by decide +kernel) rfl) rfl (by decide +kernel) rfl rfl rfl rfl rfl rfl ?_
  refine nw_al0 dX11_init_93 ?_
  refine nw_bipush dX11_init_94 (by decide) ?_
  refine nw_newJ (c := 78) (N := 16) dX11_init_96 (by decide +kernel) rfl (by decide) (by decide) (by decide) (by decide +kernel) ?_
  refine nw_putR (c := 66) (f := 16) (cz := 78) nw_kX11 dX11_init_98 (by decide) (fr_mem 1120 (by decide +kernel) rfl) rfl (by decide +kernel) rfl rfl rfl rfl rfl rfl ?_
  refine nw_al0 dX11_init_101 ?_
  refine nw_sipush dX11_init_102 (by decide) ?_
  refine nw_newI (c := 79) (N := 4824) dX11_init_105 (by decide +kernel) rfl (by decide) (by decide) (by decide) (by decide +kernel) ?_
  refine nw_putR (c := 66) (f := 17) (cz := 79) nw_kX11 dX11_init_107 (by decide) (fr_mem 1121 (by decide +kernel) rfl) rfl (by decide +kernel) rfl rfl rfl rfl rfl rfl ?_
  refine nw_al0 dX11_init_110 ?_
  refine nw_get (c := 66) (f := 0) (cz := 67) dX11_init_111 flX11_7 (by decide +kernel) rfl rfl rfl (by decide +kernel) ?_
  refine nw_bipush dX11_init_114 (by decide) ?_
  refine nw_iconst dX11_init_116 ?_
  refine nw_iast (c := 67) (N := 154) dX11_init_117 (by decide +kernel) rfl (by decide) (by decide) (by decide) rfl (by decide +kernel) ?_
  refine nw_iconst dX11_init_118 ?_
  refine nw_is1 dX11_init_119 rfl (by decide) ?_
  refine nw_il1 dX11_init_120 ?_
  refine nw_bipush dX11_init_121 (by decide) ?_
  refine nw_geF dX11_init_123 (by decide) (by decide) (by decide) (by decide) ?_
  refine nw_al0 dX11_init_126 ?_
  refine nw_get (c := 66) (f := 0) (cz := 67) dX11_init_127 flX11_7 (by decide +kernel) rfl rfl rfl (by decide +kernel) ?_
  refine nw_bipush dX11_init_130 (by decide) ?_
  refine nw_il1 dX11_init_132 ?_
  refine nw_iadd (z2 := 64) dX11_init_133 (by decide) ?_
  refine nw_il1 dX11_init_134 ?_
  refine nw_iast (c := 67) (N := 154) dX11_init_135 (by decide +kernel) rfl (by decide) (by decide) (by decide) rfl (by decide +kernel) ?_
  refine nw_ii1 (z2 := 1) dX11_init_136 rfl (by decide) (by decide) ?_
  refine nw_goto (tgt := 120) dX11_init_139 (by decide) ?_
  refine nw_il1 dX11_init_120 ?_
  refine nw_bipush dX11_init_121 (by decide) ?_
  refine nw_geF dX11_init_123 (by decide) (by decide) (by decide) (by decide) ?_
  refine nw_al0 dX11_init_126 ?_
  refine nw_get (c := 66) (f := 0) (cz := 67) dX11_init_127 flX11_7 (by decide +kernel) rfl rfl rfl (by decide +kernel) ?_
  refine nw_bipush dX11_init_130 (by decide) ?_
  refine nw_il1 dX11_init_132 ?_
  refine nw_iadd (z2 := 65) dX11_init_133 (by decide) ?_
  refine nw_il1 dX11_init_134 ?_
  refine nw_iast (c := 67) (N := 154) dX11_init_135 (by decide +kernel) rfl (by decide) (by decide) (by decide) rfl (by decide +kernel) ?_
  refine nw_ii1 (z2 := 2) dX11_init_136 rfl (by decide) (by decide) ?_
  refine nw_goto (tgt := 120) dX11_init_139 (by decide) ?_
  refine nw_il1 dX11_init_120 ?_
  refine nw_bipush dX11_init_121 (by decide) ?_
  refine nw_geF dX11_init_123 (by decide) (by decide) (by decide) (by decide) ?_
  refine nw_al0 dX11_init_126 ?_
  refine nw_get (c := 66) (f := 0) (cz := 67) dX11_init_127 flX11_7 (by decide +kernel) rfl rfl rfl (by decide +kernel) ?_
  refine nw_bipush dX11_init_130 (by decide) ?_
  refine nw_il1 dX11_init_132 ?_
  refine nw_iadd (z2 := 66) dX11_init_133 (by decide) ?_
  refine nw_il1 dX11_init_134 ?_
  refine nw_iast (c := 67) (N := 154) dX11_init_135 (by decide +kernel) rfl (by decide) (by decide) (by decide) rfl (by decide +kernel) ?_
  refine nw_ii1 (z2 := 3) dX11_init_136 rfl (by decide) (by decide) ?_
  refine nw_goto (tgt := 120) dX11_init_139 (by decide) ?_
  refine nw_il1 dX11_init_120 ?_
  refine nw_bipush dX11_init_121 (by decide) ?_
  refine nw_geF dX11_init_123 (by decide) (by decide) (by decide) (by decide) ?_
  refine nw_al0 dX11_init_126 ?_
  refine nw_get (c := 66) (f := 0) (cz := 67) dX11_init_127 flX11_7 (by decide +kernel) rfl rfl rfl (by decide +kernel) ?_
  refine nw_bipush dX11_init_130 (by decide) ?_
  refine nw_il1 dX11_init_132 ?_
  refine nw_iadd (z2 := 67) dX11_init_133 (by decide) ?_
  refine nw_il1 dX11_init_134 ?_
  refine nw_iast (c := 67) (N := 154) dX11_init_135 (by decide +kernel) rfl (by decide) (by decide) (by decide) rfl (by decide +kernel) ?_
  refine nw_ii1 (z2 := 4) dX11_init_136 rfl (by decide) (by decide) ?_
  refine nw_goto (tgt := 120) dX11_init_139 (by decide) ?_
  refine nw_il1 dX11_init_120 ?_
  refine nw_bipush dX11_init_121 (by decide) ?_
  refine nw_geF dX11_init_123 (by decide) (by decide) (by decide) (by decide) ?_
  refine nw_al0 dX11_init_126 ?_
  refine nw_get (c := 66) (f := 0) (cz := 67) dX11_init_127 flX11_7 (by decide +kernel) rfl rfl rfl (by decide +kernel) ?_
  refine nw_bipush dX11_init_130 (by decide) ?_
  refine nw_il1 dX11_init_132 ?_
  refine nw_iadd (z2 := 68) dX11_init_133 (by decide) ?_
  refine nw_il1 dX11_init_134 ?_
  refine nw_iast (c := 67) (N := 154) dX11_init_135 (by decide +kernel) rfl (by decide) (by decide) (by decide) rfl (by decide +kernel) ?_
  refine nw_ii1 (z2 := 5) dX11_init_136 rfl (by decide) (by decide) ?_
  refine nw_goto (tgt := 120) dX11_init_139 (by decide) ?_
  refine nw_il1 dX11_init_120 ?_
  refine nw_bipush dX11_init_121 (by decide) ?_
  refine nw_geF dX11_init_123 (by decide) (by decide) (by decide) (by decide) ?_
  refine nw_al0 dX11_init_126 ?_
  refine nw_get (c := 66) (f := 0) (cz := 67) dX11_init_127 flX11_7 (by decide +kernel) rfl rfl rfl (by decide +kernel) ?_
  refine nw_bipush dX11_init_130 (by decide) ?_
  refine nw_il1 dX11_init_132 ?_
  refine nw_iadd (z2 := 69) dX11_init_133 (by decide) ?_
  refine nw_il1 dX11_init_134 ?_
  refine nw_iast (c := 67) (N := 154) dX11_init_135 (by decide +kernel) rfl (by decide) (by decide) (by decide) rfl (by decide +kernel) ?_
  refine nw_ii1 (z2 := 6) dX11_init_136 rfl (by decide) (by decide) ?_
  refine nw_goto (tgt := 120) dX11_init_139 (by decide) ?_
  refine nw_il1 dX11_init_120 ?_
  refine nw_bipush dX11_init_121 (by decide) ?_
  refine nw_geF dX11_init_123 (by decide) (by decide) (by decide) (by decide) ?_
  refine nw_al0 dX11_init_126 ?_
  refine nw_get (c := 66) (f := 0) (cz := 67) dX11_init_127 flX11_7 (by decide +kernel) rfl rfl rfl (by decide +kernel) ?_
  refine nw_bipush dX11_init_130 (by decide) ?_
  refine nw_il1 dX11_init_132 ?_
  refine nw_iadd (z2 := 70) dX11_init_133 (by decide) ?_
  refine nw_il1 dX11_init_134 ?_
  refine nw_iast (c := 67) (N := 154) dX11_init_135 (by decide +kernel) rfl (by decide) (by decide) (by decide) rfl (by decide +kernel) ?_
  refine nw_ii1 (z2 := 7) dX11_init_136 rfl (by decide) (by decide) ?_
  refine nw_goto (tgt := 120) dX11_init_139 (by decide) ?_
  refine nw_il1 dX11_init_120 ?_
  refine nw_bipush dX11_init_121 (by decide) ?_
  refine nw_geF dX11_init_123 (by decide) (by decide) (by decide) (by decide) ?_
  refine nw_al0 dX11_init_126 ?_
  refine nw_get (c := 66) (f := 0) (cz := 67) dX11_init_127 flX11_7 (by decide +kernel) rfl rfl rfl (by decide +kernel) ?_
  refine nw_bipush dX11_init_130 (by decide) ?_
  refine nw_il1 dX11_init_132 ?_
  refine nw_iadd (z2 := 71) dX11_init_133 (by decide) ?_
  refine nw_il1 dX11_init_134 ?_
  refine nw_iast (c := 67) (N := 154) dX11_init_135 (by decide +kernel) rfl (by decide) (by decide) (by decide) rfl (by decide +kernel) ?_
  refine nw_ii1 (z2 := 8) dX11_init_136 rfl (by decide) (by decide) ?_
  refine nw_goto (tgt := 120) dX11_init_139 (by decide) ?_
  refine nw_il1 dX11_init_120 ?_
  refine nw_bipush dX11_init_121 (by decide) ?_
  refine nw_geF dX11_init_123 (by decide) (by decide) (by decide) (by decide) ?_
  refine nw_al0 dX11_init_126 ?_
  refine nw_get (c := 66) (f := 0) (cz := 67) dX11_init_127 flX11_7 (by decide +kernel) rfl rfl rfl (by decide +kernel) ?_
  refine nw_bipush dX11_init_130 (by decide) ?_
  refine nw_il1 dX11_init_132 ?_
  refine nw_iadd (z2 := 72) dX11_init_133 (by decide) ?_
  refine nw_il1 dX11_init_134 ?_
  refine nw_iast (c := 67) (N := 154) dX11_init_135 (by decide +kernel) rfl (by decide) (by decide) (by decide) rfl (by decide +kernel) ?_
  refine nw_ii1 (z2 := 9) dX11_init_136 rfl (by decide) (by decide) ?_
  refine nw_goto (tgt := 120) dX11_init_139 (by decide) ?_
  refine nw_il1 dX11_init_120 ?_
  refine nw_bipush dX11_init_121 (by decide) ?_
  refine nw_geF dX11_init_123 (by decide) (by decide) (by decide) (by decide) ?_
  refine nw_al0 dX11_init_126 ?_
  refine nw_get (c := 66) (f := 0) (cz := 67) dX11_init_127 flX11_7 (by decide +kernel) rfl rfl rfl (by decide +kernel) ?_
  refine nw_bipush dX11_init_130 (by decide) ?_
  refine nw_il1 dX11_init_132 ?_
  refine nw_iadd (z2 := 73) dX11_init_133 (by decide) ?_
  refine nw_il1 dX11_init_134 ?_
  refine nw_iast (c := 67) (N := 154) dX11_init_135 (by decide +kernel) rfl (by decide) (by decide) (by decide) rfl (by decide +kernel) ?_
  refine nw_ii1 (z2 := 10) dX11_init_136 rfl (by decide) (by decide) ?_
  refine nw_goto (tgt := 120) dX11_init_139 (by decide) ?_
  refine nw_il1 dX11_init_120 ?_
  refine nw_bipush dX11_init_121 (by decide) ?_
  refine nw_geT (tgt := 142) dX11_init_123 (by decide) (by decide) (by decide) (by decide) ?_
  refine nw_iconst dX11_init_142 ?_
  refine nw_is1 dX11_init_143 rfl (by decide) ?_
  refine nw_il1 dX11_init_144 ?_
  refine nw_iconst dX11_init_145 ?_
  refine nw_geF dX11_init_146 (by decide) (by decide) (by decide) (by decide) ?_
  refine nw_al0 dX11_init_149 ?_
  refine nw_get (c := 66) (f := 13) (cz := 75) dX11_init_150 flX11_35 (by decide +kernel) rfl rfl rfl (by decide +kernel) ?_
  refine nw_il1 dX11_init_153 ?_
  refine nw_iconst dX11_init_154 ?_
  refine nw_iast (c := 75) (N := 4) dX11_init_155 (by decide +kernel) rfl (by decide) (by decide) (by decide) rfl (by decide +kernel) ?_
  refine nw_ii1 (z2 := 1) dX11_init_156 rfl (by decide) (by decide) ?_
  refine nw_goto (tgt := 144) dX11_init_159 (by decide) ?_
  refine nw_il1 dX11_init_144 ?_
  refine nw_iconst dX11_init_145 ?_
  refine nw_geF dX11_init_146 (by decide) (by decide) (by decide) (by decide) ?_
  refine nw_al0 dX11_init_149 ?_
  refine nw_get (c := 66) (f := 13) (cz := 75) dX11_init_150 flX11_35 (by decide +kernel) rfl rfl rfl (by decide +kernel) ?_
  refine nw_il1 dX11_init_153 ?_
  refine nw_iconst dX11_init_154 ?_
  refine nw_iast (c := 75) (N := 4) dX11_init_155 (by decide +kernel) rfl (by decide) (by decide) (by decide) rfl (by decide +kernel) ?_
  refine nw_ii1 (z2 := 2) dX11_init_156 rfl (by decide) (by decide) ?_
  refine nw_goto (tgt := 144) dX11_init_159 (by decide) ?_
  refine nw_il1 dX11_init_144 ?_
  refine nw_iconst dX11_init_145 ?_
  refine nw_geF dX11_init_146 (by decide) (by decide) (by decide) (by decide) ?_
  refine nw_al0 dX11_init_149 ?_
  refine nw_get (c := 66) (f := 13) (cz := 75) dX11_init_150 flX11_35 (by decide +kernel) rfl rfl rfl (by decide +kernel) ?_
  refine nw_il1 dX11_init_153 ?_
  refine nw_iconst dX11_init_154 ?_
  refine nw_iast (c := 75) (N := 4) dX11_init_155 (by decide +kernel) rfl (by decide) (by decide) (by decide) rfl (by decide +kernel) ?_
  refine nw_ii1 (z2 := 3) dX11_init_156 rfl (by decide) (by decide) ?_
  refine nw_goto (tgt := 144) dX11_init_159 (by decide) ?_
  refine nw_il1 dX11_init_144 ?_
  refine nw_iconst dX11_init_145 ?_
  refine nw_geF dX11_init_146 (by decide) (by decide) (by decide) (by decide) ?_
  refine nw_al0 dX11_init_149 ?_
  refine nw_get (c := 66) (f := 13) (cz := 75) dX11_init_150 flX11_35 (by decide +kernel) rfl rfl rfl (by decide +kernel) ?_
  refine nw_il1 dX11_init_153 ?_
  refine nw_iconst dX11_init_154 ?_
  refine nw_iast (c := 75) (N := 4) dX11_init_155 (by decide +kernel) rfl (by decide) (by decide) (by decide) rfl (by decide +kernel) ?_
  refine nw_ii1 (z2 := 4) dX11_init_156 rfl (by decide) (by decide) ?_
  refine nw_goto (tgt := 144) dX11_init_159 (by decide) ?_
  refine nw_il1 dX11_init_144 ?_
  refine nw_iconst dX11_init_145 ?_
  refine nw_geT (tgt := 162) dX11_init_146 (by decide) (by decide) (by decide) (by decide) ?_
  exact nw_ret dX11_init_162 rfl
