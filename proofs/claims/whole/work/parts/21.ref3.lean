theorem fr_mulrg {p n : Int} (h1 : -9 ≤ p ∧ p ≤ 99) (h2 : 0 ≤ n ∧ n ≤ 6) : -54 ≤ p * n ∧ p * n ≤ 594 := by
  rcases (by omega : n = 0 ∨ n = 1 ∨ n = 2 ∨ n = 3 ∨ n = 4 ∨ n = 5 ∨ n = 6) with h | h | h | h | h | h | h <;> subst h <;> omega
theorem fr_mulrg10 {p n : Int} (h1 : -540 ≤ p ∧ p ≤ 5940) (h2 : 0 ≤ n ∧ n ≤ 10) : -5400 ≤ n * p ∧ n * p ≤ 59400 := by
  rcases (by omega : n = 0 ∨ n = 1 ∨ n = 2 ∨ n = 3 ∨ n = 4 ∨ n = 5 ∨ n = 6 ∨ n = 7 ∨ n = 8 ∨ n = 9 ∨ n = 10) with h | h | h | h | h | h | h | h | h | h | h <;> subst h <;> omega
theorem sp_wn_rg {w : Int → Int} (hI : fr_I w) (t c fl : Int) : -540 ≤ sp_wn w t c fl ∧ sp_wn w t c fl ≤ 5940 := by
  have h := sp_sum_rg (F := fun f => w (64 + f) * sp_nxt w t f c fl) (a := -54) (b := 594) 10 (fun i h0 h1 => fr_mulrg (hI.pr h0 (by omega)) (sp_bn_rg w _ i c fl _ _))
  unfold sp_wn
  omega
def sp_ex0 (w : Int → Int) (t : Int) : Int := (10 - sp_od w (w (7 + t))) * sp_wn w t (w (7 + t)) 0 + sp_od w (w (7 + t)) * sp_wn w t (w (7 + t)) 1
theorem sp_ex0_rg {w : Int → Int} (hI : fr_I w) (t : Int) : -10800 ≤ sp_ex0 w t ∧ sp_ex0 w t ≤ 118800 := by
  have ho := sp_od_rg hI (w (7 + t))
  have h1 := fr_mulrg10 (sp_wn_rg hI t (w (7 + t)) 0) (show 0 ≤ 10 - sp_od w (w (7 + t)) ∧ 10 - sp_od w (w (7 + t)) ≤ 10 by omega)
  have h2 := fr_mulrg10 (sp_wn_rg hI t (w (7 + t)) 1) ho
  unfold sp_ex0
  omega
theorem sp_exs_rg {w : Int → Int} (hI : fr_I w) : -64800 ≤ sp_sum (w 0).toNat (sp_ex0 w) ∧ sp_sum (w 0).toNat (sp_ex0 w) ≤ 712800 := by
  have h := sp_sum_rg (F := sp_ex0 w) (a := -10800) (b := 118800) (w 0).toNat (fun i _ _ => sp_ex0_rg hI i)
  have hn := hI.n
  omega
theorem sp_s10_e (x : Int) : sp_s10 x = (if x % 2 = 0 then 2 else 1) * (if x % 5 = 0 then 5 else 1) := by
  have h2 : x.tmod 2 = 0 ↔ x % 2 = 0 := by rw [← Int.dvd_iff_tmod_eq_zero, ← Int.dvd_iff_emod_eq_zero]
  have h5 : x.tmod 5 = 0 ↔ x % 5 = 0 := by rw [← Int.dvd_iff_tmod_eq_zero, ← Int.dvd_iff_emod_eq_zero]
  unfold sp_s10
  simp only [h2, h5]
theorem sp_s10_rg (x : Int) : 1 ≤ sp_s10 x ∧ sp_s10 x ≤ 10 := by
  rw [sp_s10_e]
  (repeat' split) <;> omega
theorem sp_cpy_0 (μ : fr_Me) (cs sp cd dp : Int) : sp_cpy μ cs sp cd dp 0 = μ := by
  funext c k
  unfold sp_cpy
  rw [if_neg (by omega)]
theorem sp_cpy_s (μ : fr_Me) (cs sp cd dp : Int) {n : Int} (h : 0 ≤ n) : fr_up (sp_cpy μ cs sp cd dp n) cd (dp + n) (μ cs (sp + n)) = sp_cpy μ cs sp cd dp (n + 1) := by
  funext c k
  simp only [sp_cpy, fr_up]
  by_cases hc : c = cd
  · by_cases hk : k = dp + n
    · subst hk; rw [if_pos ⟨hc, rfl⟩, if_pos (by omega), show sp + (dp + n - dp) = sp + n by omega]
    · by_cases h2 : dp ≤ k ∧ k < dp + n
      · rw [if_neg (by omega), if_pos ⟨hc, h2⟩, if_pos (by omega)]
      · rw [if_neg (by omega), if_neg (by omega), if_neg (by omega)]
  · rw [if_neg (by omega), if_neg (by omega), if_neg (by omega)]
def sp_fillo (μ : fr_Me) (c a n z : Int) : fr_Me := fun c' k => if c' = c ∧ a ≤ k ∧ k < a + n then z else μ c' k
theorem sp_fillo_nc (μ : fr_Me) {c c' : Int} (a n z : Int) (h : c' ≠ c) : sp_fillo μ c a n z c' = μ c' := by
  funext k
  simp [sp_fillo, h]
theorem sp_fillo_0 (μ : fr_Me) (c a z : Int) : sp_fillo μ c a 0 z = μ := by
  funext c' k
  unfold sp_fillo
  rw [if_neg (by omega)]
theorem sp_fillo_s (μ : fr_Me) (c a z : Int) {n : Int} (h : 0 ≤ n) : fr_up (sp_fillo μ c a n z) c (a + n) z = sp_fillo μ c a (n + 1) z := by
  funext c' k
  simp only [sp_fillo, fr_up]
  (repeat' split) <;> first | rfl | omega
/-- items of a sheet (from a on) become the basket -/
def sp_flm (μ : fr_Me) (c a n : Int) (F : Int → Int) : fr_Me := fun c' k => if c' = c ∧ a ≤ k ∧ k < a + n then F (k - a) else μ c' k
theorem sp_flm_nc (μ : fr_Me) {c c' : Int} (a n : Int) (F : Int → Int) (h : c' ≠ c) : sp_flm μ c a n F c' = μ c' := by
  funext k
  simp [sp_flm, h]
theorem sp_flm_0 (μ : fr_Me) (c a : Int) (F : Int → Int) : sp_flm μ c a 0 F = μ := by
  funext c' k
  unfold sp_flm
  rw [if_neg (by omega)]
theorem sp_flm_s (μ : fr_Me) (c a : Int) (F : Int → Int) {n : Int} (h : 0 ≤ n) : fr_up (sp_flm μ c a n F) c (a + n) (F n) = sp_flm μ c a (n + 1) F := by
  funext c' k
  simp only [sp_flm, fr_up]
  by_cases hc : c' = c
  · by_cases hk : k = a + n
    · subst hk; rw [if_pos ⟨hc, rfl⟩, if_pos (by omega), show a + n - a = n by omega]
    · by_cases h2 : a ≤ k ∧ k < a + n
      · rw [if_neg (by omega), if_pos ⟨hc, h2⟩, if_pos (by omega)]
      · rw [if_neg (by omega), if_neg (by omega), if_neg (by omega)]
  · rw [if_neg (by omega), if_neg (by omega), if_neg (by omega)]
def sp_jr (z : Int) : Prop := -9223372036854775808 ≤ z ∧ z ≤ 9223372036854775807
/-- the reference's sheets are as they must be -/
def fr_Sh (μ : fr_Me) : Prop := (∀ s, 0 ≤ s → s < 4 → (-1 ≤ μ 75 s ∧ μ 75 s ≤ 3) ∧ 0 ≤ μ 76 s ∧ μ 76 s ≤ 16) ∧ ∀ k, 0 ≤ k → k < 64 → -9223372036854775808 ≤ μ 77 k ∧ μ 77 k ≤ 9223372036854775807
def sp_bars (la sz lane i n : Int) : Int := if la < 0 then -11 else if la ≠ lane then -12 else if i < 0 ∨ n < 0 ∨ sz < i + n then -13 else 0
theorem sp_bars_rg (la sz lane i n : Int) : -13 ≤ sp_bars la sz lane i n ∧ sp_bars la sz lane i n ≤ 0 := by unfold sp_bars; (repeat' split) <;> omega
theorem sp_bars0 {la sz lane i n : Int} (h : sp_bars la sz lane i n = 0) : 0 ≤ la ∧ la = lane ∧ 0 ≤ i ∧ 0 ≤ n ∧ i + n ≤ sz := by unfold sp_bars at h; (repeat' split at h) <;> omega
def sp_cutl (lane v : Int) : Int := if lane = 0 then v.bmod 256 else if lane = 1 then v.bmod 65536 else if lane = 2 then v.bmod 4294967296 else v
theorem fr_bm8 (v : Int) : -128 ≤ v.bmod 256 ∧ v.bmod 256 ≤ 127 := by
  have h1 := Int.le_bmod (x := v) (m := 256) (by omega)
  have h2 := Int.bmod_lt (x := v) (m := 256) (by omega)
  omega
theorem fr_bm16 (v : Int) : -32768 ≤ v.bmod 65536 ∧ v.bmod 65536 ≤ 32767 := by
  have h1 := Int.le_bmod (x := v) (m := 65536) (by omega)
  have h2 := Int.bmod_lt (x := v) (m := 65536) (by omega)
  omega
theorem fr_bm32 (v : Int) : -2147483648 ≤ v.bmod 4294967296 ∧ v.bmod 4294967296 ≤ 2147483647 := by
  have h1 := Int.le_bmod (x := v) (m := 4294967296) (by omega)
  have h2 := Int.bmod_lt (x := v) (m := 4294967296) (by omega)
  omega
set_option maxRecDepth 20000 in
theorem kcX11_expected {l : Launch} {κ : fr_Ka} {μ : fr_Me} (hI : fr_I (μ 67))  : fr_C l κ fmX11_expected 5 [fr_r κ 66] μ (fr_Ei (sp_sum (μ 67 0).toNat (sp_ex0 (μ 67))) μ) := by
  have iN := hI.n
  have iM := hI.many
  refine fr_enter (by decide +kernel) (ls := [some (fr_r κ 66), none, none, none, none]) rfl (Nat.le_of_ble_eq_true rfl) ?_
  refine fr_iconst dX11_expected_0 ?_
  refine fr_is1 dX11_expected_1 rfl (Nat.le_of_ble_eq_true rfl) ?_
  refine fr_iconst dX11_expected_2 ?_
  refine fr_is2 dX11_expected_3 rfl (Nat.le_of_ble_eq_true rfl) ?_
  refine fr_wk ?_ (ls := [some (fr_r κ 66), some (fr_i _), some (fr_i (0 : Int)), none, none]) ⟨rfl, rfl, rfl, trivial⟩
  refine (fr_down (P := fun j : Nat => ∀ (x : Int), (x = sp_sum j (sp_ex0 (μ 67))) → fr_A l κ fmX11_expected 5 (fr_Ei (sp_sum (μ 67 0).toNat (sp_ex0 (μ 67))) μ) 4 [some (fr_r κ 66), some (fr_i x), some (fr_i (j : Int)), none, none] [] μ) (μ 67 0).toNat ?_ (fun j hj4 ih4 => ?_)) _ (rfl)
  · skip
    intro x hx
    refine fr_il2 dX11_expected_4 ?_
    refine fr_al0 dX11_expected_5 ?_
    refine fr_getr (cz := 67) dX11_expected_6 flX11_7 ⟨by decide, by decide, rfl⟩ rfl rfl ?_
    refine fr_iconst dX11_expected_9 ?_
    refine fr_iald dX11_expected_10 ⟨by decide, by decide, rfl, by decide⟩ (by omega) (by omega) ?_
    refine fr_icmp_ge (tgt := 90) dX11_expected_11 (by decide) (by omega) (by omega) (fun h1 => ?_) (fun h1 => ?_)
    · skip
      refine fr_il1 dX11_expected_90 ?_
      exact fr_iret dX11_expected_91 rfl (fr_e hx rfl)
    · skip
      exfalso; omega
  · skip
    intro x hx
    have iT := hI.tree (t := (j : Int)) (by omega) (by omega)
    unfold fr_It at iT
    unfold sp_ok at iT
    refine fr_il2 dX11_expected_4 ?_
    refine fr_al0 dX11_expected_5 ?_
    refine fr_getr (cz := 67) dX11_expected_6 flX11_7 ⟨by decide, by decide, rfl⟩ rfl rfl ?_
    refine fr_iconst dX11_expected_9 ?_
    refine fr_iald dX11_expected_10 ⟨by decide, by decide, rfl, by decide⟩ (by omega) (by omega) ?_
    refine fr_icmp_ge (tgt := 90) dX11_expected_11 (by decide) (by omega) (by omega) (fun h2 => ?_) (fun h2 => ?_)
    · skip
      exfalso; omega
    · skip
      refine fr_al0 dX11_expected_14 ?_
      refine fr_getr (cz := 67) dX11_expected_15 flX11_7 ⟨by decide, by decide, rfl⟩ rfl rfl ?_
      refine fr_bipush dX11_expected_18 (by decide) ?_
      refine fr_il2 dX11_expected_20 ?_
      refine fr_iadd dX11_expected_21 ?_
      refine fr_iald dX11_expected_22 ⟨by decide, by decide, rfl, by decide⟩ (by omega) (by omega) ?_
      refine fr_is3 dX11_expected_23 rfl (Nat.le_of_ble_eq_true rfl) ?_
      refine fr_il3 dX11_expected_24 ?_
      refine fr_iconst dX11_expected_25 ?_
      refine fr_icmp_eq (tgt := 42) dX11_expected_26 (by decide) (by omega) (by omega) (fun h3 => ?_) (fun h3 => ?_)
      · skip
        refine fr_iconst dX11_expected_42 ?_
        refine fr_goto (tgt := 55) dX11_expected_43 (by decide) ?_
        refine fr_is4 dX11_expected_55 rfl (Nat.le_of_ble_eq_true rfl) ?_
        refine fr_il1 dX11_expected_57 ?_
        refine fr_bipush dX11_expected_58 (by decide) ?_
        refine fr_il4 dX11_expected_60 ?_
        refine fr_isub dX11_expected_62 ?_
        refine fr_al0 dX11_expected_63 ?_
        refine fr_il2 dX11_expected_64 ?_
        refine fr_il3 dX11_expected_65 ?_
        refine fr_iconst dX11_expected_66 ?_
        refine fr_cVi (mi' := fmX11_worthNext) dX11_expected_67 mlX11_162 mvX11_worthNext ⟨11, _, ⟨by decide, by decide, rfl⟩, rfl, rfl⟩ (Nat.le_of_ble_eq_true rfl) (kcX11_worthNext hI (by omega) (by omega) (by omega)) rfl rfl (Nat.le_of_ble_eq_true rfl) ?_
        refine fr_imul dX11_expected_70 ?_
        refine fr_il4 dX11_expected_71 ?_
        refine fr_al0 dX11_expected_73 ?_
        refine fr_il2 dX11_expected_74 ?_
        refine fr_il3 dX11_expected_75 ?_
        refine fr_iconst dX11_expected_76 ?_
        refine fr_cVi (mi' := fmX11_worthNext) dX11_expected_77 mlX11_162 mvX11_worthNext ⟨11, _, ⟨by decide, by decide, rfl⟩, rfl, rfl⟩ (Nat.le_of_ble_eq_true rfl) (kcX11_worthNext hI (by omega) (by omega) (by omega)) rfl rfl (Nat.le_of_ble_eq_true rfl) ?_
        refine fr_imul dX11_expected_80 ?_
        refine fr_iadd dX11_expected_81 ?_
        refine fr_iadd dX11_expected_82 ?_
        refine fr_is1 dX11_expected_83 rfl (Nat.le_of_ble_eq_true rfl) ?_
        refine fr_ii2 dX11_expected_84 rfl (Nat.le_of_ble_eq_true rfl) ?_
        refine fr_goto (tgt := 4) dX11_expected_87 (by decide) ?_
        have eo : sp_od (μ 67) (μ 67 (7 + j)) = 0 := by unfold sp_od; (repeat' split) <;> omega
        exact fr_wk (ih4 _ (by subst hx; simp only [sp_sum]; unfold sp_ex0; rw [eo])) ⟨rfl, rfl, rfl, trivial⟩
      · skip
        have iC := hI.cl (c := μ 67 (7 + j)) (by omega) (by omega)
        unfold fr_Ic at iC
        refine fr_al0 dX11_expected_29 ?_
        refine fr_getr (cz := 67) dX11_expected_30 flX11_7 ⟨by decide, by decide, rfl⟩ rfl rfl ?_
        refine fr_bipush dX11_expected_33 (by decide) ?_
        refine fr_il3 dX11_expected_35 ?_
        refine fr_iadd dX11_expected_36 ?_
        refine fr_iald dX11_expected_37 ⟨by decide, by decide, rfl, by decide⟩ (by omega) (by omega) ?_
        refine fr_iconst dX11_expected_38 ?_
        refine fr_icmp_ne (tgt := 46) dX11_expected_39 (by decide) (by omega) (by omega) (fun h4 => ?_) (fun h4 => ?_)
        · skip
          refine fr_al0 dX11_expected_46 ?_
          refine fr_getr (cz := 67) dX11_expected_47 flX11_7 ⟨by decide, by decide, rfl⟩ rfl rfl ?_
          refine fr_bipush dX11_expected_50 (by decide) ?_
          refine fr_il3 dX11_expected_52 ?_
          refine fr_iadd dX11_expected_53 ?_
          refine fr_iald dX11_expected_54 ⟨by decide, by decide, rfl, by decide⟩ (by omega) (by omega) ?_
          refine fr_is4 dX11_expected_55 rfl (Nat.le_of_ble_eq_true rfl) ?_
          refine fr_il1 dX11_expected_57 ?_
          refine fr_bipush dX11_expected_58 (by decide) ?_
          refine fr_il4 dX11_expected_60 ?_
          refine fr_isub dX11_expected_62 ?_
          refine fr_al0 dX11_expected_63 ?_
          refine fr_il2 dX11_expected_64 ?_
          refine fr_il3 dX11_expected_65 ?_
          refine fr_iconst dX11_expected_66 ?_
          refine fr_cVi (mi' := fmX11_worthNext) dX11_expected_67 mlX11_162 mvX11_worthNext ⟨11, _, ⟨by decide, by decide, rfl⟩, rfl, rfl⟩ (Nat.le_of_ble_eq_true rfl) (kcX11_worthNext hI (by omega) (by omega) (by omega)) rfl rfl (Nat.le_of_ble_eq_true rfl) ?_
          refine fr_imul dX11_expected_70 ?_
          refine fr_il4 dX11_expected_71 ?_
          refine fr_al0 dX11_expected_73 ?_
          refine fr_il2 dX11_expected_74 ?_
          refine fr_il3 dX11_expected_75 ?_
          refine fr_iconst dX11_expected_76 ?_
          refine fr_cVi (mi' := fmX11_worthNext) dX11_expected_77 mlX11_162 mvX11_worthNext ⟨11, _, ⟨by decide, by decide, rfl⟩, rfl, rfl⟩ (Nat.le_of_ble_eq_true rfl) (kcX11_worthNext hI (by omega) (by omega) (by omega)) rfl rfl (Nat.le_of_ble_eq_true rfl) ?_
          refine fr_imul dX11_expected_80 ?_
          refine fr_iadd dX11_expected_81 ?_
          refine fr_iadd dX11_expected_82 ?_
          refine fr_is1 dX11_expected_83 rfl (Nat.le_of_ble_eq_true rfl) ?_
          refine fr_ii2 dX11_expected_84 rfl (Nat.le_of_ble_eq_true rfl) ?_
          refine fr_goto (tgt := 4) dX11_expected_87 (by decide) ?_
          have eo : sp_od (μ 67) (μ 67 (7 + j)) = μ 67 (59 + μ 67 (7 + j)) := by unfold sp_od; rw [if_pos (by omega), if_neg (by omega)]
          exact fr_wk (ih4 _ (by subst hx; simp only [sp_sum]; unfold sp_ex0; rw [eo])) ⟨rfl, rfl, rfl, trivial⟩
        · skip
          refine fr_iconst dX11_expected_42 ?_
          refine fr_goto (tgt := 55) dX11_expected_43 (by decide) ?_
          refine fr_is4 dX11_expected_55 rfl (Nat.le_of_ble_eq_true rfl) ?_
          refine fr_il1 dX11_expected_57 ?_
          refine fr_bipush dX11_expected_58 (by decide) ?_
          refine fr_il4 dX11_expected_60 ?_
          refine fr_isub dX11_expected_62 ?_
          refine fr_al0 dX11_expected_63 ?_
          refine fr_il2 dX11_expected_64 ?_
          refine fr_il3 dX11_expected_65 ?_
          refine fr_iconst dX11_expected_66 ?_
          refine fr_cVi (mi' := fmX11_worthNext) dX11_expected_67 mlX11_162 mvX11_worthNext ⟨11, _, ⟨by decide, by decide, rfl⟩, rfl, rfl⟩ (Nat.le_of_ble_eq_true rfl) (kcX11_worthNext hI (by omega) (by omega) (by omega)) rfl rfl (Nat.le_of_ble_eq_true rfl) ?_
          refine fr_imul dX11_expected_70 ?_
          refine fr_il4 dX11_expected_71 ?_
          refine fr_al0 dX11_expected_73 ?_
          refine fr_il2 dX11_expected_74 ?_
          refine fr_il3 dX11_expected_75 ?_
          refine fr_iconst dX11_expected_76 ?_
          refine fr_cVi (mi' := fmX11_worthNext) dX11_expected_77 mlX11_162 mvX11_worthNext ⟨11, _, ⟨by decide, by decide, rfl⟩, rfl, rfl⟩ (Nat.le_of_ble_eq_true rfl) (kcX11_worthNext hI (by omega) (by omega) (by omega)) rfl rfl (Nat.le_of_ble_eq_true rfl) ?_
          refine fr_imul dX11_expected_80 ?_
          refine fr_iadd dX11_expected_81 ?_
          refine fr_iadd dX11_expected_82 ?_
          refine fr_is1 dX11_expected_83 rfl (Nat.le_of_ble_eq_true rfl) ?_
          refine fr_ii2 dX11_expected_84 rfl (Nat.le_of_ble_eq_true rfl) ?_
          refine fr_goto (tgt := 4) dX11_expected_87 (by decide) ?_
          have eo : sp_od (μ 67) (μ 67 (7 + j)) = 0 := by unfold sp_od; (repeat' split) <;> omega
          exact fr_wk (ih4 _ (by subst hx; simp only [sp_sum]; unfold sp_ex0; rw [eo])) ⟨rfl, rfl, rfl, trivial⟩
set_option maxRecDepth 20000 in
theorem kcX11_common {l : Launch} {κ : fr_Ka} {μ : fr_Me} {a : Int} (ra : -1000000 ≤ a ∧ a ≤ 1000000) : fr_C l κ fmX11_common 1 [fr_i a, fr_i 10] μ (fr_Ei (sp_s10 a) μ) := by
  refine fr_enter (by decide +kernel) (ls := [some (fr_i a), some (fr_i 10), none, none, none]) rfl (Nat.le_of_ble_eq_true rfl) ?_
  refine fr_il0 dX11_common_0 ?_
  refine fr_if_ge (tgt := 9) dX11_common_1 (by decide) (by omega) (fun h1 => ?_) (fun h1 => ?_)
  · skip
    refine fr_il0 dX11_common_9 ?_
    refine fr_is2 dX11_common_10 rfl (Nat.le_of_ble_eq_true rfl) ?_
    refine fr_il1 dX11_common_11 ?_
    refine fr_is3 dX11_common_12 rfl (Nat.le_of_ble_eq_true rfl) ?_
    refine fr_il3 dX11_common_13 ?_
    refine fr_if_eq (tgt := 30) dX11_common_14 (by decide) (by decide) (fun h2 => absurd h2 (by decide)) (fun _ => ?_)
    refine fr_il2 dX11_common_17 ?_
    refine fr_il3 dX11_common_18 ?_
    refine fr_irem dX11_common_19 (by omega) (by omega) (by omega) ?_
    refine fr_is4 dX11_common_20 rfl (Nat.le_of_ble_eq_true rfl) ?_
    refine fr_il3 dX11_common_22 ?_
    refine fr_is2 dX11_common_23 rfl (Nat.le_of_ble_eq_true rfl) ?_
    refine fr_il4 dX11_common_24 ?_
    refine fr_is3 dX11_common_26 rfl (Nat.le_of_ble_eq_true rfl) ?_
    refine fr_goto (tgt := 13) dX11_common_27 (by decide) ?_
    have hr : (a).tmod 10 = (a) % 10 := Int.tmod_eq_emod_of_nonneg (by omega)
    rcases (by omega : (a).tmod 10 = 0 ∨ (a).tmod 10 = 1 ∨ (a).tmod 10 = 2 ∨ (a).tmod 10 = 3 ∨ (a).tmod 10 = 4 ∨ (a).tmod 10 = 5 ∨ (a).tmod 10 = 6 ∨ (a).tmod 10 = 7 ∨ (a).tmod 10 = 8 ∨ (a).tmod 10 = 9) with hq | hq | hq | hq | hq | hq | hq | hq | hq | hq
    · skip
      rw [hq]
      refine fr_il3 dX11_common_13 ?_
      refine fr_if_eq (tgt := 30) dX11_common_14 (by decide) (by decide) (fun _ => ?_) (fun h3 => absurd h3 (by decide))
      refine fr_il2 dX11_common_30 ?_
      exact fr_iret dX11_common_31 rfl (fr_e (by rw [sp_s10_e, hr] at *; (repeat' split) <;> first | rfl | omega) rfl)
    · skip
      rw [hq]
      refine fr_il3 dX11_common_13 ?_
      refine fr_if_eq (tgt := 30) dX11_common_14 (by decide) (by decide) (fun h4 => absurd h4 (by decide)) (fun _ => ?_)
      refine fr_il2 dX11_common_17 ?_
      refine fr_il3 dX11_common_18 ?_
      refine fr_irem dX11_common_19 (by decide) (by decide) (by decide) ?_
      refine fr_is4 dX11_common_20 rfl (Nat.le_of_ble_eq_true rfl) ?_
      refine fr_il3 dX11_common_22 ?_
      refine fr_is2 dX11_common_23 rfl (Nat.le_of_ble_eq_true rfl) ?_
      refine fr_il4 dX11_common_24 ?_
      refine fr_is3 dX11_common_26 rfl (Nat.le_of_ble_eq_true rfl) ?_
      refine fr_goto (tgt := 13) dX11_common_27 (by decide) ?_
      refine fr_il3 dX11_common_13 ?_
      refine fr_if_eq (tgt := 30) dX11_common_14 (by decide) (by decide) (fun _ => ?_) (fun h5 => absurd h5 (by decide))
      refine fr_il2 dX11_common_30 ?_
      exact fr_iret dX11_common_31 rfl (fr_e (by rw [sp_s10_e, hr] at *; (repeat' split) <;> first | rfl | omega) rfl)
    · skip
      rw [hq]
      refine fr_il3 dX11_common_13 ?_
      refine fr_if_eq (tgt := 30) dX11_common_14 (by decide) (by decide) (fun h6 => absurd h6 (by decide)) (fun _ => ?_)
      refine fr_il2 dX11_common_17 ?_
      refine fr_il3 dX11_common_18 ?_
      refine fr_irem dX11_common_19 (by decide) (by decide) (by decide) ?_
      refine fr_is4 dX11_common_20 rfl (Nat.le_of_ble_eq_true rfl) ?_
      refine fr_il3 dX11_common_22 ?_
      refine fr_is2 dX11_common_23 rfl (Nat.le_of_ble_eq_true rfl) ?_
      refine fr_il4 dX11_common_24 ?_
      refine fr_is3 dX11_common_26 rfl (Nat.le_of_ble_eq_true rfl) ?_
      refine fr_goto (tgt := 13) dX11_common_27 (by decide) ?_
      refine fr_il3 dX11_common_13 ?_
      refine fr_if_eq (tgt := 30) dX11_common_14 (by decide) (by decide) (fun _ => ?_) (fun h7 => absurd h7 (by decide))
      refine fr_il2 dX11_common_30 ?_
      exact fr_iret dX11_common_31 rfl (fr_e (by rw [sp_s10_e, hr] at *; (repeat' split) <;> first | rfl | omega) rfl)
    · skip
      rw [hq]
      refine fr_il3 dX11_common_13 ?_
      refine fr_if_eq (tgt := 30) dX11_common_14 (by decide) (by decide) (fun h8 => absurd h8 (by decide)) (fun _ => ?_)
      refine fr_il2 dX11_common_17 ?_
      refine fr_il3 dX11_common_18 ?_
      refine fr_irem dX11_common_19 (by decide) (by decide) (by decide) ?_
      refine fr_is4 dX11_common_20 rfl (Nat.le_of_ble_eq_true rfl) ?_
      refine fr_il3 dX11_common_22 ?_
      refine fr_is2 dX11_common_23 rfl (Nat.le_of_ble_eq_true rfl) ?_
      refine fr_il4 dX11_common_24 ?_
      refine fr_is3 dX11_common_26 rfl (Nat.le_of_ble_eq_true rfl) ?_
      refine fr_goto (tgt := 13) dX11_common_27 (by decide) ?_
      refine fr_il3 dX11_common_13 ?_
      refine fr_if_eq (tgt := 30) dX11_common_14 (by decide) (by decide) (fun h9 => absurd h9 (by decide)) (fun _ => ?_)
      refine fr_il2 dX11_common_17 ?_
      refine fr_il3 dX11_common_18 ?_
      refine fr_irem dX11_common_19 (by decide) (by decide) (by decide) ?_
      refine fr_is4 dX11_common_20 rfl (Nat.le_of_ble_eq_true rfl) ?_
      refine fr_il3 dX11_common_22 ?_
      refine fr_is2 dX11_common_23 rfl (Nat.le_of_ble_eq_true rfl) ?_
      refine fr_il4 dX11_common_24 ?_
      refine fr_is3 dX11_common_26 rfl (Nat.le_of_ble_eq_true rfl) ?_
      refine fr_goto (tgt := 13) dX11_common_27 (by decide) ?_
      refine fr_il3 dX11_common_13 ?_
      refine fr_if_eq (tgt := 30) dX11_common_14 (by decide) (by decide) (fun _ => ?_) (fun h10 => absurd h10 (by decide))
      refine fr_il2 dX11_common_30 ?_
      exact fr_iret dX11_common_31 rfl (fr_e (by rw [sp_s10_e, hr] at *; (repeat' split) <;> first | rfl | omega) rfl)
    · skip
      rw [hq]
      refine fr_il3 dX11_common_13 ?_
      refine fr_if_eq (tgt := 30) dX11_common_14 (by decide) (by decide) (fun h11 => absurd h11 (by decide)) (fun _ => ?_)
      refine fr_il2 dX11_common_17 ?_
      refine fr_il3 dX11_common_18 ?_
      refine fr_irem dX11_common_19 (by decide) (by decide) (by decide) ?_
      refine fr_is4 dX11_common_20 rfl (Nat.le_of_ble_eq_true rfl) ?_
      refine fr_il3 dX11_common_22 ?_
      refine fr_is2 dX11_common_23 rfl (Nat.le_of_ble_eq_true rfl) ?_
      refine fr_il4 dX11_common_24 ?_
      refine fr_is3 dX11_common_26 rfl (Nat.le_of_ble_eq_true rfl) ?_
      refine fr_goto (tgt := 13) dX11_common_27 (by decide) ?_
      refine fr_il3 dX11_common_13 ?_
      refine fr_if_eq (tgt := 30) dX11_common_14 (by decide) (by decide) (fun h12 => absurd h12 (by decide)) (fun _ => ?_)
      refine fr_il2 dX11_common_17 ?_
      refine fr_il3 dX11_common_18 ?_
      refine fr_irem dX11_common_19 (by decide) (by decide) (by decide) ?_
      refine fr_is4 dX11_common_20 rfl (Nat.le_of_ble_eq_true rfl) ?_
      refine fr_il3 dX11_common_22 ?_
      refine fr_is2 dX11_common_23 rfl (Nat.le_of_ble_eq_true rfl) ?_
      refine fr_il4 dX11_common_24 ?_
      refine fr_is3 dX11_common_26 rfl (Nat.le_of_ble_eq_true rfl) ?_
      refine fr_goto (tgt := 13) dX11_common_27 (by decide) ?_
      refine fr_il3 dX11_common_13 ?_
      refine fr_if_eq (tgt := 30) dX11_common_14 (by decide) (by decide) (fun _ => ?_) (fun h13 => absurd h13 (by decide))
      refine fr_il2 dX11_common_30 ?_
      exact fr_iret dX11_common_31 rfl (fr_e (by rw [sp_s10_e, hr] at *; (repeat' split) <;> first | rfl | omega) rfl)
    · skip
      rw [hq]
      refine fr_il3 dX11_common_13 ?_
      refine fr_if_eq (tgt := 30) dX11_common_14 (by decide) (by decide) (fun h14 => absurd h14 (by decide)) (fun _ => ?_)
      refine fr_il2 dX11_common_17 ?_
      refine fr_il3 dX11_common_18 ?_
      refine fr_irem dX11_common_19 (by decide) (by decide) (by decide) ?_
      refine fr_is4 dX11_common_20 rfl (Nat.le_of_ble_eq_true rfl) ?_
      refine fr_il3 dX11_common_22 ?_
      refine fr_is2 dX11_common_23 rfl (Nat.le_of_ble_eq_true rfl) ?_
      refine fr_il4 dX11_common_24 ?_
      refine fr_is3 dX11_common_26 rfl (Nat.le_of_ble_eq_true rfl) ?_
      refine fr_goto (tgt := 13) dX11_common_27 (by decide) ?_
      refine fr_il3 dX11_common_13 ?_
      refine fr_if_eq (tgt := 30) dX11_common_14 (by decide) (by decide) (fun _ => ?_) (fun h15 => absurd h15 (by decide))
      refine fr_il2 dX11_common_30 ?_
      exact fr_iret dX11_common_31 rfl (fr_e (by rw [sp_s10_e, hr] at *; (repeat' split) <;> first | rfl | omega) rfl)
    · skip
      rw [hq]
      refine fr_il3 dX11_common_13 ?_
      refine fr_if_eq (tgt := 30) dX11_common_14 (by decide) (by decide) (fun h16 => absurd h16 (by decide)) (fun _ => ?_)
      refine fr_il2 dX11_common_17 ?_
      refine fr_il3 dX11_common_18 ?_
      refine fr_irem dX11_common_19 (by decide) (by decide) (by decide) ?_
      refine fr_is4 dX11_common_20 rfl (Nat.le_of_ble_eq_true rfl) ?_
      refine fr_il3 dX11_common_22 ?_
      refine fr_is2 dX11_common_23 rfl (Nat.le_of_ble_eq_true rfl) ?_
      refine fr_il4 dX11_common_24 ?_
      refine fr_is3 dX11_common_26 rfl (Nat.le_of_ble_eq_true rfl) ?_
      refine fr_goto (tgt := 13) dX11_common_27 (by decide) ?_
      refine fr_il3 dX11_common_13 ?_
      refine fr_if_eq (tgt := 30) dX11_common_14 (by decide) (by decide) (fun h17 => absurd h17 (by decide)) (fun _ => ?_)
      refine fr_il2 dX11_common_17 ?_
      refine fr_il3 dX11_common_18 ?_
      refine fr_irem dX11_common_19 (by decide) (by decide) (by decide) ?_
      refine fr_is4 dX11_common_20 rfl (Nat.le_of_ble_eq_true rfl) ?_
      refine fr_il3 dX11_common_22 ?_
      refine fr_is2 dX11_common_23 rfl (Nat.le_of_ble_eq_true rfl) ?_
      refine fr_il4 dX11_common_24 ?_
      refine fr_is3 dX11_common_26 rfl (Nat.le_of_ble_eq_true rfl) ?_
      refine fr_goto (tgt := 13) dX11_common_27 (by decide) ?_
      refine fr_il3 dX11_common_13 ?_
      refine fr_if_eq (tgt := 30) dX11_common_14 (by decide) (by decide) (fun h18 => absurd h18 (by decide)) (fun _ => ?_)
      refine fr_il2 dX11_common_17 ?_
      refine fr_il3 dX11_common_18 ?_
      refine fr_irem dX11_common_19 (by decide) (by decide) (by decide) ?_
      refine fr_is4 dX11_common_20 rfl (Nat.le_of_ble_eq_true rfl) ?_
      refine fr_il3 dX11_common_22 ?_
      refine fr_is2 dX11_common_23 rfl (Nat.le_of_ble_eq_true rfl) ?_
      refine fr_il4 dX11_common_24 ?_
      refine fr_is3 dX11_common_26 rfl (Nat.le_of_ble_eq_true rfl) ?_
      refine fr_goto (tgt := 13) dX11_common_27 (by decide) ?_
      refine fr_il3 dX11_common_13 ?_
      refine fr_if_eq (tgt := 30) dX11_common_14 (by decide) (by decide) (fun _ => ?_) (fun h19 => absurd h19 (by decide))
      refine fr_il2 dX11_common_30 ?_
      exact fr_iret dX11_common_31 rfl (fr_e (by rw [sp_s10_e, hr] at *; (repeat' split) <;> first | rfl | omega) rfl)
    · skip
      rw [hq]
      refine fr_il3 dX11_common_13 ?_
      refine fr_if_eq (tgt := 30) dX11_common_14 (by decide) (by decide) (fun h20 => absurd h20 (by decide)) (fun _ => ?_)
      refine fr_il2 dX11_common_17 ?_
      refine fr_il3 dX11_common_18 ?_
      refine fr_irem dX11_common_19 (by decide) (by decide) (by decide) ?_
      refine fr_is4 dX11_common_20 rfl (Nat.le_of_ble_eq_true rfl) ?_
      refine fr_il3 dX11_common_22 ?_
      refine fr_is2 dX11_common_23 rfl (Nat.le_of_ble_eq_true rfl) ?_
      refine fr_il4 dX11_common_24 ?_
      refine fr_is3 dX11_common_26 rfl (Nat.le_of_ble_eq_true rfl) ?_
      refine fr_goto (tgt := 13) dX11_common_27 (by decide) ?_
      refine fr_il3 dX11_common_13 ?_
      refine fr_if_eq (tgt := 30) dX11_common_14 (by decide) (by decide) (fun h21 => absurd h21 (by decide)) (fun _ => ?_)
      refine fr_il2 dX11_common_17 ?_
      refine fr_il3 dX11_common_18 ?_
      refine fr_irem dX11_common_19 (by decide) (by decide) (by decide) ?_
      refine fr_is4 dX11_common_20 rfl (Nat.le_of_ble_eq_true rfl) ?_
      refine fr_il3 dX11_common_22 ?_
      refine fr_is2 dX11_common_23 rfl (Nat.le_of_ble_eq_true rfl) ?_
      refine fr_il4 dX11_common_24 ?_
      refine fr_is3 dX11_common_26 rfl (Nat.le_of_ble_eq_true rfl) ?_
      refine fr_goto (tgt := 13) dX11_common_27 (by decide) ?_
      refine fr_il3 dX11_common_13 ?_
      refine fr_if_eq (tgt := 30) dX11_common_14 (by decide) (by decide) (fun h22 => absurd h22 (by decide)) (fun _ => ?_)
      refine fr_il2 dX11_common_17 ?_
      refine fr_il3 dX11_common_18 ?_
      refine fr_irem dX11_common_19 (by decide) (by decide) (by decide) ?_
      refine fr_is4 dX11_common_20 rfl (Nat.le_of_ble_eq_true rfl) ?_
      refine fr_il3 dX11_common_22 ?_
      refine fr_is2 dX11_common_23 rfl (Nat.le_of_ble_eq_true rfl) ?_
      refine fr_il4 dX11_common_24 ?_
      refine fr_is3 dX11_common_26 rfl (Nat.le_of_ble_eq_true rfl) ?_
      refine fr_goto (tgt := 13) dX11_common_27 (by decide) ?_
      refine fr_il3 dX11_common_13 ?_
      refine fr_if_eq (tgt := 30) dX11_common_14 (by decide) (by decide) (fun _ => ?_) (fun h23 => absurd h23 (by decide))
      refine fr_il2 dX11_common_30 ?_
      exact fr_iret dX11_common_31 rfl (fr_e (by rw [sp_s10_e, hr] at *; (repeat' split) <;> first | rfl | omega) rfl)
    · skip
      rw [hq]
      refine fr_il3 dX11_common_13 ?_
      refine fr_if_eq (tgt := 30) dX11_common_14 (by decide) (by decide) (fun h24 => absurd h24 (by decide)) (fun _ => ?_)
      refine fr_il2 dX11_common_17 ?_
      refine fr_il3 dX11_common_18 ?_
      refine fr_irem dX11_common_19 (by decide) (by decide) (by decide) ?_
      refine fr_is4 dX11_common_20 rfl (Nat.le_of_ble_eq_true rfl) ?_
      refine fr_il3 dX11_common_22 ?_
      refine fr_is2 dX11_common_23 rfl (Nat.le_of_ble_eq_true rfl) ?_
      refine fr_il4 dX11_common_24 ?_
      refine fr_is3 dX11_common_26 rfl (Nat.le_of_ble_eq_true rfl) ?_
      refine fr_goto (tgt := 13) dX11_common_27 (by decide) ?_
      refine fr_il3 dX11_common_13 ?_
      refine fr_if_eq (tgt := 30) dX11_common_14 (by decide) (by decide) (fun h25 => absurd h25 (by decide)) (fun _ => ?_)
      refine fr_il2 dX11_common_17 ?_
      refine fr_il3 dX11_common_18 ?_
      refine fr_irem dX11_common_19 (by decide) (by decide) (by decide) ?_
      refine fr_is4 dX11_common_20 rfl (Nat.le_of_ble_eq_true rfl) ?_
      refine fr_il3 dX11_common_22 ?_
      refine fr_is2 dX11_common_23 rfl (Nat.le_of_ble_eq_true rfl) ?_
      refine fr_il4 dX11_common_24 ?_
      refine fr_is3 dX11_common_26 rfl (Nat.le_of_ble_eq_true rfl) ?_
      refine fr_goto (tgt := 13) dX11_common_27 (by decide) ?_
      refine fr_il3 dX11_common_13 ?_
      refine fr_if_eq (tgt := 30) dX11_common_14 (by decide) (by decide) (fun _ => ?_) (fun h26 => absurd h26 (by decide))
      refine fr_il2 dX11_common_30 ?_
      exact fr_iret dX11_common_31 rfl (fr_e (by rw [sp_s10_e, hr] at *; (repeat' split) <;> first | rfl | omega) rfl)
    · skip
      rw [hq]
      refine fr_il3 dX11_common_13 ?_
      refine fr_if_eq (tgt := 30) dX11_common_14 (by decide) (by decide) (fun h27 => absurd h27 (by decide)) (fun _ => ?_)
      refine fr_il2 dX11_common_17 ?_
      refine fr_il3 dX11_common_18 ?_
      refine fr_irem dX11_common_19 (by decide) (by decide) (by decide) ?_
      refine fr_is4 dX11_common_20 rfl (Nat.le_of_ble_eq_true rfl) ?_
      refine fr_il3 dX11_common_22 ?_
      refine fr_is2 dX11_common_23 rfl (Nat.le_of_ble_eq_true rfl) ?_
      refine fr_il4 dX11_common_24 ?_
      refine fr_is3 dX11_common_26 rfl (Nat.le_of_ble_eq_true rfl) ?_
      refine fr_goto (tgt := 13) dX11_common_27 (by decide) ?_
      refine fr_il3 dX11_common_13 ?_
      refine fr_if_eq (tgt := 30) dX11_common_14 (by decide) (by decide) (fun h28 => absurd h28 (by decide)) (fun _ => ?_)
      refine fr_il2 dX11_common_17 ?_
      refine fr_il3 dX11_common_18 ?_
      refine fr_irem dX11_common_19 (by decide) (by decide) (by decide) ?_
      refine fr_is4 dX11_common_20 rfl (Nat.le_of_ble_eq_true rfl) ?_
      refine fr_il3 dX11_common_22 ?_
      refine fr_is2 dX11_common_23 rfl (Nat.le_of_ble_eq_true rfl) ?_
      refine fr_il4 dX11_common_24 ?_
      refine fr_is3 dX11_common_26 rfl (Nat.le_of_ble_eq_true rfl) ?_
      refine fr_goto (tgt := 13) dX11_common_27 (by decide) ?_
      refine fr_il3 dX11_common_13 ?_
      refine fr_if_eq (tgt := 30) dX11_common_14 (by decide) (by decide) (fun _ => ?_) (fun h29 => absurd h29 (by decide))
      refine fr_il2 dX11_common_30 ?_
      exact fr_iret dX11_common_31 rfl (fr_e (by rw [sp_s10_e, hr] at *; (repeat' split) <;> first | rfl | omega) rfl)
  · skip
    refine fr_il0 dX11_common_4 ?_
    refine fr_ineg dX11_common_5 ?_
    refine fr_goto (tgt := 10) dX11_common_6 (by decide) ?_
    refine fr_is2 dX11_common_10 rfl (Nat.le_of_ble_eq_true rfl) ?_
    refine fr_il1 dX11_common_11 ?_
    refine fr_is3 dX11_common_12 rfl (Nat.le_of_ble_eq_true rfl) ?_
    refine fr_il3 dX11_common_13 ?_
    refine fr_if_eq (tgt := 30) dX11_common_14 (by decide) (by decide) (fun h30 => absurd h30 (by decide)) (fun _ => ?_)
    refine fr_il2 dX11_common_17 ?_
    refine fr_il3 dX11_common_18 ?_
    refine fr_irem dX11_common_19 (by omega) (by omega) (by omega) ?_
    refine fr_is4 dX11_common_20 rfl (Nat.le_of_ble_eq_true rfl) ?_
    refine fr_il3 dX11_common_22 ?_
    refine fr_is2 dX11_common_23 rfl (Nat.le_of_ble_eq_true rfl) ?_
    refine fr_il4 dX11_common_24 ?_
    refine fr_is3 dX11_common_26 rfl (Nat.le_of_ble_eq_true rfl) ?_
    refine fr_goto (tgt := 13) dX11_common_27 (by decide) ?_
    have hr : (-a).tmod 10 = (-a) % 10 := Int.tmod_eq_emod_of_nonneg (by omega)
    rcases (by omega : (-a).tmod 10 = 0 ∨ (-a).tmod 10 = 1 ∨ (-a).tmod 10 = 2 ∨ (-a).tmod 10 = 3 ∨ (-a).tmod 10 = 4 ∨ (-a).tmod 10 = 5 ∨ (-a).tmod 10 = 6 ∨ (-a).tmod 10 = 7 ∨ (-a).tmod 10 = 8 ∨ (-a).tmod 10 = 9) with hq | hq | hq | hq | hq | hq | hq | hq | hq | hq
    · skip
      rw [hq]
      refine fr_il3 dX11_common_13 ?_
      refine fr_if_eq (tgt := 30) dX11_common_14 (by decide) (by decide) (fun _ => ?_) (fun h31 => absurd h31 (by decide))
      refine fr_il2 dX11_common_30 ?_
      exact fr_iret dX11_common_31 rfl (fr_e (by rw [sp_s10_e, hr] at *; (repeat' split) <;> first | rfl | omega) rfl)
    · skip
      rw [hq]
      refine fr_il3 dX11_common_13 ?_
      refine fr_if_eq (tgt := 30) dX11_common_14 (by decide) (by decide) (fun h32 => absurd h32 (by decide)) (fun _ => ?_)
      refine fr_il2 dX11_common_17 ?_
      refine fr_il3 dX11_common_18 ?_
      refine fr_irem dX11_common_19 (by decide) (by decide) (by decide) ?_
      refine fr_is4 dX11_common_20 rfl (Nat.le_of_ble_eq_true rfl) ?_
      refine fr_il3 dX11_common_22 ?_
      refine fr_is2 dX11_common_23 rfl (Nat.le_of_ble_eq_true rfl) ?_
      refine fr_il4 dX11_common_24 ?_
      refine fr_is3 dX11_common_26 rfl (Nat.le_of_ble_eq_true rfl) ?_
      refine fr_goto (tgt := 13) dX11_common_27 (by decide) ?_
      refine fr_il3 dX11_common_13 ?_
      refine fr_if_eq (tgt := 30) dX11_common_14 (by decide) (by decide) (fun _ => ?_) (fun h33 => absurd h33 (by decide))
      refine fr_il2 dX11_common_30 ?_
      exact fr_iret dX11_common_31 rfl (fr_e (by rw [sp_s10_e, hr] at *; (repeat' split) <;> first | rfl | omega) rfl)
    · skip
      rw [hq]
      refine fr_il3 dX11_common_13 ?_
      refine fr_if_eq (tgt := 30) dX11_common_14 (by decide) (by decide) (fun h34 => absurd h34 (by decide)) (fun _ => ?_)
      refine fr_il2 dX11_common_17 ?_
      refine fr_il3 dX11_common_18 ?_
      refine fr_irem dX11_common_19 (by decide) (by decide) (by decide) ?_
      refine fr_is4 dX11_common_20 rfl (Nat.le_of_ble_eq_true rfl) ?_
      refine fr_il3 dX11_common_22 ?_
      refine fr_is2 dX11_common_23 rfl (Nat.le_of_ble_eq_true rfl) ?_
      refine fr_il4 dX11_common_24 ?_
      refine fr_is3 dX11_common_26 rfl (Nat.le_of_ble_eq_true rfl) ?_
      refine fr_goto (tgt := 13) dX11_common_27 (by decide) ?_
      refine fr_il3 dX11_common_13 ?_
      refine fr_if_eq (tgt := 30) dX11_common_14 (by decide) (by decide) (fun _ => ?_) (fun h35 => absurd h35 (by decide))
      refine fr_il2 dX11_common_30 ?_
      exact fr_iret dX11_common_31 rfl (fr_e (by rw [sp_s10_e, hr] at *; (repeat' split) <;> first | rfl | omega) rfl)
    · skip
      rw [hq]
      refine fr_il3 dX11_common_13 ?_
      refine fr_if_eq (tgt := 30) dX11_common_14 (by decide) (by decide) (fun h36 => absurd h36 (by decide)) (fun _ => ?_)
      refine fr_il2 dX11_common_17 ?_
      refine fr_il3 dX11_common_18 ?_
      refine fr_irem dX11_common_19 (by decide) (by decide) (by decide) ?_
      refine fr_is4 dX11_common_20 rfl (Nat.le_of_ble_eq_true rfl) ?_
      refine fr_il3 dX11_common_22 ?_
      refine fr_is2 dX11_common_23 rfl (Nat.le_of_ble_eq_true rfl) ?_
      refine fr_il4 dX11_common_24 ?_
      refine fr_is3 dX11_common_26 rfl (Nat.le_of_ble_eq_true rfl) ?_
      refine fr_goto (tgt := 13) dX11_common_27 (by decide) ?_
      refine fr_il3 dX11_common_13 ?_
      refine fr_if_eq (tgt := 30) dX11_common_14 (by decide) (by decide) (fun h37 => absurd h37 (by decide)) (fun _ => ?_)
      refine fr_il2 dX11_common_17 ?_
      refine fr_il3 dX11_common_18 ?_
      refine fr_irem dX11_common_19 (by decide) (by decide) (by decide) ?_
      refine fr_is4 dX11_common_20 rfl (Nat.le_of_ble_eq_true rfl) ?_
      refine fr_il3 dX11_common_22 ?_
      refine fr_is2 dX11_common_23 rfl (Nat.le_of_ble_eq_true rfl) ?_
      refine fr_il4 dX11_common_24 ?_
      refine fr_is3 dX11_common_26 rfl (Nat.le_of_ble_eq_true rfl) ?_
      refine fr_goto (tgt := 13) dX11_common_27 (by decide) ?_
      refine fr_il3 dX11_common_13 ?_
      refine fr_if_eq (tgt := 30) dX11_common_14 (by decide) (by decide) (fun _ => ?_) (fun h38 => absurd h38 (by decide))
      refine fr_il2 dX11_common_30 ?_
      exact fr_iret dX11_common_31 rfl (fr_e (by rw [sp_s10_e, hr] at *; (repeat' split) <;> first | rfl | omega) rfl)
    · skip
      rw [hq]
      refine fr_il3 dX11_common_13 ?_
      refine fr_if_eq (tgt := 30) dX11_common_14 (by decide) (by decide) (fun h39 => absurd h39 (by decide)) (fun _ => ?_)
      refine fr_il2 dX11_common_17 ?_
      refine fr_il3 dX11_common_18 ?_
      refine fr_irem dX11_common_19 (by decide) (by decide) (by decide) ?_
      refine fr_is4 dX11_common_20 rfl (Nat.le_of_ble_eq_true rfl) ?_
      refine fr_il3 dX11_common_22 ?_
      refine fr_is2 dX11_common_23 rfl (Nat.le_of_ble_eq_true rfl) ?_
      refine fr_il4 dX11_common_24 ?_
      refine fr_is3 dX11_common_26 rfl (Nat.le_of_ble_eq_true rfl) ?_
      refine fr_goto (tgt := 13) dX11_common_27 (by decide) ?_
      refine fr_il3 dX11_common_13 ?_
      refine fr_if_eq (tgt := 30) dX11_common_14 (by decide) (by decide) (fun h40 => absurd h40 (by decide)) (fun _ => ?_)
      refine fr_il2 dX11_common_17 ?_
      refine fr_il3 dX11_common_18 ?_
      refine fr_irem dX11_common_19 (by decide) (by decide) (by decide) ?_
      refine fr_is4 dX11_common_20 rfl (Nat.le_of_ble_eq_true rfl) ?_
      refine fr_il3 dX11_common_22 ?_
      refine fr_is2 dX11_common_23 rfl (Nat.le_of_ble_eq_true rfl) ?_
      refine fr_il4 dX11_common_24 ?_
      refine fr_is3 dX11_common_26 rfl (Nat.le_of_ble_eq_true rfl) ?_
      refine fr_goto (tgt := 13) dX11_common_27 (by decide) ?_
      refine fr_il3 dX11_common_13 ?_
      refine fr_if_eq (tgt := 30) dX11_common_14 (by decide) (by decide) (fun _ => ?_) (fun h41 => absurd h41 (by decide))
      refine fr_il2 dX11_common_30 ?_
      exact fr_iret dX11_common_31 rfl (fr_e (by rw [sp_s10_e, hr] at *; (repeat' split) <;> first | rfl | omega) rfl)
    · skip
      rw [hq]
      refine fr_il3 dX11_common_13 ?_
      refine fr_if_eq (tgt := 30) dX11_common_14 (by decide) (by decide) (fun h42 => absurd h42 (by decide)) (fun _ => ?_)
      refine fr_il2 dX11_common_17 ?_
      refine fr_il3 dX11_common_18 ?_
      refine fr_irem dX11_common_19 (by decide) (by decide) (by decide) ?_
      refine fr_is4 dX11_common_20 rfl (Nat.le_of_ble_eq_true rfl) ?_
      refine fr_il3 dX11_common_22 ?_
      refine fr_is2 dX11_common_23 rfl (Nat.le_of_ble_eq_true rfl) ?_
      refine fr_il4 dX11_common_24 ?_
      refine fr_is3 dX11_common_26 rfl (Nat.le_of_ble_eq_true rfl) ?_
      refine fr_goto (tgt := 13) dX11_common_27 (by decide) ?_
      refine fr_il3 dX11_common_13 ?_
      refine fr_if_eq (tgt := 30) dX11_common_14 (by decide) (by decide) (fun _ => ?_) (fun h43 => absurd h43 (by decide))
      refine fr_il2 dX11_common_30 ?_
      exact fr_iret dX11_common_31 rfl (fr_e (by rw [sp_s10_e, hr] at *; (repeat' split) <;> first | rfl | omega) rfl)
    · skip
      rw [hq]
      refine fr_il3 dX11_common_13 ?_
      refine fr_if_eq (tgt := 30) dX11_common_14 (by decide) (by decide) (fun h44 => absurd h44 (by decide)) (fun _ => ?_)
      refine fr_il2 dX11_common_17 ?_
      refine fr_il3 dX11_common_18 ?_
      refine fr_irem dX11_common_19 (by decide) (by decide) (by decide) ?_
      refine fr_is4 dX11_common_20 rfl (Nat.le_of_ble_eq_true rfl) ?_
      refine fr_il3 dX11_common_22 ?_
      refine fr_is2 dX11_common_23 rfl (Nat.le_of_ble_eq_true rfl) ?_
      refine fr_il4 dX11_common_24 ?_
      refine fr_is3 dX11_common_26 rfl (Nat.le_of_ble_eq_true rfl) ?_
      refine fr_goto (tgt := 13) dX11_common_27 (by decide) ?_
      refine fr_il3 dX11_common_13 ?_
      refine fr_if_eq (tgt := 30) dX11_common_14 (by decide) (by decide) (fun h45 => absurd h45 (by decide)) (fun _ => ?_)
      refine fr_il2 dX11_common_17 ?_
      refine fr_il3 dX11_common_18 ?_
      refine fr_irem dX11_common_19 (by decide) (by decide) (by decide) ?_
      refine fr_is4 dX11_common_20 rfl (Nat.le_of_ble_eq_true rfl) ?_
      refine fr_il3 dX11_common_22 ?_
      refine fr_is2 dX11_common_23 rfl (Nat.le_of_ble_eq_true rfl) ?_
      refine fr_il4 dX11_common_24 ?_
      refine fr_is3 dX11_common_26 rfl (Nat.le_of_ble_eq_true rfl) ?_
      refine fr_goto (tgt := 13) dX11_common_27 (by decide) ?_
      refine fr_il3 dX11_common_13 ?_
      refine fr_if_eq (tgt := 30) dX11_common_14 (by decide) (by decide) (fun h46 => absurd h46 (by decide)) (fun _ => ?_)
      refine fr_il2 dX11_common_17 ?_
      refine fr_il3 dX11_common_18 ?_
      refine fr_irem dX11_common_19 (by decide) (by decide) (by decide) ?_
      refine fr_is4 dX11_common_20 rfl (Nat.le_of_ble_eq_true rfl) ?_
      refine fr_il3 dX11_common_22 ?_
      refine fr_is2 dX11_common_23 rfl (Nat.le_of_ble_eq_true rfl) ?_
      refine fr_il4 dX11_common_24 ?_
      refine fr_is3 dX11_common_26 rfl (Nat.le_of_ble_eq_true rfl) ?_
      refine fr_goto (tgt := 13) dX11_common_27 (by decide) ?_
      refine fr_il3 dX11_common_13 ?_
      refine fr_if_eq (tgt := 30) dX11_common_14 (by decide) (by decide) (fun _ => ?_) (fun h47 => absurd h47 (by decide))
      refine fr_il2 dX11_common_30 ?_
      exact fr_iret dX11_common_31 rfl (fr_e (by rw [sp_s10_e, hr] at *; (repeat' split) <;> first | rfl | omega) rfl)
    · skip
      rw [hq]
      refine fr_il3 dX11_common_13 ?_
      refine fr_if_eq (tgt := 30) dX11_common_14 (by decide) (by decide) (fun h48 => absurd h48 (by decide)) (fun _ => ?_)
      refine fr_il2 dX11_common_17 ?_
      refine fr_il3 dX11_common_18 ?_
      refine fr_irem dX11_common_19 (by decide) (by decide) (by decide) ?_
      refine fr_is4 dX11_common_20 rfl (Nat.le_of_ble_eq_true rfl) ?_
      refine fr_il3 dX11_common_22 ?_
      refine fr_is2 dX11_common_23 rfl (Nat.le_of_ble_eq_true rfl) ?_
      refine fr_il4 dX11_common_24 ?_
      refine fr_is3 dX11_common_26 rfl (Nat.le_of_ble_eq_true rfl) ?_
      refine fr_goto (tgt := 13) dX11_common_27 (by decide) ?_
      refine fr_il3 dX11_common_13 ?_
      refine fr_if_eq (tgt := 30) dX11_common_14 (by decide) (by decide) (fun h49 => absurd h49 (by decide)) (fun _ => ?_)
      refine fr_il2 dX11_common_17 ?_
      refine fr_il3 dX11_common_18 ?_
      refine fr_irem dX11_common_19 (by decide) (by decide) (by decide) ?_
      refine fr_is4 dX11_common_20 rfl (Nat.le_of_ble_eq_true rfl) ?_
      refine fr_il3 dX11_common_22 ?_
      refine fr_is2 dX11_common_23 rfl (Nat.le_of_ble_eq_true rfl) ?_
      refine fr_il4 dX11_common_24 ?_
      refine fr_is3 dX11_common_26 rfl (Nat.le_of_ble_eq_true rfl) ?_
      refine fr_goto (tgt := 13) dX11_common_27 (by decide) ?_
      refine fr_il3 dX11_common_13 ?_
      refine fr_if_eq (tgt := 30) dX11_common_14 (by decide) (by decide) (fun h50 => absurd h50 (by decide)) (fun _ => ?_)
      refine fr_il2 dX11_common_17 ?_
      refine fr_il3 dX11_common_18 ?_
      refine fr_irem dX11_common_19 (by decide) (by decide) (by decide) ?_
      refine fr_is4 dX11_common_20 rfl (Nat.le_of_ble_eq_true rfl) ?_
      refine fr_il3 dX11_common_22 ?_
      refine fr_is2 dX11_common_23 rfl (Nat.le_of_ble_eq_true rfl) ?_
      refine fr_il4 dX11_common_24 ?_
      refine fr_is3 dX11_common_26 rfl (Nat.le_of_ble_eq_true rfl) ?_
      refine fr_goto (tgt := 13) dX11_common_27 (by decide) ?_
      refine fr_il3 dX11_common_13 ?_
      refine fr_if_eq (tgt := 30) dX11_common_14 (by decide) (by decide) (fun _ => ?_) (fun h51 => absurd h51 (by decide))
      refine fr_il2 dX11_common_30 ?_
      exact fr_iret dX11_common_31 rfl (fr_e (by rw [sp_s10_e, hr] at *; (repeat' split) <;> first | rfl | omega) rfl)
    · skip
      rw [hq]
      refine fr_il3 dX11_common_13 ?_
      refine fr_if_eq (tgt := 30) dX11_common_14 (by decide) (by decide) (fun h52 => absurd h52 (by decide)) (fun _ => ?_)
      refine fr_il2 dX11_common_17 ?_
      refine fr_il3 dX11_common_18 ?_
      refine fr_irem dX11_common_19 (by decide) (by decide) (by decide) ?_
      refine fr_is4 dX11_common_20 rfl (Nat.le_of_ble_eq_true rfl) ?_
      refine fr_il3 dX11_common_22 ?_
      refine fr_is2 dX11_common_23 rfl (Nat.le_of_ble_eq_true rfl) ?_
      refine fr_il4 dX11_common_24 ?_
      refine fr_is3 dX11_common_26 rfl (Nat.le_of_ble_eq_true rfl) ?_
      refine fr_goto (tgt := 13) dX11_common_27 (by decide) ?_
      refine fr_il3 dX11_common_13 ?_
      refine fr_if_eq (tgt := 30) dX11_common_14 (by decide) (by decide) (fun h53 => absurd h53 (by decide)) (fun _ => ?_)
      refine fr_il2 dX11_common_17 ?_
      refine fr_il3 dX11_common_18 ?_
      refine fr_irem dX11_common_19 (by decide) (by decide) (by decide) ?_
      refine fr_is4 dX11_common_20 rfl (Nat.le_of_ble_eq_true rfl) ?_
      refine fr_il3 dX11_common_22 ?_
      refine fr_is2 dX11_common_23 rfl (Nat.le_of_ble_eq_true rfl) ?_
      refine fr_il4 dX11_common_24 ?_
      refine fr_is3 dX11_common_26 rfl (Nat.le_of_ble_eq_true rfl) ?_
      refine fr_goto (tgt := 13) dX11_common_27 (by decide) ?_
      refine fr_il3 dX11_common_13 ?_
      refine fr_if_eq (tgt := 30) dX11_common_14 (by decide) (by decide) (fun _ => ?_) (fun h54 => absurd h54 (by decide))
      refine fr_il2 dX11_common_30 ?_
      exact fr_iret dX11_common_31 rfl (fr_e (by rw [sp_s10_e, hr] at *; (repeat' split) <;> first | rfl | omega) rfl)
    · skip
      rw [hq]
      refine fr_il3 dX11_common_13 ?_
      refine fr_if_eq (tgt := 30) dX11_common_14 (by decide) (by decide) (fun h55 => absurd h55 (by decide)) (fun _ => ?_)
      refine fr_il2 dX11_common_17 ?_
      refine fr_il3 dX11_common_18 ?_
      refine fr_irem dX11_common_19 (by decide) (by decide) (by decide) ?_
      refine fr_is4 dX11_common_20 rfl (Nat.le_of_ble_eq_true rfl) ?_
      refine fr_il3 dX11_common_22 ?_
      refine fr_is2 dX11_common_23 rfl (Nat.le_of_ble_eq_true rfl) ?_
      refine fr_il4 dX11_common_24 ?_
      refine fr_is3 dX11_common_26 rfl (Nat.le_of_ble_eq_true rfl) ?_
      refine fr_goto (tgt := 13) dX11_common_27 (by decide) ?_
      refine fr_il3 dX11_common_13 ?_
      refine fr_if_eq (tgt := 30) dX11_common_14 (by decide) (by decide) (fun h56 => absurd h56 (by decide)) (fun _ => ?_)
      refine fr_il2 dX11_common_17 ?_
      refine fr_il3 dX11_common_18 ?_
      refine fr_irem dX11_common_19 (by decide) (by decide) (by decide) ?_
      refine fr_is4 dX11_common_20 rfl (Nat.le_of_ble_eq_true rfl) ?_
      refine fr_il3 dX11_common_22 ?_
      refine fr_is2 dX11_common_23 rfl (Nat.le_of_ble_eq_true rfl) ?_
      refine fr_il4 dX11_common_24 ?_
      refine fr_is3 dX11_common_26 rfl (Nat.le_of_ble_eq_true rfl) ?_
      refine fr_goto (tgt := 13) dX11_common_27 (by decide) ?_
      refine fr_il3 dX11_common_13 ?_
      refine fr_if_eq (tgt := 30) dX11_common_14 (by decide) (by decide) (fun _ => ?_) (fun h57 => absurd h57 (by decide))
      refine fr_il2 dX11_common_30 ?_
      exact fr_iret dX11_common_31 rfl (fr_e (by rw [sp_s10_e, hr] at *; (repeat' split) <;> first | rfl | omega) rfl)
set_option maxRecDepth 20000 in
theorem kcX11_upper {l : Launch} {κ : fr_Ka} {μ : fr_Me} (hI : fr_I (μ 67))  : fr_C l κ fmX11_upper 6 [fr_r κ 66] μ (fr_Ei ((sp_sum (μ 67 0).toNat (sp_ex0 (μ 67))).tdiv (sp_s10 (sp_sum (μ 67 0).toNat (sp_ex0 (μ 67))))) μ) := by
  have iN := hI.n
  have iM := hI.many
  have hr := sp_exs_rg hI
  have hs := sp_s10_rg (sp_sum (μ 67 0).toNat (sp_ex0 (μ 67)))
  refine fr_enter (by decide +kernel) (ls := [some (fr_r κ 66), none]) rfl (Nat.le_of_ble_eq_true rfl) ?_
  refine fr_al0 dX11_upper_0 ?_
  refine fr_cVi (mi' := fmX11_expected) dX11_upper_1 mlX11_223 mvX11_expected ⟨11, _, ⟨by decide, by decide, rfl⟩, rfl, rfl⟩ (Nat.le_of_ble_eq_true rfl) (kcX11_expected hI) rfl rfl (Nat.le_of_ble_eq_true rfl) ?_
  refine fr_is1 dX11_upper_4 rfl (Nat.le_of_ble_eq_true rfl) ?_
  refine fr_il1 dX11_upper_5 ?_
  refine fr_il1 dX11_upper_6 ?_
  refine fr_bipush dX11_upper_7 (by decide) ?_
  refine fr_cSi (mi' := fmX11_common) dX11_upper_9 mlX11_226 msX11_common (Nat.le_of_ble_eq_true rfl) (kcX11_common (by omega)) rfl rfl (Nat.le_of_ble_eq_true rfl) ?_
  refine fr_idiv dX11_upper_12 (by omega) (by omega) (by omega) (by omega) ?_
  exact fr_iret dX11_upper_13 rfl (fr_e rfl rfl)
set_option maxRecDepth 20000 in
theorem kcX11_lower {l : Launch} {κ : fr_Ka} {μ : fr_Me} (hI : fr_I (μ 67))  : fr_C l κ fmX11_lower 6 [fr_r κ 66] μ (fr_Ei ((10 : Int).tdiv (sp_s10 (sp_sum (μ 67 0).toNat (sp_ex0 (μ 67))))) μ) := by
  have iN := hI.n
  have iM := hI.many
  have hr := sp_exs_rg hI
  have hs := sp_s10_rg (sp_sum (μ 67 0).toNat (sp_ex0 (μ 67)))
  refine fr_enter (by decide +kernel) (ls := [some (fr_r κ 66)]) rfl (Nat.le_of_ble_eq_true rfl) ?_
  refine fr_bipush dX11_lower_0 (by decide) ?_
  refine fr_al0 dX11_lower_2 ?_
  refine fr_cVi (mi' := fmX11_expected) dX11_lower_3 mlX11_223 mvX11_expected ⟨11, _, ⟨by decide, by decide, rfl⟩, rfl, rfl⟩ (Nat.le_of_ble_eq_true rfl) (kcX11_expected hI) rfl rfl (Nat.le_of_ble_eq_true rfl) ?_
  refine fr_bipush dX11_lower_6 (by decide) ?_
  refine fr_cSi (mi' := fmX11_common) dX11_lower_8 mlX11_226 msX11_common (Nat.le_of_ble_eq_true rfl) (kcX11_common (by omega)) rfl rfl (Nat.le_of_ble_eq_true rfl) ?_
  refine fr_idiv dX11_lower_11 (by omega) (by omega) (by omega) (by omega) ?_
  exact fr_iret dX11_lower_12 rfl (fr_e rfl rfl)
set_option maxRecDepth 20000 in
theorem kcX11_image {l : Launch} {κ : fr_Ka} {μ : fr_Me} : fr_C l κ fmX11_image 1 [fr_r κ 66] μ (fr_Ei 1 (fr_up (sp_cpy μ 67 0 67 77 77) 66 1 1)) := by
  refine fr_enter (by decide +kernel) (ls := [some (fr_r κ 66), none]) rfl (Nat.le_of_ble_eq_true rfl) ?_
  refine fr_iconst dX11_image_0 ?_
  refine fr_is1 dX11_image_1 rfl (Nat.le_of_ble_eq_true rfl) ?_
  refine fr_mu (sp_cpy_0 μ 67 0 67 77) ?_
  refine fr_wk ?_ (ls := [some (fr_r κ 66), some (fr_i (0 : Int))]) ⟨rfl, rfl, trivial⟩
  refine fr_down (P := fun j : Nat => fr_A l κ fmX11_image 1 (fr_Ei 1 (fr_up (sp_cpy μ 67 0 67 77 77) 66 1 1)) 2 [some (fr_r κ 66), some (fr_i (j : Int))] [] (sp_cpy μ 67 0 67 77 (j : Int))) 77 ?_ (fun j hj2 ih2 => ?_)
  · skip
    refine fr_il1 dX11_image_2 ?_
    refine fr_bipush dX11_image_3 (by decide) ?_
    refine fr_icmp_ge (tgt := 29) dX11_image_5 (by decide) (by omega) (by omega) (fun h1 => ?_) (fun h1 => ?_)
    · skip
      refine fr_al0 dX11_image_29 ?_
      refine fr_iconst dX11_image_30 ?_
      refine fr_put (kz := 1) dX11_image_31 fpX11_229 ⟨by decide, by decide, rfl⟩ rfl rfl (fun _ => Or.inr rfl) ?_
      refine fr_iconst dX11_image_34 ?_
      exact fr_iret dX11_image_35 rfl (fr_e rfl rfl)
    · skip
      exfalso; omega
  · skip
    refine fr_il1 dX11_image_2 ?_
    refine fr_bipush dX11_image_3 (by decide) ?_
    refine fr_icmp_ge (tgt := 29) dX11_image_5 (by decide) (by omega) (by omega) (fun h2 => ?_) (fun h2 => ?_)
    · skip
      exfalso; omega
    · skip
      refine fr_al0 dX11_image_8 ?_
      refine fr_getr (cz := 67) dX11_image_9 flX11_7 ⟨by decide, by decide, rfl⟩ rfl rfl ?_
      refine fr_bipush dX11_image_12 (by decide) ?_
      refine fr_il1 dX11_image_14 ?_
      refine fr_iadd dX11_image_15 ?_
      refine fr_al0 dX11_image_16 ?_
      refine fr_getr (cz := 67) dX11_image_17 flX11_7 ⟨by decide, by decide, rfl⟩ rfl rfl ?_
      refine fr_il1 dX11_image_20 ?_
      refine fr_iald dX11_image_21 ⟨by decide, by decide, rfl, by decide⟩ (by omega) (by omega) ?_
      refine fr_iast dX11_image_22 ⟨by decide, by decide, rfl, by decide⟩ (by omega) (by omega) ?_
      refine fr_ii1 dX11_image_23 rfl (Nat.le_of_ble_eq_true rfl) ?_
      refine fr_goto (tgt := 2) dX11_image_26 (by decide) ?_
      refine fr_mu ?_ ?_ (μ' := sp_cpy μ 67 0 67 77 ((j : Int) + 1))
      · rw [← sp_cpy_s μ 67 0 67 77 (by omega : (0 : Int) ≤ j)]; congr 1; simp only [sp_cpy]; rw [if_neg (by omega), Int.zero_add]
      exact fr_wk (ih2) ⟨rfl, rfl, trivial⟩
set_option maxRecDepth 20000 in
theorem kcX11_restore {l : Launch} {κ : fr_Ka} {μ : fr_Me} (hk : 0 ≤ μ 66 1 ∧ μ 66 1 ≤ 1) : fr_C l κ fmX11_restore 1 [fr_r κ 66] μ (fr_Pi (fun z m => (μ 66 1 = 0 ∧ z = -4 ∧ m = μ) ∨ (μ 66 1 = 1 ∧ z = 1 ∧ m = sp_cpy μ 67 77 67 0 77))) := by
  refine fr_enter (by decide +kernel) (ls := [some (fr_r κ 66), none]) rfl (Nat.le_of_ble_eq_true rfl) ?_
  refine fr_al0 dX11_restore_0 ?_
  refine fr_geti (kz := 1) dX11_restore_1 flX11_229 ⟨by decide, by decide, rfl⟩ rfl rfl ?_
  refine fr_if_ne (tgt := 10) dX11_restore_4 (by decide) (by omega) (fun h1 => ?_) (fun h1 => ?_)
  · skip
    refine fr_iconst dX11_restore_10 ?_
    refine fr_is1 dX11_restore_11 rfl (Nat.le_of_ble_eq_true rfl) ?_
    refine fr_mu (sp_cpy_0 μ 67 77 67 0) ?_
    refine fr_wk ?_ (ls := [some (fr_r κ 66), some (fr_i (0 : Int))]) ⟨rfl, rfl, trivial⟩
    refine fr_down (P := fun j : Nat => fr_A l κ fmX11_restore 1 (fr_Pi (fun z m => (μ 66 1 = 0 ∧ z = -4 ∧ m = μ) ∨ (μ 66 1 = 1 ∧ z = 1 ∧ m = sp_cpy μ 67 77 67 0 77))) 12 [some (fr_r κ 66), some (fr_i (j : Int))] [] (sp_cpy μ 67 77 67 0 (j : Int))) 77 ?_ (fun j hj12 ih12 => ?_)
    · skip
      refine fr_il1 dX11_restore_12 ?_
      refine fr_bipush dX11_restore_13 (by decide) ?_
      refine fr_icmp_ge (tgt := 39) dX11_restore_15 (by decide) (by omega) (by omega) (fun h2 => ?_) (fun h2 => ?_)
      · skip
        refine fr_iconst dX11_restore_39 ?_
        exact fr_iret dX11_restore_40 rfl (fr_pi (by first | exact Or.inl ⟨by omega, rfl, rfl⟩ | exact Or.inr ⟨by omega, rfl, rfl⟩))
      · skip
        exfalso; omega
    · skip
      refine fr_il1 dX11_restore_12 ?_
      refine fr_bipush dX11_restore_13 (by decide) ?_
      refine fr_icmp_ge (tgt := 39) dX11_restore_15 (by decide) (by omega) (by omega) (fun h3 => ?_) (fun h3 => ?_)
      · skip
        exfalso; omega
      · skip
        refine fr_al0 dX11_restore_18 ?_
        refine fr_getr (cz := 67) dX11_restore_19 flX11_7 ⟨by decide, by decide, rfl⟩ rfl rfl ?_
        refine fr_il1 dX11_restore_22 ?_
        refine fr_al0 dX11_restore_23 ?_
        refine fr_getr (cz := 67) dX11_restore_24 flX11_7 ⟨by decide, by decide, rfl⟩ rfl rfl ?_
        refine fr_bipush dX11_restore_27 (by decide) ?_
        refine fr_il1 dX11_restore_29 ?_
        refine fr_iadd dX11_restore_30 ?_
        refine fr_iald dX11_restore_31 ⟨by decide, by decide, rfl, by decide⟩ (by omega) (by omega) ?_
        refine fr_iast dX11_restore_32 ⟨by decide, by decide, rfl, by decide⟩ (by omega) (by omega) ?_
        refine fr_ii1 dX11_restore_33 rfl (Nat.le_of_ble_eq_true rfl) ?_
        refine fr_goto (tgt := 12) dX11_restore_36 (by decide) ?_
        refine fr_mu ?_ ?_ (μ' := sp_cpy μ 67 77 67 0 ((j : Int) + 1))
        · rw [← sp_cpy_s μ 67 77 67 0 (by omega : (0 : Int) ≤ j), Int.zero_add]; congr 1; simp only [sp_cpy]; rw [if_neg (by omega)]
        exact fr_wk (ih12) ⟨rfl, rfl, trivial⟩
  · skip
    refine fr_bipush dX11_restore_7 (by decide) ?_
    exact fr_iret dX11_restore_9 rfl (fr_pi (by first | exact Or.inl ⟨by omega, rfl, rfl⟩ | exact Or.inr ⟨by omega, rfl, rfl⟩))
set_option maxRecDepth 20000 in
theorem kcX11_isSheet {l : Launch} {κ : fr_Ka} {μ : fr_Me} {v : Int} (rv : -2147483648 ≤ v ∧ v ≤ 2147483647) : fr_C l κ fmX11_isSheet 2 [fr_i v] μ (fr_Ei (fr_b (0 ≤ v ∧ v ≤ 3)) μ) := by
  refine fr_enter (by decide +kernel) (ls := [some (fr_i v)]) rfl (Nat.le_of_ble_eq_true rfl) ?_
  refine fr_il0 dX11_isSheet_0 ?_
  refine fr_i2l dX11_isSheet_1 (by omega) ?_
  refine fr_lconst0 dX11_isSheet_2 ?_
  refine fr_ldc2 dX11_isSheet_3 clX11_55 ?_
  refine fr_cSi (mi' := fmX11_in) dX11_isSheet_6 mlX11_51 msX11_in (Nat.le_of_ble_eq_true rfl) (kcX11_in (by omega) (by omega) (by omega)) rfl rfl (Nat.le_of_ble_eq_true rfl) ?_
  exact fr_zret dX11_isSheet_9 rfl (fr_b01 _) (fr_e rfl rfl)
set_option maxRecDepth 20000 in
theorem kcX11_isLane {l : Launch} {κ : fr_Ka} {μ : fr_Me} {v : Int} (rv : -2147483648 ≤ v ∧ v ≤ 2147483647) : fr_C l κ fmX11_isLane 2 [fr_i v] μ (fr_Ei (fr_b (0 ≤ v ∧ v ≤ 3)) μ) := by
  refine fr_enter (by decide +kernel) (ls := [some (fr_i v)]) rfl (Nat.le_of_ble_eq_true rfl) ?_
  refine fr_il0 dX11_isLane_0 ?_
  refine fr_i2l dX11_isLane_1 (by omega) ?_
  refine fr_lconst0 dX11_isLane_2 ?_
  refine fr_ldc2 dX11_isLane_3 clX11_55 ?_
  refine fr_cSi (mi' := fmX11_in) dX11_isLane_6 mlX11_51 msX11_in (Nat.le_of_ble_eq_true rfl) (kcX11_in (by omega) (by omega) (by omega)) rfl rfl (Nat.le_of_ble_eq_true rfl) ?_
  exact fr_zret dX11_isLane_9 rfl (fr_b01 _) (fr_e rfl rfl)
set_option maxRecDepth 20000 in
theorem kcX11_bars {l : Launch} {κ : fr_Ka} {μ : fr_Me} (hS : fr_Sh μ) {s lane i n : Int} (hs4 : 0 ≤ s ∧ s ≤ 3) (rlane : -2147483648 ≤ lane ∧ lane ≤ 2147483647) (ri : -2147483648 ≤ i ∧ i ≤ 2147483647) (rn : -2147483648 ≤ n ∧ n ≤ 2147483647) : fr_C l κ fmX11_bars 1 [fr_r κ 66, fr_i s, fr_i lane, fr_i i, fr_i n] μ (fr_Ei (sp_bars (μ 75 s) (μ 76 s) lane i n) μ) := by
  have hs := hS.1 s (by omega) (by omega)
  refine fr_enter (by decide +kernel) (ls := [some (fr_r κ 66), some (fr_i s), some (fr_i lane), some (fr_i i), some (fr_i n)]) rfl (Nat.le_of_ble_eq_true rfl) ?_
  refine fr_al0 dX11_bars_0 ?_
  refine fr_getr (cz := 75) dX11_bars_1 flX11_35 ⟨by decide, by decide, rfl⟩ rfl rfl ?_
  refine fr_il1 dX11_bars_4 ?_
  refine fr_iald dX11_bars_5 ⟨by decide, by decide, rfl, by decide⟩ (by omega) (by omega) ?_
  refine fr_if_ge (tgt := 14) dX11_bars_6 (by decide) (by omega) (fun h1 => ?_) (fun h1 => ?_)
  · skip
    refine fr_al0 dX11_bars_14 ?_
    refine fr_getr (cz := 75) dX11_bars_15 flX11_35 ⟨by decide, by decide, rfl⟩ rfl rfl ?_
    refine fr_il1 dX11_bars_18 ?_
    refine fr_iald dX11_bars_19 ⟨by decide, by decide, rfl, by decide⟩ (by omega) (by omega) ?_
    refine fr_il2 dX11_bars_20 ?_
    refine fr_icmp_eq (tgt := 29) dX11_bars_21 (by decide) (by omega) (by omega) (fun h2 => ?_) (fun h2 => ?_)
    · skip
      refine fr_il3 dX11_bars_29 ?_
      refine fr_if_lt (tgt := 55) dX11_bars_30 (by decide) (by omega) (fun h3 => ?_) (fun h3 => ?_)
      · skip
        refine fr_bipush dX11_bars_55 (by decide) ?_
        refine fr_goto (tgt := 61) dX11_bars_57 (by decide) ?_
        exact fr_iret dX11_bars_61 rfl (fr_e (by unfold sp_bars; (repeat' split) <;> first | rfl | omega) rfl)
      · skip
        refine fr_il4 dX11_bars_33 ?_
        refine fr_if_lt (tgt := 55) dX11_bars_35 (by decide) (by omega) (fun h4 => ?_) (fun h4 => ?_)
        · skip
          refine fr_bipush dX11_bars_55 (by decide) ?_
          refine fr_goto (tgt := 61) dX11_bars_57 (by decide) ?_
          exact fr_iret dX11_bars_61 rfl (fr_e (by unfold sp_bars; (repeat' split) <;> first | rfl | omega) rfl)
        · skip
          refine fr_il3 dX11_bars_38 ?_
          refine fr_i2l dX11_bars_39 (by omega) ?_
          refine fr_il4 dX11_bars_40 ?_
          refine fr_i2l dX11_bars_42 (by omega) ?_
          refine fr_ladd dX11_bars_43 ?_
          refine fr_al0 dX11_bars_44 ?_
          refine fr_getr (cz := 76) dX11_bars_45 flX11_38 ⟨by decide, by decide, rfl⟩ rfl rfl ?_
          refine fr_il1 dX11_bars_48 ?_
          refine fr_iald dX11_bars_49 ⟨by decide, by decide, rfl, by decide⟩ (by omega) (by omega) ?_
          refine fr_i2l dX11_bars_50 (by omega) ?_
          refine fr_lcmpR dX11_bars_51 (by omega) (by omega) ?_
          refine fr_if_le (tgt := 60) dX11_bars_52 (by decide) (by omega) (fun h5 => ?_) (fun h5 => ?_)
          · skip
            refine fr_iconst dX11_bars_60 ?_
            exact fr_iret dX11_bars_61 rfl (fr_e (by unfold sp_bars; (repeat' split) <;> first | rfl | omega) rfl)
          · skip
            refine fr_bipush dX11_bars_55 (by decide) ?_
            refine fr_goto (tgt := 61) dX11_bars_57 (by decide) ?_
            exact fr_iret dX11_bars_61 rfl (fr_e (by unfold sp_bars; (repeat' split) <;> first | rfl | omega) rfl)
    · skip
      refine fr_bipush dX11_bars_24 (by decide) ?_
      refine fr_goto (tgt := 61) dX11_bars_26 (by decide) ?_
      exact fr_iret dX11_bars_61 rfl (fr_e (by unfold sp_bars; (repeat' split) <;> first | rfl | omega) rfl)
  · skip
    refine fr_bipush dX11_bars_9 (by decide) ?_
    refine fr_goto (tgt := 61) dX11_bars_11 (by decide) ?_
    exact fr_iret dX11_bars_61 rfl (fr_e (by unfold sp_bars; (repeat' split) <;> first | rfl | omega) rfl)
set_option maxRecDepth 20000 in
theorem kcX11_cutTo {l : Launch} {κ : fr_Ka} {μ : fr_Me} {lane v : Int} (rlane : -2147483648 ≤ lane ∧ lane ≤ 2147483647) : fr_C l κ fmX11_cutTo 1 [fr_i lane, fr_j v] μ (fr_Ej (sp_cutl lane v) μ) := by
  have q8 := fr_bm8 v
  have q16 := fr_bm16 v
  have q32 := fr_bm32 v
  refine fr_enter (by decide +kernel) (ls := [some (fr_i lane), some (fr_j v), none]) rfl (Nat.le_of_ble_eq_true rfl) ?_
  refine fr_il0 dX11_cutTo_0 ?_
  refine fr_if_ne (tgt := 11) dX11_cutTo_1 (by decide) (by omega) (fun h1 => ?_) (fun h1 => ?_)
  · skip
    refine fr_il0 dX11_cutTo_11 ?_
    refine fr_iconst dX11_cutTo_12 ?_
    refine fr_icmp_ne (tgt := 23) dX11_cutTo_13 (by decide) (by omega) (by omega) (fun h2 => ?_) (fun h2 => ?_)
    · skip
      refine fr_il0 dX11_cutTo_23 ?_
      refine fr_iconst dX11_cutTo_24 ?_
      refine fr_icmp_ne (tgt := 34) dX11_cutTo_25 (by decide) (by omega) (by omega) (fun h3 => ?_) (fun h3 => ?_)
      · skip
        refine fr_ll1 dX11_cutTo_34 ?_
        exact fr_lret dX11_cutTo_35 rfl (fr_ej (by unfold sp_cutl; (repeat' split) <;> first | rfl | omega) rfl)
      · skip
        refine fr_ll1 dX11_cutTo_28 ?_
        refine fr_l2iB dX11_cutTo_29 ?_
        refine fr_i2l dX11_cutTo_30 (by omega) ?_
        refine fr_goto (tgt := 35) dX11_cutTo_31 (by decide) ?_
        exact fr_lret dX11_cutTo_35 rfl (fr_ej (by unfold sp_cutl; (repeat' split) <;> first | rfl | omega) rfl)
    · skip
      refine fr_ll1 dX11_cutTo_16 ?_
      refine fr_l2i dX11_cutTo_17 ?_
      refine fr_i2s dX11_cutTo_18 ?_
      refine fr_i2l dX11_cutTo_19 (by omega) ?_
      refine fr_goto (tgt := 35) dX11_cutTo_20 (by decide) ?_
      exact fr_lret dX11_cutTo_35 rfl (fr_ej (by unfold sp_cutl; (repeat' split) <;> first | rfl | omega) rfl)
  · skip
    refine fr_ll1 dX11_cutTo_4 ?_
    refine fr_l2i dX11_cutTo_5 ?_
    refine fr_i2b dX11_cutTo_6 ?_
    refine fr_i2l dX11_cutTo_7 (by omega) ?_
    refine fr_goto (tgt := 35) dX11_cutTo_8 (by decide) ?_
    exact fr_lret dX11_cutTo_35 rfl (fr_ej (by unfold sp_cutl; (repeat' split) <;> first | rfl | omega) rfl)
set_option maxRecDepth 20000 in
theorem kcX11_itemAt {l : Launch} {κ : fr_Ka} {μ : fr_Me} {s k : Int} (hk : 0 ≤ s ∧ s ≤ 3 ∧ 0 ≤ k ∧ k < 16) : fr_C l κ fmX11_itemAt 1 [fr_r κ 66, fr_i s, fr_i k] μ (fr_Ej (μ 77 (16 * s + k)) μ) := by
  refine fr_enter (by decide +kernel) (ls := [some (fr_r κ 66), some (fr_i s), some (fr_i k)]) rfl (Nat.le_of_ble_eq_true rfl) ?_
  refine fr_al0 dX11_itemAt_0 ?_
  refine fr_getr (cz := 77) dX11_itemAt_1 flX11_41 ⟨by decide, by decide, rfl⟩ rfl rfl ?_
  refine fr_bipush dX11_itemAt_4 (by decide) ?_
  refine fr_il1 dX11_itemAt_6 ?_
  refine fr_imul dX11_itemAt_7 ?_
  refine fr_il2 dX11_itemAt_8 ?_
  refine fr_iadd dX11_itemAt_9 ?_
  refine fr_lald dX11_itemAt_10 ⟨by decide, by decide, rfl, by decide⟩ (by omega) (by omega) ?_
  exact fr_lret dX11_itemAt_11 rfl (fr_ej rfl rfl)
set_option maxRecDepth 20000 in
theorem kcX11_wanted {l : Launch} {κ : fr_Ka} {μ : fr_Me} (hS : fr_Sh μ) {s k : Int} (hk : 0 ≤ s ∧ s ≤ 3 ∧ 0 ≤ k ∧ k < 16) : fr_C l κ fmX11_wanted 2 [fr_r κ 66, fr_i s, fr_i k] μ (fr_Ej (if μ 77 (16 * s + k) < 0 then 0 else μ 77 (16 * s + k)) μ) := by
  have hj := hS.2 (16 * s + k) (by omega) (by omega)
  refine fr_enter (by decide +kernel) (ls := [some (fr_r κ 66), some (fr_i s), some (fr_i k)]) rfl (Nat.le_of_ble_eq_true rfl) ?_
  refine fr_al0 dX11_wanted_0 ?_
  refine fr_il1 dX11_wanted_1 ?_
  refine fr_il2 dX11_wanted_2 ?_
  refine fr_cVj (mi' := fmX11_itemAt) dX11_wanted_3 mlX11_233 mvX11_itemAt ⟨11, _, ⟨by decide, by decide, rfl⟩, rfl, rfl⟩ (Nat.le_of_ble_eq_true rfl) (kcX11_itemAt (by omega)) rfl rfl (Nat.le_of_ble_eq_true rfl) ?_
  refine fr_lconst0 dX11_wanted_6 ?_
  refine fr_lcmpR dX11_wanted_7 (by omega) (by omega) ?_
  refine fr_if_ge (tgt := 15) dX11_wanted_8 (by decide) (by omega) (fun h1 => ?_) (fun h1 => ?_)
  · skip
    refine fr_al0 dX11_wanted_15 ?_
    refine fr_il1 dX11_wanted_16 ?_
    refine fr_il2 dX11_wanted_17 ?_
    refine fr_cVj (mi' := fmX11_itemAt) dX11_wanted_18 mlX11_233 mvX11_itemAt ⟨11, _, ⟨by decide, by decide, rfl⟩, rfl, rfl⟩ (Nat.le_of_ble_eq_true rfl) (kcX11_itemAt (by omega)) rfl rfl (Nat.le_of_ble_eq_true rfl) ?_
    exact fr_lret dX11_wanted_21 rfl (fr_ej (by (repeat' split) <;> first | rfl | omega) rfl)
  · skip
    refine fr_lconst0 dX11_wanted_11 ?_
    refine fr_goto (tgt := 21) dX11_wanted_12 (by decide) ?_
    exact fr_lret dX11_wanted_21 rfl (fr_ej (by (repeat' split) <;> first | rfl | omega) rfl)
set_option maxRecDepth 20000 in
theorem kcX11_film {l : Launch} {κ : fr_Ka} {μ : fr_Me} (hI : fr_I (μ 67)) (hS : fr_Sh μ) {s lane i : Int} (rs : -2147483648 ≤ s ∧ s ≤ 2147483647) (rlane : -2147483648 ≤ lane ∧ lane ≤ 2147483647) (ri : -2147483648 ≤ i ∧ i ≤ 2147483647) : fr_C l κ fmX11_film 5 [fr_r κ 66, fr_i s, fr_i lane, fr_i i] μ (fr_Pi (fun z m => (¬ ((0 ≤ s ∧ s ≤ 3) ∧ (0 ≤ lane ∧ lane ≤ 3)) ∧ z = -1 ∧ m = μ) ∨ (((0 ≤ s ∧ s ≤ 3) ∧ (0 ≤ lane ∧ lane ≤ 3)) ∧ sp_bars (μ 75 s) (μ 76 s) lane i 10 ≠ 0 ∧ z = sp_bars (μ 75 s) (μ 76 s) lane i 10 ∧ m = μ) ∨ (((0 ≤ s ∧ s ≤ 3) ∧ (0 ≤ lane ∧ lane ≤ 3)) ∧ sp_bars (μ 75 s) (μ 76 s) lane i 10 = 0 ∧ z = 10 ∧ m = sp_flm μ 77 (16 * s + i) 10 (fun f => sp_bask (μ 67) f 0)))) := by
  have iN := hI.n
  have iM := hI.many
  have hbr := sp_bars_rg (μ 75 s) (μ 76 s) lane i 10
  refine fr_enter (by decide +kernel) (ls := [some (fr_r κ 66), some (fr_i s), some (fr_i lane), some (fr_i i), none, none]) rfl (Nat.le_of_ble_eq_true rfl) ?_
  refine fr_il1 dX11_film_0 ?_
  refine fr_cSi (mi' := fmX11_isSheet) dX11_film_1 mlX11_237 msX11_isSheet (Nat.le_of_ble_eq_true rfl) (kcX11_isSheet (by omega)) rfl rfl (Nat.le_of_ble_eq_true rfl) ?_
  refine fr_ifb_eq (tgt := 14) dX11_film_4 (by decide) (fun h1 => ?_) (fun h1 => ?_)
  · skip
    refine fr_iconst dX11_film_14 ?_
    exact fr_iret dX11_film_15 rfl (fr_pi (by first | exact Or.inl ⟨by omega, rfl, rfl⟩ | exact Or.inr (Or.inl ⟨by omega, by assumption, rfl, rfl⟩) | exact Or.inr (Or.inr ⟨by omega, by assumption, rfl, rfl⟩)))
  · skip
    refine fr_il2 dX11_film_7 ?_
    refine fr_cSi (mi' := fmX11_isLane) dX11_film_8 mlX11_240 msX11_isLane (Nat.le_of_ble_eq_true rfl) (kcX11_isLane (by omega)) rfl rfl (Nat.le_of_ble_eq_true rfl) ?_
    refine fr_ifb_ne (tgt := 16) dX11_film_11 (by decide) (fun h2 => ?_) (fun h2 => ?_)
    · skip
      refine fr_al0 dX11_film_16 ?_
      refine fr_il1 dX11_film_17 ?_
      refine fr_il2 dX11_film_18 ?_
      refine fr_il3 dX11_film_19 ?_
      refine fr_bipush dX11_film_20 (by decide) ?_
      refine fr_cVi (mi' := fmX11_bars) dX11_film_22 mlX11_243 mvX11_bars ⟨11, _, ⟨by decide, by decide, rfl⟩, rfl, rfl⟩ (Nat.le_of_ble_eq_true rfl) (kcX11_bars hS (by omega) (by omega) (by omega) (by omega)) rfl rfl (Nat.le_of_ble_eq_true rfl) ?_
      refine fr_is4 dX11_film_25 rfl (Nat.le_of_ble_eq_true rfl) ?_
      refine fr_il4 dX11_film_27 ?_
      refine fr_if_eq (tgt := 35) dX11_film_29 (by decide) (by omega) (fun h3 => ?_) (fun h3 => ?_)
      · skip
        have hb := sp_bars0 h3
        refine fr_iconst dX11_film_35 ?_
        refine fr_is5 dX11_film_36 rfl (Nat.le_of_ble_eq_true rfl) ?_
        have hs := hS.1 s (by omega) (by omega)
        refine fr_mu (sp_flm_0 μ 77 (16 * s + i) (fun f => sp_bask (μ 67) f 0)) ?_
        refine fr_wk ?_ (ls := [some (fr_r κ 66), some (fr_i s), some (fr_i lane), some (fr_i i), some (fr_i (sp_bars (μ 75 s) (μ 76 s) lane i 10)), some (fr_i (0 : Int))]) ⟨rfl, rfl, rfl, rfl, rfl, rfl, trivial⟩
        refine fr_down (P := fun j : Nat => fr_A l κ fmX11_film 5 (fr_Pi (fun z m => (¬ ((0 ≤ s ∧ s ≤ 3) ∧ (0 ≤ lane ∧ lane ≤ 3)) ∧ z = -1 ∧ m = μ) ∨ (((0 ≤ s ∧ s ≤ 3) ∧ (0 ≤ lane ∧ lane ≤ 3)) ∧ sp_bars (μ 75 s) (μ 76 s) lane i 10 ≠ 0 ∧ z = sp_bars (μ 75 s) (μ 76 s) lane i 10 ∧ m = μ) ∨ (((0 ≤ s ∧ s ≤ 3) ∧ (0 ≤ lane ∧ lane ≤ 3)) ∧ sp_bars (μ 75 s) (μ 76 s) lane i 10 = 0 ∧ z = 10 ∧ m = sp_flm μ 77 (16 * s + i) 10 (fun f => sp_bask (μ 67) f 0)))) 38 [some (fr_r κ 66), some (fr_i s), some (fr_i lane), some (fr_i i), some (fr_i (sp_bars (μ 75 s) (μ 76 s) lane i 10)), some (fr_i (j : Int))] [] (sp_flm μ 77 (16 * s + i) (j : Int) (fun f => sp_bask (μ 67) f 0))) 10 ?_ (fun j hj38 ih38 => ?_)
        · skip
          refine fr_il5 dX11_film_38 ?_
          refine fr_bipush dX11_film_40 (by decide) ?_
          refine fr_icmp_ge (tgt := 73) dX11_film_42 (by decide) (by omega) (by omega) (fun h4 => ?_) (fun h4 => ?_)
          · skip
            refine fr_bipush dX11_film_73 (by decide) ?_
            exact fr_iret dX11_film_75 rfl (fr_pi (by first | exact Or.inl ⟨by omega, rfl, rfl⟩ | exact Or.inr (Or.inl ⟨by omega, by assumption, rfl, rfl⟩) | exact Or.inr (Or.inr ⟨by omega, by assumption, rfl, rfl⟩)))
          · skip
            exfalso; omega
        · skip
          have e67 : sp_flm μ 77 (16 * s + i) (j : Int) (fun f => sp_bask (μ 67) f 0) 67 = μ 67 := sp_flm_nc _ _ _ _ (by omega)
          have kr := sp_sum_rg (F := fun t => if (0 : Int) = 0 then sp_now (μ 67) t j else sp_nxt (μ 67) t j (μ 67 (7 + t)) 0) (a := 0) (b := 6) (μ 67 0).toNat (fun u _ _ => by simp only [if_true]; exact sp_bn_rg _ _ _ _ _ _ _)
          have kr2 : 0 ≤ sp_bask (μ 67) j 0 ∧ sp_bask (μ 67) j 0 ≤ 36 := by unfold sp_bask; omega
          refine fr_il5 dX11_film_38 ?_
          refine fr_bipush dX11_film_40 (by decide) ?_
          refine fr_icmp_ge (tgt := 73) dX11_film_42 (by decide) (by omega) (by omega) (fun h5 => ?_) (fun h5 => ?_)
          · skip
            exfalso; omega
          · skip
            refine fr_al0 dX11_film_45 ?_
            refine fr_getr (cz := 77) dX11_film_46 flX11_41 ⟨by decide, by decide, rfl⟩ rfl rfl ?_
            refine fr_bipush dX11_film_49 (by decide) ?_
            refine fr_il1 dX11_film_51 ?_
            refine fr_imul dX11_film_52 ?_
            refine fr_il3 dX11_film_53 ?_
            refine fr_iadd dX11_film_54 ?_
            refine fr_il5 dX11_film_55 ?_
            refine fr_iadd dX11_film_57 ?_
            refine fr_al0 dX11_film_58 ?_
            refine fr_il5 dX11_film_59 ?_
            refine fr_iconst dX11_film_61 ?_
            refine fr_cVi (mi' := fmX11_basketOf) dX11_film_62 mlX11_142 mvX11_basketOf ⟨11, _, ⟨by decide, by decide, rfl⟩, rfl, rfl⟩ (Nat.le_of_ble_eq_true rfl) (kcX11_basketOf (by rw [e67]; exact hI) (by omega) (by omega)) rfl rfl (Nat.le_of_ble_eq_true rfl) ?_
            rw [e67]
            refine fr_i2l dX11_film_65 (by omega) ?_
            refine fr_last dX11_film_66 ⟨by decide, by decide, rfl, by decide⟩ (by omega) (by omega) ?_
            refine fr_ii5 dX11_film_67 rfl (Nat.le_of_ble_eq_true rfl) ?_
            refine fr_goto (tgt := 38) dX11_film_70 (by decide) ?_
            refine fr_mu (sp_flm_s μ 77 (16 * s + i) (fun f => sp_bask (μ 67) f 0) (by omega : (0 : Int) ≤ j)).symm ?_
            exact fr_wk (ih38) ⟨rfl, rfl, rfl, rfl, rfl, rfl, trivial⟩
      · skip
        refine fr_il4 dX11_film_32 ?_
        exact fr_iret dX11_film_34 rfl (fr_pi (by first | exact Or.inl ⟨by omega, rfl, rfl⟩ | exact Or.inr (Or.inl ⟨by omega, by assumption, rfl, rfl⟩) | exact Or.inr (Or.inr ⟨by omega, by assumption, rfl, rfl⟩)))
    · skip
      refine fr_iconst dX11_film_14 ?_
      exact fr_iret dX11_film_15 rfl (fr_pi (by first | exact Or.inl ⟨by omega, rfl, rfl⟩ | exact Or.inr (Or.inl ⟨by omega, by assumption, rfl, rfl⟩) | exact Or.inr (Or.inr ⟨by omega, by assumption, rfl, rfl⟩)))
set_option maxRecDepth 20000 in
theorem kcX11_sheet {l : Launch} {κ : fr_Ka} {μ : fr_Me} {s lane n : Int} (rs : -2147483648 ≤ s ∧ s ≤ 2147483647) (rlane : -2147483648 ≤ lane ∧ lane ≤ 2147483647) (rn : -2147483648 ≤ n ∧ n ≤ 2147483647) : fr_C l κ fmX11_sheet 3 [fr_r κ 66, fr_i s, fr_i lane, fr_i n] μ (fr_Pi (fun z m => (¬ ((0 ≤ s ∧ s ≤ 3) ∧ (0 ≤ lane ∧ lane ≤ 3) ∧ n ≤ 16) ∧ z = -1 ∧ m = μ) ∨ (((0 ≤ s ∧ s ≤ 3) ∧ (0 ≤ lane ∧ lane ≤ 3) ∧ n ≤ 16) ∧ n < 0 ∧ z = -14 ∧ m = μ) ∨ (((0 ≤ s ∧ s ≤ 3) ∧ (0 ≤ lane ∧ lane ≤ 3) ∧ n ≤ 16) ∧ 0 ≤ n ∧ z = n ∧ m = sp_fillo (fr_up (fr_up μ 75 s lane) 76 s n) 77 (16 * s) 16 0))) := by
  refine fr_enter (by decide +kernel) (ls := [some (fr_r κ 66), some (fr_i s), some (fr_i lane), some (fr_i n), none]) rfl (Nat.le_of_ble_eq_true rfl) ?_
  refine fr_il1 dX11_sheet_0 ?_
  refine fr_cSi (mi' := fmX11_isSheet) dX11_sheet_1 mlX11_237 msX11_isSheet (Nat.le_of_ble_eq_true rfl) (kcX11_isSheet (by omega)) rfl rfl (Nat.le_of_ble_eq_true rfl) ?_
  refine fr_ifb_eq (tgt := 20) dX11_sheet_4 (by decide) (fun h1 => ?_) (fun h1 => ?_)
  · skip
    refine fr_iconst dX11_sheet_20 ?_
    exact fr_iret dX11_sheet_21 rfl (fr_pi (by first | exact Or.inl ⟨by omega, rfl, rfl⟩ | exact Or.inr (Or.inl ⟨by omega, by omega, rfl, rfl⟩) | exact Or.inr (Or.inr ⟨by omega, by omega, rfl, rfl⟩)))
  · skip
    refine fr_il2 dX11_sheet_7 ?_
    refine fr_cSi (mi' := fmX11_isLane) dX11_sheet_8 mlX11_240 msX11_isLane (Nat.le_of_ble_eq_true rfl) (kcX11_isLane (by omega)) rfl rfl (Nat.le_of_ble_eq_true rfl) ?_
    refine fr_ifb_eq (tgt := 20) dX11_sheet_11 (by decide) (fun h2 => ?_) (fun h2 => ?_)
    · skip
      refine fr_iconst dX11_sheet_20 ?_
      exact fr_iret dX11_sheet_21 rfl (fr_pi (by first | exact Or.inl ⟨by omega, rfl, rfl⟩ | exact Or.inr (Or.inl ⟨by omega, by omega, rfl, rfl⟩) | exact Or.inr (Or.inr ⟨by omega, by omega, rfl, rfl⟩)))
    · skip
      refine fr_il3 dX11_sheet_14 ?_
      refine fr_bipush dX11_sheet_15 (by decide) ?_
      refine fr_icmp_le (tgt := 22) dX11_sheet_17 (by decide) (by omega) (by omega) (fun h3 => ?_) (fun h3 => ?_)
      · skip
        refine fr_il3 dX11_sheet_22 ?_
        refine fr_if_ge (tgt := 29) dX11_sheet_23 (by decide) (by omega) (fun h4 => ?_) (fun h4 => ?_)
        · skip
          refine fr_al0 dX11_sheet_29 ?_
          refine fr_getr (cz := 75) dX11_sheet_30 flX11_35 ⟨by decide, by decide, rfl⟩ rfl rfl ?_
          refine fr_il1 dX11_sheet_33 ?_
          refine fr_il2 dX11_sheet_34 ?_
          refine fr_iast dX11_sheet_35 ⟨by decide, by decide, rfl, by decide⟩ (by omega) (by omega) ?_
          refine fr_al0 dX11_sheet_36 ?_
          refine fr_getr (cz := 76) dX11_sheet_37 flX11_38 ⟨by decide, by decide, rfl⟩ rfl rfl ?_
          refine fr_il1 dX11_sheet_40 ?_
          refine fr_il3 dX11_sheet_41 ?_
          refine fr_iast dX11_sheet_42 ⟨by decide, by decide, rfl, by decide⟩ (by omega) (by omega) ?_
          refine fr_iconst dX11_sheet_43 ?_
          refine fr_is4 dX11_sheet_44 rfl (Nat.le_of_ble_eq_true rfl) ?_
          refine fr_mu (sp_fillo_0 _ 77 (16 * s) 0) ?_
          refine fr_wk ?_ (ls := [some (fr_r κ 66), some (fr_i s), some (fr_i lane), some (fr_i n), some (fr_i (0 : Int))]) ⟨rfl, rfl, rfl, rfl, rfl, trivial⟩
          refine fr_down (P := fun j : Nat => fr_A l κ fmX11_sheet 3 (fr_Pi (fun z m => (¬ ((0 ≤ s ∧ s ≤ 3) ∧ (0 ≤ lane ∧ lane ≤ 3) ∧ n ≤ 16) ∧ z = -1 ∧ m = μ) ∨ (((0 ≤ s ∧ s ≤ 3) ∧ (0 ≤ lane ∧ lane ≤ 3) ∧ n ≤ 16) ∧ n < 0 ∧ z = -14 ∧ m = μ) ∨ (((0 ≤ s ∧ s ≤ 3) ∧ (0 ≤ lane ∧ lane ≤ 3) ∧ n ≤ 16) ∧ 0 ≤ n ∧ z = n ∧ m = sp_fillo (fr_up (fr_up μ 75 s lane) 76 s n) 77 (16 * s) 16 0))) 46 [some (fr_r κ 66), some (fr_i s), some (fr_i lane), some (fr_i n), some (fr_i (j : Int))] [] (sp_fillo (fr_up (fr_up μ 75 s lane) 76 s n) 77 (16 * s) (j : Int) 0)) 16 ?_ (fun j hj46 ih46 => ?_)
          · skip
            refine fr_il4 dX11_sheet_46 ?_
            refine fr_bipush dX11_sheet_48 (by decide) ?_
            refine fr_icmp_ge (tgt := 72) dX11_sheet_50 (by decide) (by omega) (by omega) (fun h5 => ?_) (fun h5 => ?_)
            · skip
              refine fr_il3 dX11_sheet_72 ?_
              exact fr_iret dX11_sheet_73 rfl (fr_pi (by first | exact Or.inl ⟨by omega, rfl, rfl⟩ | exact Or.inr (Or.inl ⟨by omega, by omega, rfl, rfl⟩) | exact Or.inr (Or.inr ⟨by omega, by omega, rfl, rfl⟩)))
            · skip
              exfalso; omega
          · skip
            refine fr_il4 dX11_sheet_46 ?_
            refine fr_bipush dX11_sheet_48 (by decide) ?_
            refine fr_icmp_ge (tgt := 72) dX11_sheet_50 (by decide) (by omega) (by omega) (fun h6 => ?_) (fun h6 => ?_)
            · skip
              exfalso; omega
            · skip
              refine fr_al0 dX11_sheet_53 ?_
              refine fr_getr (cz := 77) dX11_sheet_54 flX11_41 ⟨by decide, by decide, rfl⟩ rfl rfl ?_
              refine fr_bipush dX11_sheet_57 (by decide) ?_
              refine fr_il1 dX11_sheet_59 ?_
              refine fr_imul dX11_sheet_60 ?_
              refine fr_il4 dX11_sheet_61 ?_
              refine fr_iadd dX11_sheet_63 ?_
              refine fr_lconst0 dX11_sheet_64 ?_
              refine fr_last dX11_sheet_65 ⟨by decide, by decide, rfl, by decide⟩ (by omega) (by omega) ?_
              refine fr_ii4 dX11_sheet_66 rfl (Nat.le_of_ble_eq_true rfl) ?_
              refine fr_goto (tgt := 46) dX11_sheet_69 (by decide) ?_
              refine fr_mu (sp_fillo_s _ 77 (16 * s) 0 (by omega : (0 : Int) ≤ j)).symm ?_
              exact fr_wk (ih46) ⟨rfl, rfl, rfl, rfl, rfl, trivial⟩
        · skip
          refine fr_bipush dX11_sheet_26 (by decide) ?_
          exact fr_iret dX11_sheet_28 rfl (fr_pi (by first | exact Or.inl ⟨by omega, rfl, rfl⟩ | exact Or.inr (Or.inl ⟨by omega, by omega, rfl, rfl⟩) | exact Or.inr (Or.inr ⟨by omega, by omega, rfl, rfl⟩)))
      · skip
        refine fr_iconst dX11_sheet_20 ?_
        exact fr_iret dX11_sheet_21 rfl (fr_pi (by first | exact Or.inl ⟨by omega, rfl, rfl⟩ | exact Or.inr (Or.inl ⟨by omega, by omega, rfl, rfl⟩) | exact Or.inr (Or.inr ⟨by omega, by omega, rfl, rfl⟩)))
set_option maxRecDepth 20000 in
theorem kcX11_drop {l : Launch} {κ : fr_Ka} {μ : fr_Me} (hS : fr_Sh μ) {s : Int} (rs : -2147483648 ≤ s ∧ s ≤ 2147483647) : fr_C l κ fmX11_drop 3 [fr_r κ 66, fr_i s] μ (fr_Pi (fun z m => (¬ (0 ≤ s ∧ s ≤ 3) ∧ z = -1 ∧ m = μ) ∨ ((0 ≤ s ∧ s ≤ 3) ∧ μ 75 s < 0 ∧ z = -11 ∧ m = μ) ∨ ((0 ≤ s ∧ s ≤ 3) ∧ 0 ≤ μ 75 s ∧ z = μ 76 s ∧ m = fr_up μ 75 s (-1)))) := by
  refine fr_enter (by decide +kernel) (ls := [some (fr_r κ 66), some (fr_i s)]) rfl (Nat.le_of_ble_eq_true rfl) ?_
  refine fr_il1 dX11_drop_0 ?_
  refine fr_cSi (mi' := fmX11_isSheet) dX11_drop_1 mlX11_237 msX11_isSheet (Nat.le_of_ble_eq_true rfl) (kcX11_isSheet (by omega)) rfl rfl (Nat.le_of_ble_eq_true rfl) ?_
  refine fr_ifb_ne (tgt := 9) dX11_drop_4 (by decide) (fun h1 => ?_) (fun h1 => ?_)
  · skip
    have hs := hS.1 s (by omega) (by omega)
    refine fr_al0 dX11_drop_9 ?_
    refine fr_getr (cz := 75) dX11_drop_10 flX11_35 ⟨by decide, by decide, rfl⟩ rfl rfl ?_
    refine fr_il1 dX11_drop_13 ?_
    refine fr_iald dX11_drop_14 ⟨by decide, by decide, rfl, by decide⟩ (by omega) (by omega) ?_
    refine fr_if_ge (tgt := 21) dX11_drop_15 (by decide) (by omega) (fun h2 => ?_) (fun h2 => ?_)
    · skip
      refine fr_al0 dX11_drop_21 ?_
      refine fr_getr (cz := 75) dX11_drop_22 flX11_35 ⟨by decide, by decide, rfl⟩ rfl rfl ?_
      refine fr_il1 dX11_drop_25 ?_
      refine fr_iconst dX11_drop_26 ?_
      refine fr_iast dX11_drop_27 ⟨by decide, by decide, rfl, by decide⟩ (by omega) (by omega) ?_
      refine fr_al0 dX11_drop_28 ?_
      refine fr_getr (cz := 76) dX11_drop_29 flX11_38 ⟨by decide, by decide, rfl⟩ rfl rfl ?_
      refine fr_il1 dX11_drop_32 ?_
      refine fr_iald dX11_drop_33 ⟨by decide, by decide, rfl, by decide⟩ (by omega) (by omega) ?_
      exact fr_iret dX11_drop_34 rfl (fr_pi (by first | exact Or.inl ⟨by omega, rfl, rfl⟩ | exact Or.inr (Or.inl ⟨by omega, by omega, rfl, rfl⟩) | exact Or.inr (Or.inr ⟨by omega, by omega, by rw [fr_up_nc _ _ _ (by omega)], rfl⟩)))
    · skip
      refine fr_bipush dX11_drop_18 (by decide) ?_
      exact fr_iret dX11_drop_20 rfl (fr_pi (by first | exact Or.inl ⟨by omega, rfl, rfl⟩ | exact Or.inr (Or.inl ⟨by omega, by omega, rfl, rfl⟩) | exact Or.inr (Or.inr ⟨by omega, by omega, by rw [fr_up_nc _ _ _ (by omega)], rfl⟩)))
  · skip
    refine fr_iconst dX11_drop_7 ?_
    exact fr_iret dX11_drop_8 rfl (fr_pi (by first | exact Or.inl ⟨by omega, rfl, rfl⟩ | exact Or.inr (Or.inl ⟨by omega, by omega, rfl, rfl⟩) | exact Or.inr (Or.inr ⟨by omega, by omega, by rw [fr_up_nc _ _ _ (by omega)], rfl⟩)))
set_option maxRecDepth 20000 in
theorem kcX11_item {l : Launch} {κ : fr_Ka} {μ : fr_Me} (hS : fr_Sh μ) {s lane i v : Int} (rs : -2147483648 ≤ s ∧ s ≤ 2147483647) (rlane : -2147483648 ≤ lane ∧ lane ≤ 2147483647) (ri : -2147483648 ≤ i ∧ i ≤ 2147483647) : fr_C l κ fmX11_item 3 [fr_r κ 66, fr_i s, fr_i lane, fr_i i, fr_j v] μ (fr_Pi (fun z m => (¬ ((0 ≤ s ∧ s ≤ 3) ∧ (0 ≤ lane ∧ lane ≤ 3)) ∧ z = -1 ∧ m = μ) ∨ (((0 ≤ s ∧ s ≤ 3) ∧ (0 ≤ lane ∧ lane ≤ 3)) ∧ sp_bars (μ 75 s) (μ 76 s) lane i 1 ≠ 0 ∧ z = sp_bars (μ 75 s) (μ 76 s) lane i 1 ∧ m = μ) ∨ (((0 ≤ s ∧ s ≤ 3) ∧ (0 ≤ lane ∧ lane ≤ 3)) ∧ sp_bars (μ 75 s) (μ 76 s) lane i 1 = 0 ∧ z = 1 ∧ m = fr_up μ 77 (16 * s + i) (sp_cutl lane v)))) := by
  have hbr := sp_bars_rg (μ 75 s) (μ 76 s) lane i 1
  refine fr_enter (by decide +kernel) (ls := [some (fr_r κ 66), some (fr_i s), some (fr_i lane), some (fr_i i), some (fr_j v), none, none]) rfl (Nat.le_of_ble_eq_true rfl) ?_
  refine fr_il1 dX11_item_0 ?_
  refine fr_cSi (mi' := fmX11_isSheet) dX11_item_1 mlX11_237 msX11_isSheet (Nat.le_of_ble_eq_true rfl) (kcX11_isSheet (by omega)) rfl rfl (Nat.le_of_ble_eq_true rfl) ?_
  refine fr_ifb_eq (tgt := 14) dX11_item_4 (by decide) (fun h1 => ?_) (fun h1 => ?_)
  · skip
    refine fr_iconst dX11_item_14 ?_
    exact fr_iret dX11_item_15 rfl (fr_pi (by first | exact Or.inl ⟨by omega, rfl, rfl⟩ | exact Or.inr (Or.inl ⟨by omega, by assumption, rfl, rfl⟩) | exact Or.inr (Or.inr ⟨by omega, by assumption, rfl, rfl⟩)))
  · skip
    refine fr_il2 dX11_item_7 ?_
    refine fr_cSi (mi' := fmX11_isLane) dX11_item_8 mlX11_240 msX11_isLane (Nat.le_of_ble_eq_true rfl) (kcX11_isLane (by omega)) rfl rfl (Nat.le_of_ble_eq_true rfl) ?_
    refine fr_ifb_ne (tgt := 16) dX11_item_11 (by decide) (fun h2 => ?_) (fun h2 => ?_)
    · skip
      refine fr_al0 dX11_item_16 ?_
      refine fr_il1 dX11_item_17 ?_
      refine fr_il2 dX11_item_18 ?_
      refine fr_il3 dX11_item_19 ?_
      refine fr_iconst dX11_item_20 ?_
      refine fr_cVi (mi' := fmX11_bars) dX11_item_21 mlX11_243 mvX11_bars ⟨11, _, ⟨by decide, by decide, rfl⟩, rfl, rfl⟩ (Nat.le_of_ble_eq_true rfl) (kcX11_bars hS (by omega) (by omega) (by omega) (by omega)) rfl rfl (Nat.le_of_ble_eq_true rfl) ?_
      refine fr_is6 dX11_item_24 rfl (Nat.le_of_ble_eq_true rfl) ?_
      refine fr_il6 dX11_item_26 ?_
      refine fr_if_eq (tgt := 34) dX11_item_28 (by decide) (by omega) (fun h3 => ?_) (fun h3 => ?_)
      · skip
        have hb := sp_bars0 h3
        have hs := hS.1 s (by omega) (by omega)
        refine fr_al0 dX11_item_34 ?_
        refine fr_getr (cz := 77) dX11_item_35 flX11_41 ⟨by decide, by decide, rfl⟩ rfl rfl ?_
        refine fr_bipush dX11_item_38 (by decide) ?_
        refine fr_il1 dX11_item_40 ?_
        refine fr_imul dX11_item_41 ?_
        refine fr_il3 dX11_item_42 ?_
        refine fr_iadd dX11_item_43 ?_
        refine fr_il2 dX11_item_44 ?_
        refine fr_ll4 dX11_item_45 ?_
        refine fr_cSj (mi' := fmX11_cutTo) dX11_item_47 mlX11_276 msX11_cutTo (Nat.le_of_ble_eq_true rfl) (kcX11_cutTo (by omega)) rfl rfl (Nat.le_of_ble_eq_true rfl) ?_
        refine fr_last dX11_item_50 ⟨by decide, by decide, rfl, by decide⟩ (by omega) (by omega) ?_
        refine fr_iconst dX11_item_51 ?_
        exact fr_iret dX11_item_52 rfl (fr_pi (by first | exact Or.inl ⟨by omega, rfl, rfl⟩ | exact Or.inr (Or.inl ⟨by omega, by assumption, rfl, rfl⟩) | exact Or.inr (Or.inr ⟨by omega, by assumption, rfl, rfl⟩)))
      · skip
        refine fr_il6 dX11_item_31 ?_
        exact fr_iret dX11_item_33 rfl (fr_pi (by first | exact Or.inl ⟨by omega, rfl, rfl⟩ | exact Or.inr (Or.inl ⟨by omega, by assumption, rfl, rfl⟩) | exact Or.inr (Or.inr ⟨by omega, by assumption, rfl, rfl⟩)))
    · skip
      refine fr_iconst dX11_item_14 ?_
      exact fr_iret dX11_item_15 rfl (fr_pi (by first | exact Or.inl ⟨by omega, rfl, rfl⟩ | exact Or.inr (Or.inl ⟨by omega, by assumption, rfl, rfl⟩) | exact Or.inr (Or.inr ⟨by omega, by assumption, rfl, rfl⟩)))
