/-! orders by numbers: digits of 6 -/
def sp_p6 : Nat → Int
  | 0 => 1
  | n + 1 => sp_p6 n * 6
theorem sp_p6_rg (n : Nat) (h : n ≤ 6) : 1 ≤ sp_p6 n ∧ sp_p6 n ≤ 46656 := by
  rcases (by omega : n = 0 ∨ n = 1 ∨ n = 2 ∨ n = 3 ∨ n = 4 ∨ n = 5 ∨ n = 6) with h | h | h | h | h | h | h <;> subst h <;> decide
/-- who climbs tree t by the order of this number -/
def sp_dg (N code t : Int) : Int := code / sp_p6 (N - 1 - t).toNat % 6
theorem sp_dg_rg (N code t : Int) : 0 ≤ sp_dg N code t ∧ sp_dg N code t ≤ 5 := by unfold sp_dg; omega
/-- who climbs in the last j trees of N (a set) -/
def sp_cr (o : Int → Int) (N : Int) : Nat → Int
  | 0 => 0
  | j + 1 => if o (N - 1 - j) = 5 then sp_cr o N j else fr_or (sp_cr o N j) (fr_shl 1 (o (N - 1 - j)))
/-- one in a tree, by an order of some climbers, with some trees shut, with those who climb behind it -/
def sp_v1 (w : Int → Int) (set shut t c cl : Int) : Prop := c = 5 ∨ ((0 ≤ c ∧ c < w 43) ∧ sp_in set c ∧ ¬ sp_in (w (37 + t)) c ∧ ¬ sp_in shut t ∧ (¬ sp_in cl c ∨ w (44 + c) = 2))
def sp_vr (w : Int → Int) (set shut : Int) (o : Int → Int) : Nat → Prop
  | 0 => True
  | j + 1 => sp_vr w set shut o j ∧ sp_v1 w set shut (w 0 - 1 - j) (o (w 0 - 1 - j)) (sp_cr o (w 0) j)
theorem sp_vr_le {w : Int → Int} {set shut : Int} {o : Int → Int} {j k : Nat} (h : sp_vr w set shut o k) (hj : j ≤ k) : sp_vr w set shut o j := by
  induction k with
  | zero => rw [show j = 0 by omega]; exact h
  | succ k ih =>
    by_cases he : j = k + 1
    · rw [he]; exact h
    · exact ih h.1 (by omega)
def sp_wg (w : Int → Int) (S : Int) : Int := sp_sum (w 43).toNat (fun c => if fr_and (fr_shr S c) 1 = 1 then w (54 + c) else 0)
def sp_wt (w : Int → Int) (t c : Int) : Int := if c = 5 ∨ (0 ≤ c ∧ c < w 43) then sp_wn w t c 0 else 0
theorem fr_or_small : ∀ a : Fin 32, ∀ c : Fin 5, 0 ≤ fr_or (a : Nat) (fr_shl 1 (c : Nat)) ∧ fr_or (a : Nat) (fr_shl 1 (c : Nat)) ≤ 31 := by decide +kernel
theorem fr_or_rg5 {a c : Int} (ha : 0 ≤ a ∧ a ≤ 31) (hc : 0 ≤ c ∧ c ≤ 4) : 0 ≤ fr_or a (fr_shl 1 c) ∧ fr_or a (fr_shl 1 c) ≤ 31 := by
  have h := fr_or_small ⟨a.toNat, by omega⟩ ⟨c.toNat, by omega⟩
  simp only [Int.toNat_of_nonneg ha.1, Int.toNat_of_nonneg hc.1] at h
  exact h
theorem sp_cr_rg {o : Int → Int} {N : Int} (h : ∀ t, 0 ≤ o t ∧ o t ≤ 5) (j : Nat) : 0 ≤ sp_cr o N j ∧ sp_cr o N j ≤ 31 := by
  induction j with
  | zero => simp [sp_cr]
  | succ j ih =>
    simp only [sp_cr]
    split
    · exact ih
    · have := h (N - 1 - j)
      exact fr_or_rg5 ih (by omega)
set_option maxRecDepth 20000 in
theorem kcX11_orders {l : Launch} {κ : fr_Ka} {μ : fr_Me} (hN : 0 ≤ μ 67 0 ∧ μ 67 0 ≤ 6) : fr_C l κ fmX11_orders 1 [fr_r κ 66] μ (fr_Ei (sp_p6 (μ 67 0).toNat) μ) := by
  refine fr_enter (by decide +kernel) (ls := [some (fr_r κ 66), none, none]) rfl (Nat.le_of_ble_eq_true rfl) ?_
  refine fr_iconst dX11_orders_0 ?_
  refine fr_is1 dX11_orders_1 rfl (Nat.le_of_ble_eq_true rfl) ?_
  refine fr_iconst dX11_orders_2 ?_
  refine fr_is2 dX11_orders_3 rfl (Nat.le_of_ble_eq_true rfl) ?_
  refine fr_wk ?_ (ls := [some (fr_r κ 66), some (fr_i (sp_p6 0)), some (fr_i (0 : Int))]) ⟨rfl, rfl, rfl, trivial⟩
  refine fr_down (P := fun j : Nat => fr_A l κ fmX11_orders 1 (fr_Ei (sp_p6 (μ 67 0).toNat) μ) 4 [some (fr_r κ 66), some (fr_i (sp_p6 j)), some (fr_i (j : Int))] [] μ) (μ 67 0).toNat ?_ (fun j hj4 ih4 => ?_)
  · skip
    refine fr_il2 dX11_orders_4 ?_
    refine fr_al0 dX11_orders_5 ?_
    refine fr_getr (cz := 67) dX11_orders_6 flX11_7 ⟨by decide, by decide, rfl⟩ rfl rfl ?_
    refine fr_iconst dX11_orders_9 ?_
    refine fr_iald dX11_orders_10 ⟨by decide, by decide, rfl, by decide⟩ (by omega) (by omega) ?_
    refine fr_icmp_ge (tgt := 25) dX11_orders_11 (by decide) (by omega) (by omega) (fun h1 => ?_) (fun h1 => ?_)
    · skip
      refine fr_il1 dX11_orders_25 ?_
      exact fr_iret dX11_orders_26 rfl (fr_e rfl rfl)
    · skip
      exfalso; omega
  · skip
    refine fr_il2 dX11_orders_4 ?_
    refine fr_al0 dX11_orders_5 ?_
    refine fr_getr (cz := 67) dX11_orders_6 flX11_7 ⟨by decide, by decide, rfl⟩ rfl rfl ?_
    refine fr_iconst dX11_orders_9 ?_
    refine fr_iald dX11_orders_10 ⟨by decide, by decide, rfl, by decide⟩ (by omega) (by omega) ?_
    refine fr_icmp_ge (tgt := 25) dX11_orders_11 (by decide) (by omega) (by omega) (fun h2 => ?_) (fun h2 => ?_)
    · skip
      exfalso; omega
    · skip
      refine fr_il1 dX11_orders_14 ?_
      refine fr_bipush dX11_orders_15 (by decide) ?_
      refine fr_imul dX11_orders_17 ?_
      refine fr_is1 dX11_orders_18 rfl (Nat.le_of_ble_eq_true rfl) ?_
      refine fr_ii2 dX11_orders_19 rfl (Nat.le_of_ble_eq_true rfl) ?_
      refine fr_goto (tgt := 4) dX11_orders_22 (by decide) ?_
      exact fr_wk (ih4) ⟨rfl, rfl, rfl, trivial⟩
set_option maxRecDepth 20000 in
theorem kcX11_everybody {l : Launch} {κ : fr_Ka} {μ : fr_Me} : fr_C l κ fmX11_everybody 1 [fr_r κ 66] μ (fr_Ei (fr_shl 1 (μ 67 43) - 1) μ) := by
  refine fr_enter (by decide +kernel) (ls := [some (fr_r κ 66)]) rfl (Nat.le_of_ble_eq_true rfl) ?_
  refine fr_iconst dX11_everybody_0 ?_
  refine fr_al0 dX11_everybody_1 ?_
  refine fr_getr (cz := 67) dX11_everybody_2 flX11_7 ⟨by decide, by decide, rfl⟩ rfl rfl ?_
  refine fr_bipush dX11_everybody_5 (by decide) ?_
  refine fr_iald dX11_everybody_7 ⟨by decide, by decide, rfl, by decide⟩ (by omega) (by omega) ?_
  refine fr_ishl dX11_everybody_8 ?_
  refine fr_iconst dX11_everybody_9 ?_
  refine fr_isub dX11_everybody_10 ?_
  exact fr_iret dX11_everybody_11 rfl (fr_e rfl rfl)
set_option maxRecDepth 20000 in
theorem kcX11_wagesOf {l : Launch} {κ : fr_Ka} {μ : fr_Me} (hM : 0 ≤ μ 67 43 ∧ μ 67 43 ≤ 5) {S : Int} : fr_C l κ fmX11_wagesOf 2 [fr_r κ 66, fr_i S] μ (fr_Ei (sp_wg (μ 67) S) μ) := by
  refine fr_enter (by decide +kernel) (ls := [some (fr_r κ 66), some (fr_i S), none, none]) rfl (Nat.le_of_ble_eq_true rfl) ?_
  refine fr_iconst dX11_wagesOf_0 ?_
  refine fr_is2 dX11_wagesOf_1 rfl (Nat.le_of_ble_eq_true rfl) ?_
  refine fr_iconst dX11_wagesOf_2 ?_
  refine fr_is3 dX11_wagesOf_3 rfl (Nat.le_of_ble_eq_true rfl) ?_
  refine fr_wk ?_ (ls := [some (fr_r κ 66), some (fr_i S), some (fr_i _), some (fr_i (0 : Int))]) ⟨rfl, rfl, rfl, rfl, trivial⟩
  refine (fr_down (P := fun j : Nat => ∀ (x : Int), (x = sp_sum j (fun c => if fr_and (fr_shr S c) 1 = 1 then μ 67 (54 + c) else 0)) → fr_A l κ fmX11_wagesOf 2 (fr_Ei (sp_wg (μ 67) S) μ) 4 [some (fr_r κ 66), some (fr_i S), some (fr_i x), some (fr_i (j : Int))] [] μ) (μ 67 43).toNat ?_ (fun j hj4 ih4 => ?_)) _ (rfl)
  · skip
    intro x hx
    refine fr_il3 dX11_wagesOf_4 ?_
    refine fr_al0 dX11_wagesOf_5 ?_
    refine fr_getr (cz := 67) dX11_wagesOf_6 flX11_7 ⟨by decide, by decide, rfl⟩ rfl rfl ?_
    refine fr_bipush dX11_wagesOf_9 (by decide) ?_
    refine fr_iald dX11_wagesOf_11 ⟨by decide, by decide, rfl, by decide⟩ (by omega) (by omega) ?_
    refine fr_icmp_ge (tgt := 45) dX11_wagesOf_12 (by decide) (by omega) (by omega) (fun h1 => ?_) (fun h1 => ?_)
    · skip
      refine fr_il2 dX11_wagesOf_45 ?_
      exact fr_iret dX11_wagesOf_46 rfl (fr_e hx rfl)
    · skip
      exfalso; omega
  · skip
    intro x hx
    refine fr_il3 dX11_wagesOf_4 ?_
    refine fr_al0 dX11_wagesOf_5 ?_
    refine fr_getr (cz := 67) dX11_wagesOf_6 flX11_7 ⟨by decide, by decide, rfl⟩ rfl rfl ?_
    refine fr_bipush dX11_wagesOf_9 (by decide) ?_
    refine fr_iald dX11_wagesOf_11 ⟨by decide, by decide, rfl, by decide⟩ (by omega) (by omega) ?_
    refine fr_icmp_ge (tgt := 45) dX11_wagesOf_12 (by decide) (by omega) (by omega) (fun h2 => ?_) (fun h2 => ?_)
    · skip
      exfalso; omega
    · skip
      refine fr_il2 dX11_wagesOf_15 ?_
      refine fr_il1 dX11_wagesOf_16 ?_
      refine fr_il3 dX11_wagesOf_17 ?_
      refine fr_cSi (mi' := fmX11_has) dX11_wagesOf_18 mlX11_88 msX11_has (Nat.le_of_ble_eq_true rfl) (kcX11_has) rfl rfl (Nat.le_of_ble_eq_true rfl) ?_
      refine fr_ifb_eq (tgt := 36) dX11_wagesOf_21 (by decide) (fun h3 => ?_) (fun h3 => ?_)
      · skip
        refine fr_iconst dX11_wagesOf_36 ?_
        refine fr_iadd dX11_wagesOf_37 ?_
        refine fr_is2 dX11_wagesOf_38 rfl (Nat.le_of_ble_eq_true rfl) ?_
        refine fr_ii3 dX11_wagesOf_39 rfl (Nat.le_of_ble_eq_true rfl) ?_
        refine fr_goto (tgt := 4) dX11_wagesOf_42 (by decide) ?_
        exact fr_wk (ih4 _ (by subst hx; simp only [sp_sum]; split <;> first | rfl | (rename_i h9; first | exact absurd h9 (by assumption) | exact absurd (by assumption) h9))) ⟨rfl, rfl, rfl, rfl, trivial⟩
      · skip
        refine fr_al0 dX11_wagesOf_24 ?_
        refine fr_getr (cz := 67) dX11_wagesOf_25 flX11_7 ⟨by decide, by decide, rfl⟩ rfl rfl ?_
        refine fr_bipush dX11_wagesOf_28 (by decide) ?_
        refine fr_il3 dX11_wagesOf_30 ?_
        refine fr_iadd dX11_wagesOf_31 ?_
        refine fr_iald dX11_wagesOf_32 ⟨by decide, by decide, rfl, by decide⟩ (by omega) (by omega) ?_
        refine fr_goto (tgt := 37) dX11_wagesOf_33 (by decide) ?_
        refine fr_iadd dX11_wagesOf_37 ?_
        refine fr_is2 dX11_wagesOf_38 rfl (Nat.le_of_ble_eq_true rfl) ?_
        refine fr_ii3 dX11_wagesOf_39 rfl (Nat.le_of_ble_eq_true rfl) ?_
        refine fr_goto (tgt := 4) dX11_wagesOf_42 (by decide) ?_
        exact fr_wk (ih4 _ (by subst hx; simp only [sp_sum]; split <;> first | rfl | (rename_i h9; first | exact absurd h9 (by assumption) | exact absurd (by assumption) h9))) ⟨rfl, rfl, rfl, rfl, trivial⟩
set_option maxRecDepth 20000 in
theorem kcX11_layWorths {l : Launch} {κ : fr_Ka} {μ : fr_Me} (hI : fr_I (μ 67))  : fr_C l κ fmX11_layWorths 5 [fr_r κ 66] μ (fr_Pv (fun m => (∀ t c, 0 ≤ t → t < μ 67 0 → 0 ≤ c → c < 6 → m 71 (6 * t + c) = sp_wt (μ 67) t c) ∧ ∀ c, c ≠ 71 → m c = μ c)) := by
  have iN := hI.n
  have iM := hI.many
  refine fr_enter (by decide +kernel) (ls := [some (fr_r κ 66), none, none]) rfl (Nat.le_of_ble_eq_true rfl) ?_
  refine fr_iconst dX11_layWorths_0 ?_
  refine fr_is1 dX11_layWorths_1 rfl (Nat.le_of_ble_eq_true rfl) ?_
  refine fr_wk ?_ (ls := [some (fr_r κ 66), some (fr_i (0 : Int)), none]) ⟨rfl, rfl, trivial⟩
  refine (fr_down (P := fun j : Nat => ∀ (m : fr_Me), ((∀ t c : Int, 0 ≤ t → t < j → 0 ≤ c → c < 6 → m 71 (6 * t + c) = sp_wt (μ 67) t c) ∧ ∀ c, c ≠ 71 → m c = μ c) → fr_A l κ fmX11_layWorths 5 (fr_Pv (fun m => (∀ t c, 0 ≤ t → t < μ 67 0 → 0 ≤ c → c < 6 → m 71 (6 * t + c) = sp_wt (μ 67) t c) ∧ ∀ c, c ≠ 71 → m c = μ c)) 2 [some (fr_r κ 66), some (fr_i (j : Int)), none] [] m) (μ 67 0).toNat ?_ (fun j hj2 ih2 => ?_)) _ (⟨fun t c h0 h1 => by omega, fun c hc => rfl⟩)
  · skip
    intro m hm
    have hw0 : m 67 0 = μ 67 0 := by rw [hm.2 67 (by decide)]
    refine fr_il1 dX11_layWorths_2 ?_
    refine fr_al0 dX11_layWorths_3 ?_
    refine fr_getr (cz := 67) dX11_layWorths_4 flX11_7 ⟨by decide, by decide, rfl⟩ rfl rfl ?_
    refine fr_iconst dX11_layWorths_7 ?_
    refine fr_iald dX11_layWorths_8 ⟨by decide, by decide, rfl, by decide⟩ (by omega) (by omega) ?_
    refine fr_icmp_ge (tgt := 67) dX11_layWorths_9 (by decide) (by omega) (by omega) (fun h1 => ?_) (fun h1 => ?_)
    · skip
      exact fr_vret dX11_layWorths_67 rfl (fr_pv ⟨fun t c h0 h1 h2 h3 => hm.1 t c h0 (by omega) h2 h3, hm.2⟩)
    · skip
      exfalso; omega
  · skip
    intro m hm
    have hw : m 67 = μ 67 := hm.2 67 (by decide)
    have hw0 : m 67 0 = μ 67 0 := by rw [hw]
    refine fr_il1 dX11_layWorths_2 ?_
    refine fr_al0 dX11_layWorths_3 ?_
    refine fr_getr (cz := 67) dX11_layWorths_4 flX11_7 ⟨by decide, by decide, rfl⟩ rfl rfl ?_
    refine fr_iconst dX11_layWorths_7 ?_
    refine fr_iald dX11_layWorths_8 ⟨by decide, by decide, rfl, by decide⟩ (by omega) (by omega) ?_
    refine fr_icmp_ge (tgt := 67) dX11_layWorths_9 (by decide) (by omega) (by omega) (fun h2 => ?_) (fun h2 => ?_)
    · skip
      exfalso; omega
    · skip
      refine fr_iconst dX11_layWorths_12 ?_
      refine fr_is2 dX11_layWorths_13 rfl (Nat.le_of_ble_eq_true rfl) ?_
      refine fr_wk ?_ (ls := [some (fr_r κ 66), some (fr_i (j : Int)), some (fr_i (0 : Int))]) ⟨rfl, rfl, rfl, trivial⟩
      refine (fr_down (P := fun i : Nat => ∀ (m2 : fr_Me), ((∀ t c : Int, 0 ≤ t → t < j → 0 ≤ c → c < 6 → m2 71 (6 * t + c) = sp_wt (μ 67) t c) ∧ (∀ c : Int, 0 ≤ c → c < i → m2 71 (6 * j + c) = sp_wt (μ 67) j c) ∧ ∀ c, c ≠ 71 → m2 c = μ c) → fr_A l κ fmX11_layWorths 5 (fr_Pv (fun m => (∀ t c, 0 ≤ t → t < μ 67 0 → 0 ≤ c → c < 6 → m 71 (6 * t + c) = sp_wt (μ 67) t c) ∧ ∀ c, c ≠ 71 → m c = μ c)) 14 [some (fr_r κ 66), some (fr_i (j : Int)), some (fr_i (i : Int))] [] m2) 6 ?_ (fun i hj14 ih14 => ?_)) _ (⟨hm.1, fun c h0 h1 => by omega, hm.2⟩)
      · skip
        intro m2 hm2
        refine fr_il2 dX11_layWorths_14 ?_
        refine fr_bipush dX11_layWorths_15 (by decide) ?_
        refine fr_icmp_ge (tgt := 61) dX11_layWorths_17 (by decide) (by omega) (by omega) (fun h3 => ?_) (fun h3 => ?_)
        · skip
          refine fr_ii1 dX11_layWorths_61 rfl (Nat.le_of_ble_eq_true rfl) ?_
          refine fr_goto (tgt := 2) dX11_layWorths_64 (by decide) ?_
          exact fr_wk (ih2 _ (⟨fun t c h0 h1 h2 h3 => (by omega : t < j ∨ t = j).elim (fun h => hm2.1 t c h0 h h2 h3) (fun h => by subst h; exact hm2.2.1 c h2 (by omega)), hm2.2.2⟩)) ⟨rfl, rfl, trivial⟩
        · skip
          exfalso; omega
      · skip
        intro m2 hm2
        have hw2 : m2 67 = μ 67 := hm2.2.2 67 (by decide)
        refine fr_il2 dX11_layWorths_14 ?_
        refine fr_bipush dX11_layWorths_15 (by decide) ?_
        refine fr_icmp_ge (tgt := 61) dX11_layWorths_17 (by decide) (by omega) (by omega) (fun h4 => ?_) (fun h4 => ?_)
        · skip
          exfalso; omega
        · skip
          refine fr_al0 dX11_layWorths_20 ?_
          refine fr_getr (cz := 71) dX11_layWorths_21 flX11_22 ⟨by decide, by decide, rfl⟩ rfl rfl ?_
          refine fr_bipush dX11_layWorths_24 (by decide) ?_
          refine fr_il1 dX11_layWorths_26 ?_
          refine fr_imul dX11_layWorths_27 ?_
          refine fr_il2 dX11_layWorths_28 ?_
          refine fr_iadd dX11_layWorths_29 ?_
          refine fr_il2 dX11_layWorths_30 ?_
          refine fr_iconst dX11_layWorths_31 ?_
          refine fr_icmp_eq (tgt := 43) dX11_layWorths_32 (by decide) (by omega) (by omega) (fun h5 => ?_) (fun h5 => ?_)
          · skip
            refine fr_al0 dX11_layWorths_43 ?_
            refine fr_il1 dX11_layWorths_44 ?_
            refine fr_il2 dX11_layWorths_45 ?_
            refine fr_iconst dX11_layWorths_46 ?_
            refine fr_cVi (mi' := fmX11_worthNext) dX11_layWorths_47 mlX11_162 mvX11_worthNext ⟨11, _, ⟨by decide, by decide, rfl⟩, rfl, rfl⟩ (Nat.le_of_ble_eq_true rfl) (kcX11_worthNext (by rw [hw2]; exact hI) (by rw [hw2]; omega) (by rw [hw2]; omega) (by omega)) rfl rfl (Nat.le_of_ble_eq_true rfl) ?_
            rw [hw2]
            refine fr_goto (tgt := 54) dX11_layWorths_50 (by decide) ?_
            refine fr_iast dX11_layWorths_54 ⟨by decide, by decide, rfl, by decide⟩ (by omega) (by omega) ?_
            refine fr_ii2 dX11_layWorths_55 rfl (Nat.le_of_ble_eq_true rfl) ?_
            refine fr_goto (tgt := 14) dX11_layWorths_58 (by decide) ?_
            exact fr_wk (ih14 _ (⟨fun t c h0 h1 h2 h3 => by rw [fr_up_nk _ _ _ (by omega)]; exact hm2.1 t c h0 h1 h2 h3, fun c h0 h1 => (by omega : c < i ∨ c = i).elim (fun h => by rw [fr_up_nk _ _ _ (by omega)]; exact hm2.2.1 c h0 h) (fun h => by subst h; rw [fr_up_eq]; unfold sp_wt; split <;> first | rfl | omega), fun c hc => by rw [fr_up_nc _ _ _ hc]; exact hm2.2.2 c hc⟩)) ⟨rfl, rfl, rfl, trivial⟩
          · skip
            refine fr_al0 dX11_layWorths_35 ?_
            refine fr_il2 dX11_layWorths_36 ?_
            refine fr_cVi (mi' := fmX11_isClimber) dX11_layWorths_37 mlX11_71 mvX11_isClimber ⟨11, _, ⟨by decide, by decide, rfl⟩, rfl, rfl⟩ (Nat.le_of_ble_eq_true rfl) (kcX11_isClimber (by rw [hw2]; exact hI) (by omega)) rfl rfl (Nat.le_of_ble_eq_true rfl) ?_
            rw [hw2]
            refine fr_ifb_eq (tgt := 53) dX11_layWorths_40 (by decide) (fun h6 => ?_) (fun h6 => ?_)
            · skip
              refine fr_iconst dX11_layWorths_53 ?_
              refine fr_iast dX11_layWorths_54 ⟨by decide, by decide, rfl, by decide⟩ (by omega) (by omega) ?_
              refine fr_ii2 dX11_layWorths_55 rfl (Nat.le_of_ble_eq_true rfl) ?_
              refine fr_goto (tgt := 14) dX11_layWorths_58 (by decide) ?_
              exact fr_wk (ih14 _ (⟨fun t c h0 h1 h2 h3 => by rw [fr_up_nk _ _ _ (by omega)]; exact hm2.1 t c h0 h1 h2 h3, fun c h0 h1 => (by omega : c < i ∨ c = i).elim (fun h => by rw [fr_up_nk _ _ _ (by omega)]; exact hm2.2.1 c h0 h) (fun h => by subst h; rw [fr_up_eq]; unfold sp_wt; split <;> first | rfl | omega), fun c hc => by rw [fr_up_nc _ _ _ hc]; exact hm2.2.2 c hc⟩)) ⟨rfl, rfl, rfl, trivial⟩
            · skip
              refine fr_al0 dX11_layWorths_43 ?_
              refine fr_il1 dX11_layWorths_44 ?_
              refine fr_il2 dX11_layWorths_45 ?_
              refine fr_iconst dX11_layWorths_46 ?_
              refine fr_cVi (mi' := fmX11_worthNext) dX11_layWorths_47 mlX11_162 mvX11_worthNext ⟨11, _, ⟨by decide, by decide, rfl⟩, rfl, rfl⟩ (Nat.le_of_ble_eq_true rfl) (kcX11_worthNext (by rw [hw2]; exact hI) (by rw [hw2]; omega) (by rw [hw2]; omega) (by omega)) rfl rfl (Nat.le_of_ble_eq_true rfl) ?_
              rw [hw2]
              refine fr_goto (tgt := 54) dX11_layWorths_50 (by decide) ?_
              refine fr_iast dX11_layWorths_54 ⟨by decide, by decide, rfl, by decide⟩ (by omega) (by omega) ?_
              refine fr_ii2 dX11_layWorths_55 rfl (Nat.le_of_ble_eq_true rfl) ?_
              refine fr_goto (tgt := 14) dX11_layWorths_58 (by decide) ?_
              exact fr_wk (ih14 _ (⟨fun t c h0 h1 h2 h3 => by rw [fr_up_nk _ _ _ (by omega)]; exact hm2.1 t c h0 h1 h2 h3, fun c h0 h1 => (by omega : c < i ∨ c = i).elim (fun h => by rw [fr_up_nk _ _ _ (by omega)]; exact hm2.2.1 c h0 h) (fun h => by subst h; rw [fr_up_eq]; unfold sp_wt; split <;> first | rfl | omega), fun c hc => by rw [fr_up_nc _ _ _ hc]; exact hm2.2.2 c hc⟩)) ⟨rfl, rfl, rfl, trivial⟩
set_option maxRecDepth 20000 in
theorem kcX11_nextOf {l : Launch} {κ : fr_Ka} {μ : fr_Me} (hI : fr_I (μ 67)) {f : Int} (hf : 0 ≤ f ∧ f < 10) (hw : ∀ t, 0 ≤ t → t < μ 67 0 → μ 70 t = 5 ∨ (0 ≤ μ 70 t ∧ μ 70 t < μ 67 43)) : fr_C l κ fmX11_nextOf 4 [fr_r κ 66, fr_i f] μ (fr_Ei (sp_sum (μ 67 0).toNat (fun t => sp_nxt (μ 67) t f (μ 70 t) 0)) μ) := by
  have iN := hI.n
  have iM := hI.many
  refine fr_enter (by decide +kernel) (ls := [some (fr_r κ 66), some (fr_i f), none, none]) rfl (Nat.le_of_ble_eq_true rfl) ?_
  refine fr_iconst dX11_nextOf_0 ?_
  refine fr_is2 dX11_nextOf_1 rfl (Nat.le_of_ble_eq_true rfl) ?_
  refine fr_iconst dX11_nextOf_2 ?_
  refine fr_is3 dX11_nextOf_3 rfl (Nat.le_of_ble_eq_true rfl) ?_
  refine fr_wk ?_ (ls := [some (fr_r κ 66), some (fr_i f), some (fr_i (sp_sum 0 (fun t => sp_nxt (μ 67) t f (μ 70 t) 0))), some (fr_i (0 : Int))]) ⟨rfl, rfl, rfl, rfl, trivial⟩
  refine fr_down (P := fun j : Nat => fr_A l κ fmX11_nextOf 4 (fr_Ei (sp_sum (μ 67 0).toNat (fun t => sp_nxt (μ 67) t f (μ 70 t) 0)) μ) 4 [some (fr_r κ 66), some (fr_i f), some (fr_i (sp_sum j (fun t => sp_nxt (μ 67) t f (μ 70 t) 0))), some (fr_i (j : Int))] [] μ) (μ 67 0).toNat ?_ (fun j hj4 ih4 => ?_)
  · skip
    refine fr_il3 dX11_nextOf_4 ?_
    refine fr_al0 dX11_nextOf_5 ?_
    refine fr_getr (cz := 67) dX11_nextOf_6 flX11_7 ⟨by decide, by decide, rfl⟩ rfl rfl ?_
    refine fr_iconst dX11_nextOf_9 ?_
    refine fr_iald dX11_nextOf_10 ⟨by decide, by decide, rfl, by decide⟩ (by omega) (by omega) ?_
    refine fr_icmp_ge (tgt := 36) dX11_nextOf_11 (by decide) (by omega) (by omega) (fun h1 => ?_) (fun h1 => ?_)
    · skip
      refine fr_il2 dX11_nextOf_36 ?_
      exact fr_iret dX11_nextOf_37 rfl (fr_e rfl rfl)
    · skip
      exfalso; omega
  · skip
    have hwj := hw (j : Int) (by omega) (by omega)
    refine fr_il3 dX11_nextOf_4 ?_
    refine fr_al0 dX11_nextOf_5 ?_
    refine fr_getr (cz := 67) dX11_nextOf_6 flX11_7 ⟨by decide, by decide, rfl⟩ rfl rfl ?_
    refine fr_iconst dX11_nextOf_9 ?_
    refine fr_iald dX11_nextOf_10 ⟨by decide, by decide, rfl, by decide⟩ (by omega) (by omega) ?_
    refine fr_icmp_ge (tgt := 36) dX11_nextOf_11 (by decide) (by omega) (by omega) (fun h2 => ?_) (fun h2 => ?_)
    · skip
      exfalso; omega
    · skip
      refine fr_il2 dX11_nextOf_14 ?_
      refine fr_al0 dX11_nextOf_15 ?_
      refine fr_il3 dX11_nextOf_16 ?_
      refine fr_il1 dX11_nextOf_17 ?_
      refine fr_al0 dX11_nextOf_18 ?_
      refine fr_getr (cz := 70) dX11_nextOf_19 flX11_19 ⟨by decide, by decide, rfl⟩ rfl rfl ?_
      refine fr_il3 dX11_nextOf_22 ?_
      refine fr_iald dX11_nextOf_23 ⟨by decide, by decide, rfl, by decide⟩ (by omega) (by omega) ?_
      refine fr_iconst dX11_nextOf_24 ?_
      refine fr_cVi (mi' := fmX11_bearsNext) dX11_nextOf_25 mlX11_134 mvX11_bearsNext ⟨11, _, ⟨by decide, by decide, rfl⟩, rfl, rfl⟩ (Nat.le_of_ble_eq_true rfl) (kcX11_bearsNext hI (by omega) (by omega) (by omega) (by omega)) rfl rfl (Nat.le_of_ble_eq_true rfl) ?_
      refine fr_iadd dX11_nextOf_28 ?_
      refine fr_is2 dX11_nextOf_29 rfl (Nat.le_of_ble_eq_true rfl) ?_
      refine fr_ii3 dX11_nextOf_30 rfl (Nat.le_of_ble_eq_true rfl) ?_
      refine fr_goto (tgt := 4) dX11_nextOf_33 (by decide) ?_
      exact fr_wk (ih4) ⟨rfl, rfl, rfl, rfl, trivial⟩
theorem sp_dg_at (N code : Int) (j : Nat) : sp_dg N code (N - 1 - j) = code / sp_p6 j % 6 := by
  unfold sp_dg
  rw [show (N - 1 - (N - 1 - (j : Int))).toNat = j by omega]
theorem sp_p6_div (code : Int) (j : Nat) (hj : j ≤ 6) : code / sp_p6 j / 6 = code / sp_p6 (j + 1) := by
  have h := sp_p6_rg j hj
  rw [show sp_p6 (j + 1) = sp_p6 j * 6 from rfl, Int.ediv_ediv_of_nonneg (by omega)]
set_option maxRecDepth 20000 in
theorem kcX11_layOrder {l : Launch} {κ : fr_Ka} {μ : fr_Me} (hI : fr_I (μ 67)) {code set shut : Int} (hcode : 0 ≤ code ∧ code < 46656) : fr_C l κ fmX11_layOrder 3 [fr_r κ 66, fr_i code, fr_i set, fr_i shut] μ (fr_Pi (fun z m => (∀ c, c ≠ 70 → m c = μ c) ∧ ((z = sp_cr (sp_dg (μ 67 0) code) (μ 67 0) (μ 67 0).toNat ∧ sp_vr (μ 67) set shut (sp_dg (μ 67 0) code) (μ 67 0).toNat ∧ ∀ t, 0 ≤ t → t < μ 67 0 → m 70 t = (sp_dg (μ 67 0) code) t) ∨ (z = -1 ∧ ¬ sp_vr (μ 67) set shut (sp_dg (μ 67 0) code) (μ 67 0).toNat)))) := by
  have iN := hI.n
  have iM := hI.many
  refine fr_enter (by decide +kernel) (ls := [some (fr_r κ 66), some (fr_i code), some (fr_i set), some (fr_i shut), none, none, none, none, none]) rfl (Nat.le_of_ble_eq_true rfl) ?_
  refine fr_il1 dX11_layOrder_0 ?_
  refine fr_is4 dX11_layOrder_1 rfl (Nat.le_of_ble_eq_true rfl) ?_
  refine fr_iconst dX11_layOrder_3 ?_
  refine fr_is5 dX11_layOrder_4 rfl (Nat.le_of_ble_eq_true rfl) ?_
  refine fr_al0 dX11_layOrder_6 ?_
  refine fr_getr (cz := 67) dX11_layOrder_7 flX11_7 ⟨by decide, by decide, rfl⟩ rfl rfl ?_
  refine fr_iconst dX11_layOrder_10 ?_
  refine fr_iald dX11_layOrder_11 ⟨by decide, by decide, rfl, by decide⟩ (by omega) (by omega) ?_
  refine fr_iconst dX11_layOrder_12 ?_
  refine fr_isub dX11_layOrder_13 ?_
  refine fr_is6 dX11_layOrder_14 rfl (Nat.le_of_ble_eq_true rfl) ?_
  rw [← Int.sub_zero (μ 67 0 - 1)]
  refine fr_wk ?_ (ls := [some (fr_r κ 66), some (fr_i code), some (fr_i set), some (fr_i shut), some (fr_i _), some (fr_i _), some (fr_i (μ 67 0 - 1 - (0 : Int))), none, none]) ⟨rfl, rfl, rfl, rfl, rfl, rfl, rfl, trivial⟩
  refine (fr_down (P := fun j : Nat => ∀ (x : Int) (y : Int) (m : fr_Me), (x = code / sp_p6 j ∧ y = sp_cr (sp_dg (μ 67 0) code) (μ 67 0) j ∧ sp_vr (μ 67) set shut (sp_dg (μ 67 0) code) j ∧ (∀ t, μ 67 0 - j ≤ t → t < μ 67 0 → m 70 t = (sp_dg (μ 67 0) code) t) ∧ ∀ c, c ≠ 70 → m c = μ c) → fr_A l κ fmX11_layOrder 3 (fr_Pi (fun z m => (∀ c, c ≠ 70 → m c = μ c) ∧ ((z = sp_cr (sp_dg (μ 67 0) code) (μ 67 0) (μ 67 0).toNat ∧ sp_vr (μ 67) set shut (sp_dg (μ 67 0) code) (μ 67 0).toNat ∧ ∀ t, 0 ≤ t → t < μ 67 0 → m 70 t = (sp_dg (μ 67 0) code) t) ∨ (z = -1 ∧ ¬ sp_vr (μ 67) set shut (sp_dg (μ 67 0) code) (μ 67 0).toNat)))) 16 [some (fr_r κ 66), some (fr_i code), some (fr_i set), some (fr_i shut), some (fr_i x), some (fr_i y), some (fr_i (μ 67 0 - 1 - (j : Int))), none, none] [] m) (μ 67 0).toNat ?_ (fun j hj16 ih16 => ?_)) _ _ _ (⟨by simp [sp_p6], rfl, trivial, fun t h0 h1 => by omega, fun c hc => rfl⟩)
  · skip
    intro x y m hm
    obtain ⟨hx, hy, hvr, hm⟩ := hm
    refine fr_il6 dX11_layOrder_16 ?_
    refine fr_if_lt (tgt := 148) dX11_layOrder_18 (by decide) (by omega) (fun h1 => ?_) (fun h1 => ?_)
    · skip
      refine fr_il5 dX11_layOrder_148 ?_
      exact fr_iret dX11_layOrder_150 rfl (fr_pi ⟨hm.2, Or.inl ⟨hy, hvr, fun t h0 h1 => hm.1 t (by omega) h1⟩⟩)
    · skip
      exfalso; omega
  · skip
    intro x y m hm
    obtain ⟨hx, hy, hvr, hm⟩ := hm
    have hp := sp_p6_rg j (by omega)
    have hx0 : 0 ≤ x ∧ x ≤ 46656 := by rw [hx]; exact ⟨Int.ediv_nonneg hcode.1 (by omega), Int.le_trans (Int.ediv_le_self _ hcode.1) (by omega)⟩
    obtain ⟨c, hc⟩ : ∃ c, c = (sp_dg (μ 67 0) code) (μ 67 0 - 1 - j) := ⟨_, rfl⟩
    have ec : x.tmod 6 = c := by rw [Int.tmod_eq_emod_of_nonneg hx0.1, hc, sp_dg_at, hx]
    have hcr := sp_dg_rg (μ 67 0) code (μ 67 0 - 1 - j)
    rw [← hc] at hcr
    have ex2 : x.tdiv 6 = code / sp_p6 (j + 1) := by rw [Int.tdiv_eq_ediv_of_nonneg hx0.1, hx, sp_p6_div _ _ (by omega)]
    have hw : ∀ z9 : Int, fr_up m 70 (μ 67 0 - 1 - j) z9 67 = μ 67 := fun z9 => by rw [fr_up_nc _ _ _ (by decide)]; exact hm.2 67 (by decide)
    have iT := hI.tree (t := μ 67 0 - 1 - j) (by omega) (by omega)
    unfold fr_It at iT
    refine fr_il6 dX11_layOrder_16 ?_
    refine fr_if_lt (tgt := 148) dX11_layOrder_18 (by decide) (by omega) (fun h2 => ?_) (fun h2 => ?_)
    · skip
      exfalso; omega
    · skip
      refine fr_il4 dX11_layOrder_21 ?_
      refine fr_bipush dX11_layOrder_23 (by decide) ?_
      refine fr_irem dX11_layOrder_25 (by omega) (by omega) (by omega) ?_
      rw [ec]
      refine fr_is7 dX11_layOrder_26 rfl (Nat.le_of_ble_eq_true rfl) ?_
      refine fr_il4 dX11_layOrder_28 ?_
      refine fr_bipush dX11_layOrder_30 (by decide) ?_
      refine fr_idiv dX11_layOrder_32 (by omega) (by omega) (by omega) (by omega) ?_
      refine fr_is4 dX11_layOrder_33 rfl (Nat.le_of_ble_eq_true rfl) ?_
      refine fr_al0 dX11_layOrder_35 ?_
      refine fr_getr (cz := 70) dX11_layOrder_36 flX11_19 ⟨by decide, by decide, rfl⟩ rfl rfl ?_
      refine fr_il6 dX11_layOrder_39 ?_
      refine fr_il7 dX11_layOrder_41 ?_
      refine fr_iast dX11_layOrder_43 ⟨by decide, by decide, rfl, by decide⟩ (by omega) (by omega) ?_
      refine fr_il7 dX11_layOrder_44 ?_
      refine fr_iconst dX11_layOrder_46 ?_
      refine fr_icmp_eq (tgt := 142) dX11_layOrder_47 (by decide) (by omega) (by omega) (fun h3 => ?_) (fun h3 => ?_)
      · skip
        refine fr_ii6 dX11_layOrder_142 rfl (Nat.le_of_ble_eq_true rfl) ?_
        refine fr_goto (tgt := 16) dX11_layOrder_145 (by decide) ?_
        rw [show μ 67 0 - 1 - (j : Int) + -1 = μ 67 0 - 1 - ((j + 1 : Nat) : Int) by omega]
        exact fr_wk (ih16 _ _ _ (⟨ex2, by simp only [sp_cr]; rw [← hc, if_pos (by assumption)]; exact hy, ⟨hvr, Or.inl (by rw [← hc]; assumption)⟩, fun t h0 h1 => (by omega : t = μ 67 0 - 1 - j ∨ μ 67 0 - j ≤ t).elim (fun h => by subst h; rw [fr_up_eq]; exact hc) (fun h => by rw [fr_up_nk _ _ _ (by omega)]; exact hm.1 t h h1), fun c9 hc9 => by rw [fr_up_nc _ _ _ hc9]; exact hm.2 c9 hc9⟩)) ⟨rfl, rfl, rfl, rfl, rfl, rfl, rfl, trivial⟩
      · skip
        refine fr_al0 dX11_layOrder_50 ?_
        refine fr_il7 dX11_layOrder_51 ?_
        refine fr_cVi (mi' := fmX11_isClimber) dX11_layOrder_53 mlX11_71 mvX11_isClimber ⟨11, _, ⟨by decide, by decide, rfl⟩, rfl, rfl⟩ (Nat.le_of_ble_eq_true rfl) (kcX11_isClimber (by rw [hw]; exact hI) (by omega)) rfl rfl (Nat.le_of_ble_eq_true rfl) ?_
        rw [hw]
        refine fr_ifb_eq (tgt := 123) dX11_layOrder_56 (by decide) (fun h4 => ?_) (fun h4 => ?_)
        · skip
          refine fr_iconst dX11_layOrder_123 ?_
          refine fr_is8 dX11_layOrder_124 rfl (Nat.le_of_ble_eq_true rfl) ?_
          refine fr_il8 dX11_layOrder_126 ?_
          refine fr_if_ne (tgt := 133) dX11_layOrder_128 (by decide) (by decide) (fun h5 => absurd h5 (by decide)) (fun _ => ?_)
          refine fr_iconst dX11_layOrder_131 ?_
          exact fr_iret dX11_layOrder_132 rfl (fr_pi ⟨fun c9 hc9 => by rw [fr_up_nc _ _ _ hc9]; exact hm.2 c9 hc9, Or.inr ⟨rfl, fun h => by have h9 := (sp_vr_le h (show j + 1 ≤ (μ 67 0).toNat by omega)).2; rw [← hc, ← hy] at h9; rcases h9 with e | ⟨g1, g2, g3, g4, g5⟩; (· omega); (· first | exact absurd g1 (by assumption) | exact absurd g2 (by assumption) | exact absurd (by assumption) g3 | exact absurd (by assumption) g4 | (rcases g5 with g5 | g5; (· exact absurd (by assumption) g5); (· omega)))⟩⟩)
        · skip
          refine fr_il2 dX11_layOrder_59 ?_
          refine fr_il7 dX11_layOrder_60 ?_
          refine fr_cSi (mi' := fmX11_has) dX11_layOrder_62 mlX11_88 msX11_has (Nat.le_of_ble_eq_true rfl) (kcX11_has) rfl rfl (Nat.le_of_ble_eq_true rfl) ?_
          refine fr_ifb_eq (tgt := 123) dX11_layOrder_65 (by decide) (fun h6 => ?_) (fun h6 => ?_)
          · skip
            refine fr_iconst dX11_layOrder_123 ?_
            refine fr_is8 dX11_layOrder_124 rfl (Nat.le_of_ble_eq_true rfl) ?_
            refine fr_il8 dX11_layOrder_126 ?_
            refine fr_if_ne (tgt := 133) dX11_layOrder_128 (by decide) (by decide) (fun h7 => absurd h7 (by decide)) (fun _ => ?_)
            refine fr_iconst dX11_layOrder_131 ?_
            exact fr_iret dX11_layOrder_132 rfl (fr_pi ⟨fun c9 hc9 => by rw [fr_up_nc _ _ _ hc9]; exact hm.2 c9 hc9, Or.inr ⟨rfl, fun h => by have h9 := (sp_vr_le h (show j + 1 ≤ (μ 67 0).toNat by omega)).2; rw [← hc, ← hy] at h9; rcases h9 with e | ⟨g1, g2, g3, g4, g5⟩; (· omega); (· first | exact absurd g1 (by assumption) | exact absurd g2 (by assumption) | exact absurd (by assumption) g3 | exact absurd (by assumption) g4 | (rcases g5 with g5 | g5; (· exact absurd (by assumption) g5); (· omega)))⟩⟩)
          · skip
            refine fr_al0 dX11_layOrder_68 ?_
            refine fr_getr (cz := 67) dX11_layOrder_69 flX11_7 ⟨by decide, by decide, rfl⟩ rfl rfl ?_
            refine fr_bipush dX11_layOrder_72 (by decide) ?_
            refine fr_il6 dX11_layOrder_74 ?_
            refine fr_iadd dX11_layOrder_76 ?_
            refine fr_iald dX11_layOrder_77 ⟨by decide, by decide, rfl, by decide⟩ (by omega) (by omega) ?_
            rw [hw]
            refine fr_il7 dX11_layOrder_78 ?_
            refine fr_cSi (mi' := fmX11_has) dX11_layOrder_80 mlX11_88 msX11_has (Nat.le_of_ble_eq_true rfl) (kcX11_has) rfl rfl (Nat.le_of_ble_eq_true rfl) ?_
            refine fr_ifb_ne (tgt := 123) dX11_layOrder_83 (by decide) (fun h8 => ?_) (fun h8 => ?_)
            · skip
              refine fr_iconst dX11_layOrder_123 ?_
              refine fr_is8 dX11_layOrder_124 rfl (Nat.le_of_ble_eq_true rfl) ?_
              refine fr_il8 dX11_layOrder_126 ?_
              refine fr_if_ne (tgt := 133) dX11_layOrder_128 (by decide) (by decide) (fun h9 => absurd h9 (by decide)) (fun _ => ?_)
              refine fr_iconst dX11_layOrder_131 ?_
              exact fr_iret dX11_layOrder_132 rfl (fr_pi ⟨fun c9 hc9 => by rw [fr_up_nc _ _ _ hc9]; exact hm.2 c9 hc9, Or.inr ⟨rfl, fun h => by have h9 := (sp_vr_le h (show j + 1 ≤ (μ 67 0).toNat by omega)).2; rw [← hc, ← hy] at h9; rcases h9 with e | ⟨g1, g2, g3, g4, g5⟩; (· omega); (· first | exact absurd g1 (by assumption) | exact absurd g2 (by assumption) | exact absurd (by assumption) g3 | exact absurd (by assumption) g4 | (rcases g5 with g5 | g5; (· exact absurd (by assumption) g5); (· omega)))⟩⟩)
            · skip
              refine fr_il3 dX11_layOrder_86 ?_
              refine fr_il6 dX11_layOrder_87 ?_
              refine fr_cSi (mi' := fmX11_has) dX11_layOrder_89 mlX11_88 msX11_has (Nat.le_of_ble_eq_true rfl) (kcX11_has) rfl rfl (Nat.le_of_ble_eq_true rfl) ?_
              refine fr_ifb_ne (tgt := 123) dX11_layOrder_92 (by decide) (fun h10 => ?_) (fun h10 => ?_)
              · skip
                refine fr_iconst dX11_layOrder_123 ?_
                refine fr_is8 dX11_layOrder_124 rfl (Nat.le_of_ble_eq_true rfl) ?_
                refine fr_il8 dX11_layOrder_126 ?_
                refine fr_if_ne (tgt := 133) dX11_layOrder_128 (by decide) (by decide) (fun h11 => absurd h11 (by decide)) (fun _ => ?_)
                refine fr_iconst dX11_layOrder_131 ?_
                exact fr_iret dX11_layOrder_132 rfl (fr_pi ⟨fun c9 hc9 => by rw [fr_up_nc _ _ _ hc9]; exact hm.2 c9 hc9, Or.inr ⟨rfl, fun h => by have h9 := (sp_vr_le h (show j + 1 ≤ (μ 67 0).toNat by omega)).2; rw [← hc, ← hy] at h9; rcases h9 with e | ⟨g1, g2, g3, g4, g5⟩; (· omega); (· first | exact absurd g1 (by assumption) | exact absurd g2 (by assumption) | exact absurd (by assumption) g3 | exact absurd (by assumption) g4 | (rcases g5 with g5 | g5; (· exact absurd (by assumption) g5); (· omega)))⟩⟩)
              · skip
                refine fr_il5 dX11_layOrder_95 ?_
                refine fr_il7 dX11_layOrder_97 ?_
                refine fr_cSi (mi' := fmX11_has) dX11_layOrder_99 mlX11_88 msX11_has (Nat.le_of_ble_eq_true rfl) (kcX11_has) rfl rfl (Nat.le_of_ble_eq_true rfl) ?_
                refine fr_ifb_eq (tgt := 119) dX11_layOrder_102 (by decide) (fun h12 => ?_) (fun h12 => ?_)
                · skip
                  refine fr_iconst dX11_layOrder_119 ?_
                  refine fr_goto (tgt := 124) dX11_layOrder_120 (by decide) ?_
                  refine fr_is8 dX11_layOrder_124 rfl (Nat.le_of_ble_eq_true rfl) ?_
                  refine fr_il8 dX11_layOrder_126 ?_
                  refine fr_if_ne (tgt := 133) dX11_layOrder_128 (by decide) (by decide) (fun _ => ?_) (fun h13 => absurd h13 (by decide))
                  refine fr_il5 dX11_layOrder_133 ?_
                  refine fr_iconst dX11_layOrder_135 ?_
                  refine fr_il7 dX11_layOrder_136 ?_
                  refine fr_ishl dX11_layOrder_138 ?_
                  refine fr_ior dX11_layOrder_139 ?_
                  refine fr_is5 dX11_layOrder_140 rfl (Nat.le_of_ble_eq_true rfl) ?_
                  refine fr_ii6 dX11_layOrder_142 rfl (Nat.le_of_ble_eq_true rfl) ?_
                  refine fr_goto (tgt := 16) dX11_layOrder_145 (by decide) ?_
                  rw [show μ 67 0 - 1 - (j : Int) + -1 = μ 67 0 - 1 - ((j + 1 : Nat) : Int) by omega]
                  exact fr_wk (ih16 _ _ _ (⟨ex2, by simp only [sp_cr]; rw [← hc, if_neg (by assumption), hy], ⟨hvr, by rw [← hc]; exact Or.inr ⟨by omega, by assumption, by assumption, by assumption, Or.inl (by rw [← hy]; assumption)⟩⟩, fun t h0 h1 => (by omega : t = μ 67 0 - 1 - j ∨ μ 67 0 - j ≤ t).elim (fun h => by subst h; rw [fr_up_eq]; exact hc) (fun h => by rw [fr_up_nk _ _ _ (by omega)]; exact hm.1 t h h1), fun c9 hc9 => by rw [fr_up_nc _ _ _ hc9]; exact hm.2 c9 hc9⟩)) ⟨rfl, rfl, rfl, rfl, rfl, rfl, rfl, trivial⟩
                · skip
                  refine fr_al0 dX11_layOrder_105 ?_
                  refine fr_getr (cz := 67) dX11_layOrder_106 flX11_7 ⟨by decide, by decide, rfl⟩ rfl rfl ?_
                  refine fr_bipush dX11_layOrder_109 (by decide) ?_
                  refine fr_il7 dX11_layOrder_111 ?_
                  refine fr_iadd dX11_layOrder_113 ?_
                  refine fr_iald dX11_layOrder_114 ⟨by decide, by decide, rfl, by decide⟩ (by omega) (by omega) ?_
                  rw [hw]
                  have iC := hI.cl (c := c) (by omega) (by omega)
                  unfold fr_Ic at iC
                  refine fr_iconst dX11_layOrder_115 ?_
                  refine fr_icmp_ne (tgt := 123) dX11_layOrder_116 (by decide) (by omega) (by omega) (fun h14 => ?_) (fun h14 => ?_)
                  · skip
                    refine fr_iconst dX11_layOrder_123 ?_
                    refine fr_is8 dX11_layOrder_124 rfl (Nat.le_of_ble_eq_true rfl) ?_
                    refine fr_il8 dX11_layOrder_126 ?_
                    refine fr_if_ne (tgt := 133) dX11_layOrder_128 (by decide) (by decide) (fun h15 => absurd h15 (by decide)) (fun _ => ?_)
                    refine fr_iconst dX11_layOrder_131 ?_
                    exact fr_iret dX11_layOrder_132 rfl (fr_pi ⟨fun c9 hc9 => by rw [fr_up_nc _ _ _ hc9]; exact hm.2 c9 hc9, Or.inr ⟨rfl, fun h => by have h9 := (sp_vr_le h (show j + 1 ≤ (μ 67 0).toNat by omega)).2; rw [← hc, ← hy] at h9; rcases h9 with e | ⟨g1, g2, g3, g4, g5⟩; (· omega); (· first | exact absurd g1 (by assumption) | exact absurd g2 (by assumption) | exact absurd (by assumption) g3 | exact absurd (by assumption) g4 | (rcases g5 with g5 | g5; (· exact absurd (by assumption) g5); (· omega)))⟩⟩)
                  · skip
                    refine fr_iconst dX11_layOrder_119 ?_
                    refine fr_goto (tgt := 124) dX11_layOrder_120 (by decide) ?_
                    refine fr_is8 dX11_layOrder_124 rfl (Nat.le_of_ble_eq_true rfl) ?_
                    refine fr_il8 dX11_layOrder_126 ?_
                    refine fr_if_ne (tgt := 133) dX11_layOrder_128 (by decide) (by decide) (fun _ => ?_) (fun h16 => absurd h16 (by decide))
                    refine fr_il5 dX11_layOrder_133 ?_
                    refine fr_iconst dX11_layOrder_135 ?_
                    refine fr_il7 dX11_layOrder_136 ?_
                    refine fr_ishl dX11_layOrder_138 ?_
                    refine fr_ior dX11_layOrder_139 ?_
                    refine fr_is5 dX11_layOrder_140 rfl (Nat.le_of_ble_eq_true rfl) ?_
                    refine fr_ii6 dX11_layOrder_142 rfl (Nat.le_of_ble_eq_true rfl) ?_
                    refine fr_goto (tgt := 16) dX11_layOrder_145 (by decide) ?_
                    rw [show μ 67 0 - 1 - (j : Int) + -1 = μ 67 0 - 1 - ((j + 1 : Nat) : Int) by omega]
                    exact fr_wk (ih16 _ _ _ (⟨ex2, by simp only [sp_cr]; rw [← hc, if_neg (by assumption), hy], ⟨hvr, by rw [← hc]; exact Or.inr ⟨by omega, by assumption, by assumption, by assumption, Or.inr (by omega)⟩⟩, fun t h0 h1 => (by omega : t = μ 67 0 - 1 - j ∨ μ 67 0 - j ≤ t).elim (fun h => by subst h; rw [fr_up_eq]; exact hc) (fun h => by rw [fr_up_nk _ _ _ (by omega)]; exact hm.1 t h h1), fun c9 hc9 => by rw [fr_up_nc _ _ _ hc9]; exact hm.2 c9 hc9⟩)) ⟨rfl, rfl, rfl, rfl, rfl, rfl, rfl, trivial⟩
