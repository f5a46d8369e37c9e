theorem fr_shl1 {m : Int} (h : 0 ≤ m ∧ m ≤ 6) : fr_shl 1 m = 2 ^ m.toNat := by
  rcases (by omega : m = 0 ∨ m = 1 ∨ m = 2 ∨ m = 3 ∨ m = 4 ∨ m = 5 ∨ m = 6) with h | h | h | h | h | h | h <;> subst h <;> decide +kernel
theorem fr_shl1_rg {m : Int} (h : 0 ≤ m ∧ m ≤ 6) : 1 ≤ fr_shl 1 m ∧ fr_shl 1 m ≤ 64 := by
  rcases (by omega : m = 0 ∨ m = 1 ∨ m = 2 ∨ m = 3 ∨ m = 4 ∨ m = 5 ∨ m = 6) with h | h | h | h | h | h | h <;> subst h <;> decide +kernel
def sp_od (w : Int → Int) (c : Int) : Int := if 0 ≤ c ∧ c < w 43 then (if w (44 + c) = 3 then 0 else w (59 + c)) else 0
theorem sp_od_rg {w : Int → Int} (h : fr_I w) (c : Int) : 0 ≤ sp_od w c ∧ sp_od w c ≤ 10 := by
  unfold sp_od
  split
  · rename_i hc
    have h1 := h.many
    have h2 := h.cl (c := c) (by omega) (by omega)
    unfold fr_Ic at h2
    split <;> omega
  · omega
set_option maxRecDepth 20000 in
theorem kcX1_hasTree {l : Launch} {κ : fr_Ka} {w : Int → Int} {μ : fr_Me} (hG : fr_G w μ) (hI : fr_I w) {t : Int} (rt : -2147483648 ≤ t ∧ t ≤ 2147483647) : fr_C l κ fmX1_hasTree 2 [fr_r κ 1, fr_i t] μ (fr_Ei (fr_b (0 ≤ t ∧ t < w 0)) μ) := by
  have eN := hG.n
  have eM := hG.many
  have iN := hI.n
  have iM := hI.many
  refine fr_enter (by decide +kernel) (ls := [some (fr_r κ 1), some (fr_i t)]) rfl (Nat.le_of_ble_eq_true rfl) ?_
  refine fr_il1 dX1_hasTree_0 ?_
  refine fr_iconst dX1_hasTree_1 ?_
  refine fr_al0 dX1_hasTree_2 ?_
  refine fr_geti (kz := 3) dX1_hasTree_3 flX1_58 ⟨by decide, by decide, rfl⟩ rfl rfl ?_
  refine fr_iconst dX1_hasTree_6 ?_
  refine fr_isub dX1_hasTree_7 ?_
  refine fr_cSi (mi' := fmX10_isWithin) dX1_hasTree_8 mlX1_77 msX10_isWithin (Nat.le_of_ble_eq_true rfl) (kcX10_isWithin (by omega) (by omega) (by omega)) rfl rfl (Nat.le_of_ble_eq_true rfl) ?_
  exact fr_zret dX1_hasTree_11 rfl (fr_b01 _) (fr_e (by first | rfl | exact (fr_bT (by omega)).symm | exact (fr_bF (by omega)).symm | exact fr_bc (by omega)) rfl)
set_option maxRecDepth 20000 in
theorem kcX1_hasClimber {l : Launch} {κ : fr_Ka} {w : Int → Int} {μ : fr_Me} (hG : fr_G w μ) (hI : fr_I w) {c : Int} (rc : -2147483648 ≤ c ∧ c ≤ 2147483647) : fr_C l κ fmX1_hasClimber 2 [fr_r κ 1, fr_i c] μ (fr_Ei (fr_b (0 ≤ c ∧ c < w 43)) μ) := by
  have eN := hG.n
  have eM := hG.many
  have iN := hI.n
  have iM := hI.many
  refine fr_enter (by decide +kernel) (ls := [some (fr_r κ 1), some (fr_i c)]) rfl (Nat.le_of_ble_eq_true rfl) ?_
  refine fr_il1 dX1_hasClimber_0 ?_
  refine fr_iconst dX1_hasClimber_1 ?_
  refine fr_al0 dX1_hasClimber_2 ?_
  refine fr_geti (kz := 4) dX1_hasClimber_3 flX1_61 ⟨by decide, by decide, rfl⟩ rfl rfl ?_
  refine fr_iconst dX1_hasClimber_6 ?_
  refine fr_isub dX1_hasClimber_7 ?_
  refine fr_cSi (mi' := fmX10_isWithin) dX1_hasClimber_8 mlX1_77 msX10_isWithin (Nat.le_of_ble_eq_true rfl) (kcX10_isWithin (by omega) (by omega) (by omega)) rfl rfl (Nat.le_of_ble_eq_true rfl) ?_
  exact fr_zret dX1_hasClimber_11 rfl (fr_b01 _) (fr_e (by first | rfl | exact (fr_bT (by omega)).symm | exact (fr_bF (by omega)).symm | exact fr_bc (by omega)) rfl)
set_option maxRecDepth 20000 in
theorem kcX1_isFolk {l : Launch} {κ : fr_Ka} {w : Int → Int} {μ : fr_Me} (hG : fr_G w μ) (hI : fr_I w) {c : Int} (rc : -2147483648 ≤ c ∧ c ≤ 2147483647) : fr_C l κ fmX1_isFolk 3 [fr_r κ 1, fr_i c] μ (fr_Ei (fr_b (c = 5 ∨ (0 ≤ c ∧ c < w 43))) μ) := by
  have eN := hG.n
  have eM := hG.many
  have iN := hI.n
  have iM := hI.many
  refine fr_enter (by decide +kernel) (ls := [some (fr_r κ 1), some (fr_i c)]) rfl (Nat.le_of_ble_eq_true rfl) ?_
  refine fr_il1 dX1_isFolk_0 ?_
  refine fr_iconst dX1_isFolk_1 ?_
  refine fr_icmp_eq (tgt := 13) dX1_isFolk_2 (by decide) (by omega) (by omega) (fun h1 => ?_) (fun h1 => ?_)
  · skip
    refine fr_iconst dX1_isFolk_13 ?_
    refine fr_goto (tgt := 18) dX1_isFolk_14 (by decide) ?_
    exact fr_zret dX1_isFolk_18 rfl (Or.inr rfl) (fr_e (by first | rfl | exact (fr_bT (by omega)).symm | exact (fr_bF (by omega)).symm | exact fr_bc (by omega)) rfl)
  · skip
    refine fr_al0 dX1_isFolk_5 ?_
    refine fr_il1 dX1_isFolk_6 ?_
    refine fr_cVi (mi' := fmX1_hasClimber) dX1_isFolk_7 mlX1_81 mvX1_hasClimber ⟨1, _, ⟨by decide, by decide, rfl⟩, rfl, rfl⟩ (Nat.le_of_ble_eq_true rfl) (kcX1_hasClimber hG hI (by omega)) rfl rfl (Nat.le_of_ble_eq_true rfl) ?_
    refine fr_ifb_eq (tgt := 17) dX1_isFolk_10 (by decide) (fun h2 => ?_) (fun h2 => ?_)
    · skip
      refine fr_iconst dX1_isFolk_17 ?_
      exact fr_zret dX1_isFolk_18 rfl (Or.inl rfl) (fr_e (by first | rfl | exact (fr_bT (by omega)).symm | exact (fr_bF (by omega)).symm | exact fr_bc (by omega)) rfl)
    · skip
      refine fr_iconst dX1_isFolk_13 ?_
      refine fr_goto (tgt := 18) dX1_isFolk_14 (by decide) ?_
      exact fr_zret dX1_isFolk_18 rfl (Or.inr rfl) (fr_e (by first | rfl | exact (fr_bT (by omega)).symm | exact (fr_bF (by omega)).symm | exact fr_bc (by omega)) rfl)
set_option maxRecDepth 20000 in
theorem kcX1_isSet {l : Launch} {κ : fr_Ka} {w : Int → Int} {μ : fr_Me} (hG : fr_G w μ) (hI : fr_I w) {set : Int} (rset : -2147483648 ≤ set ∧ set ≤ 2147483647) : fr_C l κ fmX1_isSet 2 [fr_r κ 1, fr_i set] μ (fr_Ei (fr_b (0 ≤ set ∧ set ≤ fr_shl 1 (w 43) - 1)) μ) := by
  have eN := hG.n
  have eM := hG.many
  have iN := hI.n
  have iM := hI.many
  have hs := fr_shl1_rg (m := w 43) (by omega)
  rw [← eM] at hs ⊢
  refine fr_enter (by decide +kernel) (ls := [some (fr_r κ 1), some (fr_i set)]) rfl (Nat.le_of_ble_eq_true rfl) ?_
  refine fr_il1 dX1_isSet_0 ?_
  refine fr_iconst dX1_isSet_1 ?_
  refine fr_iconst dX1_isSet_2 ?_
  refine fr_al0 dX1_isSet_3 ?_
  refine fr_geti (kz := 4) dX1_isSet_4 flX1_61 ⟨by decide, by decide, rfl⟩ rfl rfl ?_
  refine fr_ishl dX1_isSet_7 ?_
  refine fr_iconst dX1_isSet_8 ?_
  refine fr_isub dX1_isSet_9 ?_
  refine fr_cSi (mi' := fmX10_isWithin) dX1_isSet_10 mlX1_77 msX10_isWithin (Nat.le_of_ble_eq_true rfl) (kcX10_isWithin (by omega) (by omega) (by omega)) rfl rfl (Nat.le_of_ble_eq_true rfl) ?_
  exact fr_zret dX1_isSet_13 rfl (fr_b01 _) (fr_e (by first | rfl | exact (fr_bT (by omega)).symm | exact (fr_bF (by omega)).symm | exact fr_bc (by omega)) rfl)
set_option maxRecDepth 20000 in
theorem kcX1_brought {l : Launch} {κ : fr_Ka} {w : Int → Int} {μ : fr_Me} (hG : fr_G w μ) (hI : fr_I w) {c : Int} (rc : -2147483648 ≤ c ∧ c ≤ 2147483647) : fr_C l κ fmX1_brought 3 [fr_r κ 1, fr_i c] μ (fr_Ei (sp_br w c) μ) := by
  have eN := hG.n
  have eM := hG.many
  have iN := hI.n
  have iM := hI.many
  refine fr_enter (by decide +kernel) (ls := [some (fr_r κ 1), some (fr_i c)]) rfl (Nat.le_of_ble_eq_true rfl) ?_
  refine fr_al0 dX1_brought_0 ?_
  refine fr_il1 dX1_brought_1 ?_
  refine fr_cVi (mi' := fmX1_hasClimber) dX1_brought_2 mlX1_81 mvX1_hasClimber ⟨1, _, ⟨by decide, by decide, rfl⟩, rfl, rfl⟩ (Nat.le_of_ble_eq_true rfl) (kcX1_hasClimber hG hI (by omega)) rfl rfl (Nat.le_of_ble_eq_true rfl) ?_
  refine fr_ifb_eq (tgt := 20) dX1_brought_5 (by decide) (fun h1 => ?_) (fun h1 => ?_)
  · skip
    refine fr_iconst dX1_brought_20 ?_
    exact fr_iret dX1_brought_21 rfl (fr_e (by unfold sp_br; first | (rw [if_pos (by assumption), eC.1, eC.2.1]) | rw [if_neg (by assumption)]) rfl)
  · skip
    have eC := hG.cl (c := c) (by omega) (by omega)
    have iC := hI.cl (c := c) (by omega) (by omega)
    unfold fr_Gc at eC
    unfold fr_Ic at iC
    refine fr_al0 dX1_brought_8 ?_
    refine fr_getr (cz := 3) dX1_brought_9 flX1_19 ⟨by decide, by decide, rfl⟩ rfl rfl ?_
    refine fr_il1 dX1_brought_12 ?_
    refine fr_aaC dX1_brought_13 (by omega) (by omega) ?_
    refine fr_cVi (mi' := fmX0_brings) dX1_brought_14 mlX1_85 mvX0_brings ⟨0, _, (fr_obC (by omega) (by omega)), rfl, rfl⟩ (Nat.le_of_ble_eq_true rfl) (kcX0_brings (fr_obC (by omega) (by omega)) (by omega)) rfl rfl (Nat.le_of_ble_eq_true rfl) ?_
    refine fr_goto (tgt := 21) dX1_brought_17 (by decide) ?_
    exact fr_iret dX1_brought_21 rfl (fr_e (by unfold sp_br; first | (rw [if_pos (by assumption), eC.1, eC.2.1]) | rw [if_neg (by assumption)]) rfl)
set_option maxRecDepth 20000 in
theorem kcX1_oddsOf {l : Launch} {κ : fr_Ka} {w : Int → Int} {μ : fr_Me} (hG : fr_G w μ) (hI : fr_I w) {c : Int} (rc : -2147483648 ≤ c ∧ c ≤ 2147483647) : fr_C l κ fmX1_oddsOf 3 [fr_r κ 1, fr_i c] μ (fr_Ei (sp_od w c) μ) := by
  have eN := hG.n
  have eM := hG.many
  have iN := hI.n
  have iM := hI.many
  refine fr_enter (by decide +kernel) (ls := [some (fr_r κ 1), some (fr_i c)]) rfl (Nat.le_of_ble_eq_true rfl) ?_
  refine fr_al0 dX1_oddsOf_0 ?_
  refine fr_il1 dX1_oddsOf_1 ?_
  refine fr_cVi (mi' := fmX1_hasClimber) dX1_oddsOf_2 mlX1_81 mvX1_hasClimber ⟨1, _, ⟨by decide, by decide, rfl⟩, rfl, rfl⟩ (Nat.le_of_ble_eq_true rfl) (kcX1_hasClimber hG hI (by omega)) rfl rfl (Nat.le_of_ble_eq_true rfl) ?_
  refine fr_ifb_eq (tgt := 20) dX1_oddsOf_5 (by decide) (fun h1 => ?_) (fun h1 => ?_)
  · skip
    refine fr_iconst dX1_oddsOf_20 ?_
    exact fr_iret dX1_oddsOf_21 rfl (fr_e (by unfold sp_od; simp [*]) rfl)
  · skip
    have eC := hG.cl (c := c) (by omega) (by omega)
    have iC := hI.cl (c := c) (by omega) (by omega)
    unfold fr_Gc at eC
    unfold fr_Ic at iC
    refine fr_al0 dX1_oddsOf_8 ?_
    refine fr_getr (cz := 3) dX1_oddsOf_9 flX1_19 ⟨by decide, by decide, rfl⟩ rfl rfl ?_
    refine fr_il1 dX1_oddsOf_12 ?_
    refine fr_aaC dX1_oddsOf_13 (by omega) (by omega) ?_
    refine fr_cVi (mi' := fmX0_fallOdds) dX1_oddsOf_14 mlX1_89 mvX0_fallOdds ⟨0, _, (fr_obC (by omega) (by omega)), rfl, rfl⟩ (Nat.le_of_ble_eq_true rfl) (kcX0_fallOdds (fr_obC (by omega) (by omega)) (by omega)) rfl rfl (Nat.le_of_ble_eq_true rfl) ?_
    refine fr_goto (tgt := 21) dX1_oddsOf_17 (by decide) ?_
    exact fr_iret dX1_oddsOf_21 rfl (fr_e (by unfold sp_od; simp [*]) rfl)
set_option maxRecDepth 20000 in
theorem kcX1_priceOfBrought {l : Launch} {κ : fr_Ka} {w : Int → Int} {μ : fr_Me} (hG : fr_G w μ) (hI : fr_I w) {c : Int} (rc : -2147483648 ≤ c ∧ c ≤ 2147483647) : fr_C l κ fmX1_priceOfBrought 4 [fr_r κ 1, fr_i c] μ (fr_Ei (w (64 + sp_br w c)) μ) := by
  have eN := hG.n
  have eM := hG.many
  have iN := hI.n
  have iM := hI.many
  have hb := sp_br_rg hI c
  refine fr_enter (by decide +kernel) (ls := [some (fr_r κ 1), some (fr_i c)]) rfl (Nat.le_of_ble_eq_true rfl) ?_
  refine fr_al0 dX1_priceOfBrought_0 ?_
  refine fr_getr (cz := 4) dX1_priceOfBrought_1 flX1_23 ⟨by decide, by decide, rfl⟩ rfl rfl ?_
  refine fr_al0 dX1_priceOfBrought_4 ?_
  refine fr_il1 dX1_priceOfBrought_5 ?_
  refine fr_cVi (mi' := fmX1_brought) dX1_priceOfBrought_6 mlX1_112 mvX1_brought ⟨1, _, ⟨by decide, by decide, rfl⟩, rfl, rfl⟩ (Nat.le_of_ble_eq_true rfl) (kcX1_brought hG hI (by omega)) rfl rfl (Nat.le_of_ble_eq_true rfl) ?_
  refine fr_iald dX1_priceOfBrought_9 ⟨by decide, by decide, rfl, by decide⟩ (by omega) (by omega) ?_
  exact fr_iret dX1_priceOfBrought_10 rfl (fr_e (hG.pr (by omega) (by omega)) rfl)
set_option maxRecDepth 20000 in
theorem kcX1_borne {l : Launch} {κ : fr_Ka} {w : Int → Int} {μ : fr_Me} (hG : fr_G w μ) (hI : fr_I w) {t f : Int} (ht : 0 ≤ t ∧ t < w 0) (hf : 0 ≤ f ∧ f < 10)  : fr_C l κ fmX1_borne 4 [fr_r κ 1, fr_i t, fr_i f] μ (fr_Ei (sp_now w t f) μ) := by
  have eN := hG.n
  have eM := hG.many
  have iN := hI.n
  have iM := hI.many
  have eT := hG.tree (t := t) (by omega) (by omega)
  have iT := hI.tree (t := t) (by omega) (by omega)
  unfold fr_Gt at eT
  unfold fr_It at iT
  obtain ⟨e0, e1, e2, e3, e4, e5, e6⟩ := eT
  have b2 := sp_br_rg hI (w (13 + t))
  have b3 := sp_br_rg hI (w (19 + t))
  refine fr_enter (by decide +kernel) (ls := [some (fr_r κ 1), some (fr_i t), some (fr_i f), none, none, none]) rfl (Nat.le_of_ble_eq_true rfl) ?_
  refine fr_al0 dX1_borne_0 ?_
  refine fr_getr (cz := 2) dX1_borne_1 flX1_11 ⟨by decide, by decide, rfl⟩ rfl rfl ?_
  refine fr_il1 dX1_borne_4 ?_
  refine fr_aaT dX1_borne_5 (by omega) (by omega) ?_
  refine fr_as3 dX1_borne_6 rfl (Nat.le_of_ble_eq_true rfl) ?_
  refine fr_al0 dX1_borne_7 ?_
  refine fr_al3 dX1_borne_8 ?_
  refine fr_geti (kz := 2) dX1_borne_9 flX1_109 (fr_obT (by omega) (by omega)) rfl rfl ?_
  rw [e2]
  refine fr_cVi (mi' := fmX1_brought) dX1_borne_12 mlX1_112 mvX1_brought ⟨1, _, ⟨by decide, by decide, rfl⟩, rfl, rfl⟩ (Nat.le_of_ble_eq_true rfl) (kcX1_brought hG hI (by omega)) rfl rfl (Nat.le_of_ble_eq_true rfl) ?_
  refine fr_il2 dX1_borne_15 ?_
  refine fr_icmp_ne (tgt := 33) dX1_borne_16 (by decide) (by omega) (by omega) (fun h1 => ?_) (fun h1 => ?_)
  · skip
    refine fr_iconst dX1_borne_33 ?_
    refine fr_is4 dX1_borne_34 rfl (Nat.le_of_ble_eq_true rfl) ?_
    refine fr_al0 dX1_borne_36 ?_
    refine fr_al3 dX1_borne_37 ?_
    refine fr_geti (kz := 3) dX1_borne_38 flX1_125 (fr_obT (by omega) (by omega)) rfl rfl ?_
    rw [e3]
    refine fr_cVi (mi' := fmX1_brought) dX1_borne_41 mlX1_112 mvX1_brought ⟨1, _, ⟨by decide, by decide, rfl⟩, rfl, rfl⟩ (Nat.le_of_ble_eq_true rfl) (kcX1_brought hG hI (by omega)) rfl rfl (Nat.le_of_ble_eq_true rfl) ?_
    refine fr_il2 dX1_borne_44 ?_
    refine fr_icmp_ne (tgt := 62) dX1_borne_45 (by decide) (by omega) (by omega) (fun h2 => ?_) (fun h2 => ?_)
    · skip
      refine fr_iconst dX1_borne_62 ?_
      refine fr_is5 dX1_borne_63 rfl (Nat.le_of_ble_eq_true rfl) ?_
      refine fr_il4 dX1_borne_65 ?_
      refine fr_il5 dX1_borne_67 ?_
      refine fr_iadd dX1_borne_69 ?_
      exact fr_iret dX1_borne_70 rfl (fr_e (by unfold sp_now sp_bn; simp [*]) rfl)
    · skip
      refine fr_al3 dX1_borne_48 ?_
      refine fr_geti (kz := 0) dX1_borne_49 flX1_116 (fr_obT (by omega) (by omega)) rfl rfl ?_
      refine fr_al3 dX1_borne_52 ?_
      refine fr_geti (kz := 5) dX1_borne_53 flX1_128 (fr_obT (by omega) (by omega)) rfl rfl ?_
      rw [e0, e5]
      refine fr_cSi (mi' := fmX7_shareOfBefore) dX1_borne_56 mlX1_131 msX7_shareOfBefore (Nat.le_of_ble_eq_true rfl) (kcX7_shareOfBefore (by omega) (by omega)) rfl rfl (Nat.le_of_ble_eq_true rfl) ?_
      refine fr_goto (tgt := 63) dX1_borne_59 (by decide) ?_
      refine fr_is5 dX1_borne_63 rfl (Nat.le_of_ble_eq_true rfl) ?_
      refine fr_il4 dX1_borne_65 ?_
      refine fr_il5 dX1_borne_67 ?_
      refine fr_iadd dX1_borne_69 ?_
      exact fr_iret dX1_borne_70 rfl (fr_e (by unfold sp_now sp_bn; simp [*]) rfl)
  · skip
    refine fr_al3 dX1_borne_19 ?_
    refine fr_geti (kz := 0) dX1_borne_20 flX1_116 (fr_obT (by omega) (by omega)) rfl rfl ?_
    refine fr_al3 dX1_borne_23 ?_
    refine fr_geti (kz := 4) dX1_borne_24 flX1_117 (fr_obT (by omega) (by omega)) rfl rfl ?_
    rw [e0, e4]
    refine fr_cSi (mi' := fmX7_shareOfLast) dX1_borne_27 mlX1_121 msX7_shareOfLast (Nat.le_of_ble_eq_true rfl) (kcX7_shareOfLast (by omega) (by omega)) rfl rfl (Nat.le_of_ble_eq_true rfl) ?_
    refine fr_goto (tgt := 34) dX1_borne_30 (by decide) ?_
    refine fr_is4 dX1_borne_34 rfl (Nat.le_of_ble_eq_true rfl) ?_
    refine fr_al0 dX1_borne_36 ?_
    refine fr_al3 dX1_borne_37 ?_
    refine fr_geti (kz := 3) dX1_borne_38 flX1_125 (fr_obT (by omega) (by omega)) rfl rfl ?_
    rw [e3]
    refine fr_cVi (mi' := fmX1_brought) dX1_borne_41 mlX1_112 mvX1_brought ⟨1, _, ⟨by decide, by decide, rfl⟩, rfl, rfl⟩ (Nat.le_of_ble_eq_true rfl) (kcX1_brought hG hI (by omega)) rfl rfl (Nat.le_of_ble_eq_true rfl) ?_
    refine fr_il2 dX1_borne_44 ?_
    refine fr_icmp_ne (tgt := 62) dX1_borne_45 (by decide) (by omega) (by omega) (fun h3 => ?_) (fun h3 => ?_)
    · skip
      refine fr_iconst dX1_borne_62 ?_
      refine fr_is5 dX1_borne_63 rfl (Nat.le_of_ble_eq_true rfl) ?_
      refine fr_il4 dX1_borne_65 ?_
      refine fr_il5 dX1_borne_67 ?_
      refine fr_iadd dX1_borne_69 ?_
      exact fr_iret dX1_borne_70 rfl (fr_e (by unfold sp_now sp_bn; simp [*]) rfl)
    · skip
      refine fr_al3 dX1_borne_48 ?_
      refine fr_geti (kz := 0) dX1_borne_49 flX1_116 (fr_obT (by omega) (by omega)) rfl rfl ?_
      refine fr_al3 dX1_borne_52 ?_
      refine fr_geti (kz := 5) dX1_borne_53 flX1_128 (fr_obT (by omega) (by omega)) rfl rfl ?_
      rw [e0, e5]
      refine fr_cSi (mi' := fmX7_shareOfBefore) dX1_borne_56 mlX1_131 msX7_shareOfBefore (Nat.le_of_ble_eq_true rfl) (kcX7_shareOfBefore (by omega) (by omega)) rfl rfl (Nat.le_of_ble_eq_true rfl) ?_
      refine fr_goto (tgt := 63) dX1_borne_59 (by decide) ?_
      refine fr_is5 dX1_borne_63 rfl (Nat.le_of_ble_eq_true rfl) ?_
      refine fr_il4 dX1_borne_65 ?_
      refine fr_il5 dX1_borne_67 ?_
      refine fr_iadd dX1_borne_69 ?_
      exact fr_iret dX1_borne_70 rfl (fr_e (by unfold sp_now sp_bn; simp [*]) rfl)
set_option maxRecDepth 20000 in
theorem kcX1_borneNext {l : Launch} {κ : fr_Ka} {w : Int → Int} {μ : fr_Me} (hG : fr_G w μ) (hI : fr_I w) {t f : Int} (ht : 0 ≤ t ∧ t < w 0) (hf : 0 ≤ f ∧ f < 10)  : fr_C l κ fmX1_borneNext 4 [fr_r κ 1, fr_i t, fr_i f] μ (fr_Ei (sp_nxt w t f (w (7 + t)) 0) μ) := by
  have eN := hG.n
  have eM := hG.many
  have iN := hI.n
  have iM := hI.many
  have eT := hG.tree (t := t) (by omega) (by omega)
  have iT := hI.tree (t := t) (by omega) (by omega)
  unfold fr_Gt at eT
  unfold fr_It at iT
  obtain ⟨e0, e1, e2, e3, e4, e5, e6⟩ := eT
  have b2 := sp_br_rg hI (w (13 + t))
  have b3 := sp_br_rg hI (w (7 + t))
  refine fr_enter (by decide +kernel) (ls := [some (fr_r κ 1), some (fr_i t), some (fr_i f), none, none, none]) rfl (Nat.le_of_ble_eq_true rfl) ?_
  refine fr_al0 dX1_borneNext_0 ?_
  refine fr_getr (cz := 2) dX1_borneNext_1 flX1_11 ⟨by decide, by decide, rfl⟩ rfl rfl ?_
  refine fr_il1 dX1_borneNext_4 ?_
  refine fr_aaT dX1_borneNext_5 (by omega) (by omega) ?_
  refine fr_as3 dX1_borneNext_6 rfl (Nat.le_of_ble_eq_true rfl) ?_
  refine fr_al0 dX1_borneNext_7 ?_
  refine fr_al3 dX1_borneNext_8 ?_
  refine fr_geti (kz := 1) dX1_borneNext_9 flX1_106 (fr_obT (by omega) (by omega)) rfl rfl ?_
  rw [e1]
  refine fr_cVi (mi' := fmX1_brought) dX1_borneNext_12 mlX1_112 mvX1_brought ⟨1, _, ⟨by decide, by decide, rfl⟩, rfl, rfl⟩ (Nat.le_of_ble_eq_true rfl) (kcX1_brought hG hI (by omega)) rfl rfl (Nat.le_of_ble_eq_true rfl) ?_
  refine fr_il2 dX1_borneNext_15 ?_
  refine fr_icmp_ne (tgt := 30) dX1_borneNext_16 (by decide) (by omega) (by omega) (fun h1 => ?_) (fun h1 => ?_)
  · skip
    refine fr_iconst dX1_borneNext_30 ?_
    refine fr_is4 dX1_borneNext_31 rfl (Nat.le_of_ble_eq_true rfl) ?_
    refine fr_al0 dX1_borneNext_33 ?_
    refine fr_al3 dX1_borneNext_34 ?_
    refine fr_geti (kz := 2) dX1_borneNext_35 flX1_109 (fr_obT (by omega) (by omega)) rfl rfl ?_
    rw [e2]
    refine fr_cVi (mi' := fmX1_brought) dX1_borneNext_38 mlX1_112 mvX1_brought ⟨1, _, ⟨by decide, by decide, rfl⟩, rfl, rfl⟩ (Nat.le_of_ble_eq_true rfl) (kcX1_brought hG hI (by omega)) rfl rfl (Nat.le_of_ble_eq_true rfl) ?_
    refine fr_il2 dX1_borneNext_41 ?_
    refine fr_icmp_ne (tgt := 59) dX1_borneNext_42 (by decide) (by omega) (by omega) (fun h2 => ?_) (fun h2 => ?_)
    · skip
      refine fr_iconst dX1_borneNext_59 ?_
      refine fr_is5 dX1_borneNext_60 rfl (Nat.le_of_ble_eq_true rfl) ?_
      refine fr_il4 dX1_borneNext_62 ?_
      refine fr_il5 dX1_borneNext_64 ?_
      refine fr_iadd dX1_borneNext_66 ?_
      exact fr_iret dX1_borneNext_67 rfl (fr_e (by unfold sp_nxt sp_bn; simp [*]) rfl)
    · skip
      refine fr_al3 dX1_borneNext_45 ?_
      refine fr_geti (kz := 0) dX1_borneNext_46 flX1_116 (fr_obT (by omega) (by omega)) rfl rfl ?_
      refine fr_al3 dX1_borneNext_49 ?_
      refine fr_geti (kz := 4) dX1_borneNext_50 flX1_117 (fr_obT (by omega) (by omega)) rfl rfl ?_
      rw [e0, e4]
      refine fr_cSi (mi' := fmX7_shareOfBefore) dX1_borneNext_53 mlX1_131 msX7_shareOfBefore (Nat.le_of_ble_eq_true rfl) (kcX7_shareOfBefore (by omega) (by omega)) rfl rfl (Nat.le_of_ble_eq_true rfl) ?_
      refine fr_goto (tgt := 60) dX1_borneNext_56 (by decide) ?_
      refine fr_is5 dX1_borneNext_60 rfl (Nat.le_of_ble_eq_true rfl) ?_
      refine fr_il4 dX1_borneNext_62 ?_
      refine fr_il5 dX1_borneNext_64 ?_
      refine fr_iadd dX1_borneNext_66 ?_
      exact fr_iret dX1_borneNext_67 rfl (fr_e (by unfold sp_nxt sp_bn; simp [*]) rfl)
  · skip
    refine fr_al3 dX1_borneNext_19 ?_
    refine fr_geti (kz := 0) dX1_borneNext_20 flX1_116 (fr_obT (by omega) (by omega)) rfl rfl ?_
    refine fr_iconst dX1_borneNext_23 ?_
    rw [e0]
    refine fr_cSi (mi' := fmX7_shareOfLast) dX1_borneNext_24 mlX1_121 msX7_shareOfLast (Nat.le_of_ble_eq_true rfl) (kcX7_shareOfLast (by omega) (by omega)) rfl rfl (Nat.le_of_ble_eq_true rfl) ?_
    refine fr_goto (tgt := 31) dX1_borneNext_27 (by decide) ?_
    refine fr_is4 dX1_borneNext_31 rfl (Nat.le_of_ble_eq_true rfl) ?_
    refine fr_al0 dX1_borneNext_33 ?_
    refine fr_al3 dX1_borneNext_34 ?_
    refine fr_geti (kz := 2) dX1_borneNext_35 flX1_109 (fr_obT (by omega) (by omega)) rfl rfl ?_
    rw [e2]
    refine fr_cVi (mi' := fmX1_brought) dX1_borneNext_38 mlX1_112 mvX1_brought ⟨1, _, ⟨by decide, by decide, rfl⟩, rfl, rfl⟩ (Nat.le_of_ble_eq_true rfl) (kcX1_brought hG hI (by omega)) rfl rfl (Nat.le_of_ble_eq_true rfl) ?_
    refine fr_il2 dX1_borneNext_41 ?_
    refine fr_icmp_ne (tgt := 59) dX1_borneNext_42 (by decide) (by omega) (by omega) (fun h3 => ?_) (fun h3 => ?_)
    · skip
      refine fr_iconst dX1_borneNext_59 ?_
      refine fr_is5 dX1_borneNext_60 rfl (Nat.le_of_ble_eq_true rfl) ?_
      refine fr_il4 dX1_borneNext_62 ?_
      refine fr_il5 dX1_borneNext_64 ?_
      refine fr_iadd dX1_borneNext_66 ?_
      exact fr_iret dX1_borneNext_67 rfl (fr_e (by unfold sp_nxt sp_bn; simp [*]) rfl)
    · skip
      refine fr_al3 dX1_borneNext_45 ?_
      refine fr_geti (kz := 0) dX1_borneNext_46 flX1_116 (fr_obT (by omega) (by omega)) rfl rfl ?_
      refine fr_al3 dX1_borneNext_49 ?_
      refine fr_geti (kz := 4) dX1_borneNext_50 flX1_117 (fr_obT (by omega) (by omega)) rfl rfl ?_
      rw [e0, e4]
      refine fr_cSi (mi' := fmX7_shareOfBefore) dX1_borneNext_53 mlX1_131 msX7_shareOfBefore (Nat.le_of_ble_eq_true rfl) (kcX7_shareOfBefore (by omega) (by omega)) rfl rfl (Nat.le_of_ble_eq_true rfl) ?_
      refine fr_goto (tgt := 60) dX1_borneNext_56 (by decide) ?_
      refine fr_is5 dX1_borneNext_60 rfl (Nat.le_of_ble_eq_true rfl) ?_
      refine fr_il4 dX1_borneNext_62 ?_
      refine fr_il5 dX1_borneNext_64 ?_
      refine fr_iadd dX1_borneNext_66 ?_
      exact fr_iret dX1_borneNext_67 rfl (fr_e (by unfold sp_nxt sp_bn; simp [*]) rfl)
set_option maxRecDepth 20000 in
theorem kcX1_inBasket {l : Launch} {κ : fr_Ka} {w : Int → Int} {μ : fr_Me} (hG : fr_G w μ) (hI : fr_I w) {f : Int} (hf : 0 ≤ f ∧ f < 10) : fr_C l κ fmX1_inBasket 5 [fr_r κ 1, fr_i f] μ (fr_Ei (sp_bask w f 0) μ) := by
  have eN := hG.n
  have eM := hG.many
  have iN := hI.n
  have iM := hI.many
  refine fr_enter (by decide +kernel) (ls := [some (fr_r κ 1), some (fr_i f), none, none]) rfl (Nat.le_of_ble_eq_true rfl) ?_
  refine fr_iconst dX1_inBasket_0 ?_
  refine fr_is2 dX1_inBasket_1 rfl (Nat.le_of_ble_eq_true rfl) ?_
  refine fr_iconst dX1_inBasket_2 ?_
  refine fr_is3 dX1_inBasket_3 rfl (Nat.le_of_ble_eq_true rfl) ?_
  refine fr_wk ?_ (ls := [some (fr_r κ 1), some (fr_i f), some (fr_i (sp_sum 0 (fun t => sp_now w t f))), some (fr_i (0 : Int))]) ⟨rfl, rfl, rfl, rfl, trivial⟩
  refine fr_down (P := fun j : Nat => fr_A l κ fmX1_inBasket 5 (fr_Ei (sp_bask w f 0) μ) 4 [some (fr_r κ 1), some (fr_i f), some (fr_i (sp_sum j (fun t => sp_now w t f))), some (fr_i (j : Int))] [] μ) (w 0).toNat ?_ (fun j hj4 ih4 => ?_)
  · skip
    refine fr_il3 dX1_inBasket_4 ?_
    refine fr_al0 dX1_inBasket_5 ?_
    refine fr_geti (kz := 3) dX1_inBasket_6 flX1_58 ⟨by decide, by decide, rfl⟩ rfl rfl ?_
    refine fr_icmp_ge (tgt := 27) dX1_inBasket_9 (by decide) (by omega) (by omega) (fun h1 => ?_) (fun h1 => ?_)
    · skip
      refine fr_il2 dX1_inBasket_27 ?_
      exact fr_iret dX1_inBasket_28 rfl (fr_e rfl rfl)
    · skip
      exfalso; omega
  · skip
    refine fr_il3 dX1_inBasket_4 ?_
    refine fr_al0 dX1_inBasket_5 ?_
    refine fr_geti (kz := 3) dX1_inBasket_6 flX1_58 ⟨by decide, by decide, rfl⟩ rfl rfl ?_
    refine fr_icmp_ge (tgt := 27) dX1_inBasket_9 (by decide) (by omega) (by omega) (fun h2 => ?_) (fun h2 => ?_)
    · skip
      exfalso; omega
    · skip
      refine fr_il2 dX1_inBasket_12 ?_
      refine fr_al0 dX1_inBasket_13 ?_
      refine fr_il3 dX1_inBasket_14 ?_
      refine fr_il1 dX1_inBasket_15 ?_
      refine fr_cVi (mi' := fmX1_borne) dX1_inBasket_16 mlX1_134 mvX1_borne ⟨1, _, ⟨by decide, by decide, rfl⟩, rfl, rfl⟩ (Nat.le_of_ble_eq_true rfl) (kcX1_borne hG hI (by omega) (by omega)) rfl rfl (Nat.le_of_ble_eq_true rfl) ?_
      refine fr_iadd dX1_inBasket_19 ?_
      refine fr_is2 dX1_inBasket_20 rfl (Nat.le_of_ble_eq_true rfl) ?_
      refine fr_ii3 dX1_inBasket_21 rfl (Nat.le_of_ble_eq_true rfl) ?_
      refine fr_goto (tgt := 4) dX1_inBasket_24 (by decide) ?_
      exact fr_wk (ih4) ⟨rfl, rfl, rfl, rfl, trivial⟩
set_option maxRecDepth 20000 in
theorem kcX1_inNext {l : Launch} {κ : fr_Ka} {w : Int → Int} {μ : fr_Me} (hG : fr_G w μ) (hI : fr_I w) {f : Int} (hf : 0 ≤ f ∧ f < 10) : fr_C l κ fmX1_inNext 5 [fr_r κ 1, fr_i f] μ (fr_Ei (sp_bask w f 1) μ) := by
  have eN := hG.n
  have eM := hG.many
  have iN := hI.n
  have iM := hI.many
  refine fr_enter (by decide +kernel) (ls := [some (fr_r κ 1), some (fr_i f), none, none]) rfl (Nat.le_of_ble_eq_true rfl) ?_
  refine fr_iconst dX1_inNext_0 ?_
  refine fr_is2 dX1_inNext_1 rfl (Nat.le_of_ble_eq_true rfl) ?_
  refine fr_iconst dX1_inNext_2 ?_
  refine fr_is3 dX1_inNext_3 rfl (Nat.le_of_ble_eq_true rfl) ?_
  refine fr_wk ?_ (ls := [some (fr_r κ 1), some (fr_i f), some (fr_i (sp_sum 0 (fun t => sp_nxt w t f (w (7 + t)) 0))), some (fr_i (0 : Int))]) ⟨rfl, rfl, rfl, rfl, trivial⟩
  refine fr_down (P := fun j : Nat => fr_A l κ fmX1_inNext 5 (fr_Ei (sp_bask w f 1) μ) 4 [some (fr_r κ 1), some (fr_i f), some (fr_i (sp_sum j (fun t => sp_nxt w t f (w (7 + t)) 0))), some (fr_i (j : Int))] [] μ) (w 0).toNat ?_ (fun j hj4 ih4 => ?_)
  · skip
    refine fr_il3 dX1_inNext_4 ?_
    refine fr_al0 dX1_inNext_5 ?_
    refine fr_geti (kz := 3) dX1_inNext_6 flX1_58 ⟨by decide, by decide, rfl⟩ rfl rfl ?_
    refine fr_icmp_ge (tgt := 27) dX1_inNext_9 (by decide) (by omega) (by omega) (fun h1 => ?_) (fun h1 => ?_)
    · skip
      refine fr_il2 dX1_inNext_27 ?_
      exact fr_iret dX1_inNext_28 rfl (fr_e rfl rfl)
    · skip
      exfalso; omega
  · skip
    refine fr_il3 dX1_inNext_4 ?_
    refine fr_al0 dX1_inNext_5 ?_
    refine fr_geti (kz := 3) dX1_inNext_6 flX1_58 ⟨by decide, by decide, rfl⟩ rfl rfl ?_
    refine fr_icmp_ge (tgt := 27) dX1_inNext_9 (by decide) (by omega) (by omega) (fun h2 => ?_) (fun h2 => ?_)
    · skip
      exfalso; omega
    · skip
      refine fr_il2 dX1_inNext_12 ?_
      refine fr_al0 dX1_inNext_13 ?_
      refine fr_il3 dX1_inNext_14 ?_
      refine fr_il1 dX1_inNext_15 ?_
      refine fr_cVi (mi' := fmX1_borneNext) dX1_inNext_16 mlX1_138 mvX1_borneNext ⟨1, _, ⟨by decide, by decide, rfl⟩, rfl, rfl⟩ (Nat.le_of_ble_eq_true rfl) (kcX1_borneNext hG hI (by omega) (by omega)) rfl rfl (Nat.le_of_ble_eq_true rfl) ?_
      refine fr_iadd dX1_inNext_19 ?_
      refine fr_is2 dX1_inNext_20 rfl (Nat.le_of_ble_eq_true rfl) ?_
      refine fr_ii3 dX1_inNext_21 rfl (Nat.le_of_ble_eq_true rfl) ?_
      refine fr_goto (tgt := 4) dX1_inNext_24 (by decide) ?_
      exact fr_wk (ih4) ⟨rfl, rfl, rfl, rfl, trivial⟩
set_option maxRecDepth 20000 in
theorem kcX1_basketValue {l : Launch} {κ : fr_Ka} {w : Int → Int} {μ : fr_Me} (hG : fr_G w μ) (hI : fr_I w)  : fr_C l κ fmX1_basketValue 6 [fr_r κ 1] μ (fr_Ei (sp_val w 0) μ) := by
  have eN := hG.n
  have eM := hG.many
  have iN := hI.n
  have iM := hI.many
  refine fr_enter (by decide +kernel) (ls := [some (fr_r κ 1), none, none]) rfl (Nat.le_of_ble_eq_true rfl) ?_
  refine fr_iconst dX1_basketValue_0 ?_
  refine fr_is1 dX1_basketValue_1 rfl (Nat.le_of_ble_eq_true rfl) ?_
  refine fr_iconst dX1_basketValue_2 ?_
  refine fr_is2 dX1_basketValue_3 rfl (Nat.le_of_ble_eq_true rfl) ?_
  refine fr_wk ?_ (ls := [some (fr_r κ 1), some (fr_i (sp_sum 0 (fun f => w (64 + f) * sp_bask w f 0))), some (fr_i (0 : Int))]) ⟨rfl, rfl, rfl, trivial⟩
  refine fr_down (P := fun j : Nat => fr_A l κ fmX1_basketValue 6 (fr_Ei (sp_val w 0) μ) 4 [some (fr_r κ 1), some (fr_i (sp_sum j (fun f => w (64 + f) * sp_bask w f 0))), some (fr_i (j : Int))] [] μ) 10 ?_ (fun j hj4 ih4 => ?_)
  · skip
    refine fr_il2 dX1_basketValue_4 ?_
    refine fr_bipush dX1_basketValue_5 (by decide) ?_
    refine fr_icmp_ge (tgt := 31) dX1_basketValue_7 (by decide) (by omega) (by omega) (fun h1 => ?_) (fun h1 => ?_)
    · skip
      refine fr_il1 dX1_basketValue_31 ?_
      exact fr_iret dX1_basketValue_32 rfl (fr_e rfl rfl)
    · skip
      exfalso; omega
  · skip
    have ep := hG.pr (f := (j : Int)) (by omega) (by omega)
    refine fr_il2 dX1_basketValue_4 ?_
    refine fr_bipush dX1_basketValue_5 (by decide) ?_
    refine fr_icmp_ge (tgt := 31) dX1_basketValue_7 (by decide) (by omega) (by omega) (fun h2 => ?_) (fun h2 => ?_)
    · skip
      exfalso; omega
    · skip
      refine fr_il1 dX1_basketValue_10 ?_
      refine fr_al0 dX1_basketValue_11 ?_
      refine fr_il2 dX1_basketValue_12 ?_
      refine fr_cVi (mi' := fmX1_inBasket) dX1_basketValue_13 mlX1_141 mvX1_inBasket ⟨1, _, ⟨by decide, by decide, rfl⟩, rfl, rfl⟩ (Nat.le_of_ble_eq_true rfl) (kcX1_inBasket hG hI (by omega)) rfl rfl (Nat.le_of_ble_eq_true rfl) ?_
      refine fr_al0 dX1_basketValue_16 ?_
      refine fr_getr (cz := 4) dX1_basketValue_17 flX1_23 ⟨by decide, by decide, rfl⟩ rfl rfl ?_
      refine fr_il2 dX1_basketValue_20 ?_
      refine fr_iald dX1_basketValue_21 ⟨by decide, by decide, rfl, by decide⟩ (by omega) (by omega) ?_
      refine fr_imul dX1_basketValue_22 ?_
      refine fr_iadd dX1_basketValue_23 ?_
      refine fr_is1 dX1_basketValue_24 rfl (Nat.le_of_ble_eq_true rfl) ?_
      refine fr_ii2 dX1_basketValue_25 rfl (Nat.le_of_ble_eq_true rfl) ?_
      refine fr_goto (tgt := 4) dX1_basketValue_28 (by decide) ?_
      rw [ep, Int.mul_comm]
      exact fr_wk (ih4) ⟨rfl, rfl, rfl, trivial⟩
set_option maxRecDepth 20000 in
theorem kcX1_nextValue {l : Launch} {κ : fr_Ka} {w : Int → Int} {μ : fr_Me} (hG : fr_G w μ) (hI : fr_I w)  : fr_C l κ fmX1_nextValue 6 [fr_r κ 1] μ (fr_Ei (sp_val w 1) μ) := by
  have eN := hG.n
  have eM := hG.many
  have iN := hI.n
  have iM := hI.many
  refine fr_enter (by decide +kernel) (ls := [some (fr_r κ 1), none, none]) rfl (Nat.le_of_ble_eq_true rfl) ?_
  refine fr_iconst dX1_nextValue_0 ?_
  refine fr_is1 dX1_nextValue_1 rfl (Nat.le_of_ble_eq_true rfl) ?_
  refine fr_iconst dX1_nextValue_2 ?_
  refine fr_is2 dX1_nextValue_3 rfl (Nat.le_of_ble_eq_true rfl) ?_
  refine fr_wk ?_ (ls := [some (fr_r κ 1), some (fr_i (sp_sum 0 (fun f => w (64 + f) * sp_bask w f 1))), some (fr_i (0 : Int))]) ⟨rfl, rfl, rfl, trivial⟩
  refine fr_down (P := fun j : Nat => fr_A l κ fmX1_nextValue 6 (fr_Ei (sp_val w 1) μ) 4 [some (fr_r κ 1), some (fr_i (sp_sum j (fun f => w (64 + f) * sp_bask w f 1))), some (fr_i (j : Int))] [] μ) 10 ?_ (fun j hj4 ih4 => ?_)
  · skip
    refine fr_il2 dX1_nextValue_4 ?_
    refine fr_bipush dX1_nextValue_5 (by decide) ?_
    refine fr_icmp_ge (tgt := 31) dX1_nextValue_7 (by decide) (by omega) (by omega) (fun h1 => ?_) (fun h1 => ?_)
    · skip
      refine fr_il1 dX1_nextValue_31 ?_
      exact fr_iret dX1_nextValue_32 rfl (fr_e rfl rfl)
    · skip
      exfalso; omega
  · skip
    have ep := hG.pr (f := (j : Int)) (by omega) (by omega)
    refine fr_il2 dX1_nextValue_4 ?_
    refine fr_bipush dX1_nextValue_5 (by decide) ?_
    refine fr_icmp_ge (tgt := 31) dX1_nextValue_7 (by decide) (by omega) (by omega) (fun h2 => ?_) (fun h2 => ?_)
    · skip
      exfalso; omega
    · skip
      refine fr_il1 dX1_nextValue_10 ?_
      refine fr_al0 dX1_nextValue_11 ?_
      refine fr_il2 dX1_nextValue_12 ?_
      refine fr_cVi (mi' := fmX1_inNext) dX1_nextValue_13 mlX1_144 mvX1_inNext ⟨1, _, ⟨by decide, by decide, rfl⟩, rfl, rfl⟩ (Nat.le_of_ble_eq_true rfl) (kcX1_inNext hG hI (by omega)) rfl rfl (Nat.le_of_ble_eq_true rfl) ?_
      refine fr_al0 dX1_nextValue_16 ?_
      refine fr_getr (cz := 4) dX1_nextValue_17 flX1_23 ⟨by decide, by decide, rfl⟩ rfl rfl ?_
      refine fr_il2 dX1_nextValue_20 ?_
      refine fr_iald dX1_nextValue_21 ⟨by decide, by decide, rfl, by decide⟩ (by omega) (by omega) ?_
      refine fr_imul dX1_nextValue_22 ?_
      refine fr_iadd dX1_nextValue_23 ?_
      refine fr_is1 dX1_nextValue_24 rfl (Nat.le_of_ble_eq_true rfl) ?_
      refine fr_ii2 dX1_nextValue_25 rfl (Nat.le_of_ble_eq_true rfl) ?_
      refine fr_goto (tgt := 4) dX1_nextValue_28 (by decide) ?_
      rw [ep, Int.mul_comm]
      exact fr_wk (ih4) ⟨rfl, rfl, rfl, trivial⟩
