/-! the class: its calls, hired, nights, pies, rotas -/
set_option maxRecDepth 20000 in
theorem kcX10_hired {l : Launch} {κ : fr_Ka} {w : Int → Int} {μ : fr_Me} (hG : fr_G w μ) (hI : fr_I w) (hS : fr_Sc μ) {s lane i tree : Int} (rs : -2147483648 ≤ s ∧ s ≤ 2147483647) (rlane : -2147483648 ≤ lane ∧ lane ≤ 2147483647) (ri : -2147483648 ≤ i ∧ i ≤ 2147483647) (rtree : -2147483648 ≤ tree ∧ tree ≤ 2147483647) : fr_C l κ fmX10_hired 11 [fr_r κ 0, fr_i s, fr_i lane, fr_i i, fr_i tree] μ (fr_Pi (fun z m => (¬ ((0 ≤ s ∧ s ≤ 3) ∧ (0 ≤ lane ∧ lane ≤ 3) ∧ (-1 ≤ tree ∧ tree ≤ w 0 - 1)) ∧ z = -1 ∧ m = μ) ∨ (((0 ≤ s ∧ s ≤ 3) ∧ (0 ≤ lane ∧ lane ≤ 3) ∧ (-1 ≤ tree ∧ tree ≤ w 0 - 1)) ∧ (sp_bars (sh_L μ s) (μ (58 + s) 3) lane i 10) ≠ 0 ∧ z = (sp_bars (sh_L μ s) (μ (58 + s) 3) lane i 10) ∧ m = μ) ∨ (((0 ≤ s ∧ s ≤ 3) ∧ (0 ≤ lane ∧ lane ≤ 3) ∧ (-1 ≤ tree ∧ tree ≤ w 0 - 1)) ∧ (sp_bars (sh_L μ s) (μ (58 + s) 3) lane i 10) = 0 ∧ (∃ least found, sp_bi (sp_Hk w (fun q => μ (62 + s) (i + q)) (fr_shl 1 (w 43) - 1)) (fun c => -sp_W w c) (sp_p6 (w 0).toNat) (-least) found ∧ z = if least = 1000000000 then -4 else if tree < 0 then least else sp_dg (w 0) found tree) ∧ ∀ c, (c < 15 ∨ 35 < c) → m c = μ c))) := by
  have iN := hI.n
  have iM := hI.many
  have gN := hG.n
  have gM := hG.many
  refine fr_enter (by decide +kernel) (ls := [some (fr_r κ 0), some (fr_i s), some (fr_i lane), some (fr_i i), some (fr_i tree), none]) rfl (Nat.le_of_ble_eq_true rfl) ?_
  refine fr_il1 dX10_hired_0 ?_
  refine fr_cSi (mi' := fmX10_isSheet) dX10_hired_1 mlX10_235 msX10_isSheet (Nat.le_of_ble_eq_true rfl) (kcX10_isSheet (by omega)) rfl rfl (Nat.le_of_ble_eq_true rfl) ?_
  refine fr_ifb_eq (tgt := 32) dX10_hired_4 (by decide) (fun h1 => ?_) (fun h1 => ?_)
  · skip
    refine fr_iconst dX10_hired_32 ?_
    exact fr_iret dX10_hired_33 rfl (fr_pi (Or.inl ⟨by omega, rfl, rfl⟩))
  · skip
    refine fr_il2 dX10_hired_7 ?_
    refine fr_cSi (mi' := fmX10_isLane) dX10_hired_8 mlX10_238 msX10_isLane (Nat.le_of_ble_eq_true rfl) (kcX10_isLane (by omega)) rfl rfl (Nat.le_of_ble_eq_true rfl) ?_
    refine fr_ifb_eq (tgt := 32) dX10_hired_11 (by decide) (fun h2 => ?_) (fun h2 => ?_)
    · skip
      refine fr_iconst dX10_hired_32 ?_
      exact fr_iret dX10_hired_33 rfl (fr_pi (Or.inl ⟨by omega, rfl, rfl⟩))
    · skip
      refine fr_il4 dX10_hired_14 ?_
      refine fr_iconst dX10_hired_16 ?_
      refine fr_icmp_eq (tgt := 34) dX10_hired_17 (by decide) (by omega) (by omega) (fun h3 => ?_) (fun h3 => ?_)
      · skip
        refine fr_al0 dX10_hired_34 ?_
        refine fr_il1 dX10_hired_35 ?_
        refine fr_il2 dX10_hired_36 ?_
        refine fr_il3 dX10_hired_37 ?_
        refine fr_bipush dX10_hired_38 (by decide) ?_
        refine fr_cVi (mi' := fmX10_faultOf) dX10_hired_40 mlX10_241 mvX10_faultOf ⟨10, _, ⟨by decide, by decide, rfl⟩, rfl, rfl⟩ (Nat.le_of_ble_eq_true rfl) (kcX10_faultOf hS (by omega) (by omega) (by omega) (by omega) (by omega)) rfl rfl (Nat.le_of_ble_eq_true rfl) ?_
        have hbr := sp_bars_rg (sh_L μ s) (μ (58 + s) 3) lane i 10
        refine fr_is5 dX10_hired_43 rfl (Nat.le_of_ble_eq_true rfl) ?_
        refine fr_il5 dX10_hired_45 ?_
        refine fr_if_eq (tgt := 53) dX10_hired_47 (by decide) (by omega) (fun h4 => ?_) (fun h4 => ?_)
        · skip
          have hb0 := sp_bars0 (show (sp_bars (sh_L μ s) (μ (58 + s) 3) lane i 10) = 0 by omega)
          have hss := hS s (by omega) (by omega)
          refine fr_al0 dX10_hired_53 ?_
          refine fr_getr (cz := 15) dX10_hired_54 flX10_35 ⟨by decide, by decide, rfl⟩ rfl rfl ?_
          refine fr_al0 dX10_hired_57 ?_
          refine fr_getr (cz := 1) dX10_hired_58 flX10_12 ⟨by decide, by decide, rfl⟩ rfl rfl ?_
          refine fr_cVQ (mi' := fmX3_lay) dX10_hired_61 mlX10_201 mvX3_lay ⟨3, _, ⟨by decide, by decide, rfl⟩, rfl, rfl⟩ (Nat.le_of_ble_eq_true rfl) (kcX3_lay hG hI) rfl rfl (Nat.le_of_ble_eq_true rfl) (fun p hp => ?_)
          have hP : pl_P w p := hp.P
          have hpx := hp.2.2.2.2.2.2
          have eal := hP.all
          have e62 : p (62 + s) = μ (62 + s) := hpx _ (by omega)
          refine fr_al0 dX10_hired_64 ?_
          refine fr_getr (cz := 27) dX10_hired_65 flX10_51 ⟨by decide, by decide, rfl⟩ rfl rfl ?_
          refine fr_al0 dX10_hired_68 ?_
          refine fr_getr (cz := 14) dX10_hired_69 flX10_28 ⟨by decide, by decide, rfl⟩ rfl rfl ?_
          refine fr_il1 dX10_hired_72 ?_
          refine fr_aaS dX10_hired_73 (by omega) (by omega) ?_
          refine fr_il3 dX10_hired_74 ?_
          refine fr_cVQ (mi' := fmX9_take) dX10_hired_75 mlX10_244 mvX9_take ⟨9, _, ⟨by decide, by decide, rfl⟩, rfl, rfl⟩ (Nat.le_of_ble_eq_true rfl) (kcX9_take hP hI (by omega) (by omega) (by omega) (by rw [e62]; exact hss.2.2.2)) rfl rfl (Nat.le_of_ble_eq_true rfl) (fun t ht => ?_)
          rw [e62] at ht
          have hPt : pl_P w t := hP.keep (fun c c0 c1 => ht.2 c (by omega))
          refine fr_al0 dX10_hired_78 ?_
          refine fr_getr (cz := 27) dX10_hired_79 flX10_51 ⟨by decide, by decide, rfl⟩ rfl rfl ?_
          refine fr_cVP (mi' := fmX9_hireCheapest) dX10_hired_82 mlX10_248 mvX9_hireCheapest ⟨9, _, ⟨by decide, by decide, rfl⟩, rfl, rfl⟩ (Nat.le_of_ble_eq_true rfl) (kcX9_hireCheapest hPt hI ht.1) rfl rfl (Nat.le_of_ble_eq_true rfl) (fun z m hz => ?_)
          obtain ⟨rfl, hst, hfr⟩ := hz
          refine fr_ifb_ne (tgt := 91) dX10_hired_85 (by decide) (fun h5 => ?_) (fun h5 => ?_)
          · skip
            refine fr_il4 dX10_hired_91 ?_
            refine fr_iconst dX10_hired_93 ?_
            refine fr_icmp_ne (tgt := 107) dX10_hired_94 (by decide) (by omega) (by omega) (fun h6 => ?_) (fun h6 => ?_)
            · skip
              refine fr_al0 dX10_hired_107 ?_
              refine fr_getr (cz := 27) dX10_hired_108 flX10_51 ⟨by decide, by decide, rfl⟩ rfl rfl ?_
              refine fr_getr (cz := 30) dX10_hired_111 flX10_255 ⟨by decide, by decide, rfl⟩ rfl rfl ?_
              refine fr_il4 dX10_hired_114 ?_
              refine fr_iald dX10_hired_116 ⟨by decide, by decide, rfl, by decide⟩ (by omega) (by omega) ?_
              exact fr_iret dX10_hired_117 rfl (fr_pi (Or.inr (Or.inr ⟨by omega, by omega, by obtain ⟨least, found, h1, h2, h3⟩ := hi_end hI hst; exact ⟨least, found, h1, by rcases h2 with h2 | h2; (· omega); (· rw [if_neg (show ¬ least = 1000000000 by omega), if_neg (show ¬ tree < 0 by omega)]; exact h2.2.2 tree (by omega) (by omega))⟩, fun c hc => ((hfr.1 c (by omega) (by omega) (by omega) (by omega)).trans (ht.2 c (by omega))).trans (hpx c (by omega))⟩)))
            · skip
              refine fr_al0 dX10_hired_97 ?_
              refine fr_getr (cz := 27) dX10_hired_98 flX10_51 ⟨by decide, by decide, rfl⟩ rfl rfl ?_
              refine fr_geti (kz := 4) dX10_hired_101 flX10_252 ⟨by decide, by decide, rfl⟩ rfl rfl ?_
              refine fr_goto (tgt := 117) dX10_hired_104 (by decide) ?_
              exact fr_iret dX10_hired_117 rfl (fr_pi (Or.inr (Or.inr ⟨by omega, by omega, by obtain ⟨least, found, h1, h2, h3⟩ := hi_end hI hst; exact ⟨least, found, h1, by rcases h2 with h2 | h2; (· omega); (· rw [if_neg (show ¬ least = 1000000000 by omega), if_pos (show tree < 0 by omega)]; exact h2.2.1.symm)⟩, fun c hc => ((hfr.1 c (by omega) (by omega) (by omega) (by omega)).trans (ht.2 c (by omega))).trans (hpx c (by omega))⟩)))
          · skip
            refine fr_bipush dX10_hired_88 (by decide) ?_
            exact fr_iret dX10_hired_90 rfl (fr_pi (Or.inr (Or.inr ⟨by omega, by omega, by obtain ⟨least, found, h1, h2, h3⟩ := hi_end hI hst; exact ⟨least, found, h1, by rcases h2 with h2 | h2; (· rw [if_pos h2.2]); (· omega)⟩, fun c hc => ((hfr.1 c (by omega) (by omega) (by omega) (by omega)).trans (ht.2 c (by omega))).trans (hpx c (by omega))⟩)))
        · skip
          refine fr_il5 dX10_hired_50 ?_
          exact fr_iret dX10_hired_52 rfl (fr_pi (Or.inr (Or.inl ⟨by omega, by omega, rfl, rfl⟩)))
      · skip
        refine fr_al0 dX10_hired_20 ?_
        refine fr_getr (cz := 1) dX10_hired_21 flX10_12 ⟨by decide, by decide, rfl⟩ rfl rfl ?_
        refine fr_il4 dX10_hired_24 ?_
        refine fr_cVi (mi' := fmX1_hasTree) dX10_hired_26 mlX10_88 mvX1_hasTree ⟨1, _, ⟨by decide, by decide, rfl⟩, rfl, rfl⟩ (Nat.le_of_ble_eq_true rfl) (kcX1_hasTree hG hI (by omega)) rfl rfl (Nat.le_of_ble_eq_true rfl) ?_
        refine fr_ifb_ne (tgt := 34) dX10_hired_29 (by decide) (fun h7 => ?_) (fun h7 => ?_)
        · skip
          refine fr_al0 dX10_hired_34 ?_
          refine fr_il1 dX10_hired_35 ?_
          refine fr_il2 dX10_hired_36 ?_
          refine fr_il3 dX10_hired_37 ?_
          refine fr_bipush dX10_hired_38 (by decide) ?_
          refine fr_cVi (mi' := fmX10_faultOf) dX10_hired_40 mlX10_241 mvX10_faultOf ⟨10, _, ⟨by decide, by decide, rfl⟩, rfl, rfl⟩ (Nat.le_of_ble_eq_true rfl) (kcX10_faultOf hS (by omega) (by omega) (by omega) (by omega) (by omega)) rfl rfl (Nat.le_of_ble_eq_true rfl) ?_
          have hbr := sp_bars_rg (sh_L μ s) (μ (58 + s) 3) lane i 10
          refine fr_is5 dX10_hired_43 rfl (Nat.le_of_ble_eq_true rfl) ?_
          refine fr_il5 dX10_hired_45 ?_
          refine fr_if_eq (tgt := 53) dX10_hired_47 (by decide) (by omega) (fun h8 => ?_) (fun h8 => ?_)
          · skip
            have hb0 := sp_bars0 (show (sp_bars (sh_L μ s) (μ (58 + s) 3) lane i 10) = 0 by omega)
            have hss := hS s (by omega) (by omega)
            refine fr_al0 dX10_hired_53 ?_
            refine fr_getr (cz := 15) dX10_hired_54 flX10_35 ⟨by decide, by decide, rfl⟩ rfl rfl ?_
            refine fr_al0 dX10_hired_57 ?_
            refine fr_getr (cz := 1) dX10_hired_58 flX10_12 ⟨by decide, by decide, rfl⟩ rfl rfl ?_
            refine fr_cVQ (mi' := fmX3_lay) dX10_hired_61 mlX10_201 mvX3_lay ⟨3, _, ⟨by decide, by decide, rfl⟩, rfl, rfl⟩ (Nat.le_of_ble_eq_true rfl) (kcX3_lay hG hI) rfl rfl (Nat.le_of_ble_eq_true rfl) (fun p hp => ?_)
            have hP : pl_P w p := hp.P
            have hpx := hp.2.2.2.2.2.2
            have eal := hP.all
            have e62 : p (62 + s) = μ (62 + s) := hpx _ (by omega)
            refine fr_al0 dX10_hired_64 ?_
            refine fr_getr (cz := 27) dX10_hired_65 flX10_51 ⟨by decide, by decide, rfl⟩ rfl rfl ?_
            refine fr_al0 dX10_hired_68 ?_
            refine fr_getr (cz := 14) dX10_hired_69 flX10_28 ⟨by decide, by decide, rfl⟩ rfl rfl ?_
            refine fr_il1 dX10_hired_72 ?_
            refine fr_aaS dX10_hired_73 (by omega) (by omega) ?_
            refine fr_il3 dX10_hired_74 ?_
            refine fr_cVQ (mi' := fmX9_take) dX10_hired_75 mlX10_244 mvX9_take ⟨9, _, ⟨by decide, by decide, rfl⟩, rfl, rfl⟩ (Nat.le_of_ble_eq_true rfl) (kcX9_take hP hI (by omega) (by omega) (by omega) (by rw [e62]; exact hss.2.2.2)) rfl rfl (Nat.le_of_ble_eq_true rfl) (fun t ht => ?_)
            rw [e62] at ht
            have hPt : pl_P w t := hP.keep (fun c c0 c1 => ht.2 c (by omega))
            refine fr_al0 dX10_hired_78 ?_
            refine fr_getr (cz := 27) dX10_hired_79 flX10_51 ⟨by decide, by decide, rfl⟩ rfl rfl ?_
            refine fr_cVP (mi' := fmX9_hireCheapest) dX10_hired_82 mlX10_248 mvX9_hireCheapest ⟨9, _, ⟨by decide, by decide, rfl⟩, rfl, rfl⟩ (Nat.le_of_ble_eq_true rfl) (kcX9_hireCheapest hPt hI ht.1) rfl rfl (Nat.le_of_ble_eq_true rfl) (fun z m hz => ?_)
            obtain ⟨rfl, hst, hfr⟩ := hz
            refine fr_ifb_ne (tgt := 91) dX10_hired_85 (by decide) (fun h9 => ?_) (fun h9 => ?_)
            · skip
              refine fr_il4 dX10_hired_91 ?_
              refine fr_iconst dX10_hired_93 ?_
              refine fr_icmp_ne (tgt := 107) dX10_hired_94 (by decide) (by omega) (by omega) (fun h10 => ?_) (fun h10 => ?_)
              · skip
                refine fr_al0 dX10_hired_107 ?_
                refine fr_getr (cz := 27) dX10_hired_108 flX10_51 ⟨by decide, by decide, rfl⟩ rfl rfl ?_
                refine fr_getr (cz := 30) dX10_hired_111 flX10_255 ⟨by decide, by decide, rfl⟩ rfl rfl ?_
                refine fr_il4 dX10_hired_114 ?_
                refine fr_iald dX10_hired_116 ⟨by decide, by decide, rfl, by decide⟩ (by omega) (by omega) ?_
                exact fr_iret dX10_hired_117 rfl (fr_pi (Or.inr (Or.inr ⟨by omega, by omega, by obtain ⟨least, found, h1, h2, h3⟩ := hi_end hI hst; exact ⟨least, found, h1, by rcases h2 with h2 | h2; (· omega); (· rw [if_neg (show ¬ least = 1000000000 by omega), if_neg (show ¬ tree < 0 by omega)]; exact h2.2.2 tree (by omega) (by omega))⟩, fun c hc => ((hfr.1 c (by omega) (by omega) (by omega) (by omega)).trans (ht.2 c (by omega))).trans (hpx c (by omega))⟩)))
              · skip
                refine fr_al0 dX10_hired_97 ?_
                refine fr_getr (cz := 27) dX10_hired_98 flX10_51 ⟨by decide, by decide, rfl⟩ rfl rfl ?_
                refine fr_geti (kz := 4) dX10_hired_101 flX10_252 ⟨by decide, by decide, rfl⟩ rfl rfl ?_
                refine fr_goto (tgt := 117) dX10_hired_104 (by decide) ?_
                exact fr_iret dX10_hired_117 rfl (fr_pi (Or.inr (Or.inr ⟨by omega, by omega, by obtain ⟨least, found, h1, h2, h3⟩ := hi_end hI hst; exact ⟨least, found, h1, by rcases h2 with h2 | h2; (· omega); (· rw [if_neg (show ¬ least = 1000000000 by omega), if_pos (show tree < 0 by omega)]; exact h2.2.1.symm)⟩, fun c hc => ((hfr.1 c (by omega) (by omega) (by omega) (by omega)).trans (ht.2 c (by omega))).trans (hpx c (by omega))⟩)))
            · skip
              refine fr_bipush dX10_hired_88 (by decide) ?_
              exact fr_iret dX10_hired_90 rfl (fr_pi (Or.inr (Or.inr ⟨by omega, by omega, by obtain ⟨least, found, h1, h2, h3⟩ := hi_end hI hst; exact ⟨least, found, h1, by rcases h2 with h2 | h2; (· rw [if_pos h2.2]); (· omega)⟩, fun c hc => ((hfr.1 c (by omega) (by omega) (by omega) (by omega)).trans (ht.2 c (by omega))).trans (hpx c (by omega))⟩)))
          · skip
            refine fr_il5 dX10_hired_50 ?_
            exact fr_iret dX10_hired_52 rfl (fr_pi (Or.inr (Or.inl ⟨by omega, by omega, rfl, rfl⟩)))
        · skip
          refine fr_iconst dX10_hired_32 ?_
          exact fr_iret dX10_hired_33 rfl (fr_pi (Or.inl ⟨by omega, rfl, rfl⟩))
set_option maxRecDepth 20000 in
theorem kcX10_pie {l : Launch} {κ : fr_Ka} {w : Int → Int} {μ : fr_Me} (hG : fr_G w μ) (hI : fr_I w) (hS : fr_Sc μ) {s lane i what : Int} (rs : -2147483648 ≤ s ∧ s ≤ 2147483647) (rlane : -2147483648 ≤ lane ∧ lane ≤ 2147483647) (ri : -2147483648 ≤ i ∧ i ≤ 2147483647) (rwhat : -2147483648 ≤ what ∧ what ≤ 2147483647) : fr_C l κ fmX10_pie 11 [fr_r κ 0, fr_i s, fr_i lane, fr_i i, fr_i what] μ (fr_Pi (fun z m => (¬ ((0 ≤ s ∧ s ≤ 3) ∧ (0 ≤ lane ∧ lane ≤ 3) ∧ (0 ≤ what ∧ what ≤ 1)) ∧ z = -1 ∧ m = μ) ∨ (((0 ≤ s ∧ s ≤ 3) ∧ (0 ≤ lane ∧ lane ≤ 3) ∧ (0 ≤ what ∧ what ≤ 1)) ∧ (sp_bars (sh_L μ s) (μ (58 + s) 3) lane i 10) ≠ 0 ∧ z = (sp_bars (sh_L μ s) (μ (58 + s) 3) lane i 10) ∧ m = μ) ∨ (((0 ≤ s ∧ s ≤ 3) ∧ (0 ≤ lane ∧ lane ≤ 3) ∧ (0 ≤ what ∧ what ≤ 1)) ∧ (sp_bars (sh_L μ s) (μ (58 + s) 3) lane i 10) = 0 ∧ (∃ x, sp_fst (sp_Pk w (fun q => μ (62 + s) (i + q)) (fr_shl 1 (w 43) - 1)) (sp_p6 (w 0).toNat) x ∧ z = if what = 0 then sp_cnt (sp_Pk w (fun q => μ (62 + s) (i + q)) (fr_shl 1 (w 43) - 1)) (sp_p6 (w 0).toNat).toNat else x) ∧ ∀ c, (c < 15 ∨ 35 < c) → m c = μ c))) := by
  have iN := hI.n
  have iM := hI.many
  have gN := hG.n
  have gM := hG.many
  refine fr_enter (by decide +kernel) (ls := [some (fr_r κ 0), some (fr_i s), some (fr_i lane), some (fr_i i), some (fr_i what), none]) rfl (Nat.le_of_ble_eq_true rfl) ?_
  refine fr_il1 dX10_pie_0 ?_
  refine fr_cSi (mi' := fmX10_isSheet) dX10_pie_1 mlX10_235 msX10_isSheet (Nat.le_of_ble_eq_true rfl) (kcX10_isSheet (by omega)) rfl rfl (Nat.le_of_ble_eq_true rfl) ?_
  refine fr_ifb_eq (tgt := 24) dX10_pie_4 (by decide) (fun h1 => ?_) (fun h1 => ?_)
  · skip
    refine fr_iconst dX10_pie_24 ?_
    exact fr_iret dX10_pie_25 rfl (fr_pi (Or.inl ⟨by omega, rfl, rfl⟩))
  · skip
    refine fr_il2 dX10_pie_7 ?_
    refine fr_cSi (mi' := fmX10_isLane) dX10_pie_8 mlX10_238 msX10_isLane (Nat.le_of_ble_eq_true rfl) (kcX10_isLane (by omega)) rfl rfl (Nat.le_of_ble_eq_true rfl) ?_
    refine fr_ifb_eq (tgt := 24) dX10_pie_11 (by decide) (fun h2 => ?_) (fun h2 => ?_)
    · skip
      refine fr_iconst dX10_pie_24 ?_
      exact fr_iret dX10_pie_25 rfl (fr_pi (Or.inl ⟨by omega, rfl, rfl⟩))
    · skip
      refine fr_il4 dX10_pie_14 ?_
      refine fr_iconst dX10_pie_16 ?_
      refine fr_iconst dX10_pie_17 ?_
      refine fr_cSi (mi' := fmX10_isWithin) dX10_pie_18 mlX10_76 msX10_isWithin (Nat.le_of_ble_eq_true rfl) (kcX10_isWithin (by omega) (by omega) (by omega)) rfl rfl (Nat.le_of_ble_eq_true rfl) ?_
      refine fr_ifb_ne (tgt := 26) dX10_pie_21 (by decide) (fun h3 => ?_) (fun h3 => ?_)
      · skip
        refine fr_al0 dX10_pie_26 ?_
        refine fr_il1 dX10_pie_27 ?_
        refine fr_il2 dX10_pie_28 ?_
        refine fr_il3 dX10_pie_29 ?_
        refine fr_bipush dX10_pie_30 (by decide) ?_
        refine fr_cVi (mi' := fmX10_faultOf) dX10_pie_32 mlX10_241 mvX10_faultOf ⟨10, _, ⟨by decide, by decide, rfl⟩, rfl, rfl⟩ (Nat.le_of_ble_eq_true rfl) (kcX10_faultOf hS (by omega) (by omega) (by omega) (by omega) (by omega)) rfl rfl (Nat.le_of_ble_eq_true rfl) ?_
        have hbr := sp_bars_rg (sh_L μ s) (μ (58 + s) 3) lane i 10
        refine fr_is5 dX10_pie_35 rfl (Nat.le_of_ble_eq_true rfl) ?_
        refine fr_il5 dX10_pie_37 ?_
        refine fr_if_eq (tgt := 45) dX10_pie_39 (by decide) (by omega) (fun h4 => ?_) (fun h4 => ?_)
        · skip
          have hb0 := sp_bars0 (show (sp_bars (sh_L μ s) (μ (58 + s) 3) lane i 10) = 0 by omega)
          have hss := hS s (by omega) (by omega)
          refine fr_al0 dX10_pie_45 ?_
          refine fr_getr (cz := 15) dX10_pie_46 flX10_35 ⟨by decide, by decide, rfl⟩ rfl rfl ?_
          refine fr_al0 dX10_pie_49 ?_
          refine fr_getr (cz := 1) dX10_pie_50 flX10_12 ⟨by decide, by decide, rfl⟩ rfl rfl ?_
          refine fr_cVQ (mi' := fmX3_lay) dX10_pie_53 mlX10_201 mvX3_lay ⟨3, _, ⟨by decide, by decide, rfl⟩, rfl, rfl⟩ (Nat.le_of_ble_eq_true rfl) (kcX3_lay hG hI) rfl rfl (Nat.le_of_ble_eq_true rfl) (fun p hp => ?_)
          have hP : pl_P w p := hp.P
          have hpx := hp.2.2.2.2.2.2
          have eal := hP.all
          have e62 : p (62 + s) = μ (62 + s) := hpx _ (by omega)
          refine fr_al0 dX10_pie_56 ?_
          refine fr_getr (cz := 27) dX10_pie_57 flX10_51 ⟨by decide, by decide, rfl⟩ rfl rfl ?_
          refine fr_al0 dX10_pie_60 ?_
          refine fr_getr (cz := 14) dX10_pie_61 flX10_28 ⟨by decide, by decide, rfl⟩ rfl rfl ?_
          refine fr_il1 dX10_pie_64 ?_
          refine fr_aaS dX10_pie_65 (by omega) (by omega) ?_
          refine fr_il3 dX10_pie_66 ?_
          refine fr_cVQ (mi' := fmX9_take) dX10_pie_67 mlX10_244 mvX9_take ⟨9, _, ⟨by decide, by decide, rfl⟩, rfl, rfl⟩ (Nat.le_of_ble_eq_true rfl) (kcX9_take hP hI (by omega) (by omega) (by omega) (by rw [e62]; exact hss.2.2.2)) rfl rfl (Nat.le_of_ble_eq_true rfl) (fun t ht => ?_)
          rw [e62] at ht
          have hPt : pl_P w t := hP.keep (fun c c0 c1 => ht.2 c (by omega))
          refine fr_al0 dX10_pie_70 ?_
          refine fr_getr (cz := 27) dX10_pie_71 flX10_51 ⟨by decide, by decide, rfl⟩ rfl rfl ?_
          refine fr_cVQ (mi' := fmX9_bakeAll) dX10_pie_74 mlX10_271 mvX9_bakeAll ⟨9, _, ⟨by decide, by decide, rfl⟩, rfl, rfl⟩ (Nat.le_of_ble_eq_true rfl) (kcX9_bakeAll hPt hI ht.1) rfl rfl (Nat.le_of_ble_eq_true rfl) (fun b hb => ?_)
          have hP6 := sp_p6_rg (w 0).toNat (by omega)
          have hb1 := hb.1
          rw [show (0 + 1) * sp_p6 (w 0).toNat = sp_p6 (w 0).toNat by omega] at hb1
          obtain ⟨_, hways, x, hfs, hdig⟩ := hb1
          have hcr := sp_cnt_rg (sp_Pk w (fun q => μ (62 + s) (i + q)) (fr_shl 1 (w 43) - 1)) (sp_p6 (w 0).toNat).toNat
          have hwr : 0 ≤ b 27 5 ∧ b 27 5 ≤ 46656 := by rw [hways]; have h9 := sp_cnt_rg (sp_Pk w (fun f => μ (62 + s) (i + f)) (wa_A w)) (sp_p6 (w 0).toNat).toNat; omega
          have hx4 : b 27 5 = 0 ↔ x = -4 := by rw [hways]; exact sp_fst.cnt (j := (sp_p6 (w 0).toNat).toNat) (by rw [show (((sp_p6 (w 0).toNat).toNat : Nat) : Int) = (sp_p6 (w 0).toNat) by omega]; exact hfs)
          refine fr_il4 dX10_pie_77 ?_
          refine fr_if_ne (tgt := 90) dX10_pie_79 (by decide) (by omega) (fun h5 => ?_) (fun h5 => ?_)
          · skip
            refine fr_al0 dX10_pie_90 ?_
            refine fr_getr (cz := 27) dX10_pie_91 flX10_51 ⟨by decide, by decide, rfl⟩ rfl rfl ?_
            refine fr_geti (kz := 5) dX10_pie_94 flX10_274 ⟨by decide, by decide, rfl⟩ rfl rfl ?_
            refine fr_if_ne (tgt := 105) dX10_pie_97 (by decide) (by omega) (fun h6 => ?_) (fun h6 => ?_)
            · skip
              refine fr_al0 dX10_pie_105 ?_
              refine fr_getr (cz := 27) dX10_pie_106 flX10_51 ⟨by decide, by decide, rfl⟩ rfl rfl ?_
              refine fr_cVi (mi' := fmX9_foundDigits) dX10_pie_109 mlX10_275 mvX9_foundDigits ⟨9, _, ⟨by decide, by decide, rfl⟩, rfl, rfl⟩ (Nat.le_of_ble_eq_true rfl) (kcX9_foundDigits (x := x) (hPt.keep (fun c c0 c1 => hb.2.1 c (by omega) (by omega) (by omega) (by omega))) hI (by rcases hfs with hf | hf; (· exact absurd (hx4.mpr hf.1) (by omega)); (· omega)) (hdig (fun e => absurd (hx4.mpr e) (by omega)))) rfl rfl (Nat.le_of_ble_eq_true rfl) ?_
              exact fr_iret dX10_pie_112 rfl (fr_pi (Or.inr (Or.inr ⟨by omega, by omega, ⟨x, hfs, by rw [if_neg (by omega)]⟩, fun c hc => ((hb.2.1 c (by omega) (by omega) (by omega) (by omega)).trans (ht.2 c (by omega))).trans (hpx c (by omega))⟩)))
            · skip
              refine fr_bipush dX10_pie_100 (by decide) ?_
              refine fr_goto (tgt := 112) dX10_pie_102 (by decide) ?_
              exact fr_iret dX10_pie_112 rfl (fr_pi (Or.inr (Or.inr ⟨by omega, by omega, ⟨x, hfs, by rw [if_neg (by omega)]; exact (hx4.mp (by omega)).symm⟩, fun c hc => ((hb.2.1 c (by omega) (by omega) (by omega) (by omega)).trans (ht.2 c (by omega))).trans (hpx c (by omega))⟩)))
          · skip
            refine fr_al0 dX10_pie_82 ?_
            refine fr_getr (cz := 27) dX10_pie_83 flX10_51 ⟨by decide, by decide, rfl⟩ rfl rfl ?_
            refine fr_geti (kz := 5) dX10_pie_86 flX10_274 ⟨by decide, by decide, rfl⟩ rfl rfl ?_
            exact fr_iret dX10_pie_89 rfl (fr_pi (Or.inr (Or.inr ⟨by omega, by omega, ⟨x, hfs, by rw [if_pos (by omega)]; exact hways⟩, fun c hc => ((hb.2.1 c (by omega) (by omega) (by omega) (by omega)).trans (ht.2 c (by omega))).trans (hpx c (by omega))⟩)))
        · skip
          refine fr_il5 dX10_pie_42 ?_
          exact fr_iret dX10_pie_44 rfl (fr_pi (Or.inr (Or.inl ⟨by omega, by omega, rfl, rfl⟩)))
      · skip
        refine fr_iconst dX10_pie_24 ?_
        exact fr_iret dX10_pie_25 rfl (fr_pi (Or.inl ⟨by omega, rfl, rfl⟩))
set_option maxRecDepth 20000 in
theorem kcX10_night {l : Launch} {κ : fr_Ka} {w : Int → Int} {μ : fr_Me} (hG : fr_G w μ) (hI : fr_I w) (hS : fr_Sc μ) {s lane i what : Int} (rs : -2147483648 ≤ s ∧ s ≤ 2147483647) (rlane : -2147483648 ≤ lane ∧ lane ≤ 2147483647) (ri : -2147483648 ≤ i ∧ i ≤ 2147483647) (rwhat : -2147483648 ≤ what ∧ what ≤ 2147483647) : fr_C l κ fmX10_night 8 [fr_r κ 0, fr_i s, fr_i lane, fr_i i, fr_i what] μ (fr_Pi (fun z m => (¬ ((0 ≤ s ∧ s ≤ 3) ∧ (0 ≤ lane ∧ lane ≤ 3) ∧ (0 ≤ what ∧ what ≤ 1)) ∧ z = -1 ∧ m = μ) ∨ (((0 ≤ s ∧ s ≤ 3) ∧ (0 ≤ lane ∧ lane ≤ 3) ∧ (0 ≤ what ∧ what ≤ 1)) ∧ (sp_bars (sh_L μ s) (μ (58 + s) 3) lane i (w 0)) ≠ 0 ∧ z = (sp_bars (sh_L μ s) (μ (58 + s) 3) lane i (w 0)) ∧ m = μ) ∨ (((0 ≤ s ∧ s ≤ 3) ∧ (0 ≤ lane ∧ lane ≤ 3) ∧ (0 ≤ what ∧ what ≤ 1)) ∧ (sp_bars (sh_L μ s) (μ (58 + s) 3) lane i (w 0)) = 0 ∧ (z = if what = 0 then sp_cnt (sp_Nk w (fun q => μ (62 + s) (i + q)) (fr_shl 1 (w 43) - 1)) (sp_p6 (w 0).toNat).toNat else if sp_cnt (sp_Nk w (fun q => μ (62 + s) (i + q)) (fr_shl 1 (w 43) - 1)) (sp_p6 (w 0).toNat).toNat = 0 then -4 else sp_sr (sp_Nk w (fun q => μ (62 + s) (i + q)) (fr_shl 1 (w 43) - 1)) (fun c => sp_cr (sp_dg (w 0) c) (w 0) (w 0).toNat) (fr_shl 1 (w 43) - 1) (sp_p6 (w 0).toNat).toNat) ∧ ∀ c, (c < 15 ∨ 35 < c) → m c = μ c))) := by
  have iN := hI.n
  have iM := hI.many
  have gN := hG.n
  have gM := hG.many
  have hcr := sp_cnt_rg (sp_Nk w (fun q => μ (62 + s) (i + q)) (fr_shl 1 (w 43) - 1)) (sp_p6 (w 0).toNat).toNat
  have hP6 := sp_p6_rg (w 0).toNat (by omega)
  refine fr_enter (by decide +kernel) (ls := [some (fr_r κ 0), some (fr_i s), some (fr_i lane), some (fr_i i), some (fr_i what), none, none]) rfl (Nat.le_of_ble_eq_true rfl) ?_
  refine fr_il1 dX10_night_0 ?_
  refine fr_cSi (mi' := fmX10_isSheet) dX10_night_1 mlX10_235 msX10_isSheet (Nat.le_of_ble_eq_true rfl) (kcX10_isSheet (by omega)) rfl rfl (Nat.le_of_ble_eq_true rfl) ?_
  refine fr_ifb_eq (tgt := 24) dX10_night_4 (by decide) (fun h1 => ?_) (fun h1 => ?_)
  · skip
    refine fr_iconst dX10_night_24 ?_
    exact fr_iret dX10_night_25 rfl (fr_pi (Or.inl ⟨by omega, rfl, rfl⟩))
  · skip
    refine fr_il2 dX10_night_7 ?_
    refine fr_cSi (mi' := fmX10_isLane) dX10_night_8 mlX10_238 msX10_isLane (Nat.le_of_ble_eq_true rfl) (kcX10_isLane (by omega)) rfl rfl (Nat.le_of_ble_eq_true rfl) ?_
    refine fr_ifb_eq (tgt := 24) dX10_night_11 (by decide) (fun h2 => ?_) (fun h2 => ?_)
    · skip
      refine fr_iconst dX10_night_24 ?_
      exact fr_iret dX10_night_25 rfl (fr_pi (Or.inl ⟨by omega, rfl, rfl⟩))
    · skip
      refine fr_il4 dX10_night_14 ?_
      refine fr_iconst dX10_night_16 ?_
      refine fr_iconst dX10_night_17 ?_
      refine fr_cSi (mi' := fmX10_isWithin) dX10_night_18 mlX10_76 msX10_isWithin (Nat.le_of_ble_eq_true rfl) (kcX10_isWithin (by omega) (by omega) (by omega)) rfl rfl (Nat.le_of_ble_eq_true rfl) ?_
      refine fr_ifb_ne (tgt := 26) dX10_night_21 (by decide) (fun h3 => ?_) (fun h3 => ?_)
      · skip
        refine fr_al0 dX10_night_26 ?_
        refine fr_il1 dX10_night_27 ?_
        refine fr_il2 dX10_night_28 ?_
        refine fr_il3 dX10_night_29 ?_
        refine fr_al0 dX10_night_30 ?_
        refine fr_getr (cz := 1) dX10_night_31 flX10_12 ⟨by decide, by decide, rfl⟩ rfl rfl ?_
        refine fr_geti (kz := 3) dX10_night_34 flX10_80 ⟨by decide, by decide, rfl⟩ rfl rfl ?_
        refine fr_cVi (mi' := fmX10_faultOf) dX10_night_37 mlX10_241 mvX10_faultOf ⟨10, _, ⟨by decide, by decide, rfl⟩, rfl, rfl⟩ (Nat.le_of_ble_eq_true rfl) (kcX10_faultOf hS (by omega) (by omega) (by omega) (by omega) (by omega)) rfl rfl (Nat.le_of_ble_eq_true rfl) ?_
        rw [gN]
        have hbr := sp_bars_rg (sh_L μ s) (μ (58 + s) 3) lane i (w 0)
        refine fr_is5 dX10_night_40 rfl (Nat.le_of_ble_eq_true rfl) ?_
        refine fr_il5 dX10_night_42 ?_
        refine fr_if_eq (tgt := 50) dX10_night_44 (by decide) (by omega) (fun h4 => ?_) (fun h4 => ?_)
        · skip
          have hb0 := sp_bars0 (show (sp_bars (sh_L μ s) (μ (58 + s) 3) lane i (w 0)) = 0 by omega)
          have hss := hS s (by omega) (by omega)
          refine fr_iconst dX10_night_50 ?_
          refine fr_is6 dX10_night_51 rfl (Nat.le_of_ble_eq_true rfl) ?_
          refine fr_wk ?_ (ls := [some (fr_r κ 0), some (fr_i s), some (fr_i lane), some (fr_i i), some (fr_i what), none, some (fr_i (0 : Int))]) ⟨rfl, rfl, rfl, rfl, rfl, rfl, trivial⟩
          refine (fr_down (P := fun j : Nat => ∀ (m : fr_Me), ((∀ t, 0 ≤ t → t < (j : Int) → m 35 t = sp_nr (μ (62 + s) (i + t)) 10) ∧ ∀ c, c ≠ 35 → m c = μ c) → fr_A l κ fmX10_night 8 (fr_Pi (fun z m => (¬ ((0 ≤ s ∧ s ≤ 3) ∧ (0 ≤ lane ∧ lane ≤ 3) ∧ (0 ≤ what ∧ what ≤ 1)) ∧ z = -1 ∧ m = μ) ∨ (((0 ≤ s ∧ s ≤ 3) ∧ (0 ≤ lane ∧ lane ≤ 3) ∧ (0 ≤ what ∧ what ≤ 1)) ∧ (sp_bars (sh_L μ s) (μ (58 + s) 3) lane i (w 0)) ≠ 0 ∧ z = (sp_bars (sh_L μ s) (μ (58 + s) 3) lane i (w 0)) ∧ m = μ) ∨ (((0 ≤ s ∧ s ≤ 3) ∧ (0 ≤ lane ∧ lane ≤ 3) ∧ (0 ≤ what ∧ what ≤ 1)) ∧ (sp_bars (sh_L μ s) (μ (58 + s) 3) lane i (w 0)) = 0 ∧ (z = if what = 0 then sp_cnt (sp_Nk w (fun q => μ (62 + s) (i + q)) (fr_shl 1 (w 43) - 1)) (sp_p6 (w 0).toNat).toNat else if sp_cnt (sp_Nk w (fun q => μ (62 + s) (i + q)) (fr_shl 1 (w 43) - 1)) (sp_p6 (w 0).toNat).toNat = 0 then -4 else sp_sr (sp_Nk w (fun q => μ (62 + s) (i + q)) (fr_shl 1 (w 43) - 1)) (fun c => sp_cr (sp_dg (w 0) c) (w 0) (w 0).toNat) (fr_shl 1 (w 43) - 1) (sp_p6 (w 0).toNat).toNat) ∧ ∀ c, (c < 15 ∨ 35 < c) → m c = μ c))) 53 [some (fr_r κ 0), some (fr_i s), some (fr_i lane), some (fr_i i), some (fr_i what), none, some (fr_i (j : Int))] [] m) (w 0).toNat ?_ (fun j hj53 ih53 => ?_)) _ (⟨fun t a b => by omega, fun _ _ => rfl⟩)
          · skip
            intro m hm
            have em1 : m 1 3 = w 0 := by rw [hm.2 1 (by omega)]; exact gN
            refine fr_il6 dX10_night_53 ?_
            refine fr_al0 dX10_night_55 ?_
            refine fr_getr (cz := 1) dX10_night_56 flX10_12 ⟨by decide, by decide, rfl⟩ rfl rfl ?_
            refine fr_geti (kz := 3) dX10_night_59 flX10_80 ⟨by decide, by decide, rfl⟩ rfl rfl ?_
            refine fr_icmp_ge (tgt := 93) dX10_night_62 (by decide) (by omega) (by omega) (fun h5 => ?_) (fun h5 => ?_)
            · skip
              refine fr_al0 dX10_night_93 ?_
              refine fr_getr (cz := 15) dX10_night_94 flX10_35 ⟨by decide, by decide, rfl⟩ rfl rfl ?_
              refine fr_al0 dX10_night_97 ?_
              refine fr_getr (cz := 1) dX10_night_98 flX10_12 ⟨by decide, by decide, rfl⟩ rfl rfl ?_
              refine fr_cVQ (mi' := fmX3_lay) dX10_night_101 mlX10_201 mvX3_lay ⟨3, _, ⟨by decide, by decide, rfl⟩, rfl, rfl⟩ (Nat.le_of_ble_eq_true rfl) (kcX3_lay (hG.keep (fun c hc => hm.2 c (by omega))) hI) rfl rfl (Nat.le_of_ble_eq_true rfl) (fun p hp => ?_)
              have hP : pl_P w p := hp.P
              have hpx := hp.2.2.2.2.2.2
              refine fr_al0 dX10_night_104 ?_
              refine fr_getr (cz := 24) dX10_night_105 flX10_44 ⟨by decide, by decide, rfl⟩ rfl rfl ?_
              refine fr_al0 dX10_night_108 ?_
              refine fr_getr (cz := 35) dX10_night_109 flX10_71 ⟨by decide, by decide, rfl⟩ rfl rfl ?_
              refine fr_cVQ (mi' := fmX2_layNights) dX10_night_112 mlX10_261 mvX2_layNights ⟨2, _, ⟨by decide, by decide, rfl⟩, rfl, rfl⟩ (Nat.le_of_ble_eq_true rfl) (kcX2_layNights (it := (fun q => μ (62 + s) (i + q))) hP hI (fun t t0 t1 => by rw [hpx 35 (by omega)]; exact hm.1 t t0 (by omega))) rfl rfl (Nat.le_of_ble_eq_true rfl) (fun n hn => ?_)
              have hwr : 0 ≤ n 24 3 ∧ n 24 3 ≤ 46656 := by rw [hn.1]; omega
              refine fr_il4 dX10_night_115 ?_
              refine fr_if_ne (tgt := 128) dX10_night_117 (by decide) (by omega) (fun h6 => ?_) (fun h6 => ?_)
              · skip
                refine fr_al0 dX10_night_128 ?_
                refine fr_getr (cz := 24) dX10_night_129 flX10_44 ⟨by decide, by decide, rfl⟩ rfl rfl ?_
                refine fr_geti (kz := 3) dX10_night_132 flX10_265 ⟨by decide, by decide, rfl⟩ rfl rfl ?_
                refine fr_if_ne (tgt := 143) dX10_night_135 (by decide) (by omega) (fun h7 => ?_) (fun h7 => ?_)
                · skip
                  refine fr_al0 dX10_night_143 ?_
                  refine fr_getr (cz := 24) dX10_night_144 flX10_44 ⟨by decide, by decide, rfl⟩ rfl rfl ?_
                  refine fr_geti (kz := 4) dX10_night_147 flX10_268 ⟨by decide, by decide, rfl⟩ rfl rfl ?_
                  exact fr_iret dX10_night_150 rfl (fr_pi (Or.inr (Or.inr ⟨by omega, by omega, by rw [if_neg (by omega), if_neg (by rw [← hn.1]; omega)]; exact hn.2.1, fun c hc => ((hn.2.2.1 c (by omega) (by omega)).trans (hpx c (by omega))).trans (hm.2 c (by omega))⟩)))
                · skip
                  refine fr_bipush dX10_night_138 (by decide) ?_
                  refine fr_goto (tgt := 150) dX10_night_140 (by decide) ?_
                  exact fr_iret dX10_night_150 rfl (fr_pi (Or.inr (Or.inr ⟨by omega, by omega, by rw [if_neg (by omega), if_pos (by rw [← hn.1]; omega)], fun c hc => ((hn.2.2.1 c (by omega) (by omega)).trans (hpx c (by omega))).trans (hm.2 c (by omega))⟩)))
              · skip
                refine fr_al0 dX10_night_120 ?_
                refine fr_getr (cz := 24) dX10_night_121 flX10_44 ⟨by decide, by decide, rfl⟩ rfl rfl ?_
                refine fr_geti (kz := 3) dX10_night_124 flX10_265 ⟨by decide, by decide, rfl⟩ rfl rfl ?_
                exact fr_iret dX10_night_127 rfl (fr_pi (Or.inr (Or.inr ⟨by omega, by omega, by rw [if_pos (by omega)]; exact hn.1, fun c hc => ((hn.2.2.1 c (by omega) (by omega)).trans (hpx c (by omega))).trans (hm.2 c (by omega))⟩)))
            · skip
              exfalso; omega
          · skip
            intro m hm
            have em1 : m 1 3 = w 0 := by rw [hm.2 1 (by omega)]; exact gN
            refine fr_il6 dX10_night_53 ?_
            refine fr_al0 dX10_night_55 ?_
            refine fr_getr (cz := 1) dX10_night_56 flX10_12 ⟨by decide, by decide, rfl⟩ rfl rfl ?_
            refine fr_geti (kz := 3) dX10_night_59 flX10_80 ⟨by decide, by decide, rfl⟩ rfl rfl ?_
            refine fr_icmp_ge (tgt := 93) dX10_night_62 (by decide) (by omega) (by omega) (fun h8 => ?_) (fun h8 => ?_)
            · skip
              exfalso; omega
            · skip
              refine fr_al0 dX10_night_65 ?_
              refine fr_getr (cz := 35) dX10_night_66 flX10_71 ⟨by decide, by decide, rfl⟩ rfl rfl ?_
              refine fr_il6 dX10_night_69 ?_
              refine fr_al0 dX10_night_71 ?_
              refine fr_getr (cz := 14) dX10_night_72 flX10_28 ⟨by decide, by decide, rfl⟩ rfl rfl ?_
              refine fr_il1 dX10_night_75 ?_
              refine fr_aaS dX10_night_76 (by omega) (by omega) ?_
              refine fr_il3 dX10_night_77 ?_
              refine fr_il6 dX10_night_78 ?_
              refine fr_iadd dX10_night_80 ?_
              refine fr_bipush dX10_night_81 (by decide) ?_
              refine fr_cVi (mi' := fmX5_near) dX10_night_83 mlX10_258 mvX5_near ⟨5, _, (fr_obS (by omega) (by omega)), rfl, rfl⟩ (Nat.le_of_ble_eq_true rfl) (kcX5_near (by omega) (by omega) (by omega) (by omega) (by rw [hm.2 _ (by omega)]; exact hss.2.2.2 _ (by omega) (by omega))) rfl rfl (Nat.le_of_ble_eq_true rfl) ?_
              rw [hm.2 (62 + s) (by omega)]
              refine fr_iast dX10_night_86 ⟨by decide, by decide, rfl, by decide⟩ (by omega) (by omega) ?_
              refine fr_ii6 dX10_night_87 rfl (Nat.le_of_ble_eq_true rfl) ?_
              refine fr_goto (tgt := 53) dX10_night_90 (by decide) ?_
              exact fr_wk (ih53 _ (⟨fun t t0 t1 => by rcases (by omega : t < (j : Int) ∨ t = (j : Int)) with q | q; (· rw [gm_un (by omega)]; exact hm.1 t t0 q); (· rw [q, gm_uk]), fun c hc => by rw [gm_uc hc]; exact hm.2 c hc⟩)) ⟨rfl, rfl, rfl, rfl, rfl, rfl, trivial⟩
        · skip
          refine fr_il5 dX10_night_47 ?_
          exact fr_iret dX10_night_49 rfl (fr_pi (Or.inr (Or.inl ⟨by omega, by omega, rfl, rfl⟩)))
      · skip
        refine fr_iconst dX10_night_24 ?_
        exact fr_iret dX10_night_25 rfl (fr_pi (Or.inl ⟨by omega, rfl, rfl⟩))
set_option maxRecDepth 20000 in
theorem kcX10_earned {l : Launch} {κ : fr_Ka} {w : Int → Int} {μ : fr_Me} (hG : fr_G w μ) (hI : fr_I w) (hS : fr_Sc μ) {s lane i n mm : Int} (rs : -2147483648 ≤ s ∧ s ≤ 2147483647) (rlane : -2147483648 ≤ lane ∧ lane ≤ 2147483647) (ri : -2147483648 ≤ i ∧ i ≤ 2147483647) (rn : -2147483648 ≤ n ∧ n ≤ 2147483647) (rmm : -2147483648 ≤ mm ∧ mm ≤ 2147483647) : fr_C l κ fmX10_earned 7 [fr_r κ 0, fr_i s, fr_i lane, fr_i i, fr_i n, fr_i mm] μ (fr_Pi (fun z m => (∀ c, (c < 15 ∨ 35 < c) → m c = μ c) ∧ ((¬ ((0 ≤ s ∧ s ≤ 3) ∧ (0 ≤ lane ∧ lane ≤ 3) ∧ (1 ≤ n ∧ n ≤ 8) ∧ (0 ≤ mm ∧ mm ≤ 200)) ∧ z = -100001) ∨ (((0 ≤ s ∧ s ≤ 3) ∧ (0 ≤ lane ∧ lane ≤ 3) ∧ (1 ≤ n ∧ n ≤ 8) ∧ (0 ≤ mm ∧ mm ≤ 200)) ∧ (sp_bars (sh_L μ s) (μ (58 + s) 3) lane i n) ≠ 0 ∧ z = (sp_bars (sh_L μ s) (μ (58 + s) 3) lane i n) - 100000) ∨ (((0 ≤ s ∧ s ≤ 3) ∧ (0 ≤ lane ∧ lane ≤ 3) ∧ (1 ≤ n ∧ n ≤ 8) ∧ (0 ≤ mm ∧ mm ≤ 200)) ∧ (sp_bars (sh_L μ s) (μ (58 + s) 3) lane i n) = 0 ∧ ¬ sp_folks w (fun q => μ (62 + s) (i + q)) n ∧ z = -100002) ∨ (((0 ≤ s ∧ s ≤ 3) ∧ (0 ≤ lane ∧ lane ≤ 3) ∧ (1 ≤ n ∧ n ≤ 8) ∧ (0 ≤ mm ∧ mm ≤ 200)) ∧ (sp_bars (sh_L μ s) (μ (58 + s) 3) lane i n) = 0 ∧ sp_folks w (fun q => μ (62 + s) (i + q)) n ∧ z = sp_sum mm.toNat (fun y => sp_rv w (fun q => μ (62 + s) (i + q)) n (y + 1)))))) := by
  have iN := hI.n
  have iM := hI.many
  have gN := hG.n
  have gM := hG.many
  refine fr_enter (by decide +kernel) (ls := [some (fr_r κ 0), some (fr_i s), some (fr_i lane), some (fr_i i), some (fr_i n), some (fr_i mm), none]) rfl (Nat.le_of_ble_eq_true rfl) ?_
  refine fr_il5 dX10_earned_0 ?_
  refine fr_iconst dX10_earned_2 ?_
  refine fr_sipush dX10_earned_3 (by decide) ?_
  refine fr_cSi (mi' := fmX10_isWithin) dX10_earned_6 mlX10_76 msX10_isWithin (Nat.le_of_ble_eq_true rfl) (kcX10_isWithin (by omega) (by omega) (by omega)) rfl rfl (Nat.le_of_ble_eq_true rfl) ?_
  refine fr_ifb_ne (tgt := 15) dX10_earned_9 (by decide) (fun h1 => ?_) (fun h1 => ?_)
  · skip
    refine fr_al0 dX10_earned_15 ?_
    refine fr_il1 dX10_earned_16 ?_
    refine fr_il2 dX10_earned_17 ?_
    refine fr_il3 dX10_earned_18 ?_
    refine fr_il4 dX10_earned_19 ?_
    refine fr_cVP (mi' := fmX10_layRota) dX10_earned_21 mlX10_278 mvX10_layRota ⟨10, _, ⟨by decide, by decide, rfl⟩, rfl, rfl⟩ (Nat.le_of_ble_eq_true rfl) (kcX10_layRota hG hI hS (by omega) (by omega) (by omega) (by omega)) rfl rfl (Nat.le_of_ble_eq_true rfl) (fun z0 m0 hz0 => ?_)
    obtain ⟨hf0, hz0⟩ := hz0
    have hbr := sp_bars_rg (sh_L μ s) (μ (58 + s) 3) lane i n
    have hz0r : -100 ≤ z0 ∧ z0 ≤ 0 := by rcases hz0 with h | h | h | h <;> omega
    refine fr_is6 dX10_earned_24 rfl (Nat.le_of_ble_eq_true rfl) ?_
    refine fr_il6 dX10_earned_26 ?_
    refine fr_if_eq (tgt := 40) dX10_earned_28 (by decide) (by omega) (fun h2 => ?_) (fun h2 => ?_)
    · skip
      have hE : sp_folks w (fun q => μ (62 + s) (i + q)) n ∧ (sp_bars (sh_L μ s) (μ (58 + s) 3) lane i n) = 0 ∧ ro_H (fun q => μ (62 + s) (i + q)) n m0 := by rcases hz0 with h | h | h | h; (· omega); (· omega); (· omega); (· exact ⟨h.2.2.1, h.2.1, h.2.2.2.2⟩)
      refine fr_al0 dX10_earned_40 ?_
      refine fr_getr (cz := 33) dX10_earned_41 flX10_67 ⟨by decide, by decide, rfl⟩ rfl rfl ?_
      refine fr_il5 dX10_earned_44 ?_
      refine fr_cVi (mi' := fmX4_valueOfYears) dX10_earned_46 mlX10_282 mvX4_valueOfYears ⟨4, _, ⟨by decide, by decide, rfl⟩, rfl, rfl⟩ (Nat.le_of_ble_eq_true rfl) (kcX4_valueOfYears (hG.keep (fun c hc => hf0 c (by omega) (by omega))) hI hE.2.2 hE.1 (by omega)) rfl rfl (Nat.le_of_ble_eq_true rfl) ?_
      exact fr_iret dX10_earned_49 rfl (fr_pi (by first | exact ⟨fun _ _ => rfl, Or.inl ⟨by omega, rfl⟩⟩ | exact ⟨fun c hc => hf0 c (by omega) (by omega), Or.inr (Or.inr (Or.inr ⟨by omega, by omega, hE.1, rfl⟩))⟩ | (rcases hz0 with h | h | h | h; (· exact ⟨fun c hc => hf0 c (by omega) (by omega), Or.inl ⟨by omega, by omega⟩⟩); (· exact ⟨fun c hc => hf0 c (by omega) (by omega), Or.inr (Or.inl ⟨by omega, h.2.1, by omega⟩)⟩); (· exact ⟨fun c hc => hf0 c (by omega) (by omega), Or.inr (Or.inr (Or.inl ⟨by omega, h.2.1, h.2.2.1, by omega⟩))⟩); (· omega))))
    · skip
      refine fr_il6 dX10_earned_31 ?_
      refine fr_ldcw dX10_earned_33 cnX10_281 ?_
      refine fr_isub dX10_earned_36 ?_
      refine fr_goto (tgt := 49) dX10_earned_37 (by decide) ?_
      exact fr_iret dX10_earned_49 rfl (fr_pi (by first | exact ⟨fun _ _ => rfl, Or.inl ⟨by omega, rfl⟩⟩ | exact ⟨fun c hc => hf0 c (by omega) (by omega), Or.inr (Or.inr (Or.inr ⟨by omega, by omega, hE.1, rfl⟩))⟩ | (rcases hz0 with h | h | h | h; (· exact ⟨fun c hc => hf0 c (by omega) (by omega), Or.inl ⟨by omega, by omega⟩⟩); (· exact ⟨fun c hc => hf0 c (by omega) (by omega), Or.inr (Or.inl ⟨by omega, h.2.1, by omega⟩)⟩); (· exact ⟨fun c hc => hf0 c (by omega) (by omega), Or.inr (Or.inr (Or.inl ⟨by omega, h.2.1, h.2.2.1, by omega⟩))⟩); (· omega))))
  · skip
    refine fr_ldc dX10_earned_12 cnX10_134 ?_
    exact fr_iret dX10_earned_14 rfl (fr_pi (by first | exact ⟨fun _ _ => rfl, Or.inl ⟨by omega, rfl⟩⟩ | exact ⟨fun c hc => hf0 c (by omega) (by omega), Or.inr (Or.inr (Or.inr ⟨by omega, by omega, hE.1, rfl⟩))⟩ | (rcases hz0 with h | h | h | h; (· exact ⟨fun c hc => hf0 c (by omega) (by omega), Or.inl ⟨by omega, by omega⟩⟩); (· exact ⟨fun c hc => hf0 c (by omega) (by omega), Or.inr (Or.inl ⟨by omega, h.2.1, by omega⟩)⟩); (· exact ⟨fun c hc => hf0 c (by omega) (by omega), Or.inr (Or.inr (Or.inl ⟨by omega, h.2.1, h.2.2.1, by omega⟩))⟩); (· omega))))
set_option maxRecDepth 20000 in
theorem kcX10_again {l : Launch} {κ : fr_Ka} {w : Int → Int} {μ : fr_Me} (hG : fr_G w μ) (hI : fr_I w) (hS : fr_Sc μ) {s lane i n what : Int} (rs : -2147483648 ≤ s ∧ s ≤ 2147483647) (rlane : -2147483648 ≤ lane ∧ lane ≤ 2147483647) (ri : -2147483648 ≤ i ∧ i ≤ 2147483647) (rn : -2147483648 ≤ n ∧ n ≤ 2147483647) (rwhat : -2147483648 ≤ what ∧ what ≤ 2147483647) : fr_C l κ fmX10_again 6 [fr_r κ 0, fr_i s, fr_i lane, fr_i i, fr_i n, fr_i what] μ (fr_Pi (fun z m => (∀ c, (c < 15 ∨ 35 < c) → m c = μ c) ∧ ((¬ ((0 ≤ s ∧ s ≤ 3) ∧ (0 ≤ lane ∧ lane ≤ 3) ∧ (1 ≤ n ∧ n ≤ 8) ∧ (0 ≤ what ∧ what ≤ 1)) ∧ z = -1) ∨ (((0 ≤ s ∧ s ≤ 3) ∧ (0 ≤ lane ∧ lane ≤ 3) ∧ (1 ≤ n ∧ n ≤ 8) ∧ (0 ≤ what ∧ what ≤ 1)) ∧ (sp_bars (sh_L μ s) (μ (58 + s) 3) lane i n) ≠ 0 ∧ z = (sp_bars (sh_L μ s) (μ (58 + s) 3) lane i n)) ∨ (((0 ≤ s ∧ s ≤ 3) ∧ (0 ≤ lane ∧ lane ≤ 3) ∧ (1 ≤ n ∧ n ≤ 8) ∧ (0 ≤ what ∧ what ≤ 1)) ∧ (sp_bars (sh_L μ s) (μ (58 + s) 3) lane i n) = 0 ∧ ¬ sp_folks w (fun q => μ (62 + s) (i + q)) n ∧ z = -2) ∨ (((0 ≤ s ∧ s ≤ 3) ∧ (0 ≤ lane ∧ lane ≤ 3) ∧ (1 ≤ n ∧ n ≤ 8) ∧ (0 ≤ what ∧ what ≤ 1)) ∧ (sp_bars (sh_L μ s) (μ (58 + s) 3) lane i n) = 0 ∧ sp_folks w (fun q => μ (62 + s) (i + q)) n ∧ sp_ag w (fun q => μ (62 + s) (i + q)) n what z)))) := by
  have iN := hI.n
  have iM := hI.many
  have gN := hG.n
  have gM := hG.many
  refine fr_enter (by decide +kernel) (ls := [some (fr_r κ 0), some (fr_i s), some (fr_i lane), some (fr_i i), some (fr_i n), some (fr_i what), none]) rfl (Nat.le_of_ble_eq_true rfl) ?_
  refine fr_il5 dX10_again_0 ?_
  refine fr_iconst dX10_again_2 ?_
  refine fr_iconst dX10_again_3 ?_
  refine fr_cSi (mi' := fmX10_isWithin) dX10_again_4 mlX10_76 msX10_isWithin (Nat.le_of_ble_eq_true rfl) (kcX10_isWithin (by omega) (by omega) (by omega)) rfl rfl (Nat.le_of_ble_eq_true rfl) ?_
  refine fr_ifb_ne (tgt := 12) dX10_again_7 (by decide) (fun h1 => ?_) (fun h1 => ?_)
  · skip
    refine fr_al0 dX10_again_12 ?_
    refine fr_il1 dX10_again_13 ?_
    refine fr_il2 dX10_again_14 ?_
    refine fr_il3 dX10_again_15 ?_
    refine fr_il4 dX10_again_16 ?_
    refine fr_cVP (mi' := fmX10_layRota) dX10_again_18 mlX10_278 mvX10_layRota ⟨10, _, ⟨by decide, by decide, rfl⟩, rfl, rfl⟩ (Nat.le_of_ble_eq_true rfl) (kcX10_layRota hG hI hS (by omega) (by omega) (by omega) (by omega)) rfl rfl (Nat.le_of_ble_eq_true rfl) (fun z0 m0 hz0 => ?_)
    obtain ⟨hf0, hz0⟩ := hz0
    have hbr := sp_bars_rg (sh_L μ s) (μ (58 + s) 3) lane i n
    have hz0r : -100 ≤ z0 ∧ z0 ≤ 0 := by rcases hz0 with h | h | h | h <;> omega
    refine fr_is6 dX10_again_21 rfl (Nat.le_of_ble_eq_true rfl) ?_
    refine fr_il6 dX10_again_23 ?_
    refine fr_if_eq (tgt := 31) dX10_again_25 (by decide) (by omega) (fun h2 => ?_) (fun h2 => ?_)
    · skip
      have hE : sp_folks w (fun q => μ (62 + s) (i + q)) n ∧ (sp_bars (sh_L μ s) (μ (58 + s) 3) lane i n) = 0 ∧ ro_H (fun q => μ (62 + s) (i + q)) n m0 := by rcases hz0 with h | h | h | h; (· omega); (· omega); (· omega); (· exact ⟨h.2.2.1, h.2.1, h.2.2.2.2⟩)
      refine fr_al0 dX10_again_31 ?_
      refine fr_getr (cz := 33) dX10_again_32 flX10_67 ⟨by decide, by decide, rfl⟩ rfl rfl ?_
      refine fr_cVP (mi' := fmX4_findAgain) dX10_again_35 mlX10_285 mvX4_findAgain ⟨4, _, ⟨by decide, by decide, rfl⟩, rfl, rfl⟩ (Nat.le_of_ble_eq_true rfl) (kcX4_findAgain (hG.keep (fun c hc => hf0 c (by omega) (by omega))) hI hE.2.2 hE.1) rfl rfl (Nat.le_of_ble_eq_true rfl) (fun z m hq => ?_)
      rcases hq.2 with ⟨rfl, hq1, hq2⟩ | ⟨rfl, hq1, hq2⟩
      · skip
        refine fr_if_ne (tgt := 44) dX10_again_38 (by decide) (by decide) (fun _ => ?_) (fun h3 => absurd h3 (by decide))
        refine fr_il5 dX10_again_44 ?_
        refine fr_if_ne (tgt := 59) dX10_again_46 (by decide) (by omega) (fun h4 => ?_) (fun h4 => ?_)
        · skip
          refine fr_al0 dX10_again_59 ?_
          refine fr_getr (cz := 33) dX10_again_60 flX10_67 ⟨by decide, by decide, rfl⟩ rfl rfl ?_
          refine fr_geti (kz := 4) dX10_again_63 flX10_291 ⟨by decide, by decide, rfl⟩ rfl rfl ?_
          exact fr_iret dX10_again_66 rfl (fr_pi ⟨fun c hc => (hq.1 c (by omega)).trans (hf0 c (by omega) (by omega)), Or.inr (Or.inr (Or.inr ⟨by omega, hE.2.1, hE.1, by first | (rw [show what = 0 by omega]; exact hq1) | (rw [show what = 1 by omega]; exact hq2)⟩))⟩)
        · skip
          refine fr_al0 dX10_again_49 ?_
          refine fr_getr (cz := 33) dX10_again_50 flX10_67 ⟨by decide, by decide, rfl⟩ rfl rfl ?_
          refine fr_geti (kz := 3) dX10_again_53 flX10_288 ⟨by decide, by decide, rfl⟩ rfl rfl ?_
          refine fr_goto (tgt := 66) dX10_again_56 (by decide) ?_
          exact fr_iret dX10_again_66 rfl (fr_pi ⟨fun c hc => (hq.1 c (by omega)).trans (hf0 c (by omega) (by omega)), Or.inr (Or.inr (Or.inr ⟨by omega, hE.2.1, hE.1, by first | (rw [show what = 0 by omega]; exact hq1) | (rw [show what = 1 by omega]; exact hq2)⟩))⟩)
      · skip
        refine fr_if_ne (tgt := 44) dX10_again_38 (by decide) (by decide) (fun h5 => absurd h5 (by decide)) (fun _ => ?_)
        refine fr_bipush dX10_again_41 (by decide) ?_
        exact fr_iret dX10_again_43 rfl (fr_pi ⟨fun c hc => (hq.1 c (by omega)).trans (hf0 c (by omega) (by omega)), Or.inr (Or.inr (Or.inr ⟨by omega, hE.2.1, hE.1, by rcases (by omega : what = 0 ∨ what = 1) with q | q; (· rw [q]; exact hq1); (· rw [q]; exact hq2)⟩))⟩)
    · skip
      refine fr_il6 dX10_again_28 ?_
      exact fr_iret dX10_again_30 rfl (fr_pi (by first | exact ⟨fun _ _ => rfl, Or.inl ⟨by omega, rfl⟩⟩ | exact ⟨fun c hc => hf0 c (by omega) (by omega), Or.inr (Or.inr (Or.inr ⟨by omega, by omega, hE.1, rfl⟩))⟩ | (rcases hz0 with h | h | h | h; (· exact ⟨fun c hc => hf0 c (by omega) (by omega), Or.inl ⟨by omega, by omega⟩⟩); (· exact ⟨fun c hc => hf0 c (by omega) (by omega), Or.inr (Or.inl ⟨by omega, h.2.1, by omega⟩)⟩); (· exact ⟨fun c hc => hf0 c (by omega) (by omega), Or.inr (Or.inr (Or.inl ⟨by omega, h.2.1, h.2.2.1, by omega⟩))⟩); (· omega))))
  · skip
    refine fr_iconst dX10_again_10 ?_
    exact fr_iret dX10_again_11 rfl (fr_pi (by first | exact ⟨fun _ _ => rfl, Or.inl ⟨by omega, rfl⟩⟩ | exact ⟨fun c hc => hf0 c (by omega) (by omega), Or.inr (Or.inr (Or.inr ⟨by omega, by omega, hE.1, rfl⟩))⟩ | (rcases hz0 with h | h | h | h; (· exact ⟨fun c hc => hf0 c (by omega) (by omega), Or.inl ⟨by omega, by omega⟩⟩); (· exact ⟨fun c hc => hf0 c (by omega) (by omega), Or.inr (Or.inl ⟨by omega, h.2.1, by omega⟩)⟩); (· exact ⟨fun c hc => hf0 c (by omega) (by omega), Or.inr (Or.inr (Or.inl ⟨by omega, h.2.1, h.2.2.1, by omega⟩))⟩); (· omega))))
