set_option maxRecDepth 20000 in
theorem kcX11_night {l : Launch} {κ : fr_Ka} {μ : fr_Me} (hI : fr_I (μ 67)) (hS : fr_Sh μ) {s lane i what : Int} (rs : -2147483648 ≤ s ∧ s ≤ 2147483647) (rlane : -2147483648 ≤ lane ∧ lane ≤ 2147483647) (ri : -2147483648 ≤ i ∧ i ≤ 2147483647) (rwhat : -2147483648 ≤ what ∧ what ≤ 2147483647) : fr_C l κ fmX11_night 6 [fr_r κ 66, fr_i s, fr_i lane, fr_i i, fr_i what] μ (fr_Pi (fun z m => (∀ c, c ≠ 70 → m c = μ c) ∧ ((¬ ((0 ≤ s ∧ s ≤ 3) ∧ (0 ≤ lane ∧ lane ≤ 3) ∧ (0 ≤ what ∧ what ≤ 1)) ∧ z = -1) ∨ (((0 ≤ s ∧ s ≤ 3) ∧ (0 ≤ lane ∧ lane ≤ 3) ∧ (0 ≤ what ∧ what ≤ 1)) ∧ sp_bars (μ 75 s) (μ 76 s) lane i (μ 67 0) ≠ 0 ∧ z = sp_bars (μ 75 s) (μ 76 s) lane i (μ 67 0)) ∨ (((0 ≤ s ∧ s ≤ 3) ∧ (0 ≤ lane ∧ lane ≤ 3) ∧ (0 ≤ what ∧ what ≤ 1)) ∧ sp_bars (μ 75 s) (μ 76 s) lane i (μ 67 0) = 0 ∧ z = if what = 0 then sp_cnt (sp_Nk (μ 67) (fun f => μ 77 (16 * s + (i + f))) (fr_shl 1 (μ 67 43) - 1)) (sp_p6 (μ 67 0).toNat).toNat else if sp_cnt (sp_Nk (μ 67) (fun f => μ 77 (16 * s + (i + f))) (fr_shl 1 (μ 67 43) - 1)) (sp_p6 (μ 67 0).toNat).toNat = 0 then -4 else sp_sr (sp_Nk (μ 67) (fun f => μ 77 (16 * s + (i + f))) (fr_shl 1 (μ 67 43) - 1)) (fun c => sp_cr (sp_dg (μ 67 0) c) (μ 67 0) (μ 67 0).toNat) (fr_shl 1 (μ 67 43) - 1) (sp_p6 (μ 67 0).toNat).toNat)))) := by
  have iN := hI.n
  have iM := hI.many
  have hp := sp_p6_rg (μ 67 0).toNat (by omega)
  have hbr := sp_bars_rg (μ 75 s) (μ 76 s) lane i (μ 67 0)
  refine fr_enter (by decide +kernel) (ls := [some (fr_r κ 66), some (fr_i s), some (fr_i lane), some (fr_i i), some (fr_i what), none, none, none, none, none, none, none, none, none]) rfl (Nat.le_of_ble_eq_true rfl) ?_
  refine fr_il1 dX11_night_0 ?_
  refine fr_cSi (mi' := fmX11_isSheet) dX11_night_1 mlX11_237 msX11_isSheet (Nat.le_of_ble_eq_true rfl) (kcX11_isSheet (by omega)) rfl rfl (Nat.le_of_ble_eq_true rfl) ?_
  refine fr_ifb_eq (tgt := 25) dX11_night_4 (by decide) (fun h1 => ?_) (fun h1 => ?_)
  · skip
    refine fr_iconst dX11_night_25 ?_
    exact fr_iret dX11_night_26 rfl (fr_pi ⟨fun c _ => rfl, Or.inl ⟨by omega, rfl⟩⟩)
  · skip
    refine fr_il2 dX11_night_7 ?_
    refine fr_cSi (mi' := fmX11_isLane) dX11_night_8 mlX11_240 msX11_isLane (Nat.le_of_ble_eq_true rfl) (kcX11_isLane (by omega)) rfl rfl (Nat.le_of_ble_eq_true rfl) ?_
    refine fr_ifb_eq (tgt := 25) dX11_night_11 (by decide) (fun h2 => ?_) (fun h2 => ?_)
    · skip
      refine fr_iconst dX11_night_25 ?_
      exact fr_iret dX11_night_26 rfl (fr_pi ⟨fun c _ => rfl, Or.inl ⟨by omega, rfl⟩⟩)
    · skip
      refine fr_il4 dX11_night_14 ?_
      refine fr_i2l dX11_night_16 (by omega) ?_
      refine fr_lconst0 dX11_night_17 ?_
      refine fr_lconst1 dX11_night_18 ?_
      refine fr_cSi (mi' := fmX11_in) dX11_night_19 mlX11_51 msX11_in (Nat.le_of_ble_eq_true rfl) (kcX11_in (by omega) (by omega) (by omega)) rfl rfl (Nat.le_of_ble_eq_true rfl) ?_
      refine fr_ifb_ne (tgt := 27) dX11_night_22 (by decide) (fun h3 => ?_) (fun h3 => ?_)
      · skip
        refine fr_al0 dX11_night_27 ?_
        refine fr_il1 dX11_night_28 ?_
        refine fr_il2 dX11_night_29 ?_
        refine fr_il3 dX11_night_30 ?_
        refine fr_al0 dX11_night_31 ?_
        refine fr_getr (cz := 67) dX11_night_32 flX11_7 ⟨by decide, by decide, rfl⟩ rfl rfl ?_
        refine fr_iconst dX11_night_35 ?_
        refine fr_iald dX11_night_36 ⟨by decide, by decide, rfl, by decide⟩ (by omega) (by omega) ?_
        refine fr_cVi (mi' := fmX11_bars) dX11_night_37 mlX11_243 mvX11_bars ⟨11, _, ⟨by decide, by decide, rfl⟩, rfl, rfl⟩ (Nat.le_of_ble_eq_true rfl) (kcX11_bars hS (by omega) (by omega) (by omega) (by omega)) rfl rfl (Nat.le_of_ble_eq_true rfl) ?_
        refine fr_is5 dX11_night_40 rfl (Nat.le_of_ble_eq_true rfl) ?_
        refine fr_il5 dX11_night_42 ?_
        refine fr_if_eq (tgt := 50) dX11_night_44 (by decide) (by omega) (fun h4 => ?_) (fun h4 => ?_)
        · skip
          have hb := sp_bars0 h4
          have hsz := hS.1 s (by omega) (by omega)
          refine fr_iconst dX11_night_50 ?_
          refine fr_is6 dX11_night_51 rfl (Nat.le_of_ble_eq_true rfl) ?_
          refine fr_al0 dX11_night_53 ?_
          refine fr_cVi (mi' := fmX11_everybody) dX11_night_54 mlX11_184 mvX11_everybody ⟨11, _, ⟨by decide, by decide, rfl⟩, rfl, rfl⟩ (Nat.le_of_ble_eq_true rfl) (kcX11_everybody) rfl rfl (Nat.le_of_ble_eq_true rfl) ?_
          refine fr_is7 dX11_night_57 rfl (Nat.le_of_ble_eq_true rfl) ?_
          refine fr_iconst dX11_night_59 ?_
          refine fr_is8 dX11_night_60 rfl (Nat.le_of_ble_eq_true rfl) ?_
          refine fr_wk ?_ (ls := [some (fr_r κ 66), some (fr_i s), some (fr_i lane), some (fr_i i), some (fr_i what), none, some (fr_i _), some (fr_i _), some (fr_i (0 : Int)), none, none, none, none, none]) ⟨rfl, rfl, rfl, rfl, rfl, rfl, rfl, rfl, trivial⟩
          refine (fr_down (P := fun j : Nat => ∀ (x : Int) (y : Int) (m : fr_Me), ((∀ c, c ≠ 70 → m c = μ c) ∧ x = sp_cnt (sp_Nk (μ 67) (fun f => μ 77 (16 * s + (i + f))) (fr_shl 1 (μ 67 43) - 1)) j ∧ y = sp_sr (sp_Nk (μ 67) (fun f => μ 77 (16 * s + (i + f))) (fr_shl 1 (μ 67 43) - 1)) (fun c => sp_cr (sp_dg (μ 67 0) c) (μ 67 0) (μ 67 0).toNat) (fr_shl 1 (μ 67 43) - 1) j) → fr_A l κ fmX11_night 6 (fr_Pi (fun z m => (∀ c, c ≠ 70 → m c = μ c) ∧ ((¬ ((0 ≤ s ∧ s ≤ 3) ∧ (0 ≤ lane ∧ lane ≤ 3) ∧ (0 ≤ what ∧ what ≤ 1)) ∧ z = -1) ∨ (((0 ≤ s ∧ s ≤ 3) ∧ (0 ≤ lane ∧ lane ≤ 3) ∧ (0 ≤ what ∧ what ≤ 1)) ∧ sp_bars (μ 75 s) (μ 76 s) lane i (μ 67 0) ≠ 0 ∧ z = sp_bars (μ 75 s) (μ 76 s) lane i (μ 67 0)) ∨ (((0 ≤ s ∧ s ≤ 3) ∧ (0 ≤ lane ∧ lane ≤ 3) ∧ (0 ≤ what ∧ what ≤ 1)) ∧ sp_bars (μ 75 s) (μ 76 s) lane i (μ 67 0) = 0 ∧ z = if what = 0 then sp_cnt (sp_Nk (μ 67) (fun f => μ 77 (16 * s + (i + f))) (fr_shl 1 (μ 67 43) - 1)) (sp_p6 (μ 67 0).toNat).toNat else if sp_cnt (sp_Nk (μ 67) (fun f => μ 77 (16 * s + (i + f))) (fr_shl 1 (μ 67 43) - 1)) (sp_p6 (μ 67 0).toNat).toNat = 0 then -4 else sp_sr (sp_Nk (μ 67) (fun f => μ 77 (16 * s + (i + f))) (fr_shl 1 (μ 67 43) - 1)) (fun c => sp_cr (sp_dg (μ 67 0) c) (μ 67 0) (μ 67 0).toNat) (fr_shl 1 (μ 67 43) - 1) (sp_p6 (μ 67 0).toNat).toNat)))) 62 [some (fr_r κ 66), some (fr_i s), some (fr_i lane), some (fr_i i), some (fr_i what), none, some (fr_i x), some (fr_i y), some (fr_i (j : Int)), none, none, none, none, none] [] m) (sp_p6 (μ 67 0).toNat).toNat ?_ (fun j hj62 ih62 => ?_)) _ _ _ (⟨fun c _ => rfl, rfl, rfl⟩)
          · skip
            intro x y m hm
            have hxr := sp_cnt_rg (sp_Nk (μ 67) (fun f => μ 77 (16 * s + (i + f))) (fr_shl 1 (μ 67 43) - 1)) (sp_p6 (μ 67 0).toNat).toNat
            rw [← hm.2.1] at hxr
            have hw : m 67 = μ 67 := hm.1 67 (by decide)
            refine fr_il8 dX11_night_62 ?_
            refine fr_al0 dX11_night_64 ?_
            refine fr_cVi (mi' := fmX11_orders) dX11_night_65 mlX11_173 mvX11_orders ⟨11, _, ⟨by decide, by decide, rfl⟩, rfl, rfl⟩ (Nat.le_of_ble_eq_true rfl) (kcX11_orders (by rw [hw]; exact iN)) rfl rfl (Nat.le_of_ble_eq_true rfl) ?_
            rw [hw]
            refine fr_icmp_ge (tgt := 212) dX11_night_68 (by decide) (by omega) (by omega) (fun h5 => ?_) (fun h5 => ?_)
            · skip
              refine fr_il4 dX11_night_212 ?_
              refine fr_if_ne (tgt := 222) dX11_night_214 (by decide) (by omega) (fun h6 => ?_) (fun h6 => ?_)
              · skip
                refine fr_il6 dX11_night_222 ?_
                refine fr_if_ne (tgt := 232) dX11_night_224 (by decide) (by omega) (fun h7 => ?_) (fun h7 => ?_)
                · skip
                  refine fr_il7 dX11_night_232 ?_
                  exact fr_iret dX11_night_234 rfl (fr_pi ⟨hm.1, Or.inr (Or.inr ⟨by omega, by assumption, by rw [if_neg (by omega), ← hm.2.1, if_neg (by omega)]; exact hm.2.2⟩)⟩)
                · skip
                  refine fr_bipush dX11_night_227 (by decide) ?_
                  refine fr_goto (tgt := 234) dX11_night_229 (by decide) ?_
                  exact fr_iret dX11_night_234 rfl (fr_pi ⟨hm.1, Or.inr (Or.inr ⟨by omega, by assumption, by rw [if_neg (by omega), ← hm.2.1, if_pos (by omega)]⟩)⟩)
              · skip
                refine fr_il6 dX11_night_217 ?_
                refine fr_goto (tgt := 234) dX11_night_219 (by decide) ?_
                exact fr_iret dX11_night_234 rfl (fr_pi ⟨hm.1, Or.inr (Or.inr ⟨by omega, by assumption, by rw [if_pos (by omega)]; exact hm.2.1⟩)⟩)
            · skip
              exfalso; omega
          · skip
            intro x y m hm
            have hw : m 67 = μ 67 := hm.1 67 (by decide)
            refine fr_il8 dX11_night_62 ?_
            refine fr_al0 dX11_night_64 ?_
            refine fr_cVi (mi' := fmX11_orders) dX11_night_65 mlX11_173 mvX11_orders ⟨11, _, ⟨by decide, by decide, rfl⟩, rfl, rfl⟩ (Nat.le_of_ble_eq_true rfl) (kcX11_orders (by rw [hw]; exact iN)) rfl rfl (Nat.le_of_ble_eq_true rfl) ?_
            rw [hw]
            refine fr_icmp_ge (tgt := 212) dX11_night_68 (by decide) (by omega) (by omega) (fun h8 => ?_) (fun h8 => ?_)
            · skip
              exfalso; omega
            · skip
              refine fr_al0 dX11_night_71 ?_
              refine fr_il8 dX11_night_72 ?_
              refine fr_al0 dX11_night_74 ?_
              refine fr_cVi (mi' := fmX11_everybody) dX11_night_75 mlX11_184 mvX11_everybody ⟨11, _, ⟨by decide, by decide, rfl⟩, rfl, rfl⟩ (Nat.le_of_ble_eq_true rfl) (kcX11_everybody) rfl rfl (Nat.le_of_ble_eq_true rfl) ?_
              rw [hw]
              refine fr_iconst dX11_night_78 ?_
              refine fr_cVP (mi' := fmX11_layOrder) dX11_night_79 mlX11_176 mvX11_layOrder ⟨11, _, ⟨by decide, by decide, rfl⟩, rfl, rfl⟩ (Nat.le_of_ble_eq_true rfl) (kcX11_layOrder (by rw [hw]; exact hI) (by omega)) rfl rfl (Nat.le_of_ble_eq_true rfl) (fun z1 m1 h1 => ?_)
              rw [hw] at h1
              obtain ⟨f70, hz1⟩ := h1
              have hw1 : m1 67 = μ 67 := (f70 67 (by decide)).trans hw
              have hw10 : m1 67 0 = μ 67 0 := by rw [hw1]
              have h77 : m1 77 = μ 77 := by rw [f70 77 (by decide)]; exact hm.1 77 (by decide)
              rcases hz1 with ⟨ez, hv, hwho⟩ | ⟨rfl, hnv⟩
              · skip
                have hzr := sp_cr_rg (N := μ 67 0) (fun t => sp_dg_rg (μ 67 0) (j : Int) t) (μ 67 0).toNat
                rw [← ez] at hzr
                have hfk := sp_V_folk iN.1 (code := (j : Int)) hv
                refine fr_is9 dX11_night_82 rfl (Nat.le_of_ble_eq_true rfl) ?_
                refine fr_il9 dX11_night_84 ?_
                refine fr_if_lt (tgt := 93) dX11_night_86 (by decide) (by omega) (fun h9 => ?_) (fun h9 => ?_)
                · skip
                  exfalso; omega
                · skip
                  refine fr_iconst dX11_night_89 ?_
                  refine fr_goto (tgt := 94) dX11_night_90 (by decide) ?_
                  refine fr_is10 dX11_night_94 rfl (Nat.le_of_ble_eq_true rfl) ?_
                  refine fr_iconst dX11_night_96 ?_
                  refine fr_is11 dX11_night_97 rfl (Nat.le_of_ble_eq_true rfl) ?_
                  refine fr_wk ?_ (ls := [some (fr_r κ 66), some (fr_i s), some (fr_i lane), some (fr_i i), some (fr_i what), none, some (fr_i x), some (fr_i y), some (fr_i (j : Int)), some (fr_i z1), some (fr_i 1), some (fr_i (0 : Int)), none, none]) ⟨rfl, rfl, rfl, rfl, rfl, rfl, rfl, rfl, rfl, rfl, rfl, trivial⟩
                  refine (fr_down (P := fun a : Nat => (∀ t, 0 ≤ t → t < (a : Int) → μ 77 (16 * s + (i + t)) < 0 ∨ (μ 77 (16 * s + (i + t)) < 10 ∧ 0 < sp_nxt (μ 67) t (μ 77 (16 * s + (i + t))) (sp_dg (μ 67 0) j t) 0)) → fr_A l κ fmX11_night 6 (fr_Pi (fun z m => (∀ c, c ≠ 70 → m c = μ c) ∧ ((¬ ((0 ≤ s ∧ s ≤ 3) ∧ (0 ≤ lane ∧ lane ≤ 3) ∧ (0 ≤ what ∧ what ≤ 1)) ∧ z = -1) ∨ (((0 ≤ s ∧ s ≤ 3) ∧ (0 ≤ lane ∧ lane ≤ 3) ∧ (0 ≤ what ∧ what ≤ 1)) ∧ sp_bars (μ 75 s) (μ 76 s) lane i (μ 67 0) ≠ 0 ∧ z = sp_bars (μ 75 s) (μ 76 s) lane i (μ 67 0)) ∨ (((0 ≤ s ∧ s ≤ 3) ∧ (0 ≤ lane ∧ lane ≤ 3) ∧ (0 ≤ what ∧ what ≤ 1)) ∧ sp_bars (μ 75 s) (μ 76 s) lane i (μ 67 0) = 0 ∧ z = if what = 0 then sp_cnt (sp_Nk (μ 67) (fun f => μ 77 (16 * s + (i + f))) (fr_shl 1 (μ 67 43) - 1)) (sp_p6 (μ 67 0).toNat).toNat else if sp_cnt (sp_Nk (μ 67) (fun f => μ 77 (16 * s + (i + f))) (fr_shl 1 (μ 67 43) - 1)) (sp_p6 (μ 67 0).toNat).toNat = 0 then -4 else sp_sr (sp_Nk (μ 67) (fun f => μ 77 (16 * s + (i + f))) (fr_shl 1 (μ 67 43) - 1)) (fun c => sp_cr (sp_dg (μ 67 0) c) (μ 67 0) (μ 67 0).toNat) (fr_shl 1 (μ 67 43) - 1) (sp_p6 (μ 67 0).toNat).toNat)))) 99 [some (fr_r κ 66), some (fr_i s), some (fr_i lane), some (fr_i i), some (fr_i what), none, some (fr_i x), some (fr_i y), some (fr_i (j : Int)), some (fr_i z1), some (fr_i 1), some (fr_i (a : Int)), none, none] [] m1) (μ 67 0).toNat ?_ (fun a hj99 ih99 => ?_)) (fun f f0 f1 => by omega)
                  · skip
                    intro hall
                    refine fr_il11 dX11_night_99 ?_
                    refine fr_al0 dX11_night_101 ?_
                    refine fr_getr (cz := 67) dX11_night_102 flX11_7 ⟨by decide, by decide, rfl⟩ rfl rfl ?_
                    refine fr_iconst dX11_night_105 ?_
                    refine fr_iald dX11_night_106 ⟨by decide, by decide, rfl, by decide⟩ (by omega) (by omega) ?_
                    refine fr_icmp_ge (tgt := 175) dX11_night_107 (by decide) (by omega) (by omega) (fun h10 => ?_) (fun h10 => ?_)
                    · skip
                      refine fr_il6 dX11_night_175 ?_
                      refine fr_il10 dX11_night_177 ?_
                      refine fr_if_eq (tgt := 186) dX11_night_179 (by decide) (by decide) (fun h11 => absurd h11 (by decide)) (fun _ => ?_)
                      refine fr_iconst dX11_night_182 ?_
                      refine fr_goto (tgt := 187) dX11_night_183 (by decide) ?_
                      refine fr_iadd dX11_night_187 ?_
                      refine fr_is6 dX11_night_188 rfl (Nat.le_of_ble_eq_true rfl) ?_
                      refine fr_il7 dX11_night_190 ?_
                      refine fr_il10 dX11_night_192 ?_
                      refine fr_if_eq (tgt := 202) dX11_night_194 (by decide) (by decide) (fun h12 => absurd h12 (by decide)) (fun _ => ?_)
                      refine fr_il9 dX11_night_197 ?_
                      refine fr_goto (tgt := 203) dX11_night_199 (by decide) ?_
                      refine fr_iand dX11_night_203 ?_
                      refine fr_is7 dX11_night_204 rfl (Nat.le_of_ble_eq_true rfl) ?_
                      refine fr_ii8 dX11_night_206 rfl (Nat.le_of_ble_eq_true rfl) ?_
                      refine fr_goto (tgt := 62) dX11_night_209 (by decide) ?_
                      exact fr_wk (ih62 _ _ _ (⟨fun c hc => by rw [f70 c hc]; exact hm.1 c hc, by rw [hm.2.1]; show _ = sp_cnt (sp_Nk (μ 67) (fun f => μ 77 (16 * s + (i + f))) (fr_shl 1 (μ 67 43) - 1)) j + fr_b ((sp_Nk (μ 67) (fun f => μ 77 (16 * s + (i + f))) (fr_shl 1 (μ 67 43) - 1)) j); rw [fr_bT (show (sp_Nk (μ 67) (fun f => μ 77 (16 * s + (i + f))) (fr_shl 1 (μ 67 43) - 1)) j from ⟨hv, fun t h0 h1 => hall t h0 (by omega)⟩)], by rw [hm.2.2, ez]; exact (sp_sr_T (P := (sp_Nk (μ 67) (fun f => μ 77 (16 * s + (i + f))) (fr_shl 1 (μ 67 43) - 1))) (cl := (fun c => sp_cr (sp_dg (μ 67 0) c) (μ 67 0) (μ 67 0).toNat)) (show (sp_Nk (μ 67) (fun f => μ 77 (16 * s + (i + f))) (fr_shl 1 (μ 67 43) - 1)) j from ⟨hv, fun t h0 h1 => hall t h0 (by omega)⟩)).symm⟩)) ⟨rfl, rfl, rfl, rfl, rfl, rfl, rfl, rfl, trivial⟩
                    · skip
                      exfalso; omega
                  · skip
                    intro hall
                    refine fr_il11 dX11_night_99 ?_
                    refine fr_al0 dX11_night_101 ?_
                    refine fr_getr (cz := 67) dX11_night_102 flX11_7 ⟨by decide, by decide, rfl⟩ rfl rfl ?_
                    refine fr_iconst dX11_night_105 ?_
                    refine fr_iald dX11_night_106 ⟨by decide, by decide, rfl, by decide⟩ (by omega) (by omega) ?_
                    refine fr_icmp_ge (tgt := 175) dX11_night_107 (by decide) (by omega) (by omega) (fun h13 => ?_) (fun h13 => ?_)
                    · skip
                      exfalso; omega
                    · skip
                      refine fr_il10 dX11_night_110 ?_
                      refine fr_if_eq (tgt := 175) dX11_night_112 (by decide) (by decide) (fun h14 => absurd h14 (by decide)) (fun _ => ?_)
                      refine fr_al0 dX11_night_115 ?_
                      refine fr_il1 dX11_night_116 ?_
                      refine fr_il3 dX11_night_117 ?_
                      refine fr_il11 dX11_night_118 ?_
                      refine fr_iadd dX11_night_120 ?_
                      refine fr_cVj (mi' := fmX11_itemAt) dX11_night_121 mlX11_233 mvX11_itemAt ⟨11, _, ⟨by decide, by decide, rfl⟩, rfl, rfl⟩ (Nat.le_of_ble_eq_true rfl) (kcX11_itemAt (by omega)) rfl rfl (Nat.le_of_ble_eq_true rfl) ?_
                      rw [h77]
                      have hjr := hS.2 (16 * s + (i + a)) (by omega) (by omega)
                      refine fr_ls12 dX11_night_124 rfl (Nat.le_of_ble_eq_true rfl) ?_
                      refine fr_ll12 dX11_night_126 ?_
                      refine fr_lconst0 dX11_night_128 ?_
                      refine fr_lcmpR dX11_night_129 (by omega) (by omega) ?_
                      refine fr_if_lt (tgt := 162) dX11_night_130 (by decide) (by omega) (fun h15 => ?_) (fun h15 => ?_)
                      · skip
                        refine fr_iconst dX11_night_162 ?_
                        refine fr_goto (tgt := 167) dX11_night_163 (by decide) ?_
                        refine fr_is10 dX11_night_167 rfl (Nat.le_of_ble_eq_true rfl) ?_
                        refine fr_ii11 dX11_night_169 rfl (Nat.le_of_ble_eq_true rfl) ?_
                        refine fr_goto (tgt := 99) dX11_night_172 (by decide) ?_
                        exact fr_wk (ih99 (fun f f0 f1 => (by omega : f < a ∨ f = a).elim (fun h => hall f f0 h) (fun h => by subst h; omega))) ⟨rfl, rfl, rfl, rfl, rfl, rfl, rfl, rfl, rfl, rfl, rfl, trivial⟩
                      · skip
                        refine fr_ll12 dX11_night_133 ?_
                        refine fr_ldc2 dX11_night_135 clX11_69 ?_
                        refine fr_lcmpR dX11_night_138 (by omega) (by omega) ?_
                        refine fr_if_ge (tgt := 166) dX11_night_139 (by decide) (by omega) (fun h16 => ?_) (fun h16 => ?_)
                        · skip
                          refine fr_iconst dX11_night_166 ?_
                          refine fr_is10 dX11_night_167 rfl (Nat.le_of_ble_eq_true rfl) ?_
                          refine fr_ii11 dX11_night_169 rfl (Nat.le_of_ble_eq_true rfl) ?_
                          refine fr_goto (tgt := 99) dX11_night_172 (by decide) ?_
                          refine fr_il11 dX11_night_99 ?_
                          refine fr_al0 dX11_night_101 ?_
                          refine fr_getr (cz := 67) dX11_night_102 flX11_7 ⟨by decide, by decide, rfl⟩ rfl rfl ?_
                          refine fr_iconst dX11_night_105 ?_
                          refine fr_iald dX11_night_106 ⟨by decide, by decide, rfl, by decide⟩ (by omega) (by omega) ?_
                          refine fr_icmp_ge (tgt := 175) dX11_night_107 (by decide) (by omega) (by omega) (fun h17 => ?_) (fun h17 => ?_)
                          · skip
                            refine fr_il6 dX11_night_175 ?_
                            refine fr_il10 dX11_night_177 ?_
                            refine fr_if_eq (tgt := 186) dX11_night_179 (by decide) (by decide) (fun _ => ?_) (fun h18 => absurd h18 (by decide))
                            refine fr_iconst dX11_night_186 ?_
                            refine fr_iadd dX11_night_187 ?_
                            refine fr_is6 dX11_night_188 rfl (Nat.le_of_ble_eq_true rfl) ?_
                            refine fr_il7 dX11_night_190 ?_
                            refine fr_il10 dX11_night_192 ?_
                            refine fr_if_eq (tgt := 202) dX11_night_194 (by decide) (by decide) (fun _ => ?_) (fun h19 => absurd h19 (by decide))
                            refine fr_iconst dX11_night_202 ?_
                            refine fr_iand dX11_night_203 ?_
                            refine fr_is7 dX11_night_204 rfl (Nat.le_of_ble_eq_true rfl) ?_
                            refine fr_ii8 dX11_night_206 rfl (Nat.le_of_ble_eq_true rfl) ?_
                            refine fr_goto (tgt := 62) dX11_night_209 (by decide) ?_
                            exact fr_wk (ih62 _ _ _ (⟨fun c hc => by rw [f70 c hc]; exact hm.1 c hc, by rw [hm.2.1]; show _ = sp_cnt (sp_Nk (μ 67) (fun f => μ 77 (16 * s + (i + f))) (fr_shl 1 (μ 67 43) - 1)) j + fr_b ((sp_Nk (μ 67) (fun f => μ 77 (16 * s + (i + f))) (fr_shl 1 (μ 67 43) - 1)) j); rw [fr_bF (show ¬ (sp_Nk (μ 67) (fun f => μ 77 (16 * s + (i + f))) (fr_shl 1 (μ 67 43) - 1)) j from fun h => by have h9 := h.2 (a : Int) (by omega) (by omega); dsimp only at h9; omega)], by rw [hm.2.2]; exact (sp_sr_F (P := (sp_Nk (μ 67) (fun f => μ 77 (16 * s + (i + f))) (fr_shl 1 (μ 67 43) - 1))) (cl := (fun c => sp_cr (sp_dg (μ 67 0) c) (μ 67 0) (μ 67 0).toNat)) (show ¬ (sp_Nk (μ 67) (fun f => μ 77 (16 * s + (i + f))) (fr_shl 1 (μ 67 43) - 1)) j from fun h => by have h9 := h.2 (a : Int) (by omega) (by omega); dsimp only at h9; omega)).symm⟩)) ⟨rfl, rfl, rfl, rfl, rfl, rfl, rfl, rfl, trivial⟩
                          · skip
                            refine fr_il10 dX11_night_110 ?_
                            refine fr_if_eq (tgt := 175) dX11_night_112 (by decide) (by decide) (fun _ => ?_) (fun h20 => absurd h20 (by decide))
                            refine fr_il6 dX11_night_175 ?_
                            refine fr_il10 dX11_night_177 ?_
                            refine fr_if_eq (tgt := 186) dX11_night_179 (by decide) (by decide) (fun _ => ?_) (fun h21 => absurd h21 (by decide))
                            refine fr_iconst dX11_night_186 ?_
                            refine fr_iadd dX11_night_187 ?_
                            refine fr_is6 dX11_night_188 rfl (Nat.le_of_ble_eq_true rfl) ?_
                            refine fr_il7 dX11_night_190 ?_
                            refine fr_il10 dX11_night_192 ?_
                            refine fr_if_eq (tgt := 202) dX11_night_194 (by decide) (by decide) (fun _ => ?_) (fun h22 => absurd h22 (by decide))
                            refine fr_iconst dX11_night_202 ?_
                            refine fr_iand dX11_night_203 ?_
                            refine fr_is7 dX11_night_204 rfl (Nat.le_of_ble_eq_true rfl) ?_
                            refine fr_ii8 dX11_night_206 rfl (Nat.le_of_ble_eq_true rfl) ?_
                            refine fr_goto (tgt := 62) dX11_night_209 (by decide) ?_
                            exact fr_wk (ih62 _ _ _ (⟨fun c hc => by rw [f70 c hc]; exact hm.1 c hc, by rw [hm.2.1]; show _ = sp_cnt (sp_Nk (μ 67) (fun f => μ 77 (16 * s + (i + f))) (fr_shl 1 (μ 67 43) - 1)) j + fr_b ((sp_Nk (μ 67) (fun f => μ 77 (16 * s + (i + f))) (fr_shl 1 (μ 67 43) - 1)) j); rw [fr_bF (show ¬ (sp_Nk (μ 67) (fun f => μ 77 (16 * s + (i + f))) (fr_shl 1 (μ 67 43) - 1)) j from fun h => by have h9 := h.2 (a : Int) (by omega) (by omega); dsimp only at h9; omega)], by rw [hm.2.2]; exact (sp_sr_F (P := (sp_Nk (μ 67) (fun f => μ 77 (16 * s + (i + f))) (fr_shl 1 (μ 67 43) - 1))) (cl := (fun c => sp_cr (sp_dg (μ 67 0) c) (μ 67 0) (μ 67 0).toNat)) (show ¬ (sp_Nk (μ 67) (fun f => μ 77 (16 * s + (i + f))) (fr_shl 1 (μ 67 43) - 1)) j from fun h => by have h9 := h.2 (a : Int) (by omega) (by omega); dsimp only at h9; omega)).symm⟩)) ⟨rfl, rfl, rfl, rfl, rfl, rfl, rfl, rfl, trivial⟩
                        · skip
                          refine fr_al0 dX11_night_142 ?_
                          refine fr_il11 dX11_night_143 ?_
                          refine fr_ll12 dX11_night_145 ?_
                          refine fr_l2i dX11_night_147 ?_
                          refine fr_al0 dX11_night_148 ?_
                          refine fr_getr (cz := 70) dX11_night_149 flX11_19 ⟨by decide, by decide, rfl⟩ rfl rfl ?_
                          refine fr_il11 dX11_night_152 ?_
                          refine fr_iald dX11_night_154 ⟨by decide, by decide, rfl, by decide⟩ (by omega) (by omega) ?_
                          refine fr_iconst dX11_night_155 ?_
                          refine fr_cVi (mi' := fmX11_bearsNext) dX11_night_156 mlX11_134 mvX11_bearsNext ⟨11, _, ⟨by decide, by decide, rfl⟩, rfl, rfl⟩ (Nat.le_of_ble_eq_true rfl) (kcX11_bearsNext (by rw [hw1]; exact hI) (by omega) (by omega) (by rw [hw1, hwho (a : Int) (by omega) (by omega)]; exact hfk (a : Int) (by omega) (by omega)) (by omega)) rfl rfl (Nat.le_of_ble_eq_true rfl) ?_
                          rw [hw1, hwho (a : Int) (by omega) (by omega)]
                          have hbn : 0 ≤ sp_nxt (μ 67) a (μ 77 (16 * s + (i + a))) (sp_dg (μ 67 0) j a) 0 ∧ sp_nxt (μ 67) a (μ 77 (16 * s + (i + a))) (sp_dg (μ 67 0) j a) 0 ≤ 6 := sp_bn_rg _ _ _ _ _ _ _
                          refine fr_if_le (tgt := 166) dX11_night_159 (by decide) (by omega) (fun h23 => ?_) (fun h23 => ?_)
                          · skip
                            refine fr_iconst dX11_night_166 ?_
                            refine fr_is10 dX11_night_167 rfl (Nat.le_of_ble_eq_true rfl) ?_
                            refine fr_ii11 dX11_night_169 rfl (Nat.le_of_ble_eq_true rfl) ?_
                            refine fr_goto (tgt := 99) dX11_night_172 (by decide) ?_
                            refine fr_il11 dX11_night_99 ?_
                            refine fr_al0 dX11_night_101 ?_
                            refine fr_getr (cz := 67) dX11_night_102 flX11_7 ⟨by decide, by decide, rfl⟩ rfl rfl ?_
                            refine fr_iconst dX11_night_105 ?_
                            refine fr_iald dX11_night_106 ⟨by decide, by decide, rfl, by decide⟩ (by omega) (by omega) ?_
                            refine fr_icmp_ge (tgt := 175) dX11_night_107 (by decide) (by omega) (by omega) (fun h24 => ?_) (fun h24 => ?_)
                            · skip
                              refine fr_il6 dX11_night_175 ?_
                              refine fr_il10 dX11_night_177 ?_
                              refine fr_if_eq (tgt := 186) dX11_night_179 (by decide) (by decide) (fun _ => ?_) (fun h25 => absurd h25 (by decide))
                              refine fr_iconst dX11_night_186 ?_
                              refine fr_iadd dX11_night_187 ?_
                              refine fr_is6 dX11_night_188 rfl (Nat.le_of_ble_eq_true rfl) ?_
                              refine fr_il7 dX11_night_190 ?_
                              refine fr_il10 dX11_night_192 ?_
                              refine fr_if_eq (tgt := 202) dX11_night_194 (by decide) (by decide) (fun _ => ?_) (fun h26 => absurd h26 (by decide))
                              refine fr_iconst dX11_night_202 ?_
                              refine fr_iand dX11_night_203 ?_
                              refine fr_is7 dX11_night_204 rfl (Nat.le_of_ble_eq_true rfl) ?_
                              refine fr_ii8 dX11_night_206 rfl (Nat.le_of_ble_eq_true rfl) ?_
                              refine fr_goto (tgt := 62) dX11_night_209 (by decide) ?_
                              exact fr_wk (ih62 _ _ _ (⟨fun c hc => by rw [f70 c hc]; exact hm.1 c hc, by rw [hm.2.1]; show _ = sp_cnt (sp_Nk (μ 67) (fun f => μ 77 (16 * s + (i + f))) (fr_shl 1 (μ 67 43) - 1)) j + fr_b ((sp_Nk (μ 67) (fun f => μ 77 (16 * s + (i + f))) (fr_shl 1 (μ 67 43) - 1)) j); rw [fr_bF (show ¬ (sp_Nk (μ 67) (fun f => μ 77 (16 * s + (i + f))) (fr_shl 1 (μ 67 43) - 1)) j from fun h => by have h9 := h.2 (a : Int) (by omega) (by omega); dsimp only at h9; omega)], by rw [hm.2.2]; exact (sp_sr_F (P := (sp_Nk (μ 67) (fun f => μ 77 (16 * s + (i + f))) (fr_shl 1 (μ 67 43) - 1))) (cl := (fun c => sp_cr (sp_dg (μ 67 0) c) (μ 67 0) (μ 67 0).toNat)) (show ¬ (sp_Nk (μ 67) (fun f => μ 77 (16 * s + (i + f))) (fr_shl 1 (μ 67 43) - 1)) j from fun h => by have h9 := h.2 (a : Int) (by omega) (by omega); dsimp only at h9; omega)).symm⟩)) ⟨rfl, rfl, rfl, rfl, rfl, rfl, rfl, rfl, trivial⟩
                            · skip
                              refine fr_il10 dX11_night_110 ?_
                              refine fr_if_eq (tgt := 175) dX11_night_112 (by decide) (by decide) (fun _ => ?_) (fun h27 => absurd h27 (by decide))
                              refine fr_il6 dX11_night_175 ?_
                              refine fr_il10 dX11_night_177 ?_
                              refine fr_if_eq (tgt := 186) dX11_night_179 (by decide) (by decide) (fun _ => ?_) (fun h28 => absurd h28 (by decide))
                              refine fr_iconst dX11_night_186 ?_
                              refine fr_iadd dX11_night_187 ?_
                              refine fr_is6 dX11_night_188 rfl (Nat.le_of_ble_eq_true rfl) ?_
                              refine fr_il7 dX11_night_190 ?_
                              refine fr_il10 dX11_night_192 ?_
                              refine fr_if_eq (tgt := 202) dX11_night_194 (by decide) (by decide) (fun _ => ?_) (fun h29 => absurd h29 (by decide))
                              refine fr_iconst dX11_night_202 ?_
                              refine fr_iand dX11_night_203 ?_
                              refine fr_is7 dX11_night_204 rfl (Nat.le_of_ble_eq_true rfl) ?_
                              refine fr_ii8 dX11_night_206 rfl (Nat.le_of_ble_eq_true rfl) ?_
                              refine fr_goto (tgt := 62) dX11_night_209 (by decide) ?_
                              exact fr_wk (ih62 _ _ _ (⟨fun c hc => by rw [f70 c hc]; exact hm.1 c hc, by rw [hm.2.1]; show _ = sp_cnt (sp_Nk (μ 67) (fun f => μ 77 (16 * s + (i + f))) (fr_shl 1 (μ 67 43) - 1)) j + fr_b ((sp_Nk (μ 67) (fun f => μ 77 (16 * s + (i + f))) (fr_shl 1 (μ 67 43) - 1)) j); rw [fr_bF (show ¬ (sp_Nk (μ 67) (fun f => μ 77 (16 * s + (i + f))) (fr_shl 1 (μ 67 43) - 1)) j from fun h => by have h9 := h.2 (a : Int) (by omega) (by omega); dsimp only at h9; omega)], by rw [hm.2.2]; exact (sp_sr_F (P := (sp_Nk (μ 67) (fun f => μ 77 (16 * s + (i + f))) (fr_shl 1 (μ 67 43) - 1))) (cl := (fun c => sp_cr (sp_dg (μ 67 0) c) (μ 67 0) (μ 67 0).toNat)) (show ¬ (sp_Nk (μ 67) (fun f => μ 77 (16 * s + (i + f))) (fr_shl 1 (μ 67 43) - 1)) j from fun h => by have h9 := h.2 (a : Int) (by omega) (by omega); dsimp only at h9; omega)).symm⟩)) ⟨rfl, rfl, rfl, rfl, rfl, rfl, rfl, rfl, trivial⟩
                          · skip
                            refine fr_iconst dX11_night_162 ?_
                            refine fr_goto (tgt := 167) dX11_night_163 (by decide) ?_
                            refine fr_is10 dX11_night_167 rfl (Nat.le_of_ble_eq_true rfl) ?_
                            refine fr_ii11 dX11_night_169 rfl (Nat.le_of_ble_eq_true rfl) ?_
                            refine fr_goto (tgt := 99) dX11_night_172 (by decide) ?_
                            exact fr_wk (ih99 (fun f f0 f1 => (by omega : f < a ∨ f = a).elim (fun h => hall f f0 h) (fun h => by subst h; omega))) ⟨rfl, rfl, rfl, rfl, rfl, rfl, rfl, rfl, rfl, rfl, rfl, trivial⟩
              · skip
                refine fr_is9 dX11_night_82 rfl (Nat.le_of_ble_eq_true rfl) ?_
                refine fr_il9 dX11_night_84 ?_
                refine fr_if_lt (tgt := 93) dX11_night_86 (by decide) (by decide) (fun _ => ?_) (fun h30 => absurd h30 (by decide))
                refine fr_iconst dX11_night_93 ?_
                refine fr_is10 dX11_night_94 rfl (Nat.le_of_ble_eq_true rfl) ?_
                refine fr_iconst dX11_night_96 ?_
                refine fr_is11 dX11_night_97 rfl (Nat.le_of_ble_eq_true rfl) ?_
                refine fr_il11 dX11_night_99 ?_
                refine fr_al0 dX11_night_101 ?_
                refine fr_getr (cz := 67) dX11_night_102 flX11_7 ⟨by decide, by decide, rfl⟩ rfl rfl ?_
                refine fr_iconst dX11_night_105 ?_
                refine fr_iald dX11_night_106 ⟨by decide, by decide, rfl, by decide⟩ (by omega) (by omega) ?_
                refine fr_icmp_ge (tgt := 175) dX11_night_107 (by decide) (by omega) (by omega) (fun h31 => ?_) (fun h31 => ?_)
                · skip
                  refine fr_il6 dX11_night_175 ?_
                  refine fr_il10 dX11_night_177 ?_
                  refine fr_if_eq (tgt := 186) dX11_night_179 (by decide) (by decide) (fun _ => ?_) (fun h32 => absurd h32 (by decide))
                  refine fr_iconst dX11_night_186 ?_
                  refine fr_iadd dX11_night_187 ?_
                  refine fr_is6 dX11_night_188 rfl (Nat.le_of_ble_eq_true rfl) ?_
                  refine fr_il7 dX11_night_190 ?_
                  refine fr_il10 dX11_night_192 ?_
                  refine fr_if_eq (tgt := 202) dX11_night_194 (by decide) (by decide) (fun _ => ?_) (fun h33 => absurd h33 (by decide))
                  refine fr_iconst dX11_night_202 ?_
                  refine fr_iand dX11_night_203 ?_
                  refine fr_is7 dX11_night_204 rfl (Nat.le_of_ble_eq_true rfl) ?_
                  refine fr_ii8 dX11_night_206 rfl (Nat.le_of_ble_eq_true rfl) ?_
                  refine fr_goto (tgt := 62) dX11_night_209 (by decide) ?_
                  exact fr_wk (ih62 _ _ _ (⟨fun c hc => by rw [f70 c hc]; exact hm.1 c hc, by rw [hm.2.1]; show _ = sp_cnt (sp_Nk (μ 67) (fun f => μ 77 (16 * s + (i + f))) (fr_shl 1 (μ 67 43) - 1)) j + fr_b ((sp_Nk (μ 67) (fun f => μ 77 (16 * s + (i + f))) (fr_shl 1 (μ 67 43) - 1)) j); rw [fr_bF (show ¬ (sp_Nk (μ 67) (fun f => μ 77 (16 * s + (i + f))) (fr_shl 1 (μ 67 43) - 1)) j from fun h => hnv h.1)], by rw [hm.2.2]; exact (sp_sr_F (P := (sp_Nk (μ 67) (fun f => μ 77 (16 * s + (i + f))) (fr_shl 1 (μ 67 43) - 1))) (cl := (fun c => sp_cr (sp_dg (μ 67 0) c) (μ 67 0) (μ 67 0).toNat)) (show ¬ (sp_Nk (μ 67) (fun f => μ 77 (16 * s + (i + f))) (fr_shl 1 (μ 67 43) - 1)) j from fun h => hnv h.1)).symm⟩)) ⟨rfl, rfl, rfl, rfl, rfl, rfl, rfl, rfl, trivial⟩
                · skip
                  refine fr_il10 dX11_night_110 ?_
                  refine fr_if_eq (tgt := 175) dX11_night_112 (by decide) (by decide) (fun _ => ?_) (fun h34 => absurd h34 (by decide))
                  refine fr_il6 dX11_night_175 ?_
                  refine fr_il10 dX11_night_177 ?_
                  refine fr_if_eq (tgt := 186) dX11_night_179 (by decide) (by decide) (fun _ => ?_) (fun h35 => absurd h35 (by decide))
                  refine fr_iconst dX11_night_186 ?_
                  refine fr_iadd dX11_night_187 ?_
                  refine fr_is6 dX11_night_188 rfl (Nat.le_of_ble_eq_true rfl) ?_
                  refine fr_il7 dX11_night_190 ?_
                  refine fr_il10 dX11_night_192 ?_
                  refine fr_if_eq (tgt := 202) dX11_night_194 (by decide) (by decide) (fun _ => ?_) (fun h36 => absurd h36 (by decide))
                  refine fr_iconst dX11_night_202 ?_
                  refine fr_iand dX11_night_203 ?_
                  refine fr_is7 dX11_night_204 rfl (Nat.le_of_ble_eq_true rfl) ?_
                  refine fr_ii8 dX11_night_206 rfl (Nat.le_of_ble_eq_true rfl) ?_
                  refine fr_goto (tgt := 62) dX11_night_209 (by decide) ?_
                  exact fr_wk (ih62 _ _ _ (⟨fun c hc => by rw [f70 c hc]; exact hm.1 c hc, by rw [hm.2.1]; show _ = sp_cnt (sp_Nk (μ 67) (fun f => μ 77 (16 * s + (i + f))) (fr_shl 1 (μ 67 43) - 1)) j + fr_b ((sp_Nk (μ 67) (fun f => μ 77 (16 * s + (i + f))) (fr_shl 1 (μ 67 43) - 1)) j); rw [fr_bF (show ¬ (sp_Nk (μ 67) (fun f => μ 77 (16 * s + (i + f))) (fr_shl 1 (μ 67 43) - 1)) j from fun h => hnv h.1)], by rw [hm.2.2]; exact (sp_sr_F (P := (sp_Nk (μ 67) (fun f => μ 77 (16 * s + (i + f))) (fr_shl 1 (μ 67 43) - 1))) (cl := (fun c => sp_cr (sp_dg (μ 67 0) c) (μ 67 0) (μ 67 0).toNat)) (show ¬ (sp_Nk (μ 67) (fun f => μ 77 (16 * s + (i + f))) (fr_shl 1 (μ 67 43) - 1)) j from fun h => hnv h.1)).symm⟩)) ⟨rfl, rfl, rfl, rfl, rfl, rfl, rfl, rfl, trivial⟩
        · skip
          refine fr_il5 dX11_night_47 ?_
          exact fr_iret dX11_night_49 rfl (fr_pi ⟨fun c _ => rfl, Or.inr (Or.inl ⟨by omega, by assumption, rfl⟩)⟩)
      · skip
        refine fr_iconst dX11_night_25 ?_
        exact fr_iret dX11_night_26 rfl (fr_pi ⟨fun c _ => rfl, Or.inl ⟨by omega, rfl⟩⟩)
