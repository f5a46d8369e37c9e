set_option maxRecDepth 20000 in
theorem kcX11_copy {l : Launch} {κ : fr_Ka} {μ : fr_Me} (hS : fr_Sh μ) {a i b q n : Int} (ra : -2147483648 ≤ a ∧ a ≤ 2147483647) (ri : -2147483648 ≤ i ∧ i ≤ 2147483647) (rb : -2147483648 ≤ b ∧ b ≤ 2147483647) (rq : -2147483648 ≤ q ∧ q ≤ 2147483647) (rn : -2147483648 ≤ n ∧ n ≤ 2147483647) : fr_C l κ fmX11_copy 3 [fr_r κ 66, fr_i a, fr_i i, fr_i b, fr_i q, fr_i n] μ (fr_Pi (fun z m => (¬ ((0 ≤ a ∧ a ≤ 3) ∧ (0 ≤ b ∧ b ≤ 3)) ∧ z = -1 ∧ m = μ) ∨ (((0 ≤ a ∧ a ≤ 3) ∧ (0 ≤ b ∧ b ≤ 3)) ∧ (μ 75 a < 0 ∨ μ 75 b < 0) ∧ z = -11 ∧ m = μ) ∨ (((0 ≤ a ∧ a ≤ 3) ∧ (0 ≤ b ∧ b ≤ 3)) ∧ 0 ≤ μ 75 a ∧ 0 ≤ μ 75 b ∧ sp_bars (μ 75 a) (μ 76 a) (μ 75 b) i n ≠ 0 ∧ z = sp_bars (μ 75 a) (μ 76 a) (μ 75 b) i n ∧ m = μ) ∨ (((0 ≤ a ∧ a ≤ 3) ∧ (0 ≤ b ∧ b ≤ 3)) ∧ 0 ≤ μ 75 a ∧ 0 ≤ μ 75 b ∧ sp_bars (μ 75 a) (μ 76 a) (μ 75 b) i n = 0 ∧ sp_bars (μ 75 b) (μ 76 b) (μ 75 a) q n ≠ 0 ∧ z = sp_bars (μ 75 b) (μ 76 b) (μ 75 a) q n ∧ m = μ) ∨ (((0 ≤ a ∧ a ≤ 3) ∧ (0 ≤ b ∧ b ≤ 3)) ∧ 0 ≤ μ 75 a ∧ 0 ≤ μ 75 b ∧ sp_bars (μ 75 a) (μ 76 a) (μ 75 b) i n = 0 ∧ sp_bars (μ 75 b) (μ 76 b) (μ 75 a) q n = 0 ∧ z = n ∧ m = sp_cpy (sp_cpy μ 77 (16 * a + i) 78 0 n) 78 0 77 (16 * b + q) n))) := by
  have r1 := sp_bars_rg (μ 75 a) (μ 76 a) (μ 75 b) i n
  have r2 := sp_bars_rg (μ 75 b) (μ 76 b) (μ 75 a) q n
  refine fr_enter (by decide +kernel) (ls := [some (fr_r κ 66), some (fr_i a), some (fr_i i), some (fr_i b), some (fr_i q), some (fr_i n), none, none]) rfl (Nat.le_of_ble_eq_true rfl) ?_
  refine fr_il1 dX11_copy_0 ?_
  refine fr_cSi (mi' := fmX11_isSheet) dX11_copy_1 mlX11_237 msX11_isSheet (Nat.le_of_ble_eq_true rfl) (kcX11_isSheet (by omega)) rfl rfl (Nat.le_of_ble_eq_true rfl) ?_
  refine fr_ifb_eq (tgt := 14) dX11_copy_4 (by decide) (fun h1 => ?_) (fun h1 => ?_)
  · skip
    refine fr_iconst dX11_copy_14 ?_
    exact fr_iret dX11_copy_15 rfl (fr_pi (by first | exact Or.inl ⟨by omega, rfl, rfl⟩ | exact Or.inr (Or.inl ⟨by omega, by omega, rfl, rfl⟩) | exact Or.inr (Or.inr (Or.inl ⟨by omega, by omega, by omega, by assumption, rfl, rfl⟩)) | exact Or.inr (Or.inr (Or.inr (Or.inl ⟨by omega, by omega, by omega, by assumption, by assumption, rfl, rfl⟩))) | exact Or.inr (Or.inr (Or.inr (Or.inr ⟨by omega, by omega, by omega, by assumption, by omega, rfl, rfl⟩)))))
  · skip
    refine fr_il3 dX11_copy_7 ?_
    refine fr_cSi (mi' := fmX11_isSheet) dX11_copy_8 mlX11_237 msX11_isSheet (Nat.le_of_ble_eq_true rfl) (kcX11_isSheet (by omega)) rfl rfl (Nat.le_of_ble_eq_true rfl) ?_
    refine fr_ifb_ne (tgt := 16) dX11_copy_11 (by decide) (fun h2 => ?_) (fun h2 => ?_)
    · skip
      have sa := hS.1 a (by omega) (by omega)
      have sb := hS.1 b (by omega) (by omega)
      refine fr_al0 dX11_copy_16 ?_
      refine fr_getr (cz := 75) dX11_copy_17 flX11_35 ⟨by decide, by decide, rfl⟩ rfl rfl ?_
      refine fr_il1 dX11_copy_20 ?_
      refine fr_iald dX11_copy_21 ⟨by decide, by decide, rfl, by decide⟩ (by omega) (by omega) ?_
      refine fr_if_lt (tgt := 34) dX11_copy_22 (by decide) (by omega) (fun h3 => ?_) (fun h3 => ?_)
      · skip
        refine fr_bipush dX11_copy_34 (by decide) ?_
        exact fr_iret dX11_copy_36 rfl (fr_pi (by first | exact Or.inl ⟨by omega, rfl, rfl⟩ | exact Or.inr (Or.inl ⟨by omega, by omega, rfl, rfl⟩) | exact Or.inr (Or.inr (Or.inl ⟨by omega, by omega, by omega, by assumption, rfl, rfl⟩)) | exact Or.inr (Or.inr (Or.inr (Or.inl ⟨by omega, by omega, by omega, by assumption, by assumption, rfl, rfl⟩))) | exact Or.inr (Or.inr (Or.inr (Or.inr ⟨by omega, by omega, by omega, by assumption, by omega, rfl, rfl⟩)))))
      · skip
        refine fr_al0 dX11_copy_25 ?_
        refine fr_getr (cz := 75) dX11_copy_26 flX11_35 ⟨by decide, by decide, rfl⟩ rfl rfl ?_
        refine fr_il3 dX11_copy_29 ?_
        refine fr_iald dX11_copy_30 ⟨by decide, by decide, rfl, by decide⟩ (by omega) (by omega) ?_
        refine fr_if_ge (tgt := 37) dX11_copy_31 (by decide) (by omega) (fun h4 => ?_) (fun h4 => ?_)
        · skip
          refine fr_al0 dX11_copy_37 ?_
          refine fr_il1 dX11_copy_38 ?_
          refine fr_al0 dX11_copy_39 ?_
          refine fr_getr (cz := 75) dX11_copy_40 flX11_35 ⟨by decide, by decide, rfl⟩ rfl rfl ?_
          refine fr_il3 dX11_copy_43 ?_
          refine fr_iald dX11_copy_44 ⟨by decide, by decide, rfl, by decide⟩ (by omega) (by omega) ?_
          refine fr_il2 dX11_copy_45 ?_
          refine fr_il5 dX11_copy_46 ?_
          refine fr_cVi (mi' := fmX11_bars) dX11_copy_48 mlX11_243 mvX11_bars ⟨11, _, ⟨by decide, by decide, rfl⟩, rfl, rfl⟩ (Nat.le_of_ble_eq_true rfl) (kcX11_bars hS (by omega) (by omega) (by omega) (by omega)) rfl rfl (Nat.le_of_ble_eq_true rfl) ?_
          refine fr_is6 dX11_copy_51 rfl (Nat.le_of_ble_eq_true rfl) ?_
          refine fr_il6 dX11_copy_53 ?_
          refine fr_if_ne (tgt := 76) dX11_copy_55 (by decide) (by omega) (fun h5 => ?_) (fun h5 => ?_)
          · skip
            refine fr_il6 dX11_copy_76 ?_
            refine fr_is6 dX11_copy_78 rfl (Nat.le_of_ble_eq_true rfl) ?_
            refine fr_il6 dX11_copy_80 ?_
            refine fr_if_eq (tgt := 88) dX11_copy_82 (by decide) (by omega) (fun h6 => ?_) (fun h6 => ?_)
            · skip
              have hb1 := sp_bars0 (show sp_bars (μ 75 a) (μ 76 a) (μ 75 b) i n = 0 by omega)
              have hb2 := sp_bars0 (show sp_bars (μ 75 b) (μ 76 b) (μ 75 a) q n = 0 by omega)
              refine fr_iconst dX11_copy_88 ?_
              refine fr_is7 dX11_copy_89 rfl (Nat.le_of_ble_eq_true rfl) ?_
              refine fr_mu (sp_cpy_0 μ 77 (16 * a + i) 78 0) ?_
              refine fr_wk ?_ (ls := [some (fr_r κ 66), some (fr_i a), some (fr_i i), some (fr_i b), some (fr_i q), some (fr_i n), none, some (fr_i (0 : Int))]) ⟨rfl, rfl, rfl, rfl, rfl, rfl, rfl, trivial⟩
              refine fr_down (P := fun j : Nat => fr_A l κ fmX11_copy 3 (fr_Pi (fun z m => (¬ ((0 ≤ a ∧ a ≤ 3) ∧ (0 ≤ b ∧ b ≤ 3)) ∧ z = -1 ∧ m = μ) ∨ (((0 ≤ a ∧ a ≤ 3) ∧ (0 ≤ b ∧ b ≤ 3)) ∧ (μ 75 a < 0 ∨ μ 75 b < 0) ∧ z = -11 ∧ m = μ) ∨ (((0 ≤ a ∧ a ≤ 3) ∧ (0 ≤ b ∧ b ≤ 3)) ∧ 0 ≤ μ 75 a ∧ 0 ≤ μ 75 b ∧ sp_bars (μ 75 a) (μ 76 a) (μ 75 b) i n ≠ 0 ∧ z = sp_bars (μ 75 a) (μ 76 a) (μ 75 b) i n ∧ m = μ) ∨ (((0 ≤ a ∧ a ≤ 3) ∧ (0 ≤ b ∧ b ≤ 3)) ∧ 0 ≤ μ 75 a ∧ 0 ≤ μ 75 b ∧ sp_bars (μ 75 a) (μ 76 a) (μ 75 b) i n = 0 ∧ sp_bars (μ 75 b) (μ 76 b) (μ 75 a) q n ≠ 0 ∧ z = sp_bars (μ 75 b) (μ 76 b) (μ 75 a) q n ∧ m = μ) ∨ (((0 ≤ a ∧ a ≤ 3) ∧ (0 ≤ b ∧ b ≤ 3)) ∧ 0 ≤ μ 75 a ∧ 0 ≤ μ 75 b ∧ sp_bars (μ 75 a) (μ 76 a) (μ 75 b) i n = 0 ∧ sp_bars (μ 75 b) (μ 76 b) (μ 75 a) q n = 0 ∧ z = n ∧ m = sp_cpy (sp_cpy μ 77 (16 * a + i) 78 0 n) 78 0 77 (16 * b + q) n))) 91 [some (fr_r κ 66), some (fr_i a), some (fr_i i), some (fr_i b), some (fr_i q), some (fr_i n), none, some (fr_i (j : Int))] [] (sp_cpy μ 77 (16 * a + i) 78 0 (j : Int))) n.toNat ?_ (fun j hj91 ih91 => ?_)
              · skip
                have en : ((n.toNat : Nat) : Int) = n := by omega
                rw [en]
                refine fr_il7 dX11_copy_91 ?_
                refine fr_il5 dX11_copy_93 ?_
                refine fr_icmp_ge (tgt := 125) dX11_copy_95 (by decide) (by omega) (by omega) (fun h7 => ?_) (fun h7 => ?_)
                · skip
                  refine fr_iconst dX11_copy_125 ?_
                  refine fr_is7 dX11_copy_126 rfl (Nat.le_of_ble_eq_true rfl) ?_
                  refine fr_mu (sp_cpy_0 (sp_cpy μ 77 (16 * a + i) 78 0 n) 78 0 77 (16 * b + q)) ?_
                  refine fr_wk ?_ (ls := [some (fr_r κ 66), some (fr_i a), some (fr_i i), some (fr_i b), some (fr_i q), some (fr_i n), none, some (fr_i (0 : Int))]) ⟨rfl, rfl, rfl, rfl, rfl, rfl, rfl, trivial⟩
                  refine fr_down (P := fun j : Nat => fr_A l κ fmX11_copy 3 (fr_Pi (fun z m => (¬ ((0 ≤ a ∧ a ≤ 3) ∧ (0 ≤ b ∧ b ≤ 3)) ∧ z = -1 ∧ m = μ) ∨ (((0 ≤ a ∧ a ≤ 3) ∧ (0 ≤ b ∧ b ≤ 3)) ∧ (μ 75 a < 0 ∨ μ 75 b < 0) ∧ z = -11 ∧ m = μ) ∨ (((0 ≤ a ∧ a ≤ 3) ∧ (0 ≤ b ∧ b ≤ 3)) ∧ 0 ≤ μ 75 a ∧ 0 ≤ μ 75 b ∧ sp_bars (μ 75 a) (μ 76 a) (μ 75 b) i n ≠ 0 ∧ z = sp_bars (μ 75 a) (μ 76 a) (μ 75 b) i n ∧ m = μ) ∨ (((0 ≤ a ∧ a ≤ 3) ∧ (0 ≤ b ∧ b ≤ 3)) ∧ 0 ≤ μ 75 a ∧ 0 ≤ μ 75 b ∧ sp_bars (μ 75 a) (μ 76 a) (μ 75 b) i n = 0 ∧ sp_bars (μ 75 b) (μ 76 b) (μ 75 a) q n ≠ 0 ∧ z = sp_bars (μ 75 b) (μ 76 b) (μ 75 a) q n ∧ m = μ) ∨ (((0 ≤ a ∧ a ≤ 3) ∧ (0 ≤ b ∧ b ≤ 3)) ∧ 0 ≤ μ 75 a ∧ 0 ≤ μ 75 b ∧ sp_bars (μ 75 a) (μ 76 a) (μ 75 b) i n = 0 ∧ sp_bars (μ 75 b) (μ 76 b) (μ 75 a) q n = 0 ∧ z = n ∧ m = sp_cpy (sp_cpy μ 77 (16 * a + i) 78 0 n) 78 0 77 (16 * b + q) n))) 128 [some (fr_r κ 66), some (fr_i a), some (fr_i i), some (fr_i b), some (fr_i q), some (fr_i n), none, some (fr_i (j : Int))] [] (sp_cpy (sp_cpy μ 77 (16 * a + i) 78 0 n) 78 0 77 (16 * b + q) (j : Int))) n.toNat ?_ (fun j hj128 ih128 => ?_)
                  · skip
                    have en : ((n.toNat : Nat) : Int) = n := by omega
                    rw [en]
                    refine fr_il7 dX11_copy_128 ?_
                    refine fr_il5 dX11_copy_130 ?_
                    refine fr_icmp_ge (tgt := 163) dX11_copy_132 (by decide) (by omega) (by omega) (fun h8 => ?_) (fun h8 => ?_)
                    · skip
                      refine fr_il5 dX11_copy_163 ?_
                      exact fr_iret dX11_copy_165 rfl (fr_pi (by first | exact Or.inl ⟨by omega, rfl, rfl⟩ | exact Or.inr (Or.inl ⟨by omega, by omega, rfl, rfl⟩) | exact Or.inr (Or.inr (Or.inl ⟨by omega, by omega, by omega, by assumption, rfl, rfl⟩)) | exact Or.inr (Or.inr (Or.inr (Or.inl ⟨by omega, by omega, by omega, by assumption, by assumption, rfl, rfl⟩))) | exact Or.inr (Or.inr (Or.inr (Or.inr ⟨by omega, by omega, by omega, by assumption, by omega, rfl, rfl⟩)))))
                    · skip
                      exfalso; omega
                  · skip
                    refine fr_il7 dX11_copy_128 ?_
                    refine fr_il5 dX11_copy_130 ?_
                    refine fr_icmp_ge (tgt := 163) dX11_copy_132 (by decide) (by omega) (by omega) (fun h9 => ?_) (fun h9 => ?_)
                    · skip
                      exfalso; omega
                    · skip
                      refine fr_al0 dX11_copy_135 ?_
                      refine fr_getr (cz := 77) dX11_copy_136 flX11_41 ⟨by decide, by decide, rfl⟩ rfl rfl ?_
                      refine fr_bipush dX11_copy_139 (by decide) ?_
                      refine fr_il3 dX11_copy_141 ?_
                      refine fr_imul dX11_copy_142 ?_
                      refine fr_il4 dX11_copy_143 ?_
                      refine fr_iadd dX11_copy_145 ?_
                      refine fr_il7 dX11_copy_146 ?_
                      refine fr_iadd dX11_copy_148 ?_
                      refine fr_al0 dX11_copy_149 ?_
                      refine fr_getr (cz := 78) dX11_copy_150 flX11_45 ⟨by decide, by decide, rfl⟩ rfl rfl ?_
                      refine fr_il7 dX11_copy_153 ?_
                      refine fr_lald dX11_copy_155 ⟨by decide, by decide, rfl, by decide⟩ (by omega) (by omega) ?_
                      refine fr_last dX11_copy_156 ⟨by decide, by decide, rfl, by decide⟩ (by omega) (by omega) ?_
                      refine fr_ii7 dX11_copy_157 rfl (Nat.le_of_ble_eq_true rfl) ?_
                      refine fr_goto (tgt := 128) dX11_copy_160 (by decide) ?_
                      refine fr_mu ?_ ?_ (μ' := sp_cpy (sp_cpy μ 77 (16 * a + i) 78 0 n) 78 0 77 (16 * b + q) ((j : Int) + 1))
                      · rw [← sp_cpy_s (sp_cpy μ 77 (16 * a + i) 78 0 n) 78 0 77 (16 * b + q) (by omega : (0 : Int) ≤ j), sp_cpy_nc (sp_cpy μ 77 (16 * a + i) 78 0 n) _ _ _ _ (by omega), Int.zero_add]
                      exact fr_wk (ih128) ⟨rfl, rfl, rfl, rfl, rfl, rfl, rfl, trivial⟩
                · skip
                  exfalso; omega
              · skip
                refine fr_il7 dX11_copy_91 ?_
                refine fr_il5 dX11_copy_93 ?_
                refine fr_icmp_ge (tgt := 125) dX11_copy_95 (by decide) (by omega) (by omega) (fun h10 => ?_) (fun h10 => ?_)
                · skip
                  exfalso; omega
                · skip
                  refine fr_al0 dX11_copy_98 ?_
                  refine fr_getr (cz := 78) dX11_copy_99 flX11_45 ⟨by decide, by decide, rfl⟩ rfl rfl ?_
                  refine fr_il7 dX11_copy_102 ?_
                  refine fr_al0 dX11_copy_104 ?_
                  refine fr_getr (cz := 77) dX11_copy_105 flX11_41 ⟨by decide, by decide, rfl⟩ rfl rfl ?_
                  refine fr_bipush dX11_copy_108 (by decide) ?_
                  refine fr_il1 dX11_copy_110 ?_
                  refine fr_imul dX11_copy_111 ?_
                  refine fr_il2 dX11_copy_112 ?_
                  refine fr_iadd dX11_copy_113 ?_
                  refine fr_il7 dX11_copy_114 ?_
                  refine fr_iadd dX11_copy_116 ?_
                  refine fr_lald dX11_copy_117 ⟨by decide, by decide, rfl, by decide⟩ (by omega) (by omega) ?_
                  refine fr_last dX11_copy_118 ⟨by decide, by decide, rfl, by decide⟩ (by omega) (by omega) ?_
                  refine fr_ii7 dX11_copy_119 rfl (Nat.le_of_ble_eq_true rfl) ?_
                  refine fr_goto (tgt := 91) dX11_copy_122 (by decide) ?_
                  refine fr_mu ?_ ?_ (μ' := sp_cpy μ 77 (16 * a + i) 78 0 ((j : Int) + 1))
                  · rw [← sp_cpy_s μ 77 (16 * a + i) 78 0 (by omega : (0 : Int) ≤ j), Int.zero_add, sp_cpy_nc _ _ _ _ _ (by omega)]
                  exact fr_wk (ih91) ⟨rfl, rfl, rfl, rfl, rfl, rfl, rfl, trivial⟩
            · skip
              refine fr_il6 dX11_copy_85 ?_
              exact fr_iret dX11_copy_87 rfl (fr_pi (by first | exact Or.inl ⟨by omega, rfl, rfl⟩ | exact Or.inr (Or.inl ⟨by omega, by omega, rfl, rfl⟩) | exact Or.inr (Or.inr (Or.inl ⟨by omega, by omega, by omega, by assumption, rfl, rfl⟩)) | exact Or.inr (Or.inr (Or.inr (Or.inl ⟨by omega, by omega, by omega, by assumption, by assumption, rfl, rfl⟩))) | exact Or.inr (Or.inr (Or.inr (Or.inr ⟨by omega, by omega, by omega, by assumption, by omega, rfl, rfl⟩)))))
          · skip
            refine fr_al0 dX11_copy_58 ?_
            refine fr_il3 dX11_copy_59 ?_
            refine fr_al0 dX11_copy_60 ?_
            refine fr_getr (cz := 75) dX11_copy_61 flX11_35 ⟨by decide, by decide, rfl⟩ rfl rfl ?_
            refine fr_il1 dX11_copy_64 ?_
            refine fr_iald dX11_copy_65 ⟨by decide, by decide, rfl, by decide⟩ (by omega) (by omega) ?_
            refine fr_il4 dX11_copy_66 ?_
            refine fr_il5 dX11_copy_68 ?_
            refine fr_cVi (mi' := fmX11_bars) dX11_copy_70 mlX11_243 mvX11_bars ⟨11, _, ⟨by decide, by decide, rfl⟩, rfl, rfl⟩ (Nat.le_of_ble_eq_true rfl) (kcX11_bars hS (by omega) (by omega) (by omega) (by omega)) rfl rfl (Nat.le_of_ble_eq_true rfl) ?_
            refine fr_goto (tgt := 78) dX11_copy_73 (by decide) ?_
            refine fr_is6 dX11_copy_78 rfl (Nat.le_of_ble_eq_true rfl) ?_
            refine fr_il6 dX11_copy_80 ?_
            refine fr_if_eq (tgt := 88) dX11_copy_82 (by decide) (by omega) (fun h11 => ?_) (fun h11 => ?_)
            · skip
              have hb1 := sp_bars0 (show sp_bars (μ 75 a) (μ 76 a) (μ 75 b) i n = 0 by omega)
              have hb2 := sp_bars0 (show sp_bars (μ 75 b) (μ 76 b) (μ 75 a) q n = 0 by omega)
              refine fr_iconst dX11_copy_88 ?_
              refine fr_is7 dX11_copy_89 rfl (Nat.le_of_ble_eq_true rfl) ?_
              refine fr_mu (sp_cpy_0 μ 77 (16 * a + i) 78 0) ?_
              refine fr_wk ?_ (ls := [some (fr_r κ 66), some (fr_i a), some (fr_i i), some (fr_i b), some (fr_i q), some (fr_i n), none, some (fr_i (0 : Int))]) ⟨rfl, rfl, rfl, rfl, rfl, rfl, rfl, trivial⟩
              refine fr_down (P := fun j : Nat => fr_A l κ fmX11_copy 3 (fr_Pi (fun z m => (¬ ((0 ≤ a ∧ a ≤ 3) ∧ (0 ≤ b ∧ b ≤ 3)) ∧ z = -1 ∧ m = μ) ∨ (((0 ≤ a ∧ a ≤ 3) ∧ (0 ≤ b ∧ b ≤ 3)) ∧ (μ 75 a < 0 ∨ μ 75 b < 0) ∧ z = -11 ∧ m = μ) ∨ (((0 ≤ a ∧ a ≤ 3) ∧ (0 ≤ b ∧ b ≤ 3)) ∧ 0 ≤ μ 75 a ∧ 0 ≤ μ 75 b ∧ sp_bars (μ 75 a) (μ 76 a) (μ 75 b) i n ≠ 0 ∧ z = sp_bars (μ 75 a) (μ 76 a) (μ 75 b) i n ∧ m = μ) ∨ (((0 ≤ a ∧ a ≤ 3) ∧ (0 ≤ b ∧ b ≤ 3)) ∧ 0 ≤ μ 75 a ∧ 0 ≤ μ 75 b ∧ sp_bars (μ 75 a) (μ 76 a) (μ 75 b) i n = 0 ∧ sp_bars (μ 75 b) (μ 76 b) (μ 75 a) q n ≠ 0 ∧ z = sp_bars (μ 75 b) (μ 76 b) (μ 75 a) q n ∧ m = μ) ∨ (((0 ≤ a ∧ a ≤ 3) ∧ (0 ≤ b ∧ b ≤ 3)) ∧ 0 ≤ μ 75 a ∧ 0 ≤ μ 75 b ∧ sp_bars (μ 75 a) (μ 76 a) (μ 75 b) i n = 0 ∧ sp_bars (μ 75 b) (μ 76 b) (μ 75 a) q n = 0 ∧ z = n ∧ m = sp_cpy (sp_cpy μ 77 (16 * a + i) 78 0 n) 78 0 77 (16 * b + q) n))) 91 [some (fr_r κ 66), some (fr_i a), some (fr_i i), some (fr_i b), some (fr_i q), some (fr_i n), none, some (fr_i (j : Int))] [] (sp_cpy μ 77 (16 * a + i) 78 0 (j : Int))) n.toNat ?_ (fun j hj91 ih91 => ?_)
              · skip
                have en : ((n.toNat : Nat) : Int) = n := by omega
                rw [en]
                refine fr_il7 dX11_copy_91 ?_
                refine fr_il5 dX11_copy_93 ?_
                refine fr_icmp_ge (tgt := 125) dX11_copy_95 (by decide) (by omega) (by omega) (fun h12 => ?_) (fun h12 => ?_)
                · skip
                  refine fr_iconst dX11_copy_125 ?_
                  refine fr_is7 dX11_copy_126 rfl (Nat.le_of_ble_eq_true rfl) ?_
                  refine fr_mu (sp_cpy_0 (sp_cpy μ 77 (16 * a + i) 78 0 n) 78 0 77 (16 * b + q)) ?_
                  refine fr_wk ?_ (ls := [some (fr_r κ 66), some (fr_i a), some (fr_i i), some (fr_i b), some (fr_i q), some (fr_i n), none, some (fr_i (0 : Int))]) ⟨rfl, rfl, rfl, rfl, rfl, rfl, rfl, trivial⟩
                  refine fr_down (P := fun j : Nat => fr_A l κ fmX11_copy 3 (fr_Pi (fun z m => (¬ ((0 ≤ a ∧ a ≤ 3) ∧ (0 ≤ b ∧ b ≤ 3)) ∧ z = -1 ∧ m = μ) ∨ (((0 ≤ a ∧ a ≤ 3) ∧ (0 ≤ b ∧ b ≤ 3)) ∧ (μ 75 a < 0 ∨ μ 75 b < 0) ∧ z = -11 ∧ m = μ) ∨ (((0 ≤ a ∧ a ≤ 3) ∧ (0 ≤ b ∧ b ≤ 3)) ∧ 0 ≤ μ 75 a ∧ 0 ≤ μ 75 b ∧ sp_bars (μ 75 a) (μ 76 a) (μ 75 b) i n ≠ 0 ∧ z = sp_bars (μ 75 a) (μ 76 a) (μ 75 b) i n ∧ m = μ) ∨ (((0 ≤ a ∧ a ≤ 3) ∧ (0 ≤ b ∧ b ≤ 3)) ∧ 0 ≤ μ 75 a ∧ 0 ≤ μ 75 b ∧ sp_bars (μ 75 a) (μ 76 a) (μ 75 b) i n = 0 ∧ sp_bars (μ 75 b) (μ 76 b) (μ 75 a) q n ≠ 0 ∧ z = sp_bars (μ 75 b) (μ 76 b) (μ 75 a) q n ∧ m = μ) ∨ (((0 ≤ a ∧ a ≤ 3) ∧ (0 ≤ b ∧ b ≤ 3)) ∧ 0 ≤ μ 75 a ∧ 0 ≤ μ 75 b ∧ sp_bars (μ 75 a) (μ 76 a) (μ 75 b) i n = 0 ∧ sp_bars (μ 75 b) (μ 76 b) (μ 75 a) q n = 0 ∧ z = n ∧ m = sp_cpy (sp_cpy μ 77 (16 * a + i) 78 0 n) 78 0 77 (16 * b + q) n))) 128 [some (fr_r κ 66), some (fr_i a), some (fr_i i), some (fr_i b), some (fr_i q), some (fr_i n), none, some (fr_i (j : Int))] [] (sp_cpy (sp_cpy μ 77 (16 * a + i) 78 0 n) 78 0 77 (16 * b + q) (j : Int))) n.toNat ?_ (fun j hj128 ih128 => ?_)
                  · skip
                    have en : ((n.toNat : Nat) : Int) = n := by omega
                    rw [en]
                    refine fr_il7 dX11_copy_128 ?_
                    refine fr_il5 dX11_copy_130 ?_
                    refine fr_icmp_ge (tgt := 163) dX11_copy_132 (by decide) (by omega) (by omega) (fun h13 => ?_) (fun h13 => ?_)
                    · skip
                      refine fr_il5 dX11_copy_163 ?_
                      exact fr_iret dX11_copy_165 rfl (fr_pi (by first | exact Or.inl ⟨by omega, rfl, rfl⟩ | exact Or.inr (Or.inl ⟨by omega, by omega, rfl, rfl⟩) | exact Or.inr (Or.inr (Or.inl ⟨by omega, by omega, by omega, by assumption, rfl, rfl⟩)) | exact Or.inr (Or.inr (Or.inr (Or.inl ⟨by omega, by omega, by omega, by assumption, by assumption, rfl, rfl⟩))) | exact Or.inr (Or.inr (Or.inr (Or.inr ⟨by omega, by omega, by omega, by assumption, by omega, rfl, rfl⟩)))))
                    · skip
                      exfalso; omega
                  · skip
                    refine fr_il7 dX11_copy_128 ?_
                    refine fr_il5 dX11_copy_130 ?_
                    refine fr_icmp_ge (tgt := 163) dX11_copy_132 (by decide) (by omega) (by omega) (fun h14 => ?_) (fun h14 => ?_)
                    · skip
                      exfalso; omega
                    · skip
                      refine fr_al0 dX11_copy_135 ?_
                      refine fr_getr (cz := 77) dX11_copy_136 flX11_41 ⟨by decide, by decide, rfl⟩ rfl rfl ?_
                      refine fr_bipush dX11_copy_139 (by decide) ?_
                      refine fr_il3 dX11_copy_141 ?_
                      refine fr_imul dX11_copy_142 ?_
                      refine fr_il4 dX11_copy_143 ?_
                      refine fr_iadd dX11_copy_145 ?_
                      refine fr_il7 dX11_copy_146 ?_
                      refine fr_iadd dX11_copy_148 ?_
                      refine fr_al0 dX11_copy_149 ?_
                      refine fr_getr (cz := 78) dX11_copy_150 flX11_45 ⟨by decide, by decide, rfl⟩ rfl rfl ?_
                      refine fr_il7 dX11_copy_153 ?_
                      refine fr_lald dX11_copy_155 ⟨by decide, by decide, rfl, by decide⟩ (by omega) (by omega) ?_
                      refine fr_last dX11_copy_156 ⟨by decide, by decide, rfl, by decide⟩ (by omega) (by omega) ?_
                      refine fr_ii7 dX11_copy_157 rfl (Nat.le_of_ble_eq_true rfl) ?_
                      refine fr_goto (tgt := 128) dX11_copy_160 (by decide) ?_
                      refine fr_mu ?_ ?_ (μ' := sp_cpy (sp_cpy μ 77 (16 * a + i) 78 0 n) 78 0 77 (16 * b + q) ((j : Int) + 1))
                      · rw [← sp_cpy_s (sp_cpy μ 77 (16 * a + i) 78 0 n) 78 0 77 (16 * b + q) (by omega : (0 : Int) ≤ j), sp_cpy_nc (sp_cpy μ 77 (16 * a + i) 78 0 n) _ _ _ _ (by omega), Int.zero_add]
                      exact fr_wk (ih128) ⟨rfl, rfl, rfl, rfl, rfl, rfl, rfl, trivial⟩
                · skip
                  exfalso; omega
              · skip
                refine fr_il7 dX11_copy_91 ?_
                refine fr_il5 dX11_copy_93 ?_
                refine fr_icmp_ge (tgt := 125) dX11_copy_95 (by decide) (by omega) (by omega) (fun h15 => ?_) (fun h15 => ?_)
                · skip
                  exfalso; omega
                · skip
                  refine fr_al0 dX11_copy_98 ?_
                  refine fr_getr (cz := 78) dX11_copy_99 flX11_45 ⟨by decide, by decide, rfl⟩ rfl rfl ?_
                  refine fr_il7 dX11_copy_102 ?_
                  refine fr_al0 dX11_copy_104 ?_
                  refine fr_getr (cz := 77) dX11_copy_105 flX11_41 ⟨by decide, by decide, rfl⟩ rfl rfl ?_
                  refine fr_bipush dX11_copy_108 (by decide) ?_
                  refine fr_il1 dX11_copy_110 ?_
                  refine fr_imul dX11_copy_111 ?_
                  refine fr_il2 dX11_copy_112 ?_
                  refine fr_iadd dX11_copy_113 ?_
                  refine fr_il7 dX11_copy_114 ?_
                  refine fr_iadd dX11_copy_116 ?_
                  refine fr_lald dX11_copy_117 ⟨by decide, by decide, rfl, by decide⟩ (by omega) (by omega) ?_
                  refine fr_last dX11_copy_118 ⟨by decide, by decide, rfl, by decide⟩ (by omega) (by omega) ?_
                  refine fr_ii7 dX11_copy_119 rfl (Nat.le_of_ble_eq_true rfl) ?_
                  refine fr_goto (tgt := 91) dX11_copy_122 (by decide) ?_
                  refine fr_mu ?_ ?_ (μ' := sp_cpy μ 77 (16 * a + i) 78 0 ((j : Int) + 1))
                  · rw [← sp_cpy_s μ 77 (16 * a + i) 78 0 (by omega : (0 : Int) ≤ j), Int.zero_add, sp_cpy_nc _ _ _ _ _ (by omega)]
                  exact fr_wk (ih91) ⟨rfl, rfl, rfl, rfl, rfl, rfl, rfl, trivial⟩
            · skip
              refine fr_il6 dX11_copy_85 ?_
              exact fr_iret dX11_copy_87 rfl (fr_pi (by first | exact Or.inl ⟨by omega, rfl, rfl⟩ | exact Or.inr (Or.inl ⟨by omega, by omega, rfl, rfl⟩) | exact Or.inr (Or.inr (Or.inl ⟨by omega, by omega, by omega, by assumption, rfl, rfl⟩)) | exact Or.inr (Or.inr (Or.inr (Or.inl ⟨by omega, by omega, by omega, by assumption, by assumption, rfl, rfl⟩))) | exact Or.inr (Or.inr (Or.inr (Or.inr ⟨by omega, by omega, by omega, by assumption, by omega, rfl, rfl⟩)))))
        · skip
          refine fr_bipush dX11_copy_34 (by decide) ?_
          exact fr_iret dX11_copy_36 rfl (fr_pi (by first | exact Or.inl ⟨by omega, rfl, rfl⟩ | exact Or.inr (Or.inl ⟨by omega, by omega, rfl, rfl⟩) | exact Or.inr (Or.inr (Or.inl ⟨by omega, by omega, by omega, by assumption, rfl, rfl⟩)) | exact Or.inr (Or.inr (Or.inr (Or.inl ⟨by omega, by omega, by omega, by assumption, by assumption, rfl, rfl⟩))) | exact Or.inr (Or.inr (Or.inr (Or.inr ⟨by omega, by omega, by omega, by assumption, by omega, rfl, rfl⟩)))))
    · skip
      refine fr_iconst dX11_copy_14 ?_
      exact fr_iret dX11_copy_15 rfl (fr_pi (by first | exact Or.inl ⟨by omega, rfl, rfl⟩ | exact Or.inr (Or.inl ⟨by omega, by omega, rfl, rfl⟩) | exact Or.inr (Or.inr (Or.inl ⟨by omega, by omega, by omega, by assumption, rfl, rfl⟩)) | exact Or.inr (Or.inr (Or.inr (Or.inl ⟨by omega, by omega, by omega, by assumption, by assumption, rfl, rfl⟩))) | exact Or.inr (Or.inr (Or.inr (Or.inr ⟨by omega, by omega, by omega, by assumption, by omega, rfl, rfl⟩)))))
set_option maxRecDepth 20000 in
theorem kcX11_layState {l : Launch} {κ : fr_Ka} {μ : fr_Me} : fr_C l κ fmX11_layState 1 [fr_r κ 66, fr_i 0] μ (fr_Pv (fun m => (∀ k, 0 ≤ k → k < 24 → m 79 k = μ 67 (13 + k)) ∧ (∀ k, (k < 0 ∨ 24 ≤ k) → m 79 k = μ 79 k) ∧ ∀ c, c ≠ 79 → m c = μ c)) := by
  refine fr_enter (by decide +kernel) (ls := [some (fr_r κ 66), some (fr_i 0), none]) rfl (Nat.le_of_ble_eq_true rfl) ?_
  refine fr_iconst dX11_layState_0 ?_
  refine fr_is2 dX11_layState_1 rfl (Nat.le_of_ble_eq_true rfl) ?_
  refine fr_wk ?_ (ls := [some (fr_r κ 66), some (fr_i 0), some (fr_i (0 : Int))]) ⟨rfl, rfl, rfl, trivial⟩
  refine (fr_down (P := fun j : Nat => ∀ (m : fr_Me), ((∀ q t : Int, 0 ≤ q → q < 4 → 0 ≤ t → t < j → m 79 (6 * q + t) = μ 67 (13 + 6 * q + t)) ∧ (∀ k, (k < 0 ∨ 24 ≤ k) → m 79 k = μ 79 k) ∧ ∀ c, c ≠ 79 → m c = μ c) → fr_A l κ fmX11_layState 1 (fr_Pv (fun m => (∀ k, 0 ≤ k → k < 24 → m 79 k = μ 67 (13 + k)) ∧ (∀ k, (k < 0 ∨ 24 ≤ k) → m 79 k = μ 79 k) ∧ ∀ c, c ≠ 79 → m c = μ c)) 2 [some (fr_r κ 66), some (fr_i 0), some (fr_i (j : Int))] [] m) 6 ?_ (fun j hj2 ih2 => ?_)) _ (⟨fun q t h0 h1 h2 h3 => by omega, fun k hk => rfl, fun c hc => rfl⟩)
  · skip
    intro m hm
    refine fr_il2 dX11_layState_2 ?_
    refine fr_bipush dX11_layState_3 (by decide) ?_
    refine fr_icmp_ge (tgt := 103) dX11_layState_5 (by decide) (by omega) (by omega) (fun h1 => ?_) (fun h1 => ?_)
    · skip
      exact fr_vret dX11_layState_103 rfl (fr_pv ⟨fun k h0 h1 => by have := hm.1 (k / 6) (k % 6) (by omega) (by omega) (by omega) (by omega); rw [show 6 * (k / 6) + k % 6 = k by omega, show 13 + 6 * (k / 6) + k % 6 = 13 + k by omega] at this; exact this, hm.2.1, hm.2.2⟩)
    · skip
      exfalso; omega
  · skip
    intro m hm
    have hw : m 67 = μ 67 := hm.2.2 67 (by omega)
    refine fr_il2 dX11_layState_2 ?_
    refine fr_bipush dX11_layState_3 (by decide) ?_
    refine fr_icmp_ge (tgt := 103) dX11_layState_5 (by decide) (by omega) (by omega) (fun h2 => ?_) (fun h2 => ?_)
    · skip
      exfalso; omega
    · skip
      refine fr_al0 dX11_layState_8 ?_
      refine fr_getr (cz := 79) dX11_layState_9 flX11_48 ⟨by decide, by decide, rfl⟩ rfl rfl ?_
      refine fr_bipush dX11_layState_12 (by decide) ?_
      refine fr_il1 dX11_layState_14 ?_
      refine fr_imul dX11_layState_15 ?_
      refine fr_il2 dX11_layState_16 ?_
      refine fr_iadd dX11_layState_17 ?_
      refine fr_al0 dX11_layState_18 ?_
      refine fr_getr (cz := 67) dX11_layState_19 flX11_7 ⟨by decide, by decide, rfl⟩ rfl rfl ?_
      refine fr_bipush dX11_layState_22 (by decide) ?_
      refine fr_il2 dX11_layState_24 ?_
      refine fr_iadd dX11_layState_25 ?_
      refine fr_iald dX11_layState_26 ⟨by decide, by decide, rfl, by decide⟩ (by omega) (by omega) ?_
      refine fr_iast dX11_layState_27 ⟨by decide, by decide, rfl, by decide⟩ (by omega) (by omega) ?_
      refine fr_al0 dX11_layState_28 ?_
      refine fr_getr (cz := 79) dX11_layState_29 flX11_48 ⟨by decide, by decide, rfl⟩ rfl rfl ?_
      refine fr_bipush dX11_layState_32 (by decide) ?_
      refine fr_il1 dX11_layState_34 ?_
      refine fr_imul dX11_layState_35 ?_
      refine fr_bipush dX11_layState_36 (by decide) ?_
      refine fr_iadd dX11_layState_38 ?_
      refine fr_il2 dX11_layState_39 ?_
      refine fr_iadd dX11_layState_40 ?_
      refine fr_al0 dX11_layState_41 ?_
      refine fr_getr (cz := 67) dX11_layState_42 flX11_7 ⟨by decide, by decide, rfl⟩ rfl rfl ?_
      refine fr_bipush dX11_layState_45 (by decide) ?_
      refine fr_il2 dX11_layState_47 ?_
      refine fr_iadd dX11_layState_48 ?_
      refine fr_iald dX11_layState_49 ⟨by decide, by decide, rfl, by decide⟩ (by omega) (by omega) ?_
      refine fr_iast dX11_layState_50 ⟨by decide, by decide, rfl, by decide⟩ (by omega) (by omega) ?_
      refine fr_al0 dX11_layState_51 ?_
      refine fr_getr (cz := 79) dX11_layState_52 flX11_48 ⟨by decide, by decide, rfl⟩ rfl rfl ?_
      refine fr_bipush dX11_layState_55 (by decide) ?_
      refine fr_il1 dX11_layState_57 ?_
      refine fr_imul dX11_layState_58 ?_
      refine fr_bipush dX11_layState_59 (by decide) ?_
      refine fr_iadd dX11_layState_61 ?_
      refine fr_il2 dX11_layState_62 ?_
      refine fr_iadd dX11_layState_63 ?_
      refine fr_al0 dX11_layState_64 ?_
      refine fr_getr (cz := 67) dX11_layState_65 flX11_7 ⟨by decide, by decide, rfl⟩ rfl rfl ?_
      refine fr_bipush dX11_layState_68 (by decide) ?_
      refine fr_il2 dX11_layState_70 ?_
      refine fr_iadd dX11_layState_71 ?_
      refine fr_iald dX11_layState_72 ⟨by decide, by decide, rfl, by decide⟩ (by omega) (by omega) ?_
      refine fr_iast dX11_layState_73 ⟨by decide, by decide, rfl, by decide⟩ (by omega) (by omega) ?_
      refine fr_al0 dX11_layState_74 ?_
      refine fr_getr (cz := 79) dX11_layState_75 flX11_48 ⟨by decide, by decide, rfl⟩ rfl rfl ?_
      refine fr_bipush dX11_layState_78 (by decide) ?_
      refine fr_il1 dX11_layState_80 ?_
      refine fr_imul dX11_layState_81 ?_
      refine fr_bipush dX11_layState_82 (by decide) ?_
      refine fr_iadd dX11_layState_84 ?_
      refine fr_il2 dX11_layState_85 ?_
      refine fr_iadd dX11_layState_86 ?_
      refine fr_al0 dX11_layState_87 ?_
      refine fr_getr (cz := 67) dX11_layState_88 flX11_7 ⟨by decide, by decide, rfl⟩ rfl rfl ?_
      refine fr_bipush dX11_layState_91 (by decide) ?_
      refine fr_il2 dX11_layState_93 ?_
      refine fr_iadd dX11_layState_94 ?_
      refine fr_iald dX11_layState_95 ⟨by decide, by decide, rfl, by decide⟩ (by omega) (by omega) ?_
      refine fr_iast dX11_layState_96 ⟨by decide, by decide, rfl, by decide⟩ (by omega) (by omega) ?_
      refine fr_ii2 dX11_layState_97 rfl (Nat.le_of_ble_eq_true rfl) ?_
      refine fr_goto (tgt := 2) dX11_layState_100 (by decide) ?_
      exact fr_wk (ih2 _ (⟨fun q t h0 h1 h2 h3 => by (simp only [fr_up_get, true_and, hw, if_neg (by omega : ¬ ((67 : Int) = 79 ∧ (_ : Int) = _))]; rcases (by omega : t < j ∨ t = j) with ht | ht); (· have := hm.1 q t h0 h1 h2 ht; (repeat' split) <;> omega); (· subst ht; rcases (by omega : q = 0 ∨ q = 1 ∨ q = 2 ∨ q = 3) with h | h | h | h <;> subst h <;> (repeat' split) <;> first | omega | rfl), fun k hk => by simp only [fr_up_get, true_and]; rw [if_neg (by omega), if_neg (by omega), if_neg (by omega), if_neg (by omega)]; exact hm.2.1 k hk, fun c hc => by rw [fr_up_nc _ _ _ hc, fr_up_nc _ _ _ hc, fr_up_nc _ _ _ hc, fr_up_nc _ _ _ hc]; exact hm.2.2 c hc⟩)) ⟨rfl, rfl, rfl, trivial⟩
set_option maxRecDepth 20000 in
theorem kcX11_rotaYear {l : Launch} {κ : fr_Ka} {μ : fr_Me} (hN : 0 ≤ μ 67 0 ∧ μ 67 0 ≤ 6) {y a n : Int} (hy : 0 ≤ y ∧ y < 200) (hn : 1 ≤ n ∧ n ≤ 8) (ha : 0 ≤ a ∧ a + n ≤ 64) : fr_C l κ fmX11_rotaYear 1 [fr_r κ 66, fr_i y, fr_i a, fr_i n] μ (fr_Pv (fun m => (∀ t, 0 ≤ t → t < μ 67 0 → m 79 (24 * y + 24 + t) = μ 77 (a + (y + t).tmod n) ∧ m 79 (24 * y + 30 + t) = μ 79 (24 * y + t) ∧ m 79 (24 * y + 36 + t) = 0 ∧ m 79 (24 * y + 42 + t) = μ 79 (24 * y + 12 + t)) ∧ (∀ k, (k < 24 * y + 24 ∨ 24 * y + 48 ≤ k) → m 79 k = μ 79 k) ∧ ∀ c, c ≠ 79 → m c = μ c)) := by
  refine fr_enter (by decide +kernel) (ls := [some (fr_r κ 66), some (fr_i y), some (fr_i a), some (fr_i n), none]) rfl (Nat.le_of_ble_eq_true rfl) ?_
  refine fr_iconst dX11_rotaYear_0 ?_
  refine fr_is4 dX11_rotaYear_1 rfl (Nat.le_of_ble_eq_true rfl) ?_
  refine fr_wk ?_ (ls := [some (fr_r κ 66), some (fr_i y), some (fr_i a), some (fr_i n), some (fr_i (0 : Int))]) ⟨rfl, rfl, rfl, rfl, rfl, trivial⟩
  refine (fr_down (P := fun j : Nat => ∀ (m : fr_Me), ((∀ t : Int, 0 ≤ t → t < j → m 79 (24 * y + 24 + t) = μ 77 (a + (y + t).tmod n) ∧ m 79 (24 * y + 30 + t) = μ 79 (24 * y + t) ∧ m 79 (24 * y + 36 + t) = 0 ∧ m 79 (24 * y + 42 + t) = μ 79 (24 * y + 12 + t)) ∧ (∀ k, (k < 24 * y + 24 ∨ 24 * y + 48 ≤ k) → m 79 k = μ 79 k) ∧ ∀ c, c ≠ 79 → m c = μ c) → fr_A l κ fmX11_rotaYear 1 (fr_Pv (fun m => (∀ t, 0 ≤ t → t < μ 67 0 → m 79 (24 * y + 24 + t) = μ 77 (a + (y + t).tmod n) ∧ m 79 (24 * y + 30 + t) = μ 79 (24 * y + t) ∧ m 79 (24 * y + 36 + t) = 0 ∧ m 79 (24 * y + 42 + t) = μ 79 (24 * y + 12 + t)) ∧ (∀ k, (k < 24 * y + 24 ∨ 24 * y + 48 ≤ k) → m 79 k = μ 79 k) ∧ ∀ c, c ≠ 79 → m c = μ c)) 3 [some (fr_r κ 66), some (fr_i y), some (fr_i a), some (fr_i n), some (fr_i (j : Int))] [] m) (μ 67 0).toNat ?_ (fun j hj3 ih3 => ?_)) _ (⟨fun t h0 h1 => by omega, fun k hk => rfl, fun c hc => rfl⟩)
  · skip
    intro m hm
    have hw0 : m 67 0 = μ 67 0 := by rw [hm.2.2 67 (by omega)]
    refine fr_il4 dX11_rotaYear_3 ?_
    refine fr_al0 dX11_rotaYear_5 ?_
    refine fr_getr (cz := 67) dX11_rotaYear_6 flX11_7 ⟨by decide, by decide, rfl⟩ rfl rfl ?_
    refine fr_iconst dX11_rotaYear_9 ?_
    refine fr_iald dX11_rotaYear_10 ⟨by decide, by decide, rfl, by decide⟩ (by omega) (by omega) ?_
    refine fr_icmp_ge (tgt := 122) dX11_rotaYear_11 (by decide) (by omega) (by omega) (fun h1 => ?_) (fun h1 => ?_)
    · skip
      exact fr_vret dX11_rotaYear_122 rfl (fr_pv ⟨fun t h0 h1 => hm.1 t h0 (by omega), hm.2.1, hm.2.2⟩)
    · skip
      exfalso; omega
  · skip
    intro m hm
    have hw : m 67 = μ 67 := hm.2.2 67 (by omega)
    have hw0 : m 67 0 = μ 67 0 := by rw [hw]
    have hit : m 77 = μ 77 := hm.2.2 77 (by omega)
    have tr := Int.tmod_lt_of_pos (y + (j : Int)) (show 0 < n by omega)
    have tn := Int.tmod_nonneg n (show 0 ≤ y + (j : Int) by omega)
    have k1 := hm.2.1 (24 * y + j) (by omega)
    have k2 := hm.2.1 (24 * y + 12 + j) (by omega)
    refine fr_il4 dX11_rotaYear_3 ?_
    refine fr_al0 dX11_rotaYear_5 ?_
    refine fr_getr (cz := 67) dX11_rotaYear_6 flX11_7 ⟨by decide, by decide, rfl⟩ rfl rfl ?_
    refine fr_iconst dX11_rotaYear_9 ?_
    refine fr_iald dX11_rotaYear_10 ⟨by decide, by decide, rfl, by decide⟩ (by omega) (by omega) ?_
    refine fr_icmp_ge (tgt := 122) dX11_rotaYear_11 (by decide) (by omega) (by omega) (fun h2 => ?_) (fun h2 => ?_)
    · skip
      exfalso; omega
    · skip
      refine fr_al0 dX11_rotaYear_14 ?_
      refine fr_getr (cz := 79) dX11_rotaYear_15 flX11_48 ⟨by decide, by decide, rfl⟩ rfl rfl ?_
      refine fr_bipush dX11_rotaYear_18 (by decide) ?_
      refine fr_il1 dX11_rotaYear_20 ?_
      refine fr_imul dX11_rotaYear_21 ?_
      refine fr_bipush dX11_rotaYear_22 (by decide) ?_
      refine fr_iadd dX11_rotaYear_24 ?_
      refine fr_il4 dX11_rotaYear_25 ?_
      refine fr_iadd dX11_rotaYear_27 ?_
      refine fr_al0 dX11_rotaYear_28 ?_
      refine fr_getr (cz := 77) dX11_rotaYear_29 flX11_41 ⟨by decide, by decide, rfl⟩ rfl rfl ?_
      refine fr_il2 dX11_rotaYear_32 ?_
      refine fr_il1 dX11_rotaYear_33 ?_
      refine fr_il4 dX11_rotaYear_34 ?_
      refine fr_iadd dX11_rotaYear_36 ?_
      refine fr_il3 dX11_rotaYear_37 ?_
      refine fr_irem dX11_rotaYear_38 (by omega) (by omega) (by omega) ?_
      refine fr_iadd dX11_rotaYear_39 ?_
      refine fr_lald dX11_rotaYear_40 ⟨by decide, by decide, rfl, by decide⟩ (by omega) (by omega) ?_
      refine fr_l2i dX11_rotaYear_41 ?_
      refine fr_iast dX11_rotaYear_42 ⟨by decide, by decide, rfl, by decide⟩ (by omega) (by omega) ?_
      refine fr_al0 dX11_rotaYear_43 ?_
      refine fr_getr (cz := 79) dX11_rotaYear_44 flX11_48 ⟨by decide, by decide, rfl⟩ rfl rfl ?_
      refine fr_bipush dX11_rotaYear_47 (by decide) ?_
      refine fr_il1 dX11_rotaYear_49 ?_
      refine fr_imul dX11_rotaYear_50 ?_
      refine fr_bipush dX11_rotaYear_51 (by decide) ?_
      refine fr_iadd dX11_rotaYear_53 ?_
      refine fr_il4 dX11_rotaYear_54 ?_
      refine fr_iadd dX11_rotaYear_56 ?_
      refine fr_al0 dX11_rotaYear_57 ?_
      refine fr_getr (cz := 79) dX11_rotaYear_58 flX11_48 ⟨by decide, by decide, rfl⟩ rfl rfl ?_
      refine fr_bipush dX11_rotaYear_61 (by decide) ?_
      refine fr_il1 dX11_rotaYear_63 ?_
      refine fr_imul dX11_rotaYear_64 ?_
      refine fr_il4 dX11_rotaYear_65 ?_
      refine fr_iadd dX11_rotaYear_67 ?_
      refine fr_iald dX11_rotaYear_68 ⟨by decide, by decide, rfl, by decide⟩ (by omega) (by omega) ?_
      refine fr_iast dX11_rotaYear_69 ⟨by decide, by decide, rfl, by decide⟩ (by omega) (by omega) ?_
      refine fr_al0 dX11_rotaYear_70 ?_
      refine fr_getr (cz := 79) dX11_rotaYear_71 flX11_48 ⟨by decide, by decide, rfl⟩ rfl rfl ?_
      refine fr_bipush dX11_rotaYear_74 (by decide) ?_
      refine fr_il1 dX11_rotaYear_76 ?_
      refine fr_imul dX11_rotaYear_77 ?_
      refine fr_bipush dX11_rotaYear_78 (by decide) ?_
      refine fr_iadd dX11_rotaYear_80 ?_
      refine fr_il4 dX11_rotaYear_81 ?_
      refine fr_iadd dX11_rotaYear_83 ?_
      refine fr_iconst dX11_rotaYear_84 ?_
      refine fr_iast dX11_rotaYear_85 ⟨by decide, by decide, rfl, by decide⟩ (by omega) (by omega) ?_
      refine fr_al0 dX11_rotaYear_86 ?_
      refine fr_getr (cz := 79) dX11_rotaYear_87 flX11_48 ⟨by decide, by decide, rfl⟩ rfl rfl ?_
      refine fr_bipush dX11_rotaYear_90 (by decide) ?_
      refine fr_il1 dX11_rotaYear_92 ?_
      refine fr_imul dX11_rotaYear_93 ?_
      refine fr_bipush dX11_rotaYear_94 (by decide) ?_
      refine fr_iadd dX11_rotaYear_96 ?_
      refine fr_il4 dX11_rotaYear_97 ?_
      refine fr_iadd dX11_rotaYear_99 ?_
      refine fr_al0 dX11_rotaYear_100 ?_
      refine fr_getr (cz := 79) dX11_rotaYear_101 flX11_48 ⟨by decide, by decide, rfl⟩ rfl rfl ?_
      refine fr_bipush dX11_rotaYear_104 (by decide) ?_
      refine fr_il1 dX11_rotaYear_106 ?_
      refine fr_imul dX11_rotaYear_107 ?_
      refine fr_bipush dX11_rotaYear_108 (by decide) ?_
      refine fr_iadd dX11_rotaYear_110 ?_
      refine fr_il4 dX11_rotaYear_111 ?_
      refine fr_iadd dX11_rotaYear_113 ?_
      refine fr_iald dX11_rotaYear_114 ⟨by decide, by decide, rfl, by decide⟩ (by omega) (by omega) ?_
      refine fr_iast dX11_rotaYear_115 ⟨by decide, by decide, rfl, by decide⟩ (by omega) (by omega) ?_
      refine fr_ii4 dX11_rotaYear_116 rfl (Nat.le_of_ble_eq_true rfl) ?_
      refine fr_goto (tgt := 3) dX11_rotaYear_119 (by decide) ?_
      exact fr_wk (ih3 _ (⟨fun t h0 h1 => by (simp only [fr_up_get, true_and]; rcases (by omega : t < j ∨ t = j) with ht | ht); (· have := hm.1 t h0 ht; refine ⟨?_, ?_, ?_, ?_⟩ <;> (repeat' split) <;> omega); (· subst ht; rw [hit]; refine ⟨?_, ?_, ?_, ?_⟩ <;> (repeat' split) <;> omega), fun k hk => by simp only [fr_up_get, true_and]; rw [if_neg (by omega), if_neg (by omega), if_neg (by omega), if_neg (by omega)]; exact hm.2.1 k hk, fun c hc => by rw [fr_up_nc _ _ _ hc, fr_up_nc _ _ _ hc, fr_up_nc _ _ _ hc, fr_up_nc _ _ _ hc]; exact hm.2.2 c hc⟩)) ⟨rfl, rfl, rfl, rfl, rfl, trivial⟩
/-- what a year behind is worth, by a row of states -/
def sp_vb1 (w st : Int → Int) (y t f : Int) : Int := w (64 + f) * sp_bn w (w (1 + t)) f (st (24 * y + t)) (st (24 * y + 12 + t)) (st (24 * y + 6 + t)) (st (24 * y + 18 + t))
def sp_vb (w st : Int → Int) (y : Int) : Int := sp_sum (w 0).toNat (fun t => sp_sum 10 (sp_vb1 w st y t))
/-- those of a row of states that count are folk, and fell or not -/
def sp_okst (w st : Int → Int) (y : Int) : Prop := ∀ t, 0 ≤ t → t < w 0 → (st (24 * y + t) = 5 ∨ (0 ≤ st (24 * y + t) ∧ st (24 * y + t) < w 43)) ∧ (st (24 * y + 6 + t) = 5 ∨ (0 ≤ st (24 * y + 6 + t) ∧ st (24 * y + 6 + t) < w 43)) ∧ (0 ≤ st (24 * y + 12 + t) ∧ st (24 * y + 12 + t) ≤ 1) ∧ (0 ≤ st (24 * y + 18 + t) ∧ st (24 * y + 18 + t) ≤ 1)
set_option maxRecDepth 20000 in
theorem kcX11_valueBehind {l : Launch} {κ : fr_Ka} {μ : fr_Me} (hI : fr_I (μ 67)) {y : Int} (hy : 0 ≤ y ∧ y ≤ 200) (hs : sp_okst (μ 67) (μ 79) y) : fr_C l κ fmX11_valueBehind 3 [fr_r κ 66, fr_i y] μ (fr_Ei (sp_vb (μ 67) (μ 79) y) μ) := by
  have iN := hI.n
  have iM := hI.many
  refine fr_enter (by decide +kernel) (ls := [some (fr_r κ 66), some (fr_i y), none, none, none]) rfl (Nat.le_of_ble_eq_true rfl) ?_
  refine fr_iconst dX11_valueBehind_0 ?_
  refine fr_is2 dX11_valueBehind_1 rfl (Nat.le_of_ble_eq_true rfl) ?_
  refine fr_iconst dX11_valueBehind_2 ?_
  refine fr_is3 dX11_valueBehind_3 rfl (Nat.le_of_ble_eq_true rfl) ?_
  refine fr_wk ?_ (ls := [some (fr_r κ 66), some (fr_i y), some (fr_i (sp_sum 0 (fun t => sp_sum 10 (sp_vb1 (μ 67) (μ 79) y t)))), some (fr_i (0 : Int)), none]) ⟨rfl, rfl, rfl, rfl, trivial⟩
  refine fr_down (P := fun j : Nat => fr_A l κ fmX11_valueBehind 3 (fr_Ei (sp_vb (μ 67) (μ 79) y) μ) 4 [some (fr_r κ 66), some (fr_i y), some (fr_i (sp_sum j (fun t => sp_sum 10 (sp_vb1 (μ 67) (μ 79) y t)))), some (fr_i (j : Int)), none] [] μ) (μ 67 0).toNat ?_ (fun j hj4 ih4 => ?_)
  · skip
    refine fr_il3 dX11_valueBehind_4 ?_
    refine fr_al0 dX11_valueBehind_5 ?_
    refine fr_getr (cz := 67) dX11_valueBehind_6 flX11_7 ⟨by decide, by decide, rfl⟩ rfl rfl ?_
    refine fr_iconst dX11_valueBehind_9 ?_
    refine fr_iald dX11_valueBehind_10 ⟨by decide, by decide, rfl, by decide⟩ (by omega) (by omega) ?_
    refine fr_icmp_ge (tgt := 117) dX11_valueBehind_11 (by decide) (by omega) (by omega) (fun h1 => ?_) (fun h1 => ?_)
    · skip
      refine fr_il2 dX11_valueBehind_117 ?_
      exact fr_iret dX11_valueBehind_118 rfl (fr_e rfl rfl)
    · skip
      exfalso; omega
  · skip
    have iT := hI.tree (t := (j : Int)) (by omega) (by omega)
    unfold fr_It at iT
    have hst := hs (j : Int) (by omega) (by omega)
    refine fr_il3 dX11_valueBehind_4 ?_
    refine fr_al0 dX11_valueBehind_5 ?_
    refine fr_getr (cz := 67) dX11_valueBehind_6 flX11_7 ⟨by decide, by decide, rfl⟩ rfl rfl ?_
    refine fr_iconst dX11_valueBehind_9 ?_
    refine fr_iald dX11_valueBehind_10 ⟨by decide, by decide, rfl, by decide⟩ (by omega) (by omega) ?_
    refine fr_icmp_ge (tgt := 117) dX11_valueBehind_11 (by decide) (by omega) (by omega) (fun h2 => ?_) (fun h2 => ?_)
    · skip
      exfalso; omega
    · skip
      refine fr_iconst dX11_valueBehind_14 ?_
      refine fr_is4 dX11_valueBehind_15 rfl (Nat.le_of_ble_eq_true rfl) ?_
      rw [← Int.add_zero (sp_sum j (fun t => sp_sum 10 (sp_vb1 (μ 67) (μ 79) y t)))]
      refine fr_wk ?_ (ls := [some (fr_r κ 66), some (fr_i y), some (fr_i (sp_sum j (fun t => sp_sum 10 (sp_vb1 (μ 67) (μ 79) y t)) + sp_sum 0 (sp_vb1 (μ 67) (μ 79) y j))), some (fr_i (j : Int)), some (fr_i (0 : Int))]) ⟨rfl, rfl, rfl, rfl, rfl, trivial⟩
      refine fr_down (P := fun i : Nat => fr_A l κ fmX11_valueBehind 3 (fr_Ei (sp_vb (μ 67) (μ 79) y) μ) 17 [some (fr_r κ 66), some (fr_i y), some (fr_i (sp_sum j (fun t => sp_sum 10 (sp_vb1 (μ 67) (μ 79) y t)) + sp_sum i (sp_vb1 (μ 67) (μ 79) y j))), some (fr_i (j : Int)), some (fr_i (i : Int))] [] μ) 10 ?_ (fun i hj17 ih17 => ?_)
      · skip
        refine fr_il4 dX11_valueBehind_17 ?_
        refine fr_bipush dX11_valueBehind_19 (by decide) ?_
        refine fr_icmp_ge (tgt := 111) dX11_valueBehind_21 (by decide) (by omega) (by omega) (fun h3 => ?_) (fun h3 => ?_)
        · skip
          refine fr_ii3 dX11_valueBehind_111 rfl (Nat.le_of_ble_eq_true rfl) ?_
          refine fr_goto (tgt := 4) dX11_valueBehind_114 (by decide) ?_
          exact fr_wk (ih4) ⟨rfl, rfl, rfl, rfl, trivial⟩
        · skip
          exfalso; omega
      · skip
        refine fr_il4 dX11_valueBehind_17 ?_
        refine fr_bipush dX11_valueBehind_19 (by decide) ?_
        refine fr_icmp_ge (tgt := 111) dX11_valueBehind_21 (by decide) (by omega) (by omega) (fun h4 => ?_) (fun h4 => ?_)
        · skip
          exfalso; omega
        · skip
          refine fr_il2 dX11_valueBehind_24 ?_
          refine fr_al0 dX11_valueBehind_25 ?_
          refine fr_getr (cz := 67) dX11_valueBehind_26 flX11_7 ⟨by decide, by decide, rfl⟩ rfl rfl ?_
          refine fr_bipush dX11_valueBehind_29 (by decide) ?_
          refine fr_il4 dX11_valueBehind_31 ?_
          refine fr_iadd dX11_valueBehind_33 ?_
          refine fr_iald dX11_valueBehind_34 ⟨by decide, by decide, rfl, by decide⟩ (by omega) (by omega) ?_
          refine fr_al0 dX11_valueBehind_35 ?_
          refine fr_al0 dX11_valueBehind_36 ?_
          refine fr_getr (cz := 67) dX11_valueBehind_37 flX11_7 ⟨by decide, by decide, rfl⟩ rfl rfl ?_
          refine fr_iconst dX11_valueBehind_40 ?_
          refine fr_il3 dX11_valueBehind_41 ?_
          refine fr_iadd dX11_valueBehind_42 ?_
          refine fr_iald dX11_valueBehind_43 ⟨by decide, by decide, rfl, by decide⟩ (by omega) (by omega) ?_
          refine fr_il4 dX11_valueBehind_44 ?_
          refine fr_al0 dX11_valueBehind_46 ?_
          refine fr_getr (cz := 79) dX11_valueBehind_47 flX11_48 ⟨by decide, by decide, rfl⟩ rfl rfl ?_
          refine fr_bipush dX11_valueBehind_50 (by decide) ?_
          refine fr_il1 dX11_valueBehind_52 ?_
          refine fr_imul dX11_valueBehind_53 ?_
          refine fr_il3 dX11_valueBehind_54 ?_
          refine fr_iadd dX11_valueBehind_55 ?_
          refine fr_iald dX11_valueBehind_56 ⟨by decide, by decide, rfl, by decide⟩ (by omega) (by omega) ?_
          refine fr_al0 dX11_valueBehind_57 ?_
          refine fr_getr (cz := 79) dX11_valueBehind_58 flX11_48 ⟨by decide, by decide, rfl⟩ rfl rfl ?_
          refine fr_bipush dX11_valueBehind_61 (by decide) ?_
          refine fr_il1 dX11_valueBehind_63 ?_
          refine fr_imul dX11_valueBehind_64 ?_
          refine fr_bipush dX11_valueBehind_65 (by decide) ?_
          refine fr_iadd dX11_valueBehind_67 ?_
          refine fr_il3 dX11_valueBehind_68 ?_
          refine fr_iadd dX11_valueBehind_69 ?_
          refine fr_iald dX11_valueBehind_70 ⟨by decide, by decide, rfl, by decide⟩ (by omega) (by omega) ?_
          refine fr_al0 dX11_valueBehind_71 ?_
          refine fr_getr (cz := 79) dX11_valueBehind_72 flX11_48 ⟨by decide, by decide, rfl⟩ rfl rfl ?_
          refine fr_bipush dX11_valueBehind_75 (by decide) ?_
          refine fr_il1 dX11_valueBehind_77 ?_
          refine fr_imul dX11_valueBehind_78 ?_
          refine fr_bipush dX11_valueBehind_79 (by decide) ?_
          refine fr_iadd dX11_valueBehind_81 ?_
          refine fr_il3 dX11_valueBehind_82 ?_
          refine fr_iadd dX11_valueBehind_83 ?_
          refine fr_iald dX11_valueBehind_84 ⟨by decide, by decide, rfl, by decide⟩ (by omega) (by omega) ?_
          refine fr_al0 dX11_valueBehind_85 ?_
          refine fr_getr (cz := 79) dX11_valueBehind_86 flX11_48 ⟨by decide, by decide, rfl⟩ rfl rfl ?_
          refine fr_bipush dX11_valueBehind_89 (by decide) ?_
          refine fr_il1 dX11_valueBehind_91 ?_
          refine fr_imul dX11_valueBehind_92 ?_
          refine fr_bipush dX11_valueBehind_93 (by decide) ?_
          refine fr_iadd dX11_valueBehind_95 ?_
          refine fr_il3 dX11_valueBehind_96 ?_
          refine fr_iadd dX11_valueBehind_97 ?_
          refine fr_iald dX11_valueBehind_98 ⟨by decide, by decide, rfl, by decide⟩ (by omega) (by omega) ?_
          refine fr_cVi (mi' := fmX11_borne) dX11_valueBehind_99 mlX11_130 mvX11_borne ⟨11, _, ⟨by decide, by decide, rfl⟩, rfl, rfl⟩ (Nat.le_of_ble_eq_true rfl) (kcX11_borne hI (by omega) (by omega) (by omega) (by omega) (by omega) (by omega)) rfl rfl (Nat.le_of_ble_eq_true rfl) ?_
          refine fr_imul dX11_valueBehind_102 ?_
          refine fr_iadd dX11_valueBehind_103 ?_
          refine fr_is2 dX11_valueBehind_104 rfl (Nat.le_of_ble_eq_true rfl) ?_
          refine fr_ii4 dX11_valueBehind_105 rfl (Nat.le_of_ble_eq_true rfl) ?_
          refine fr_goto (tgt := 17) dX11_valueBehind_108 (by decide) ?_
          rw [Int.add_assoc]
          exact fr_wk (ih17) ⟨rfl, rfl, rfl, rfl, rfl, trivial⟩
