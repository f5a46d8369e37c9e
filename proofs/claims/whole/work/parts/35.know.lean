/-! the game's step: knows -/
theorem kn_sent {l : Launch} {κ : fr_Ka} {μ : fr_Me} {st y set : Int} (hst : 0 ≤ st ∧ st < 4096) (hy : 0 ≤ y ∧ y < 30) (hW : ∀ t c, 0 ≤ t → t < μ 67 0 → 0 ≤ c → c < 6 → μ 71 (6 * t + c) = sp_wt (μ 67) t c) (hc : sp_cs (μ 67) set st y) : fr_C l κ fmX11_sentFor 1 [fr_r κ 66, fr_i st, fr_i y] μ (fr_Ei (sp_sv (μ 67) st y) μ) := by
  have h := kcX11_sentFor (l := l) (κ := κ) (μ := μ) hst hy
  obtain ⟨d1, d2, d3, d4⟩ := fr_d5 (y := y) (by omega)
  rw [hW _ _ d1.1 hc.2.1 d2.1 (by omega)] at h
  exact h
theorem kn_gw {w : Int → Int} (hI : fr_I w) (hN : w 0 ≤ 6) {set st : Int} (hs : 0 ≤ st ∧ st < 4096) {n : Nat} (hn : n ≤ 30) : -1000000000 ≤ sp_gw w set (sp_G w set) st n ∧ sp_gw w set (sp_G w set) st n ≤ 1000000000 := by
  rcases sp_gw_rg (w := w) (set := set) (st := st) (g := sp_G w set) (B := 41580) (by omega) (fun y y0 y1 hy => by
    have h1 := sp_sv_rg hI st y
    have h3 := sp_G_rg hI hN (set := set) (gm_beh hs ⟨y0, y1⟩).1
    omega) n hn with e | e
  · rw [e.2]
    split <;> omega
  · omega
set_option maxRecDepth 20000 in
theorem kcX11_knows {l : Launch} {κ : fr_Ka} {μ : fr_Me} (hI : fr_I (μ 67)) {st set : Int} (hst : 0 ≤ st ∧ st < 4096) (hW : ∀ t c, 0 ≤ t → t < μ 67 0 → 0 ≤ c → c < 6 → μ 71 (6 * t + c) = sp_wt (μ 67) t c) (hK : ∀ s, 0 ≤ s → s < 4096 → (μ 73 s = 0 ∨ μ 73 s = 1) ∧ (μ 73 s = 1 → μ 72 s = sp_G (μ 67) set s))  : fr_C l κ fmX11_knows 5 [fr_r κ 66, fr_i st, fr_i set] μ (fr_Pi (fun z m => (z = -1 ∧ m = fr_up (fr_up μ 72 st (sp_G (μ 67) set st)) 73 st 1) ∨ (m = μ ∧ 0 ≤ z ∧ z < 4096 ∧ μ 73 z = 0 ∧ sp_rk (μ 67) set z < sp_rk (μ 67) set st))) := by
  have iN := hI.n
  have iM := hI.many
  have hN : μ 67 0 ≤ 6 := by omega
  refine fr_enter (by decide +kernel) (ls := [some (fr_r κ 66), some (fr_i st), some (fr_i set), none, none, none, none, none]) rfl (Nat.le_of_ble_eq_true rfl) ?_
  refine fr_il1 dX11_knows_0 ?_
  refine fr_sipush dX11_knows_1 (by decide) ?_
  refine fr_icmp_ge (tgt := 12) dX11_knows_4 (by decide) (by omega) (by omega) (fun h1 => ?_) (fun h1 => ?_)
  · skip
    refine fr_ldc dX11_knows_12 cnX11_200 ?_
    refine fr_is3 dX11_knows_14 rfl (Nat.le_of_ble_eq_true rfl) ?_
    refine fr_al0 dX11_knows_15 ?_
    refine fr_il1 dX11_knows_16 ?_
    refine fr_il2 dX11_knows_17 ?_
    refine fr_cVi (mi' := fmX11_canAny) dX11_knows_18 mlX11_201 mvX11_canAny ⟨11, _, ⟨by decide, by decide, rfl⟩, rfl, rfl⟩ (Nat.le_of_ble_eq_true rfl) (kcX11_canAny hI hst) rfl rfl (Nat.le_of_ble_eq_true rfl) ?_
    rcases Classical.em (sp_ca (μ 67) set st) with hca | hca
    · skip
      rw [fr_bT hca]
      refine fr_is4 dX11_knows_21 rfl (Nat.le_of_ble_eq_true rfl) ?_
      refine fr_iconst dX11_knows_23 ?_
      refine fr_is5 dX11_knows_24 rfl (Nat.le_of_ble_eq_true rfl) ?_
      refine fr_wk ?_ (ls := [some (fr_r κ 66), some (fr_i st), some (fr_i set), some (fr_i _), some (fr_i 1), some (fr_i (0 : Int)), none, none]) ⟨rfl, rfl, rfl, rfl, rfl, rfl, trivial⟩
      refine (fr_down (P := fun j : Nat => ∀ (x : Int), (x = sp_gw (μ 67) set (sp_G (μ 67) set) st j) → fr_A l κ fmX11_knows 5 (fr_Pi (fun z m => (z = -1 ∧ m = fr_up (fr_up μ 72 st (sp_G (μ 67) set st)) 73 st 1) ∨ (m = μ ∧ 0 ≤ z ∧ z < 4096 ∧ μ 73 z = 0 ∧ sp_rk (μ 67) set z < sp_rk (μ 67) set st))) 26 [some (fr_r κ 66), some (fr_i st), some (fr_i set), some (fr_i x), some (fr_i 1), some (fr_i (j : Int)), none, none] [] μ) 30 ?_ (fun j hj26 ih26 => ?_)) _ (by simp only [sp_gw]; first | rw [if_pos (by assumption)] | rw [if_neg (by omega)])
      · skip
        intro x hx
        refine fr_il5 dX11_knows_26 ?_
        refine fr_bipush dX11_knows_28 (by decide) ?_
        refine fr_icmp_ge (tgt := 128) dX11_knows_30 (by decide) (by omega) (by omega) (fun h2 => ?_) (fun h2 => ?_)
        · skip
          refine fr_il1 dX11_knows_128 ?_
          refine fr_bipush dX11_knows_129 (by decide) ?_
          refine fr_cSi (mi' := fmX11_behind) dX11_knows_131 mlX11_204 msX11_behind (Nat.le_of_ble_eq_true rfl) (kcX11_behind (by omega)) rfl rfl (Nat.le_of_ble_eq_true rfl) ?_
          refine fr_is5 dX11_knows_134 rfl (Nat.le_of_ble_eq_true rfl) ?_
          refine fr_il4 dX11_knows_136 ?_
          refine fr_if_ne (tgt := 175) dX11_knows_138 (by decide) (by decide) (fun _ => ?_) (fun h3 => absurd h3 (by decide))
          refine fr_il4 dX11_knows_175 ?_
          refine fr_if_ne (tgt := 182) dX11_knows_177 (by decide) (by decide) (fun _ => ?_) (fun h4 => absurd h4 (by decide))
          refine fr_al0 dX11_knows_182 ?_
          refine fr_getr (cz := 72) dX11_knows_183 flX11_25 ⟨by decide, by decide, rfl⟩ rfl rfl ?_
          refine fr_il1 dX11_knows_186 ?_
          refine fr_il3 dX11_knows_187 ?_
          refine fr_iast dX11_knows_188 ⟨by decide, by decide, rfl, by decide⟩ (by omega) (by omega) ?_
          refine fr_al0 dX11_knows_189 ?_
          refine fr_getr (cz := 73) dX11_knows_190 flX11_28 ⟨by decide, by decide, rfl⟩ rfl rfl ?_
          refine fr_il1 dX11_knows_193 ?_
          refine fr_iconst dX11_knows_194 ?_
          refine fr_zast dX11_knows_195 ⟨by decide, by decide, rfl, by decide⟩ (by omega) (by omega) (Or.inr rfl) ?_
          refine fr_iconst dX11_knows_196 ?_
          exact fr_iret dX11_knows_197 rfl (fr_pi (Or.inl ⟨rfl, by rw [sp_G_eq hN hst, if_pos hca, ← hx]⟩))
        · skip
          exfalso; omega
      · skip
        intro x hx
        have hxr := kn_gw hI hN (set := set) hst (n := j) (by omega)
        rw [← hx] at hxr
        refine fr_il5 dX11_knows_26 ?_
        refine fr_bipush dX11_knows_28 (by decide) ?_
        refine fr_icmp_ge (tgt := 128) dX11_knows_30 (by decide) (by omega) (by omega) (fun h5 => ?_) (fun h5 => ?_)
        · skip
          exfalso; omega
        · skip
          refine fr_il4 dX11_knows_33 ?_
          refine fr_if_eq (tgt := 128) dX11_knows_35 (by decide) (by decide) (fun h6 => absurd h6 (by decide)) (fun _ => ?_)
          refine fr_al0 dX11_knows_38 ?_
          refine fr_il1 dX11_knows_39 ?_
          refine fr_il2 dX11_knows_40 ?_
          refine fr_il5 dX11_knows_41 ?_
          refine fr_cVi (mi' := fmX11_canSend) dX11_knows_43 mlX11_196 mvX11_canSend ⟨11, _, ⟨by decide, by decide, rfl⟩, rfl, rfl⟩ (Nat.le_of_ble_eq_true rfl) (kcX11_canSend hI (by omega) (by omega)) rfl rfl (Nat.le_of_ble_eq_true rfl) ?_
          refine fr_ifb_eq (tgt := 122) dX11_knows_46 (by decide) (fun h7 => ?_) (fun h7 => ?_)
          · skip
            have hcs := h7
            refine fr_ii5 dX11_knows_122 rfl (Nat.le_of_ble_eq_true rfl) ?_
            refine fr_goto (tgt := 26) dX11_knows_125 (by decide) ?_
            exact fr_wk (ih26 _ (by simp only [sp_gw]; first | (rw [if_neg hcs]; exact hx) | (rw [if_pos hcs, ← hx]; unfold sp_mm; split <;> first | omega | (split <;> first | omega | (split <;> omega))))) ⟨rfl, rfl, rfl, rfl, rfl, rfl, trivial⟩
          · skip
            have hcs := h7
            refine fr_il1 dX11_knows_49 ?_
            refine fr_il5 dX11_knows_50 ?_
            refine fr_cSi (mi' := fmX11_behind) dX11_knows_52 mlX11_204 msX11_behind (Nat.le_of_ble_eq_true rfl) (kcX11_behind (by omega)) rfl rfl (Nat.le_of_ble_eq_true rfl) ?_
            refine fr_is6 dX11_knows_55 rfl (Nat.le_of_ble_eq_true rfl) ?_
            have hb1 := (gm_beh hst (y := (j : Int)) ⟨by omega, by omega⟩).1
            have hb2 := (hK _ hb1.1 hb1.2).1
            refine fr_al0 dX11_knows_57 ?_
            refine fr_getr (cz := 73) dX11_knows_58 flX11_28 ⟨by decide, by decide, rfl⟩ rfl rfl ?_
            refine fr_il6 dX11_knows_61 ?_
            refine fr_zald dX11_knows_63 ⟨by decide, by decide, rfl, by decide⟩ (by omega) (by omega) ?_
            refine fr_if_ne (tgt := 70) dX11_knows_64 (by decide) (by omega) (fun h8 => ?_) (fun h8 => ?_)
            · skip
              refine fr_al0 dX11_knows_70 ?_
              refine fr_il1 dX11_knows_71 ?_
              refine fr_il5 dX11_knows_72 ?_
              refine fr_cVi (mi' := fmX11_sentFor) dX11_knows_74 mlX11_207 mvX11_sentFor ⟨11, _, ⟨by decide, by decide, rfl⟩, rfl, rfl⟩ (Nat.le_of_ble_eq_true rfl) (kn_sent hst ⟨by omega, by omega⟩ hW hcs) rfl rfl (Nat.le_of_ble_eq_true rfl) ?_
              refine fr_al0 dX11_knows_77 ?_
              refine fr_getr (cz := 72) dX11_knows_78 flX11_25 ⟨by decide, by decide, rfl⟩ rfl rfl ?_
              refine fr_il6 dX11_knows_81 ?_
              refine fr_iald dX11_knows_83 ⟨by decide, by decide, rfl, by decide⟩ (by omega) (by omega) ?_
              have hkn : μ 73 (sp_bh st (j : Int)) = 1 := by omega
              have hG := (hK _ hb1.1 hb1.2).2 hkn
              rw [hG]
              have hR := sp_G_rg hI hN (set := set) hb1
              have hS := sp_sv_rg hI st (j : Int)
              refine fr_iadd dX11_knows_84 ?_
              refine fr_is7 dX11_knows_85 rfl (Nat.le_of_ble_eq_true rfl) ?_
              refine fr_il1 dX11_knows_87 ?_
              refine fr_sipush dX11_knows_88 (by decide) ?_
              refine fr_icmp_ge (tgt := 109) dX11_knows_91 (by decide) (by omega) (by omega) (fun h9 => ?_) (fun h9 => ?_)
              · skip
                refine fr_il7 dX11_knows_109 ?_
                refine fr_il3 dX11_knows_111 ?_
                refine fr_icmp_ge (tgt := 120) dX11_knows_112 (by decide) (by omega) (by omega) (fun h10 => ?_) (fun h10 => ?_)
                · skip
                  refine fr_il3 dX11_knows_120 ?_
                  refine fr_is3 dX11_knows_121 rfl (Nat.le_of_ble_eq_true rfl) ?_
                  refine fr_ii5 dX11_knows_122 rfl (Nat.le_of_ble_eq_true rfl) ?_
                  refine fr_goto (tgt := 26) dX11_knows_125 (by decide) ?_
                  exact fr_wk (ih26 _ (by simp only [sp_gw]; first | (rw [if_neg hcs]; exact hx) | (rw [if_pos hcs, ← hx]; unfold sp_mm; split <;> first | omega | (split <;> first | omega | (split <;> omega))))) ⟨rfl, rfl, rfl, rfl, rfl, rfl, trivial⟩
                · skip
                  refine fr_il7 dX11_knows_115 ?_
                  refine fr_goto (tgt := 121) dX11_knows_117 (by decide) ?_
                  refine fr_is3 dX11_knows_121 rfl (Nat.le_of_ble_eq_true rfl) ?_
                  refine fr_ii5 dX11_knows_122 rfl (Nat.le_of_ble_eq_true rfl) ?_
                  refine fr_goto (tgt := 26) dX11_knows_125 (by decide) ?_
                  exact fr_wk (ih26 _ (by simp only [sp_gw]; first | (rw [if_neg hcs]; exact hx) | (rw [if_pos hcs, ← hx]; unfold sp_mm; split <;> first | omega | (split <;> first | omega | (split <;> omega))))) ⟨rfl, rfl, rfl, rfl, rfl, rfl, trivial⟩
              · skip
                refine fr_il7 dX11_knows_94 ?_
                refine fr_il3 dX11_knows_96 ?_
                refine fr_icmp_le (tgt := 105) dX11_knows_97 (by decide) (by omega) (by omega) (fun h11 => ?_) (fun h11 => ?_)
                · skip
                  refine fr_il3 dX11_knows_105 ?_
                  refine fr_goto (tgt := 121) dX11_knows_106 (by decide) ?_
                  refine fr_is3 dX11_knows_121 rfl (Nat.le_of_ble_eq_true rfl) ?_
                  refine fr_ii5 dX11_knows_122 rfl (Nat.le_of_ble_eq_true rfl) ?_
                  refine fr_goto (tgt := 26) dX11_knows_125 (by decide) ?_
                  exact fr_wk (ih26 _ (by simp only [sp_gw]; first | (rw [if_neg hcs]; exact hx) | (rw [if_pos hcs, ← hx]; unfold sp_mm; split <;> first | omega | (split <;> first | omega | (split <;> omega))))) ⟨rfl, rfl, rfl, rfl, rfl, rfl, trivial⟩
                · skip
                  refine fr_il7 dX11_knows_100 ?_
                  refine fr_goto (tgt := 121) dX11_knows_102 (by decide) ?_
                  refine fr_is3 dX11_knows_121 rfl (Nat.le_of_ble_eq_true rfl) ?_
                  refine fr_ii5 dX11_knows_122 rfl (Nat.le_of_ble_eq_true rfl) ?_
                  refine fr_goto (tgt := 26) dX11_knows_125 (by decide) ?_
                  exact fr_wk (ih26 _ (by simp only [sp_gw]; first | (rw [if_neg hcs]; exact hx) | (rw [if_pos hcs, ← hx]; unfold sp_mm; split <;> first | omega | (split <;> first | omega | (split <;> omega))))) ⟨rfl, rfl, rfl, rfl, rfl, rfl, trivial⟩
            · skip
              have hun : μ 73 (sp_bh st (j : Int)) = 0 := by omega
              refine fr_il6 dX11_knows_67 ?_
              exact fr_iret dX11_knows_69 rfl (fr_pi (Or.inr ⟨rfl, hb1.1, hb1.2, hun, sp_rk_send (by omega) hst ⟨by omega, by omega⟩ hcs⟩))
    · skip
      rw [fr_bF hca]
      refine fr_is4 dX11_knows_21 rfl (Nat.le_of_ble_eq_true rfl) ?_
      refine fr_iconst dX11_knows_23 ?_
      refine fr_is5 dX11_knows_24 rfl (Nat.le_of_ble_eq_true rfl) ?_
      refine fr_il5 dX11_knows_26 ?_
      refine fr_bipush dX11_knows_28 (by decide) ?_
      refine fr_icmp_ge (tgt := 128) dX11_knows_30 (by decide) (by decide) (by decide) (fun h12 => absurd h12 (by decide)) (fun _ => ?_)
      refine fr_il4 dX11_knows_33 ?_
      refine fr_if_eq (tgt := 128) dX11_knows_35 (by decide) (by decide) (fun _ => ?_) (fun h13 => absurd h13 (by decide))
      refine fr_il1 dX11_knows_128 ?_
      refine fr_bipush dX11_knows_129 (by decide) ?_
      refine fr_cSi (mi' := fmX11_behind) dX11_knows_131 mlX11_204 msX11_behind (Nat.le_of_ble_eq_true rfl) (kcX11_behind (by omega)) rfl rfl (Nat.le_of_ble_eq_true rfl) ?_
      refine fr_is5 dX11_knows_134 rfl (Nat.le_of_ble_eq_true rfl) ?_
      refine fr_il4 dX11_knows_136 ?_
      refine fr_if_ne (tgt := 175) dX11_knows_138 (by decide) (by decide) (fun h14 => absurd h14 (by decide)) (fun _ => ?_)
      refine fr_al0 dX11_knows_141 ?_
      refine fr_il5 dX11_knows_142 ?_
      refine fr_il2 dX11_knows_144 ?_
      refine fr_cVi (mi' := fmX11_canAny) dX11_knows_145 mlX11_201 mvX11_canAny ⟨11, _, ⟨by decide, by decide, rfl⟩, rfl, rfl⟩ (Nat.le_of_ble_eq_true rfl) (kcX11_canAny hI (gm_pas hst).1) rfl rfl (Nat.le_of_ble_eq_true rfl) ?_
      refine fr_ifb_eq (tgt := 175) dX11_knows_148 (by decide) (fun h15 => ?_) (fun h15 => ?_)
      · skip
        have hcp := h15
        refine fr_il4 dX11_knows_175 ?_
        refine fr_if_ne (tgt := 182) dX11_knows_177 (by decide) (by decide) (fun h16 => absurd h16 (by decide)) (fun _ => ?_)
        refine fr_iconst dX11_knows_180 ?_
        refine fr_is3 dX11_knows_181 rfl (Nat.le_of_ble_eq_true rfl) ?_
        refine fr_al0 dX11_knows_182 ?_
        refine fr_getr (cz := 72) dX11_knows_183 flX11_25 ⟨by decide, by decide, rfl⟩ rfl rfl ?_
        refine fr_il1 dX11_knows_186 ?_
        refine fr_il3 dX11_knows_187 ?_
        refine fr_iast dX11_knows_188 ⟨by decide, by decide, rfl, by decide⟩ (by omega) (by omega) ?_
        refine fr_al0 dX11_knows_189 ?_
        refine fr_getr (cz := 73) dX11_knows_190 flX11_28 ⟨by decide, by decide, rfl⟩ rfl rfl ?_
        refine fr_il1 dX11_knows_193 ?_
        refine fr_iconst dX11_knows_194 ?_
        refine fr_zast dX11_knows_195 ⟨by decide, by decide, rfl, by decide⟩ (by omega) (by omega) (Or.inr rfl) ?_
        refine fr_iconst dX11_knows_196 ?_
        exact fr_iret dX11_knows_197 rfl (fr_pi (Or.inl ⟨rfl, by rw [sp_G_eq hN hst, if_neg hca, if_neg hcp]⟩))
      · skip
        have hcp := h15
        have hp1 := (gm_pas hst).1
        have hp2 := (hK _ hp1.1 hp1.2).1
        refine fr_al0 dX11_knows_151 ?_
        refine fr_getr (cz := 73) dX11_knows_152 flX11_28 ⟨by decide, by decide, rfl⟩ rfl rfl ?_
        refine fr_il5 dX11_knows_155 ?_
        refine fr_zald dX11_knows_157 ⟨by decide, by decide, rfl, by decide⟩ (by omega) (by omega) ?_
        refine fr_if_ne (tgt := 164) dX11_knows_158 (by decide) (by omega) (fun h17 => ?_) (fun h17 => ?_)
        · skip
          have hkn : μ 73 (sp_bh st 30) = 1 := by have := (hK _ hp1.1 hp1.2).1; omega
          have hG := (hK _ hp1.1 hp1.2).2 hkn
          refine fr_al0 dX11_knows_164 ?_
          refine fr_getr (cz := 72) dX11_knows_165 flX11_25 ⟨by decide, by decide, rfl⟩ rfl rfl ?_
          refine fr_il5 dX11_knows_168 ?_
          refine fr_iald dX11_knows_170 ⟨by decide, by decide, rfl, by decide⟩ (by omega) (by omega) ?_
          refine fr_is3 dX11_knows_171 rfl (Nat.le_of_ble_eq_true rfl) ?_
          refine fr_goto (tgt := 182) dX11_knows_172 (by decide) ?_
          refine fr_al0 dX11_knows_182 ?_
          refine fr_getr (cz := 72) dX11_knows_183 flX11_25 ⟨by decide, by decide, rfl⟩ rfl rfl ?_
          refine fr_il1 dX11_knows_186 ?_
          refine fr_il3 dX11_knows_187 ?_
          refine fr_iast dX11_knows_188 ⟨by decide, by decide, rfl, by decide⟩ (by omega) (by omega) ?_
          refine fr_al0 dX11_knows_189 ?_
          refine fr_getr (cz := 73) dX11_knows_190 flX11_28 ⟨by decide, by decide, rfl⟩ rfl rfl ?_
          refine fr_il1 dX11_knows_193 ?_
          refine fr_iconst dX11_knows_194 ?_
          refine fr_zast dX11_knows_195 ⟨by decide, by decide, rfl, by decide⟩ (by omega) (by omega) (Or.inr rfl) ?_
          refine fr_iconst dX11_knows_196 ?_
          exact fr_iret dX11_knows_197 rfl (fr_pi (Or.inl ⟨rfl, by rw [sp_G_eq hN hst, if_neg hca, if_pos hcp, ← hG]⟩))
        · skip
          have hun : μ 73 (sp_bh st 30) = 0 := by omega
          refine fr_il5 dX11_knows_161 ?_
          exact fr_iret dX11_knows_163 rfl (fr_pi (Or.inr ⟨rfl, hp1.1, hp1.2, hun, sp_rk_pass hst hca hcp⟩))
  · skip
    refine fr_ldc dX11_knows_7 cnX11_169 ?_
    refine fr_goto (tgt := 14) dX11_knows_9 (by decide) ?_
    refine fr_is3 dX11_knows_14 rfl (Nat.le_of_ble_eq_true rfl) ?_
    refine fr_al0 dX11_knows_15 ?_
    refine fr_il1 dX11_knows_16 ?_
    refine fr_il2 dX11_knows_17 ?_
    refine fr_cVi (mi' := fmX11_canAny) dX11_knows_18 mlX11_201 mvX11_canAny ⟨11, _, ⟨by decide, by decide, rfl⟩, rfl, rfl⟩ (Nat.le_of_ble_eq_true rfl) (kcX11_canAny hI hst) rfl rfl (Nat.le_of_ble_eq_true rfl) ?_
    rcases Classical.em (sp_ca (μ 67) set st) with hca | hca
    · skip
      rw [fr_bT hca]
      refine fr_is4 dX11_knows_21 rfl (Nat.le_of_ble_eq_true rfl) ?_
      refine fr_iconst dX11_knows_23 ?_
      refine fr_is5 dX11_knows_24 rfl (Nat.le_of_ble_eq_true rfl) ?_
      refine fr_wk ?_ (ls := [some (fr_r κ 66), some (fr_i st), some (fr_i set), some (fr_i _), some (fr_i 1), some (fr_i (0 : Int)), none, none]) ⟨rfl, rfl, rfl, rfl, rfl, rfl, trivial⟩
      refine (fr_down (P := fun j : Nat => ∀ (x : Int), (x = sp_gw (μ 67) set (sp_G (μ 67) set) st j) → fr_A l κ fmX11_knows 5 (fr_Pi (fun z m => (z = -1 ∧ m = fr_up (fr_up μ 72 st (sp_G (μ 67) set st)) 73 st 1) ∨ (m = μ ∧ 0 ≤ z ∧ z < 4096 ∧ μ 73 z = 0 ∧ sp_rk (μ 67) set z < sp_rk (μ 67) set st))) 26 [some (fr_r κ 66), some (fr_i st), some (fr_i set), some (fr_i x), some (fr_i 1), some (fr_i (j : Int)), none, none] [] μ) 30 ?_ (fun j hj26 ih26 => ?_)) _ (by simp only [sp_gw]; first | rw [if_pos (by assumption)] | rw [if_neg (by omega)])
      · skip
        intro x hx
        refine fr_il5 dX11_knows_26 ?_
        refine fr_bipush dX11_knows_28 (by decide) ?_
        refine fr_icmp_ge (tgt := 128) dX11_knows_30 (by decide) (by omega) (by omega) (fun h18 => ?_) (fun h18 => ?_)
        · skip
          refine fr_il1 dX11_knows_128 ?_
          refine fr_bipush dX11_knows_129 (by decide) ?_
          refine fr_cSi (mi' := fmX11_behind) dX11_knows_131 mlX11_204 msX11_behind (Nat.le_of_ble_eq_true rfl) (kcX11_behind (by omega)) rfl rfl (Nat.le_of_ble_eq_true rfl) ?_
          refine fr_is5 dX11_knows_134 rfl (Nat.le_of_ble_eq_true rfl) ?_
          refine fr_il4 dX11_knows_136 ?_
          refine fr_if_ne (tgt := 175) dX11_knows_138 (by decide) (by decide) (fun _ => ?_) (fun h19 => absurd h19 (by decide))
          refine fr_il4 dX11_knows_175 ?_
          refine fr_if_ne (tgt := 182) dX11_knows_177 (by decide) (by decide) (fun _ => ?_) (fun h20 => absurd h20 (by decide))
          refine fr_al0 dX11_knows_182 ?_
          refine fr_getr (cz := 72) dX11_knows_183 flX11_25 ⟨by decide, by decide, rfl⟩ rfl rfl ?_
          refine fr_il1 dX11_knows_186 ?_
          refine fr_il3 dX11_knows_187 ?_
          refine fr_iast dX11_knows_188 ⟨by decide, by decide, rfl, by decide⟩ (by omega) (by omega) ?_
          refine fr_al0 dX11_knows_189 ?_
          refine fr_getr (cz := 73) dX11_knows_190 flX11_28 ⟨by decide, by decide, rfl⟩ rfl rfl ?_
          refine fr_il1 dX11_knows_193 ?_
          refine fr_iconst dX11_knows_194 ?_
          refine fr_zast dX11_knows_195 ⟨by decide, by decide, rfl, by decide⟩ (by omega) (by omega) (Or.inr rfl) ?_
          refine fr_iconst dX11_knows_196 ?_
          exact fr_iret dX11_knows_197 rfl (fr_pi (Or.inl ⟨rfl, by rw [sp_G_eq hN hst, if_pos hca, ← hx]⟩))
        · skip
          exfalso; omega
      · skip
        intro x hx
        have hxr := kn_gw hI hN (set := set) hst (n := j) (by omega)
        rw [← hx] at hxr
        refine fr_il5 dX11_knows_26 ?_
        refine fr_bipush dX11_knows_28 (by decide) ?_
        refine fr_icmp_ge (tgt := 128) dX11_knows_30 (by decide) (by omega) (by omega) (fun h21 => ?_) (fun h21 => ?_)
        · skip
          exfalso; omega
        · skip
          refine fr_il4 dX11_knows_33 ?_
          refine fr_if_eq (tgt := 128) dX11_knows_35 (by decide) (by decide) (fun h22 => absurd h22 (by decide)) (fun _ => ?_)
          refine fr_al0 dX11_knows_38 ?_
          refine fr_il1 dX11_knows_39 ?_
          refine fr_il2 dX11_knows_40 ?_
          refine fr_il5 dX11_knows_41 ?_
          refine fr_cVi (mi' := fmX11_canSend) dX11_knows_43 mlX11_196 mvX11_canSend ⟨11, _, ⟨by decide, by decide, rfl⟩, rfl, rfl⟩ (Nat.le_of_ble_eq_true rfl) (kcX11_canSend hI (by omega) (by omega)) rfl rfl (Nat.le_of_ble_eq_true rfl) ?_
          refine fr_ifb_eq (tgt := 122) dX11_knows_46 (by decide) (fun h23 => ?_) (fun h23 => ?_)
          · skip
            have hcs := h23
            refine fr_ii5 dX11_knows_122 rfl (Nat.le_of_ble_eq_true rfl) ?_
            refine fr_goto (tgt := 26) dX11_knows_125 (by decide) ?_
            exact fr_wk (ih26 _ (by simp only [sp_gw]; first | (rw [if_neg hcs]; exact hx) | (rw [if_pos hcs, ← hx]; unfold sp_mm; split <;> first | omega | (split <;> first | omega | (split <;> omega))))) ⟨rfl, rfl, rfl, rfl, rfl, rfl, trivial⟩
          · skip
            have hcs := h23
            refine fr_il1 dX11_knows_49 ?_
            refine fr_il5 dX11_knows_50 ?_
            refine fr_cSi (mi' := fmX11_behind) dX11_knows_52 mlX11_204 msX11_behind (Nat.le_of_ble_eq_true rfl) (kcX11_behind (by omega)) rfl rfl (Nat.le_of_ble_eq_true rfl) ?_
            refine fr_is6 dX11_knows_55 rfl (Nat.le_of_ble_eq_true rfl) ?_
            have hb1 := (gm_beh hst (y := (j : Int)) ⟨by omega, by omega⟩).1
            have hb2 := (hK _ hb1.1 hb1.2).1
            refine fr_al0 dX11_knows_57 ?_
            refine fr_getr (cz := 73) dX11_knows_58 flX11_28 ⟨by decide, by decide, rfl⟩ rfl rfl ?_
            refine fr_il6 dX11_knows_61 ?_
            refine fr_zald dX11_knows_63 ⟨by decide, by decide, rfl, by decide⟩ (by omega) (by omega) ?_
            refine fr_if_ne (tgt := 70) dX11_knows_64 (by decide) (by omega) (fun h24 => ?_) (fun h24 => ?_)
            · skip
              refine fr_al0 dX11_knows_70 ?_
              refine fr_il1 dX11_knows_71 ?_
              refine fr_il5 dX11_knows_72 ?_
              refine fr_cVi (mi' := fmX11_sentFor) dX11_knows_74 mlX11_207 mvX11_sentFor ⟨11, _, ⟨by decide, by decide, rfl⟩, rfl, rfl⟩ (Nat.le_of_ble_eq_true rfl) (kn_sent hst ⟨by omega, by omega⟩ hW hcs) rfl rfl (Nat.le_of_ble_eq_true rfl) ?_
              refine fr_al0 dX11_knows_77 ?_
              refine fr_getr (cz := 72) dX11_knows_78 flX11_25 ⟨by decide, by decide, rfl⟩ rfl rfl ?_
              refine fr_il6 dX11_knows_81 ?_
              refine fr_iald dX11_knows_83 ⟨by decide, by decide, rfl, by decide⟩ (by omega) (by omega) ?_
              have hkn : μ 73 (sp_bh st (j : Int)) = 1 := by omega
              have hG := (hK _ hb1.1 hb1.2).2 hkn
              rw [hG]
              have hR := sp_G_rg hI hN (set := set) hb1
              have hS := sp_sv_rg hI st (j : Int)
              refine fr_iadd dX11_knows_84 ?_
              refine fr_is7 dX11_knows_85 rfl (Nat.le_of_ble_eq_true rfl) ?_
              refine fr_il1 dX11_knows_87 ?_
              refine fr_sipush dX11_knows_88 (by decide) ?_
              refine fr_icmp_ge (tgt := 109) dX11_knows_91 (by decide) (by omega) (by omega) (fun h25 => ?_) (fun h25 => ?_)
              · skip
                refine fr_il7 dX11_knows_109 ?_
                refine fr_il3 dX11_knows_111 ?_
                refine fr_icmp_ge (tgt := 120) dX11_knows_112 (by decide) (by omega) (by omega) (fun h26 => ?_) (fun h26 => ?_)
                · skip
                  refine fr_il3 dX11_knows_120 ?_
                  refine fr_is3 dX11_knows_121 rfl (Nat.le_of_ble_eq_true rfl) ?_
                  refine fr_ii5 dX11_knows_122 rfl (Nat.le_of_ble_eq_true rfl) ?_
                  refine fr_goto (tgt := 26) dX11_knows_125 (by decide) ?_
                  exact fr_wk (ih26 _ (by simp only [sp_gw]; first | (rw [if_neg hcs]; exact hx) | (rw [if_pos hcs, ← hx]; unfold sp_mm; split <;> first | omega | (split <;> first | omega | (split <;> omega))))) ⟨rfl, rfl, rfl, rfl, rfl, rfl, trivial⟩
                · skip
                  refine fr_il7 dX11_knows_115 ?_
                  refine fr_goto (tgt := 121) dX11_knows_117 (by decide) ?_
                  refine fr_is3 dX11_knows_121 rfl (Nat.le_of_ble_eq_true rfl) ?_
                  refine fr_ii5 dX11_knows_122 rfl (Nat.le_of_ble_eq_true rfl) ?_
                  refine fr_goto (tgt := 26) dX11_knows_125 (by decide) ?_
                  exact fr_wk (ih26 _ (by simp only [sp_gw]; first | (rw [if_neg hcs]; exact hx) | (rw [if_pos hcs, ← hx]; unfold sp_mm; split <;> first | omega | (split <;> first | omega | (split <;> omega))))) ⟨rfl, rfl, rfl, rfl, rfl, rfl, trivial⟩
              · skip
                refine fr_il7 dX11_knows_94 ?_
                refine fr_il3 dX11_knows_96 ?_
                refine fr_icmp_le (tgt := 105) dX11_knows_97 (by decide) (by omega) (by omega) (fun h27 => ?_) (fun h27 => ?_)
                · skip
                  refine fr_il3 dX11_knows_105 ?_
                  refine fr_goto (tgt := 121) dX11_knows_106 (by decide) ?_
                  refine fr_is3 dX11_knows_121 rfl (Nat.le_of_ble_eq_true rfl) ?_
                  refine fr_ii5 dX11_knows_122 rfl (Nat.le_of_ble_eq_true rfl) ?_
                  refine fr_goto (tgt := 26) dX11_knows_125 (by decide) ?_
                  exact fr_wk (ih26 _ (by simp only [sp_gw]; first | (rw [if_neg hcs]; exact hx) | (rw [if_pos hcs, ← hx]; unfold sp_mm; split <;> first | omega | (split <;> first | omega | (split <;> omega))))) ⟨rfl, rfl, rfl, rfl, rfl, rfl, trivial⟩
                · skip
                  refine fr_il7 dX11_knows_100 ?_
                  refine fr_goto (tgt := 121) dX11_knows_102 (by decide) ?_
                  refine fr_is3 dX11_knows_121 rfl (Nat.le_of_ble_eq_true rfl) ?_
                  refine fr_ii5 dX11_knows_122 rfl (Nat.le_of_ble_eq_true rfl) ?_
                  refine fr_goto (tgt := 26) dX11_knows_125 (by decide) ?_
                  exact fr_wk (ih26 _ (by simp only [sp_gw]; first | (rw [if_neg hcs]; exact hx) | (rw [if_pos hcs, ← hx]; unfold sp_mm; split <;> first | omega | (split <;> first | omega | (split <;> omega))))) ⟨rfl, rfl, rfl, rfl, rfl, rfl, trivial⟩
            · skip
              have hun : μ 73 (sp_bh st (j : Int)) = 0 := by omega
              refine fr_il6 dX11_knows_67 ?_
              exact fr_iret dX11_knows_69 rfl (fr_pi (Or.inr ⟨rfl, hb1.1, hb1.2, hun, sp_rk_send (by omega) hst ⟨by omega, by omega⟩ hcs⟩))
    · skip
      rw [fr_bF hca]
      refine fr_is4 dX11_knows_21 rfl (Nat.le_of_ble_eq_true rfl) ?_
      refine fr_iconst dX11_knows_23 ?_
      refine fr_is5 dX11_knows_24 rfl (Nat.le_of_ble_eq_true rfl) ?_
      refine fr_il5 dX11_knows_26 ?_
      refine fr_bipush dX11_knows_28 (by decide) ?_
      refine fr_icmp_ge (tgt := 128) dX11_knows_30 (by decide) (by decide) (by decide) (fun h28 => absurd h28 (by decide)) (fun _ => ?_)
      refine fr_il4 dX11_knows_33 ?_
      refine fr_if_eq (tgt := 128) dX11_knows_35 (by decide) (by decide) (fun _ => ?_) (fun h29 => absurd h29 (by decide))
      refine fr_il1 dX11_knows_128 ?_
      refine fr_bipush dX11_knows_129 (by decide) ?_
      refine fr_cSi (mi' := fmX11_behind) dX11_knows_131 mlX11_204 msX11_behind (Nat.le_of_ble_eq_true rfl) (kcX11_behind (by omega)) rfl rfl (Nat.le_of_ble_eq_true rfl) ?_
      refine fr_is5 dX11_knows_134 rfl (Nat.le_of_ble_eq_true rfl) ?_
      refine fr_il4 dX11_knows_136 ?_
      refine fr_if_ne (tgt := 175) dX11_knows_138 (by decide) (by decide) (fun h30 => absurd h30 (by decide)) (fun _ => ?_)
      refine fr_al0 dX11_knows_141 ?_
      refine fr_il5 dX11_knows_142 ?_
      refine fr_il2 dX11_knows_144 ?_
      refine fr_cVi (mi' := fmX11_canAny) dX11_knows_145 mlX11_201 mvX11_canAny ⟨11, _, ⟨by decide, by decide, rfl⟩, rfl, rfl⟩ (Nat.le_of_ble_eq_true rfl) (kcX11_canAny hI (gm_pas hst).1) rfl rfl (Nat.le_of_ble_eq_true rfl) ?_
      refine fr_ifb_eq (tgt := 175) dX11_knows_148 (by decide) (fun h31 => ?_) (fun h31 => ?_)
      · skip
        have hcp := h31
        refine fr_il4 dX11_knows_175 ?_
        refine fr_if_ne (tgt := 182) dX11_knows_177 (by decide) (by decide) (fun h32 => absurd h32 (by decide)) (fun _ => ?_)
        refine fr_iconst dX11_knows_180 ?_
        refine fr_is3 dX11_knows_181 rfl (Nat.le_of_ble_eq_true rfl) ?_
        refine fr_al0 dX11_knows_182 ?_
        refine fr_getr (cz := 72) dX11_knows_183 flX11_25 ⟨by decide, by decide, rfl⟩ rfl rfl ?_
        refine fr_il1 dX11_knows_186 ?_
        refine fr_il3 dX11_knows_187 ?_
        refine fr_iast dX11_knows_188 ⟨by decide, by decide, rfl, by decide⟩ (by omega) (by omega) ?_
        refine fr_al0 dX11_knows_189 ?_
        refine fr_getr (cz := 73) dX11_knows_190 flX11_28 ⟨by decide, by decide, rfl⟩ rfl rfl ?_
        refine fr_il1 dX11_knows_193 ?_
        refine fr_iconst dX11_knows_194 ?_
        refine fr_zast dX11_knows_195 ⟨by decide, by decide, rfl, by decide⟩ (by omega) (by omega) (Or.inr rfl) ?_
        refine fr_iconst dX11_knows_196 ?_
        exact fr_iret dX11_knows_197 rfl (fr_pi (Or.inl ⟨rfl, by rw [sp_G_eq hN hst, if_neg hca, if_neg hcp]⟩))
      · skip
        have hcp := h31
        have hp1 := (gm_pas hst).1
        have hp2 := (hK _ hp1.1 hp1.2).1
        refine fr_al0 dX11_knows_151 ?_
        refine fr_getr (cz := 73) dX11_knows_152 flX11_28 ⟨by decide, by decide, rfl⟩ rfl rfl ?_
        refine fr_il5 dX11_knows_155 ?_
        refine fr_zald dX11_knows_157 ⟨by decide, by decide, rfl, by decide⟩ (by omega) (by omega) ?_
        refine fr_if_ne (tgt := 164) dX11_knows_158 (by decide) (by omega) (fun h33 => ?_) (fun h33 => ?_)
        · skip
          have hkn : μ 73 (sp_bh st 30) = 1 := by have := (hK _ hp1.1 hp1.2).1; omega
          have hG := (hK _ hp1.1 hp1.2).2 hkn
          refine fr_al0 dX11_knows_164 ?_
          refine fr_getr (cz := 72) dX11_knows_165 flX11_25 ⟨by decide, by decide, rfl⟩ rfl rfl ?_
          refine fr_il5 dX11_knows_168 ?_
          refine fr_iald dX11_knows_170 ⟨by decide, by decide, rfl, by decide⟩ (by omega) (by omega) ?_
          refine fr_is3 dX11_knows_171 rfl (Nat.le_of_ble_eq_true rfl) ?_
          refine fr_goto (tgt := 182) dX11_knows_172 (by decide) ?_
          refine fr_al0 dX11_knows_182 ?_
          refine fr_getr (cz := 72) dX11_knows_183 flX11_25 ⟨by decide, by decide, rfl⟩ rfl rfl ?_
          refine fr_il1 dX11_knows_186 ?_
          refine fr_il3 dX11_knows_187 ?_
          refine fr_iast dX11_knows_188 ⟨by decide, by decide, rfl, by decide⟩ (by omega) (by omega) ?_
          refine fr_al0 dX11_knows_189 ?_
          refine fr_getr (cz := 73) dX11_knows_190 flX11_28 ⟨by decide, by decide, rfl⟩ rfl rfl ?_
          refine fr_il1 dX11_knows_193 ?_
          refine fr_iconst dX11_knows_194 ?_
          refine fr_zast dX11_knows_195 ⟨by decide, by decide, rfl, by decide⟩ (by omega) (by omega) (Or.inr rfl) ?_
          refine fr_iconst dX11_knows_196 ?_
          exact fr_iret dX11_knows_197 rfl (fr_pi (Or.inl ⟨rfl, by rw [sp_G_eq hN hst, if_neg hca, if_pos hcp, ← hG]⟩))
        · skip
          have hun : μ 73 (sp_bh st 30) = 0 := by omega
          refine fr_il5 dX11_knows_161 ?_
          exact fr_iret dX11_knows_163 rfl (fr_pi (Or.inr ⟨rfl, hp1.1, hp1.2, hun, sp_rk_pass hst hca hcp⟩))
