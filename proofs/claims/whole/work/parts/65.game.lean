/-! the class: a game -/
theorem vi_M_up {w : Int → Int} {set a c s i z : Int} {m : fr_Me} (h : vi_M w set (m 32)) (hr : vi_r a c s) (hi : i = vi_i a c s) (hz : z = sp_G w set (vi_st a c s)) : vi_M w set ((fr_up m 32 i z) 32) := by
  intro a' c' s' hr'
  by_cases q : vi_i a' c' s' = i
  · have := vi_inj hr' hr (q.trans hi)
    rw [q, gm_uk]
    obtain ⟨e1, e2, e3⟩ := this
    subst e1 e2 e3
    exact Or.inr hz
  · rw [gm_un q]; exact h a' c' s' hr'
theorem vi_Gp {w : Int → Int} (hI : fr_I w) {set a c s : Int} (hr : vi_r a c s) (hn : ¬ sp_ca w set (vi_st a c s)) : sp_G w set (vi_st a c s) = sp_G w set (vi_st a c (1 - s)) := by
  have hN := hI.n
  obtain ⟨h1, h2⟩ := vi_ps2 (w := w) hr
  have hp := (gm_pas (vi_st_rg hr)).1
  rw [sp_G_eq hN.2 (vi_st_rg hr), if_neg hn, ← vi_G h2 hp (vi_st_rg h1)]
  by_cases q : sp_ca w set (sp_bh (vi_st a c s) 30)
  · rw [if_pos q]
  · rw [if_neg q, sp_G_eq hN.2 hp, if_neg q]
    have h3 := (vi_ps2 (w := w) h1).2
    rw [show 1 - (1 - s) = s by omega] at h3
    have h4 := vi_ps h2 hp (vi_st_rg h1)
    rw [if_neg (fun x => hn ((vi_ca h3).mp ((vi_ca h4).mp x)))]
theorem vi_G0 {w : Int → Int} (hI : fr_I w) {set a c s : Int} (hr : vi_r a c s) (hn : ¬ sp_ca w set (vi_st a c s)) (hp : ¬ sp_ca w set (sp_bh (vi_st a c s) 30)) : sp_G w set (vi_st a c s) = 0 := by
  rw [sp_G_eq hI.n.2 (vi_st_rg hr), if_neg hn, if_neg hp]
theorem vi_Gc {w : Int → Int} (hI : fr_I w) {set a c s : Int} (hr : vi_r a c s) (hn : sp_ca w set (vi_st a c s)) : sp_G w set (vi_st a c s) = sp_gw w set (sp_G w set) (vi_st a c s) 30 := by
  rw [sp_G_eq hI.n.2 (vi_st_rg hr), if_pos hn]
def vi_C (l : Launch) (κ : fr_Ka) (w : Int → Int) (set : Int) (m : Nat) : Prop := ∀ (μ : fr_Me) (a c s b : Int), vi_r a c s → (b = 0 ∨ (b = 1 ∧ ¬ sp_ca w set (sp_bh (vi_st a c s) 30))) → 2 * sp_rk w set (vi_st a c s) + 1 - b ≤ (m : Int) → pl_P w μ → μ 31 2 = set → vi_M w set (μ 32) → fr_C l κ fmX8_outcomeFrom (2 * m + 3) [fr_r κ 31, fr_i a, fr_i c, fr_i s, fr_i b] μ (fr_Pi (fun z n => z = sp_G w set (vi_st a c s) ∧ vi_M w set (n 32) ∧ ∀ x, x ≠ 32 → n x = μ x))
set_option maxRecDepth 20000 in
theorem kcX8_sendBest {l : Launch} {κ : fr_Ka} {w : Int → Int} {μ : fr_Me} {set a c s : Int} {m' : Nat} (hC : vi_C l κ w set m') (hR : 2 * sp_rk w set (vi_st a c s) ≤ (m' : Int) + 1) (hr : vi_r a c s) (hP : pl_P w μ) (hI : fr_I w) (hO : μ 31 2 = set) (hM : vi_M w set (μ 32))  : fr_C l κ fmX8_sendBest (2 * m' + 4) [fr_r κ 31, fr_i a, fr_i c, fr_i s] μ (fr_Pi (fun z n => ((¬ sp_ca w set (vi_st a c s) ∧ z = -1000000) ∨ (sp_ca w set (vi_st a c s) ∧ z = sp_gw w set (sp_G w set) (vi_st a c s) 30 ∧ -50000 ≤ z ∧ z ≤ 50000)) ∧ vi_M w set (n 32) ∧ ∀ x, x ≠ 32 → n x = μ x)) := by
  have iN := hI.n
  have iM := hI.many
  have hsr := vi_st_rg hr
  have hsd := (vi_st_b hr).2.2
  have hr2 := hr
  unfold vi_r at hr2
  refine fr_enter (by decide +kernel) (ls := [some (fr_r κ 31), some (fr_i a), some (fr_i c), some (fr_i s), none, none, none, none, none, none]) rfl (Nat.le_of_ble_eq_true rfl) ?_
  refine fr_ldc dX8_sendBest_0 cnX8_23 ?_
  refine fr_is4 dX8_sendBest_2 rfl (Nat.le_of_ble_eq_true rfl) ?_
  refine fr_iconst dX8_sendBest_4 ?_
  refine fr_is5 dX8_sendBest_5 rfl (Nat.le_of_ble_eq_true rfl) ?_
  refine fr_wk ?_ (ls := [some (fr_r κ 31), some (fr_i a), some (fr_i c), some (fr_i s), some (fr_i _), some (fr_i (0 : Int)), none, none, none, none]) ⟨rfl, rfl, rfl, rfl, rfl, rfl, trivial⟩
  refine (fr_down (P := fun j : Nat => ∀ (v : Int) (n : fr_Me), (vi_b w set (vi_st a c s) (5 * j) v ∧ vi_M w set (n 32) ∧ ∀ x, x ≠ 32 → n x = μ x) → fr_A l κ fmX8_sendBest (2 * m' + 4) (fr_Pi (fun z n => ((¬ sp_ca w set (vi_st a c s) ∧ z = -1000000) ∨ (sp_ca w set (vi_st a c s) ∧ z = sp_gw w set (sp_G w set) (vi_st a c s) 30 ∧ -50000 ≤ z ∧ z ≤ 50000)) ∧ vi_M w set (n 32) ∧ ∀ x, x ≠ 32 → n x = μ x)) 7 [some (fr_r κ 31), some (fr_i a), some (fr_i c), some (fr_i s), some (fr_i v), some (fr_i (j : Int)), none, none, none, none] [] n) (w 0).toNat ?_ (fun j hj7 ih7 => ?_)) _ _ (⟨Or.inl ⟨fun ⟨x, x0, x1, _⟩ => by omega, rfl⟩, hM, fun _ _ => rfl⟩)
  · skip
    intro v n hn
    have hPn : pl_P w n := hP.keep (fun c c0 c1 => hn.2.2 c (by omega))
    have eN := hPn.n
    refine fr_il5 dX8_sendBest_7 ?_
    refine fr_al0 dX8_sendBest_9 ?_
    refine fr_getr (cz := 15) dX8_sendBest_10 flX8_15 ⟨by decide, by decide, rfl⟩ rfl rfl ?_
    refine fr_geti (kz := 8) dX8_sendBest_13 flX8_38 ⟨by decide, by decide, rfl⟩ rfl rfl ?_
    refine fr_icmp_ge (tgt := 197) dX8_sendBest_16 (by decide) (by omega) (by omega) (fun h1 => ?_) (fun h1 => ?_)
    · skip
      refine fr_il4 dX8_sendBest_197 ?_
      exact fr_iret dX8_sendBest_199 rfl (fr_pi ⟨vi_b_f hI hn.1, hn.2⟩)
    · skip
      exfalso; omega
  · skip
    intro v n hn
    have hPn : pl_P w n := hP.keep (fun c c0 c1 => hn.2.2 c (by omega))
    have eN := hPn.n
    refine fr_il5 dX8_sendBest_7 ?_
    refine fr_al0 dX8_sendBest_9 ?_
    refine fr_getr (cz := 15) dX8_sendBest_10 flX8_15 ⟨by decide, by decide, rfl⟩ rfl rfl ?_
    refine fr_geti (kz := 8) dX8_sendBest_13 flX8_38 ⟨by decide, by decide, rfl⟩ rfl rfl ?_
    refine fr_icmp_ge (tgt := 197) dX8_sendBest_16 (by decide) (by omega) (by omega) (fun h2 => ?_) (fun h2 => ?_)
    · skip
      exfalso; omega
    · skip
      refine fr_il1 dX8_sendBest_19 ?_
      refine fr_il5 dX8_sendBest_20 ?_
      refine fr_cSi (mi' := fmX10_isIn) dX8_sendBest_22 mlX8_43 msX10_isIn (by omega) (kcX10_isIn) rfl rfl (Nat.le_of_ble_eq_true rfl) ?_
      refine fr_ifb_eq (tgt := 32) dX8_sendBest_25 (by decide) (fun h3 => ?_) (fun h3 => ?_)
      · skip
        have htk := h3
        refine fr_al0 dX8_sendBest_32 ?_
        refine fr_getr (cz := 15) dX8_sendBest_33 flX8_15 ⟨by decide, by decide, rfl⟩ rfl rfl ?_
        refine fr_il5 dX8_sendBest_36 ?_
        refine fr_il2 dX8_sendBest_38 ?_
        refine fr_cVi (mi' := fmX3_freeClimbers) dX8_sendBest_39 mlX8_47 mvX3_freeClimbers ⟨3, _, ⟨by decide, by decide, rfl⟩, rfl, rfl⟩ (by omega) (kcX3_freeClimbers (by omega)) rfl rfl (Nat.le_of_ble_eq_true rfl) ?_
        refine fr_il3 dX8_sendBest_42 ?_
        refine fr_if_ne (tgt := 53) dX8_sendBest_43 (by decide) (by omega) (fun h4 => ?_) (fun h4 => ?_)
        · skip
          refine fr_al0 dX8_sendBest_53 ?_
          refine fr_geti (kz := 2) dX8_sendBest_54 flX8_19 ⟨by decide, by decide, rfl⟩ rfl rfl ?_
          refine fr_iconst dX8_sendBest_57 ?_
          refine fr_ixor dX8_sendBest_58 ?_
          refine fr_iand dX8_sendBest_59 ?_
          refine fr_is6 dX8_sendBest_60 rfl (Nat.le_of_ble_eq_true rfl) ?_
          have e16 : n 16 (j : Int) = (fr_and (fr_shl 1 (w 43) - 1) (fr_xor (w (37 + (j : Int))) (-1))) := (hPn.tr (t := (j : Int)) (by omega) (by omega)).1
          have emk := hPn.mk
          have eow : n 31 2 = set := (congrFun (hn.2.2 31 (by omega)) _).trans hO
          refine fr_iconst dX8_sendBest_62 ?_
          refine fr_is7 dX8_sendBest_63 rfl (Nat.le_of_ble_eq_true rfl) ?_
          refine fr_wk ?_ (ls := [some (fr_r κ 31), some (fr_i a), some (fr_i c), some (fr_i s), some (fr_i _), some (fr_i (j : Int)), some (fr_i _), some (fr_i (0 : Int)), none, none]) ⟨rfl, rfl, rfl, rfl, rfl, rfl, rfl, rfl, trivial⟩
          refine (fr_down (P := fun k : Nat => ∀ (v : Int) (f : Int) (n : fr_Me), ((∀ d, 0 ≤ d → d < 5 → (sp_in f d ↔ sp_cs w set (vi_st a c s) (5 * (j : Int) + d))) ∧ vi_b w set (vi_st a c s) (5 * j + k) v ∧ vi_M w set (n 32) ∧ ∀ x, x ≠ 32 → n x = μ x) → fr_A l κ fmX8_sendBest (2 * m' + 4) (fr_Pi (fun z n => ((¬ sp_ca w set (vi_st a c s) ∧ z = -1000000) ∨ (sp_ca w set (vi_st a c s) ∧ z = sp_gw w set (sp_G w set) (vi_st a c s) 30 ∧ -50000 ≤ z ∧ z ≤ 50000)) ∧ vi_M w set (n 32) ∧ ∀ x, x ≠ 32 → n x = μ x)) 65 [some (fr_r κ 31), some (fr_i a), some (fr_i c), some (fr_i s), some (fr_i v), some (fr_i (j : Int)), some (fr_i f), some (fr_i (k : Int)), none, none] [] n) 5 ?_ (fun k hj65 ih65 => ?_)) _ _ _ (⟨fun d d0 d1 => by rw [vi_fr hI hr (by omega) ⟨d0, d1⟩, bx_and _ _ (by omega), bx_not _ (by omega), e16, emk, eow]; exact ⟨fun x => ⟨htk, x.1, fun y => absurd y x.2, fun y => by omega⟩, fun x => ⟨x.2.1, fun y => by have := x.2.2.mp y; omega⟩⟩, hn.1, hn.2⟩)
          · skip
            intro v f n hn
            have hPn : pl_P w n := hP.keep (fun c c0 c1 => hn.2.2.2 c (by omega))
            have eN := hPn.n
            refine fr_il7 dX8_sendBest_65 ?_
            refine fr_iconst dX8_sendBest_67 ?_
            refine fr_icmp_ge (tgt := 191) dX8_sendBest_68 (by decide) (by omega) (by omega) (fun h5 => ?_) (fun h5 => ?_)
            · skip
              refine fr_ii5 dX8_sendBest_191 rfl (Nat.le_of_ble_eq_true rfl) ?_
              refine fr_goto (tgt := 7) dX8_sendBest_194 (by decide) ?_
              exact fr_wk (ih7 _ _ (⟨by rw [show 5 * (j + 1) = 5 * j + 5 by omega]; exact hn.2.1, hn.2.2⟩)) ⟨rfl, rfl, rfl, rfl, rfl, rfl, trivial⟩
            · skip
              exfalso; omega
          · skip
            intro v f n hn
            have hPn : pl_P w n := hP.keep (fun c c0 c1 => hn.2.2.2 c (by omega))
            have eN := hPn.n
            refine fr_il7 dX8_sendBest_65 ?_
            refine fr_iconst dX8_sendBest_67 ?_
            refine fr_icmp_ge (tgt := 191) dX8_sendBest_68 (by decide) (by omega) (by omega) (fun h6 => ?_) (fun h6 => ?_)
            · skip
              exfalso; omega
            · skip
              have ey : ((5 * j + k : Nat) : Int) = 5 * (j : Int) + (k : Int) := by omega
              refine fr_il6 dX8_sendBest_71 ?_
              refine fr_il7 dX8_sendBest_73 ?_
              refine fr_cSi (mi' := fmX10_isIn) dX8_sendBest_75 mlX8_43 msX10_isIn (by omega) (kcX10_isIn) rfl rfl (Nat.le_of_ble_eq_true rfl) ?_
              refine fr_ifb_eq (tgt := 185) dX8_sendBest_78 (by decide) (fun h7 => ?_) (fun h7 => ?_)
              · skip
                have hin := h7
                refine fr_ii7 dX8_sendBest_185 rfl (Nat.le_of_ble_eq_true rfl) ?_
                refine fr_goto (tgt := 65) dX8_sendBest_188 (by decide) ?_
                exact fr_wk (ih65 _ _ _ (⟨hn.1, by rw [show 5 * j + (k + 1) = 5 * j + k + 1 by omega]; exact vi_b_s hn.2.1 (fun x => hin ((hn.1 _ (by omega) (by omega)).mpr (by rw [← ey]; exact x))), hn.2.2⟩)) ⟨rfl, rfl, rfl, rfl, rfl, rfl, rfl, rfl, trivial⟩
              · skip
                have hin := h7
                refine fr_al0 dX8_sendBest_81 ?_
                refine fr_il1 dX8_sendBest_82 ?_
                refine fr_iconst dX8_sendBest_83 ?_
                refine fr_il5 dX8_sendBest_84 ?_
                refine fr_ishl dX8_sendBest_86 ?_
                refine fr_ior dX8_sendBest_87 ?_
                refine fr_il2 dX8_sendBest_88 ?_
                refine fr_iconst dX8_sendBest_89 ?_
                refine fr_il7 dX8_sendBest_90 ?_
                refine fr_ishl dX8_sendBest_92 ?_
                refine fr_al0 dX8_sendBest_93 ?_
                refine fr_getr (cz := 15) dX8_sendBest_94 flX8_15 ⟨by decide, by decide, rfl⟩ rfl rfl ?_
                refine fr_geti (kz := 10) dX8_sendBest_97 flX8_51 ⟨by decide, by decide, rfl⟩ rfl rfl ?_
                refine fr_iconst dX8_sendBest_100 ?_
                refine fr_ixor dX8_sendBest_101 ?_
                refine fr_iand dX8_sendBest_102 ?_
                refine fr_ior dX8_sendBest_103 ?_
                refine fr_iconst dX8_sendBest_104 ?_
                refine fr_il3 dX8_sendBest_105 ?_
                refine fr_isub dX8_sendBest_106 ?_
                refine fr_iconst dX8_sendBest_107 ?_
                rw [hPn.mk]
                have hcs := (hn.1 (k : Int) (by omega) (by omega)).mp hin
                have hnx := vi_nx (w := w) hr (t := (j : Int)) (d := (k : Int)) (by omega) (by omega)
                refine fr_cVP (mi' := fmX8_outcomeFrom) dX8_sendBest_108 mlX8_30 mvX8_outcomeFrom ⟨8, _, ⟨by decide, by decide, rfl⟩, rfl, rfl⟩ (by omega) (hC _ _ _ _ 0 hnx.1 (Or.inl rfl) (by rw [← vi_rk hnx.2]; have := sp_rk_send iN.2 (set := set) hsr (y := 5 * (j : Int) + (k : Int)) (by omega) hcs; omega) hPn ((congrFun (hn.2.2.2 31 (by omega)) _).trans hO) hn.2.2.1) rfl rfl (Nat.le_of_ble_eq_true rfl) (fun z m hm => ?_)
                have hPm : pl_P w m := hPn.keep (fun c c0 c1 => hm.2.2 c (by omega))
                have evl := hPm.vl (t := (j : Int)) (c := (k : Int)) (by omega) (by omega) (by omega) (by omega)
                have hvr := pl_v_rg hI (j : Int) (k : Int)
                have hGr := sp_G_rg hI iN.2 (set := set) (vi_st_rg hnx.1)
                have hvb := vi_b_rg hn.2.1
                have ezz := hm.1
                refine fr_is8 dX8_sendBest_111 rfl (Nat.le_of_ble_eq_true rfl) ?_
                refine fr_il8 dX8_sendBest_113 ?_
                refine fr_il3 dX8_sendBest_115 ?_
                refine fr_if_ne (tgt := 133) dX8_sendBest_116 (by decide) (by omega) (fun h8 => ?_) (fun h8 => ?_)
                · skip
                  refine fr_al0 dX8_sendBest_133 ?_
                  refine fr_getr (cz := 15) dX8_sendBest_134 flX8_15 ⟨by decide, by decide, rfl⟩ rfl rfl ?_
                  refine fr_il5 dX8_sendBest_137 ?_
                  refine fr_il7 dX8_sendBest_139 ?_
                  refine fr_cVi (mi' := fmX3_valueBy) dX8_sendBest_141 mlX8_54 mvX3_valueBy ⟨3, _, ⟨by decide, by decide, rfl⟩, rfl, rfl⟩ (by omega) (kcX3_valueBy (by omega) (by omega)) rfl rfl (Nat.le_of_ble_eq_true rfl) ?_
                  refine fr_ineg dX8_sendBest_144 ?_
                  refine fr_iadd dX8_sendBest_145 ?_
                  refine fr_is9 dX8_sendBest_146 rfl (Nat.le_of_ble_eq_true rfl) ?_
                  have rz : -100000 ≤ z ∧ z ≤ 100000 := by omega
                  have hv21 : -100 ≤ m 21 (6 * (j : Int) + (k : Int)) ∧ m 21 (6 * (j : Int) + (k : Int)) ≤ 600 := by omega
                  refine fr_il4 dX8_sendBest_148 ?_
                  refine fr_ldc dX8_sendBest_150 cnX8_23 ?_
                  refine fr_icmp_eq (tgt := 176) dX8_sendBest_152 (by decide) (by omega) (by omega) (fun h9 => ?_) (fun h9 => ?_)
                  · skip
                    refine fr_il9 dX8_sendBest_176 ?_
                    refine fr_goto (tgt := 183) dX8_sendBest_178 (by decide) ?_
                    refine fr_is4 dX8_sendBest_183 rfl (Nat.le_of_ble_eq_true rfl) ?_
                    refine fr_ii7 dX8_sendBest_185 rfl (Nat.le_of_ble_eq_true rfl) ?_
                    refine fr_goto (tgt := 65) dX8_sendBest_188 (by decide) ?_
                    exact fr_wk (ih65 _ _ _ (⟨hn.1, by have hb := vi_b_t hI hsr (y := 5 * j + k) (z := (z + -m 21 (6 * (j : Int) + (k : Int)))) (by omega) hn.2.1 (by rw [ey]; exact hcs) (by rw [ey, vi_G hnx.2 (gm_beh hsr (by omega)).1 (vi_st_rg hnx.1)]; rw [vi_sv hI hr (by omega) (by omega) hcs, if_neg (by omega), evl, hm.1]; omega); rw [if_pos (by omega)] at hb; rw [show 5 * j + (k + 1) = 5 * j + k + 1 by omega]; exact hb, hm.2.1, fun x hx => (hm.2.2 x hx).trans (hn.2.2.2 x hx)⟩)) ⟨rfl, rfl, rfl, rfl, rfl, rfl, rfl, rfl, trivial⟩
                  · skip
                    refine fr_il3 dX8_sendBest_155 ?_
                    refine fr_if_ne (tgt := 169) dX8_sendBest_156 (by decide) (by omega) (fun h10 => ?_) (fun h10 => ?_)
                    · skip
                      refine fr_il9 dX8_sendBest_169 ?_
                      refine fr_il4 dX8_sendBest_171 ?_
                      refine fr_icmp_ge (tgt := 181) dX8_sendBest_173 (by decide) (by omega) (by omega) (fun h11 => ?_) (fun h11 => ?_)
                      · skip
                        refine fr_il4 dX8_sendBest_181 ?_
                        refine fr_is4 dX8_sendBest_183 rfl (Nat.le_of_ble_eq_true rfl) ?_
                        refine fr_ii7 dX8_sendBest_185 rfl (Nat.le_of_ble_eq_true rfl) ?_
                        refine fr_goto (tgt := 65) dX8_sendBest_188 (by decide) ?_
                        exact fr_wk (ih65 _ _ _ (⟨hn.1, by have hb := vi_b_t hI hsr (y := 5 * j + k) (z := (z + -m 21 (6 * (j : Int) + (k : Int)))) (by omega) hn.2.1 (by rw [ey]; exact hcs) (by rw [ey, vi_G hnx.2 (gm_beh hsr (by omega)).1 (vi_st_rg hnx.1)]; rw [vi_sv hI hr (by omega) (by omega) hcs, if_neg (by omega), evl, hm.1]; omega); rw [if_neg (by omega), if_neg (by omega), if_neg (by omega)] at hb; rw [show 5 * j + (k + 1) = 5 * j + k + 1 by omega]; exact hb, hm.2.1, fun x hx => (hm.2.2 x hx).trans (hn.2.2.2 x hx)⟩)) ⟨rfl, rfl, rfl, rfl, rfl, rfl, rfl, rfl, trivial⟩
                      · skip
                        refine fr_il9 dX8_sendBest_176 ?_
                        refine fr_goto (tgt := 183) dX8_sendBest_178 (by decide) ?_
                        refine fr_is4 dX8_sendBest_183 rfl (Nat.le_of_ble_eq_true rfl) ?_
                        refine fr_ii7 dX8_sendBest_185 rfl (Nat.le_of_ble_eq_true rfl) ?_
                        refine fr_goto (tgt := 65) dX8_sendBest_188 (by decide) ?_
                        exact fr_wk (ih65 _ _ _ (⟨hn.1, by have hb := vi_b_t hI hsr (y := 5 * j + k) (z := (z + -m 21 (6 * (j : Int) + (k : Int)))) (by omega) hn.2.1 (by rw [ey]; exact hcs) (by rw [ey, vi_G hnx.2 (gm_beh hsr (by omega)).1 (vi_st_rg hnx.1)]; rw [vi_sv hI hr (by omega) (by omega) hcs, if_neg (by omega), evl, hm.1]; omega); rw [if_neg (by omega), if_neg (by omega), if_pos (by omega)] at hb; rw [show 5 * j + (k + 1) = 5 * j + k + 1 by omega]; exact hb, hm.2.1, fun x hx => (hm.2.2 x hx).trans (hn.2.2.2 x hx)⟩)) ⟨rfl, rfl, rfl, rfl, rfl, rfl, rfl, rfl, trivial⟩
                    · skip
                      exfalso; omega
                · skip
                  exfalso; omega
        · skip
          refine fr_al0 dX8_sendBest_46 ?_
          refine fr_geti (kz := 2) dX8_sendBest_47 flX8_19 ⟨by decide, by decide, rfl⟩ rfl rfl ?_
          refine fr_goto (tgt := 59) dX8_sendBest_50 (by decide) ?_
          refine fr_iand dX8_sendBest_59 ?_
          refine fr_is6 dX8_sendBest_60 rfl (Nat.le_of_ble_eq_true rfl) ?_
          have e16 : n 16 (j : Int) = (fr_and (fr_shl 1 (w 43) - 1) (fr_xor (w (37 + (j : Int))) (-1))) := (hPn.tr (t := (j : Int)) (by omega) (by omega)).1
          have emk := hPn.mk
          have eow : n 31 2 = set := (congrFun (hn.2.2 31 (by omega)) _).trans hO
          refine fr_iconst dX8_sendBest_62 ?_
          refine fr_is7 dX8_sendBest_63 rfl (Nat.le_of_ble_eq_true rfl) ?_
          refine fr_wk ?_ (ls := [some (fr_r κ 31), some (fr_i a), some (fr_i c), some (fr_i s), some (fr_i _), some (fr_i (j : Int)), some (fr_i _), some (fr_i (0 : Int)), none, none]) ⟨rfl, rfl, rfl, rfl, rfl, rfl, rfl, rfl, trivial⟩
          refine (fr_down (P := fun k : Nat => ∀ (v : Int) (f : Int) (n : fr_Me), ((∀ d, 0 ≤ d → d < 5 → (sp_in f d ↔ sp_cs w set (vi_st a c s) (5 * (j : Int) + d))) ∧ vi_b w set (vi_st a c s) (5 * j + k) v ∧ vi_M w set (n 32) ∧ ∀ x, x ≠ 32 → n x = μ x) → fr_A l κ fmX8_sendBest (2 * m' + 4) (fr_Pi (fun z n => ((¬ sp_ca w set (vi_st a c s) ∧ z = -1000000) ∨ (sp_ca w set (vi_st a c s) ∧ z = sp_gw w set (sp_G w set) (vi_st a c s) 30 ∧ -50000 ≤ z ∧ z ≤ 50000)) ∧ vi_M w set (n 32) ∧ ∀ x, x ≠ 32 → n x = μ x)) 65 [some (fr_r κ 31), some (fr_i a), some (fr_i c), some (fr_i s), some (fr_i v), some (fr_i (j : Int)), some (fr_i f), some (fr_i (k : Int)), none, none] [] n) 5 ?_ (fun k hj65 ih65 => ?_)) _ _ _ (⟨fun d d0 d1 => by rw [vi_fr hI hr (by omega) ⟨d0, d1⟩, bx_and _ _ (by omega), e16, emk, eow]; exact ⟨fun x => ⟨htk, x.1, fun _ => by omega, fun _ => x.2⟩, fun x => ⟨x.2.1, x.2.2.mpr (by omega)⟩⟩, hn.1, hn.2⟩)
          · skip
            intro v f n hn
            have hPn : pl_P w n := hP.keep (fun c c0 c1 => hn.2.2.2 c (by omega))
            have eN := hPn.n
            refine fr_il7 dX8_sendBest_65 ?_
            refine fr_iconst dX8_sendBest_67 ?_
            refine fr_icmp_ge (tgt := 191) dX8_sendBest_68 (by decide) (by omega) (by omega) (fun h12 => ?_) (fun h12 => ?_)
            · skip
              refine fr_ii5 dX8_sendBest_191 rfl (Nat.le_of_ble_eq_true rfl) ?_
              refine fr_goto (tgt := 7) dX8_sendBest_194 (by decide) ?_
              exact fr_wk (ih7 _ _ (⟨by rw [show 5 * (j + 1) = 5 * j + 5 by omega]; exact hn.2.1, hn.2.2⟩)) ⟨rfl, rfl, rfl, rfl, rfl, rfl, trivial⟩
            · skip
              exfalso; omega
          · skip
            intro v f n hn
            have hPn : pl_P w n := hP.keep (fun c c0 c1 => hn.2.2.2 c (by omega))
            have eN := hPn.n
            refine fr_il7 dX8_sendBest_65 ?_
            refine fr_iconst dX8_sendBest_67 ?_
            refine fr_icmp_ge (tgt := 191) dX8_sendBest_68 (by decide) (by omega) (by omega) (fun h13 => ?_) (fun h13 => ?_)
            · skip
              exfalso; omega
            · skip
              have ey : ((5 * j + k : Nat) : Int) = 5 * (j : Int) + (k : Int) := by omega
              refine fr_il6 dX8_sendBest_71 ?_
              refine fr_il7 dX8_sendBest_73 ?_
              refine fr_cSi (mi' := fmX10_isIn) dX8_sendBest_75 mlX8_43 msX10_isIn (by omega) (kcX10_isIn) rfl rfl (Nat.le_of_ble_eq_true rfl) ?_
              refine fr_ifb_eq (tgt := 185) dX8_sendBest_78 (by decide) (fun h14 => ?_) (fun h14 => ?_)
              · skip
                have hin := h14
                refine fr_ii7 dX8_sendBest_185 rfl (Nat.le_of_ble_eq_true rfl) ?_
                refine fr_goto (tgt := 65) dX8_sendBest_188 (by decide) ?_
                exact fr_wk (ih65 _ _ _ (⟨hn.1, by rw [show 5 * j + (k + 1) = 5 * j + k + 1 by omega]; exact vi_b_s hn.2.1 (fun x => hin ((hn.1 _ (by omega) (by omega)).mpr (by rw [← ey]; exact x))), hn.2.2⟩)) ⟨rfl, rfl, rfl, rfl, rfl, rfl, rfl, rfl, trivial⟩
              · skip
                have hin := h14
                refine fr_al0 dX8_sendBest_81 ?_
                refine fr_il1 dX8_sendBest_82 ?_
                refine fr_iconst dX8_sendBest_83 ?_
                refine fr_il5 dX8_sendBest_84 ?_
                refine fr_ishl dX8_sendBest_86 ?_
                refine fr_ior dX8_sendBest_87 ?_
                refine fr_il2 dX8_sendBest_88 ?_
                refine fr_iconst dX8_sendBest_89 ?_
                refine fr_il7 dX8_sendBest_90 ?_
                refine fr_ishl dX8_sendBest_92 ?_
                refine fr_al0 dX8_sendBest_93 ?_
                refine fr_getr (cz := 15) dX8_sendBest_94 flX8_15 ⟨by decide, by decide, rfl⟩ rfl rfl ?_
                refine fr_geti (kz := 10) dX8_sendBest_97 flX8_51 ⟨by decide, by decide, rfl⟩ rfl rfl ?_
                refine fr_iconst dX8_sendBest_100 ?_
                refine fr_ixor dX8_sendBest_101 ?_
                refine fr_iand dX8_sendBest_102 ?_
                refine fr_ior dX8_sendBest_103 ?_
                refine fr_iconst dX8_sendBest_104 ?_
                refine fr_il3 dX8_sendBest_105 ?_
                refine fr_isub dX8_sendBest_106 ?_
                refine fr_iconst dX8_sendBest_107 ?_
                rw [hPn.mk]
                have hcs := (hn.1 (k : Int) (by omega) (by omega)).mp hin
                have hnx := vi_nx (w := w) hr (t := (j : Int)) (d := (k : Int)) (by omega) (by omega)
                refine fr_cVP (mi' := fmX8_outcomeFrom) dX8_sendBest_108 mlX8_30 mvX8_outcomeFrom ⟨8, _, ⟨by decide, by decide, rfl⟩, rfl, rfl⟩ (by omega) (hC _ _ _ _ 0 hnx.1 (Or.inl rfl) (by rw [← vi_rk hnx.2]; have := sp_rk_send iN.2 (set := set) hsr (y := 5 * (j : Int) + (k : Int)) (by omega) hcs; omega) hPn ((congrFun (hn.2.2.2 31 (by omega)) _).trans hO) hn.2.2.1) rfl rfl (Nat.le_of_ble_eq_true rfl) (fun z m hm => ?_)
                have hPm : pl_P w m := hPn.keep (fun c c0 c1 => hm.2.2 c (by omega))
                have evl := hPm.vl (t := (j : Int)) (c := (k : Int)) (by omega) (by omega) (by omega) (by omega)
                have hvr := pl_v_rg hI (j : Int) (k : Int)
                have hGr := sp_G_rg hI iN.2 (set := set) (vi_st_rg hnx.1)
                have hvb := vi_b_rg hn.2.1
                have ezz := hm.1
                refine fr_is8 dX8_sendBest_111 rfl (Nat.le_of_ble_eq_true rfl) ?_
                refine fr_il8 dX8_sendBest_113 ?_
                refine fr_il3 dX8_sendBest_115 ?_
                refine fr_if_ne (tgt := 133) dX8_sendBest_116 (by decide) (by omega) (fun h15 => ?_) (fun h15 => ?_)
                · skip
                  exfalso; omega
                · skip
                  refine fr_al0 dX8_sendBest_119 ?_
                  refine fr_getr (cz := 15) dX8_sendBest_120 flX8_15 ⟨by decide, by decide, rfl⟩ rfl rfl ?_
                  refine fr_il5 dX8_sendBest_123 ?_
                  refine fr_il7 dX8_sendBest_125 ?_
                  refine fr_cVi (mi' := fmX3_valueBy) dX8_sendBest_127 mlX8_54 mvX3_valueBy ⟨3, _, ⟨by decide, by decide, rfl⟩, rfl, rfl⟩ (by omega) (kcX3_valueBy (by omega) (by omega)) rfl rfl (Nat.le_of_ble_eq_true rfl) ?_
                  refine fr_goto (tgt := 145) dX8_sendBest_130 (by decide) ?_
                  refine fr_iadd dX8_sendBest_145 ?_
                  refine fr_is9 dX8_sendBest_146 rfl (Nat.le_of_ble_eq_true rfl) ?_
                  have rz : -100000 ≤ z ∧ z ≤ 100000 := by omega
                  have hv21 : -100 ≤ m 21 (6 * (j : Int) + (k : Int)) ∧ m 21 (6 * (j : Int) + (k : Int)) ≤ 600 := by omega
                  refine fr_il4 dX8_sendBest_148 ?_
                  refine fr_ldc dX8_sendBest_150 cnX8_23 ?_
                  refine fr_icmp_eq (tgt := 176) dX8_sendBest_152 (by decide) (by omega) (by omega) (fun h16 => ?_) (fun h16 => ?_)
                  · skip
                    refine fr_il9 dX8_sendBest_176 ?_
                    refine fr_goto (tgt := 183) dX8_sendBest_178 (by decide) ?_
                    refine fr_is4 dX8_sendBest_183 rfl (Nat.le_of_ble_eq_true rfl) ?_
                    refine fr_ii7 dX8_sendBest_185 rfl (Nat.le_of_ble_eq_true rfl) ?_
                    refine fr_goto (tgt := 65) dX8_sendBest_188 (by decide) ?_
                    exact fr_wk (ih65 _ _ _ (⟨hn.1, by have hb := vi_b_t hI hsr (y := 5 * j + k) (z := (z + m 21 (6 * (j : Int) + (k : Int)))) (by omega) hn.2.1 (by rw [ey]; exact hcs) (by rw [ey, vi_G hnx.2 (gm_beh hsr (by omega)).1 (vi_st_rg hnx.1)]; rw [vi_sv hI hr (by omega) (by omega) hcs, if_pos (by omega), evl, hm.1]; omega); rw [if_pos (by omega)] at hb; rw [show 5 * j + (k + 1) = 5 * j + k + 1 by omega]; exact hb, hm.2.1, fun x hx => (hm.2.2 x hx).trans (hn.2.2.2 x hx)⟩)) ⟨rfl, rfl, rfl, rfl, rfl, rfl, rfl, rfl, trivial⟩
                  · skip
                    refine fr_il3 dX8_sendBest_155 ?_
                    refine fr_if_ne (tgt := 169) dX8_sendBest_156 (by decide) (by omega) (fun h17 => ?_) (fun h17 => ?_)
                    · skip
                      exfalso; omega
                    · skip
                      refine fr_il9 dX8_sendBest_159 ?_
                      refine fr_il4 dX8_sendBest_161 ?_
                      refine fr_icmp_le (tgt := 181) dX8_sendBest_163 (by decide) (by omega) (by omega) (fun h18 => ?_) (fun h18 => ?_)
                      · skip
                        refine fr_il4 dX8_sendBest_181 ?_
                        refine fr_is4 dX8_sendBest_183 rfl (Nat.le_of_ble_eq_true rfl) ?_
                        refine fr_ii7 dX8_sendBest_185 rfl (Nat.le_of_ble_eq_true rfl) ?_
                        refine fr_goto (tgt := 65) dX8_sendBest_188 (by decide) ?_
                        exact fr_wk (ih65 _ _ _ (⟨hn.1, by have hb := vi_b_t hI hsr (y := 5 * j + k) (z := (z + m 21 (6 * (j : Int) + (k : Int)))) (by omega) hn.2.1 (by rw [ey]; exact hcs) (by rw [ey, vi_G hnx.2 (gm_beh hsr (by omega)).1 (vi_st_rg hnx.1)]; rw [vi_sv hI hr (by omega) (by omega) hcs, if_pos (by omega), evl, hm.1]; omega); rw [if_neg (by omega), if_pos (by omega), if_neg (by omega)] at hb; rw [show 5 * j + (k + 1) = 5 * j + k + 1 by omega]; exact hb, hm.2.1, fun x hx => (hm.2.2 x hx).trans (hn.2.2.2 x hx)⟩)) ⟨rfl, rfl, rfl, rfl, rfl, rfl, rfl, rfl, trivial⟩
                      · skip
                        refine fr_goto (tgt := 176) dX8_sendBest_166 (by decide) ?_
                        refine fr_il9 dX8_sendBest_176 ?_
                        refine fr_goto (tgt := 183) dX8_sendBest_178 (by decide) ?_
                        refine fr_is4 dX8_sendBest_183 rfl (Nat.le_of_ble_eq_true rfl) ?_
                        refine fr_ii7 dX8_sendBest_185 rfl (Nat.le_of_ble_eq_true rfl) ?_
                        refine fr_goto (tgt := 65) dX8_sendBest_188 (by decide) ?_
                        exact fr_wk (ih65 _ _ _ (⟨hn.1, by have hb := vi_b_t hI hsr (y := 5 * j + k) (z := (z + m 21 (6 * (j : Int) + (k : Int)))) (by omega) hn.2.1 (by rw [ey]; exact hcs) (by rw [ey, vi_G hnx.2 (gm_beh hsr (by omega)).1 (vi_st_rg hnx.1)]; rw [vi_sv hI hr (by omega) (by omega) hcs, if_pos (by omega), evl, hm.1]; omega); rw [if_neg (by omega), if_pos (by omega), if_pos (by omega)] at hb; rw [show 5 * j + (k + 1) = 5 * j + k + 1 by omega]; exact hb, hm.2.1, fun x hx => (hm.2.2 x hx).trans (hn.2.2.2 x hx)⟩)) ⟨rfl, rfl, rfl, rfl, rfl, rfl, rfl, rfl, trivial⟩
      · skip
        have htk := h3
        refine fr_iconst dX8_sendBest_28 ?_
        refine fr_goto (tgt := 60) dX8_sendBest_29 (by decide) ?_
        refine fr_is6 dX8_sendBest_60 rfl (Nat.le_of_ble_eq_true rfl) ?_
        have e16 : n 16 (j : Int) = (fr_and (fr_shl 1 (w 43) - 1) (fr_xor (w (37 + (j : Int))) (-1))) := (hPn.tr (t := (j : Int)) (by omega) (by omega)).1
        have emk := hPn.mk
        have eow : n 31 2 = set := (congrFun (hn.2.2 31 (by omega)) _).trans hO
        refine fr_iconst dX8_sendBest_62 ?_
        refine fr_is7 dX8_sendBest_63 rfl (Nat.le_of_ble_eq_true rfl) ?_
        refine fr_wk ?_ (ls := [some (fr_r κ 31), some (fr_i a), some (fr_i c), some (fr_i s), some (fr_i _), some (fr_i (j : Int)), some (fr_i _), some (fr_i (0 : Int)), none, none]) ⟨rfl, rfl, rfl, rfl, rfl, rfl, rfl, rfl, trivial⟩
        refine (fr_down (P := fun k : Nat => ∀ (v : Int) (f : Int) (n : fr_Me), ((∀ d, 0 ≤ d → d < 5 → (sp_in f d ↔ sp_cs w set (vi_st a c s) (5 * (j : Int) + d))) ∧ vi_b w set (vi_st a c s) (5 * j + k) v ∧ vi_M w set (n 32) ∧ ∀ x, x ≠ 32 → n x = μ x) → fr_A l κ fmX8_sendBest (2 * m' + 4) (fr_Pi (fun z n => ((¬ sp_ca w set (vi_st a c s) ∧ z = -1000000) ∨ (sp_ca w set (vi_st a c s) ∧ z = sp_gw w set (sp_G w set) (vi_st a c s) 30 ∧ -50000 ≤ z ∧ z ≤ 50000)) ∧ vi_M w set (n 32) ∧ ∀ x, x ≠ 32 → n x = μ x)) 65 [some (fr_r κ 31), some (fr_i a), some (fr_i c), some (fr_i s), some (fr_i v), some (fr_i (j : Int)), some (fr_i f), some (fr_i (k : Int)), none, none] [] n) 5 ?_ (fun k hj65 ih65 => ?_)) _ _ _ (⟨fun d d0 d1 => ⟨fun h => absurd h (bx_zero (by omega)), fun h => absurd htk ((vi_fr hI hr (by omega) ⟨d0, d1⟩).mp h).1⟩, hn.1, hn.2⟩)
        · skip
          intro v f n hn
          have hPn : pl_P w n := hP.keep (fun c c0 c1 => hn.2.2.2 c (by omega))
          have eN := hPn.n
          refine fr_il7 dX8_sendBest_65 ?_
          refine fr_iconst dX8_sendBest_67 ?_
          refine fr_icmp_ge (tgt := 191) dX8_sendBest_68 (by decide) (by omega) (by omega) (fun h19 => ?_) (fun h19 => ?_)
          · skip
            refine fr_ii5 dX8_sendBest_191 rfl (Nat.le_of_ble_eq_true rfl) ?_
            refine fr_goto (tgt := 7) dX8_sendBest_194 (by decide) ?_
            exact fr_wk (ih7 _ _ (⟨by rw [show 5 * (j + 1) = 5 * j + 5 by omega]; exact hn.2.1, hn.2.2⟩)) ⟨rfl, rfl, rfl, rfl, rfl, rfl, trivial⟩
          · skip
            exfalso; omega
        · skip
          intro v f n hn
          have hPn : pl_P w n := hP.keep (fun c c0 c1 => hn.2.2.2 c (by omega))
          have eN := hPn.n
          refine fr_il7 dX8_sendBest_65 ?_
          refine fr_iconst dX8_sendBest_67 ?_
          refine fr_icmp_ge (tgt := 191) dX8_sendBest_68 (by decide) (by omega) (by omega) (fun h20 => ?_) (fun h20 => ?_)
          · skip
            exfalso; omega
          · skip
            have ey : ((5 * j + k : Nat) : Int) = 5 * (j : Int) + (k : Int) := by omega
            refine fr_il6 dX8_sendBest_71 ?_
            refine fr_il7 dX8_sendBest_73 ?_
            refine fr_cSi (mi' := fmX10_isIn) dX8_sendBest_75 mlX8_43 msX10_isIn (by omega) (kcX10_isIn) rfl rfl (Nat.le_of_ble_eq_true rfl) ?_
            refine fr_ifb_eq (tgt := 185) dX8_sendBest_78 (by decide) (fun h21 => ?_) (fun h21 => ?_)
            · skip
              have hin := h21
              refine fr_ii7 dX8_sendBest_185 rfl (Nat.le_of_ble_eq_true rfl) ?_
              refine fr_goto (tgt := 65) dX8_sendBest_188 (by decide) ?_
              exact fr_wk (ih65 _ _ _ (⟨hn.1, by rw [show 5 * j + (k + 1) = 5 * j + k + 1 by omega]; exact vi_b_s hn.2.1 (fun x => hin ((hn.1 _ (by omega) (by omega)).mpr (by rw [← ey]; exact x))), hn.2.2⟩)) ⟨rfl, rfl, rfl, rfl, rfl, rfl, rfl, rfl, trivial⟩
            · skip
              have hin := h21
              refine fr_al0 dX8_sendBest_81 ?_
              refine fr_il1 dX8_sendBest_82 ?_
              refine fr_iconst dX8_sendBest_83 ?_
              refine fr_il5 dX8_sendBest_84 ?_
              refine fr_ishl dX8_sendBest_86 ?_
              refine fr_ior dX8_sendBest_87 ?_
              refine fr_il2 dX8_sendBest_88 ?_
              refine fr_iconst dX8_sendBest_89 ?_
              refine fr_il7 dX8_sendBest_90 ?_
              refine fr_ishl dX8_sendBest_92 ?_
              refine fr_al0 dX8_sendBest_93 ?_
              refine fr_getr (cz := 15) dX8_sendBest_94 flX8_15 ⟨by decide, by decide, rfl⟩ rfl rfl ?_
              refine fr_geti (kz := 10) dX8_sendBest_97 flX8_51 ⟨by decide, by decide, rfl⟩ rfl rfl ?_
              refine fr_iconst dX8_sendBest_100 ?_
              refine fr_ixor dX8_sendBest_101 ?_
              refine fr_iand dX8_sendBest_102 ?_
              refine fr_ior dX8_sendBest_103 ?_
              refine fr_iconst dX8_sendBest_104 ?_
              refine fr_il3 dX8_sendBest_105 ?_
              refine fr_isub dX8_sendBest_106 ?_
              refine fr_iconst dX8_sendBest_107 ?_
              rw [hPn.mk]
              have hcs := (hn.1 (k : Int) (by omega) (by omega)).mp hin
              have hnx := vi_nx (w := w) hr (t := (j : Int)) (d := (k : Int)) (by omega) (by omega)
              refine fr_cVP (mi' := fmX8_outcomeFrom) dX8_sendBest_108 mlX8_30 mvX8_outcomeFrom ⟨8, _, ⟨by decide, by decide, rfl⟩, rfl, rfl⟩ (by omega) (hC _ _ _ _ 0 hnx.1 (Or.inl rfl) (by rw [← vi_rk hnx.2]; have := sp_rk_send iN.2 (set := set) hsr (y := 5 * (j : Int) + (k : Int)) (by omega) hcs; omega) hPn ((congrFun (hn.2.2.2 31 (by omega)) _).trans hO) hn.2.2.1) rfl rfl (Nat.le_of_ble_eq_true rfl) (fun z m hm => ?_)
              have hPm : pl_P w m := hPn.keep (fun c c0 c1 => hm.2.2 c (by omega))
              have evl := hPm.vl (t := (j : Int)) (c := (k : Int)) (by omega) (by omega) (by omega) (by omega)
              have hvr := pl_v_rg hI (j : Int) (k : Int)
              have hGr := sp_G_rg hI iN.2 (set := set) (vi_st_rg hnx.1)
              have hvb := vi_b_rg hn.2.1
              have ezz := hm.1
              refine fr_is8 dX8_sendBest_111 rfl (Nat.le_of_ble_eq_true rfl) ?_
              refine fr_il8 dX8_sendBest_113 ?_
              refine fr_il3 dX8_sendBest_115 ?_
              refine fr_if_ne (tgt := 133) dX8_sendBest_116 (by decide) (by omega) (fun h22 => ?_) (fun h22 => ?_)
              · skip
                refine fr_al0 dX8_sendBest_133 ?_
                refine fr_getr (cz := 15) dX8_sendBest_134 flX8_15 ⟨by decide, by decide, rfl⟩ rfl rfl ?_
                refine fr_il5 dX8_sendBest_137 ?_
                refine fr_il7 dX8_sendBest_139 ?_
                refine fr_cVi (mi' := fmX3_valueBy) dX8_sendBest_141 mlX8_54 mvX3_valueBy ⟨3, _, ⟨by decide, by decide, rfl⟩, rfl, rfl⟩ (by omega) (kcX3_valueBy (by omega) (by omega)) rfl rfl (Nat.le_of_ble_eq_true rfl) ?_
                refine fr_ineg dX8_sendBest_144 ?_
                refine fr_iadd dX8_sendBest_145 ?_
                refine fr_is9 dX8_sendBest_146 rfl (Nat.le_of_ble_eq_true rfl) ?_
                have rz : -100000 ≤ z ∧ z ≤ 100000 := by omega
                have hv21 : -100 ≤ m 21 (6 * (j : Int) + (k : Int)) ∧ m 21 (6 * (j : Int) + (k : Int)) ≤ 600 := by omega
                refine fr_il4 dX8_sendBest_148 ?_
                refine fr_ldc dX8_sendBest_150 cnX8_23 ?_
                refine fr_icmp_eq (tgt := 176) dX8_sendBest_152 (by decide) (by omega) (by omega) (fun h23 => ?_) (fun h23 => ?_)
                · skip
                  refine fr_il9 dX8_sendBest_176 ?_
                  refine fr_goto (tgt := 183) dX8_sendBest_178 (by decide) ?_
                  refine fr_is4 dX8_sendBest_183 rfl (Nat.le_of_ble_eq_true rfl) ?_
                  refine fr_ii7 dX8_sendBest_185 rfl (Nat.le_of_ble_eq_true rfl) ?_
                  refine fr_goto (tgt := 65) dX8_sendBest_188 (by decide) ?_
                  exact fr_wk (ih65 _ _ _ (⟨hn.1, by have hb := vi_b_t hI hsr (y := 5 * j + k) (z := (z + -m 21 (6 * (j : Int) + (k : Int)))) (by omega) hn.2.1 (by rw [ey]; exact hcs) (by rw [ey, vi_G hnx.2 (gm_beh hsr (by omega)).1 (vi_st_rg hnx.1)]; rw [vi_sv hI hr (by omega) (by omega) hcs, if_neg (by omega), evl, hm.1]; omega); rw [if_pos (by omega)] at hb; rw [show 5 * j + (k + 1) = 5 * j + k + 1 by omega]; exact hb, hm.2.1, fun x hx => (hm.2.2 x hx).trans (hn.2.2.2 x hx)⟩)) ⟨rfl, rfl, rfl, rfl, rfl, rfl, rfl, rfl, trivial⟩
                · skip
                  refine fr_il3 dX8_sendBest_155 ?_
                  refine fr_if_ne (tgt := 169) dX8_sendBest_156 (by decide) (by omega) (fun h24 => ?_) (fun h24 => ?_)
                  · skip
                    refine fr_il9 dX8_sendBest_169 ?_
                    refine fr_il4 dX8_sendBest_171 ?_
                    refine fr_icmp_ge (tgt := 181) dX8_sendBest_173 (by decide) (by omega) (by omega) (fun h25 => ?_) (fun h25 => ?_)
                    · skip
                      refine fr_il4 dX8_sendBest_181 ?_
                      refine fr_is4 dX8_sendBest_183 rfl (Nat.le_of_ble_eq_true rfl) ?_
                      refine fr_ii7 dX8_sendBest_185 rfl (Nat.le_of_ble_eq_true rfl) ?_
                      refine fr_goto (tgt := 65) dX8_sendBest_188 (by decide) ?_
                      exact fr_wk (ih65 _ _ _ (⟨hn.1, by have hb := vi_b_t hI hsr (y := 5 * j + k) (z := (z + -m 21 (6 * (j : Int) + (k : Int)))) (by omega) hn.2.1 (by rw [ey]; exact hcs) (by rw [ey, vi_G hnx.2 (gm_beh hsr (by omega)).1 (vi_st_rg hnx.1)]; rw [vi_sv hI hr (by omega) (by omega) hcs, if_neg (by omega), evl, hm.1]; omega); rw [if_neg (by omega), if_neg (by omega), if_neg (by omega)] at hb; rw [show 5 * j + (k + 1) = 5 * j + k + 1 by omega]; exact hb, hm.2.1, fun x hx => (hm.2.2 x hx).trans (hn.2.2.2 x hx)⟩)) ⟨rfl, rfl, rfl, rfl, rfl, rfl, rfl, rfl, trivial⟩
                    · skip
                      refine fr_il9 dX8_sendBest_176 ?_
                      refine fr_goto (tgt := 183) dX8_sendBest_178 (by decide) ?_
                      refine fr_is4 dX8_sendBest_183 rfl (Nat.le_of_ble_eq_true rfl) ?_
                      refine fr_ii7 dX8_sendBest_185 rfl (Nat.le_of_ble_eq_true rfl) ?_
                      refine fr_goto (tgt := 65) dX8_sendBest_188 (by decide) ?_
                      exact fr_wk (ih65 _ _ _ (⟨hn.1, by have hb := vi_b_t hI hsr (y := 5 * j + k) (z := (z + -m 21 (6 * (j : Int) + (k : Int)))) (by omega) hn.2.1 (by rw [ey]; exact hcs) (by rw [ey, vi_G hnx.2 (gm_beh hsr (by omega)).1 (vi_st_rg hnx.1)]; rw [vi_sv hI hr (by omega) (by omega) hcs, if_neg (by omega), evl, hm.1]; omega); rw [if_neg (by omega), if_neg (by omega), if_pos (by omega)] at hb; rw [show 5 * j + (k + 1) = 5 * j + k + 1 by omega]; exact hb, hm.2.1, fun x hx => (hm.2.2 x hx).trans (hn.2.2.2 x hx)⟩)) ⟨rfl, rfl, rfl, rfl, rfl, rfl, rfl, rfl, trivial⟩
                  · skip
                    exfalso; omega
              · skip
                refine fr_al0 dX8_sendBest_119 ?_
                refine fr_getr (cz := 15) dX8_sendBest_120 flX8_15 ⟨by decide, by decide, rfl⟩ rfl rfl ?_
                refine fr_il5 dX8_sendBest_123 ?_
                refine fr_il7 dX8_sendBest_125 ?_
                refine fr_cVi (mi' := fmX3_valueBy) dX8_sendBest_127 mlX8_54 mvX3_valueBy ⟨3, _, ⟨by decide, by decide, rfl⟩, rfl, rfl⟩ (by omega) (kcX3_valueBy (by omega) (by omega)) rfl rfl (Nat.le_of_ble_eq_true rfl) ?_
                refine fr_goto (tgt := 145) dX8_sendBest_130 (by decide) ?_
                refine fr_iadd dX8_sendBest_145 ?_
                refine fr_is9 dX8_sendBest_146 rfl (Nat.le_of_ble_eq_true rfl) ?_
                have rz : -100000 ≤ z ∧ z ≤ 100000 := by omega
                have hv21 : -100 ≤ m 21 (6 * (j : Int) + (k : Int)) ∧ m 21 (6 * (j : Int) + (k : Int)) ≤ 600 := by omega
                refine fr_il4 dX8_sendBest_148 ?_
                refine fr_ldc dX8_sendBest_150 cnX8_23 ?_
                refine fr_icmp_eq (tgt := 176) dX8_sendBest_152 (by decide) (by omega) (by omega) (fun h26 => ?_) (fun h26 => ?_)
                · skip
                  refine fr_il9 dX8_sendBest_176 ?_
                  refine fr_goto (tgt := 183) dX8_sendBest_178 (by decide) ?_
                  refine fr_is4 dX8_sendBest_183 rfl (Nat.le_of_ble_eq_true rfl) ?_
                  refine fr_ii7 dX8_sendBest_185 rfl (Nat.le_of_ble_eq_true rfl) ?_
                  refine fr_goto (tgt := 65) dX8_sendBest_188 (by decide) ?_
                  exact fr_wk (ih65 _ _ _ (⟨hn.1, by have hb := vi_b_t hI hsr (y := 5 * j + k) (z := (z + m 21 (6 * (j : Int) + (k : Int)))) (by omega) hn.2.1 (by rw [ey]; exact hcs) (by rw [ey, vi_G hnx.2 (gm_beh hsr (by omega)).1 (vi_st_rg hnx.1)]; rw [vi_sv hI hr (by omega) (by omega) hcs, if_pos (by omega), evl, hm.1]; omega); rw [if_pos (by omega)] at hb; rw [show 5 * j + (k + 1) = 5 * j + k + 1 by omega]; exact hb, hm.2.1, fun x hx => (hm.2.2 x hx).trans (hn.2.2.2 x hx)⟩)) ⟨rfl, rfl, rfl, rfl, rfl, rfl, rfl, rfl, trivial⟩
                · skip
                  refine fr_il3 dX8_sendBest_155 ?_
                  refine fr_if_ne (tgt := 169) dX8_sendBest_156 (by decide) (by omega) (fun h27 => ?_) (fun h27 => ?_)
                  · skip
                    exfalso; omega
                  · skip
                    refine fr_il9 dX8_sendBest_159 ?_
                    refine fr_il4 dX8_sendBest_161 ?_
                    refine fr_icmp_le (tgt := 181) dX8_sendBest_163 (by decide) (by omega) (by omega) (fun h28 => ?_) (fun h28 => ?_)
                    · skip
                      refine fr_il4 dX8_sendBest_181 ?_
                      refine fr_is4 dX8_sendBest_183 rfl (Nat.le_of_ble_eq_true rfl) ?_
                      refine fr_ii7 dX8_sendBest_185 rfl (Nat.le_of_ble_eq_true rfl) ?_
                      refine fr_goto (tgt := 65) dX8_sendBest_188 (by decide) ?_
                      exact fr_wk (ih65 _ _ _ (⟨hn.1, by have hb := vi_b_t hI hsr (y := 5 * j + k) (z := (z + m 21 (6 * (j : Int) + (k : Int)))) (by omega) hn.2.1 (by rw [ey]; exact hcs) (by rw [ey, vi_G hnx.2 (gm_beh hsr (by omega)).1 (vi_st_rg hnx.1)]; rw [vi_sv hI hr (by omega) (by omega) hcs, if_pos (by omega), evl, hm.1]; omega); rw [if_neg (by omega), if_pos (by omega), if_neg (by omega)] at hb; rw [show 5 * j + (k + 1) = 5 * j + k + 1 by omega]; exact hb, hm.2.1, fun x hx => (hm.2.2 x hx).trans (hn.2.2.2 x hx)⟩)) ⟨rfl, rfl, rfl, rfl, rfl, rfl, rfl, rfl, trivial⟩
                    · skip
                      refine fr_goto (tgt := 176) dX8_sendBest_166 (by decide) ?_
                      refine fr_il9 dX8_sendBest_176 ?_
                      refine fr_goto (tgt := 183) dX8_sendBest_178 (by decide) ?_
                      refine fr_is4 dX8_sendBest_183 rfl (Nat.le_of_ble_eq_true rfl) ?_
                      refine fr_ii7 dX8_sendBest_185 rfl (Nat.le_of_ble_eq_true rfl) ?_
                      refine fr_goto (tgt := 65) dX8_sendBest_188 (by decide) ?_
                      exact fr_wk (ih65 _ _ _ (⟨hn.1, by have hb := vi_b_t hI hsr (y := 5 * j + k) (z := (z + m 21 (6 * (j : Int) + (k : Int)))) (by omega) hn.2.1 (by rw [ey]; exact hcs) (by rw [ey, vi_G hnx.2 (gm_beh hsr (by omega)).1 (vi_st_rg hnx.1)]; rw [vi_sv hI hr (by omega) (by omega) hcs, if_pos (by omega), evl, hm.1]; omega); rw [if_neg (by omega), if_pos (by omega), if_pos (by omega)] at hb; rw [show 5 * j + (k + 1) = 5 * j + k + 1 by omega]; exact hb, hm.2.1, fun x hx => (hm.2.2 x hx).trans (hn.2.2.2 x hx)⟩)) ⟨rfl, rfl, rfl, rfl, rfl, rfl, rfl, rfl, trivial⟩
