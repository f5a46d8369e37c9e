/-! the class: nights laid -/
set_option maxRecDepth 20000 in
theorem kcX2_layNights {l : Launch} {κ : fr_Ka} {w : Int → Int} {μ : fr_Me} (hP : pl_P w μ) (hI : fr_I w) {it : Int → Int} (hf : ∀ t, 0 ≤ t → t < w 0 → μ 35 t = sp_nr (it t) 10)  : fr_C l κ fmX2_layNights 5 [fr_r κ 24, fr_r κ 35] μ (fr_Pv (fun n => n 24 3 = sp_cnt (sp_Nk w it (fr_shl 1 (w 43) - 1)) (sp_p6 (w 0).toNat).toNat ∧ n 24 4 = sp_sr (sp_Nk w it (fr_shl 1 (w 43) - 1)) (fun c => sp_cr (sp_dg (w 0) c) (w 0) (w 0).toNat) (fr_shl 1 (w 43) - 1) (sp_p6 (w 0).toNat).toNat ∧ (∀ c, c ≠ 24 → c ≠ 25 → n c = μ c) ∧ (∀ q, q ≠ 3 → q ≠ 4 → n 24 q = μ 24 q))) := by
  have iN := hI.n
  have iM := hI.many
  have hA := fr_shl1_rg (m := w 43) (by omega)
  have hA2 : fr_shl 1 (w 43) ≤ 32 := by have e2 : ∀ m : Fin 6, fr_shl 1 (m.val : Nat) ≤ 32 := (by decide +kernel); have := e2 ⟨(w 43).toNat, by omega⟩; simp only [Int.toNat_of_nonneg iM.1] at this; exact this
  refine fr_enter (by decide +kernel) (ls := [some (fr_r κ 24), some (fr_r κ 35), none, none]) rfl (Nat.le_of_ble_eq_true rfl) ?_
  refine fr_al0 dX2_layNights_0 ?_
  refine fr_getr (cz := 25) dX2_layNights_1 flX2_9 ⟨by decide, by decide, rfl⟩ rfl rfl ?_
  refine fr_iconst dX2_layNights_4 ?_
  refine fr_cSv (mi' := fmJ7_fill_53178) dX2_layNights_5 mlX2_29 msJ7_fill_53178 (Nat.le_of_ble_eq_true rfl) (kcJ7_fill_53178 (n := 224) ⟨by decide, by decide, rfl, by decide⟩) rfl rfl (Nat.le_of_ble_eq_true rfl) ?_
  refine fr_al0 dX2_layNights_8 ?_
  refine fr_getr (cz := 25) dX2_layNights_9 flX2_9 ⟨by decide, by decide, rfl⟩ rfl rfl ?_
  refine fr_iconst dX2_layNights_12 ?_
  refine fr_iconst dX2_layNights_13 ?_
  refine fr_iast dX2_layNights_14 ⟨by decide, by decide, rfl, by decide⟩ (by omega) (by omega) ?_
  refine fr_iconst dX2_layNights_15 ?_
  refine fr_is2 dX2_layNights_16 rfl (Nat.le_of_ble_eq_true rfl) ?_
  refine fr_wk ?_ (ls := [some (fr_r κ 24), some (fr_r κ 35), some (fr_i (0 : Int)), none]) ⟨rfl, rfl, rfl, trivial⟩
  refine (fr_down (P := fun j : Nat => ∀ (n : fr_Me), ((∀ u, 0 ≤ u → u ≤ 31 → n 25 (32 * (j : Int) + u) = nt_T (nt_ok w it (fr_shl 1 (w 43) - 1)) j u) ∧ (∀ q, 32 * ((j : Int) + 1) ≤ q → q < 224 → n 25 q = 0) ∧ ∀ c, c ≠ 25 → n c = μ c) → fr_A l κ fmX2_layNights 5 (fr_Pv (fun n => n 24 3 = sp_cnt (sp_Nk w it (fr_shl 1 (w 43) - 1)) (sp_p6 (w 0).toNat).toNat ∧ n 24 4 = sp_sr (sp_Nk w it (fr_shl 1 (w 43) - 1)) (fun c => sp_cr (sp_dg (w 0) c) (w 0) (w 0).toNat) (fr_shl 1 (w 43) - 1) (sp_p6 (w 0).toNat).toNat ∧ (∀ c, c ≠ 24 → c ≠ 25 → n c = μ c) ∧ (∀ q, q ≠ 3 → q ≠ 4 → n 24 q = μ 24 q))) 17 [some (fr_r κ 24), some (fr_r κ 35), some (fr_i (j : Int)), none] [] n) (w 0).toNat ?_ (fun j hj17 ih17 => ?_)) _ (⟨fun u u0 u1 => by rw [nt_T_0, show 32 * ((0 : Nat) : Int) + u = u by omega]; by_cases q : u = 0; (· rw [q, gm_uk, if_pos rfl]); (· rw [gm_un q, if_neg q]; unfold sp_fill; rw [if_pos ⟨rfl, u0, by omega⟩]), fun q q0 q1 => by rw [gm_un (by omega)]; unfold sp_fill; rw [if_pos ⟨rfl, by omega, by omega⟩], fun c hc => by rw [gm_uc hc, sp_fill_nc _ _ _ hc]⟩)
  · skip
    intro n hn
    have hPn : pl_P w n := hP.keep (fun c c0 c1 => hn.2.2 c (by omega))
    have eN := hPn.n
    have eA := hPn.all
    refine fr_il2 dX2_layNights_17 ?_
    refine fr_al0 dX2_layNights_18 ?_
    refine fr_getr (cz := 15) dX2_layNights_19 flX2_18 ⟨by decide, by decide, rfl⟩ rfl rfl ?_
    refine fr_geti (kz := 8) dX2_layNights_22 flX2_35 ⟨by decide, by decide, rfl⟩ rfl rfl ?_
    refine fr_icmp_ge (tgt := 76) dX2_layNights_25 (by decide) (by omega) (by omega) (fun h1 => ?_) (fun h1 => ?_)
    · skip
      refine fr_al0 dX2_layNights_76 ?_
      refine fr_iconst dX2_layNights_77 ?_
      refine fr_put (kz := 3) dX2_layNights_78 fpX2_91 ⟨by decide, by decide, rfl⟩ rfl rfl (fun h => by cases h) ?_
      refine fr_al0 dX2_layNights_81 ?_
      refine fr_al0 dX2_layNights_82 ?_
      refine fr_getr (cz := 15) dX2_layNights_83 flX2_18 ⟨by decide, by decide, rfl⟩ rfl rfl ?_
      refine fr_geti (kz := 9) dX2_layNights_86 flX2_40 ⟨by decide, by decide, rfl⟩ rfl rfl ?_
      refine fr_put (kz := 4) dX2_layNights_89 fpX2_94 ⟨by decide, by decide, rfl⟩ rfl rfl (fun h => by cases h) ?_
      refine fr_iconst dX2_layNights_92 ?_
      refine fr_is2 dX2_layNights_93 rfl (Nat.le_of_ble_eq_true rfl) ?_
      refine fr_wk ?_ (ls := [some (fr_r κ 24), some (fr_r κ 35), some (fr_i (0 : Int)), none]) ⟨rfl, rfl, rfl, trivial⟩
      refine (fr_down (P := fun k : Nat => ∀ (n : fr_Me), (n 24 3 = sp_sum k (fun u => nt_T (nt_ok w it (fr_shl 1 (w 43) - 1)) (w 0).toNat u) ∧ n 24 4 = nt_sr (fr_shl 1 (w 43) - 1) (fun u => nt_T (nt_ok w it (fr_shl 1 (w 43) - 1)) (w 0).toNat u) k ∧ (∀ u, 0 ≤ u → u ≤ 31 → n 25 (32 * w 0 + u) = (fun u => nt_T (nt_ok w it (fr_shl 1 (w 43) - 1)) (w 0).toNat u) u) ∧ (∀ c, c ≠ 24 → c ≠ 25 → n c = μ c) ∧ (∀ q, q ≠ 3 → q ≠ 4 → n 24 q = μ 24 q)) → fr_A l κ fmX2_layNights 5 (fr_Pv (fun n => n 24 3 = sp_cnt (sp_Nk w it (fr_shl 1 (w 43) - 1)) (sp_p6 (w 0).toNat).toNat ∧ n 24 4 = sp_sr (sp_Nk w it (fr_shl 1 (w 43) - 1)) (fun c => sp_cr (sp_dg (w 0) c) (w 0) (w 0).toNat) (fr_shl 1 (w 43) - 1) (sp_p6 (w 0).toNat).toNat ∧ (∀ c, c ≠ 24 → c ≠ 25 → n c = μ c) ∧ (∀ q, q ≠ 3 → q ≠ 4 → n 24 q = μ 24 q))) 94 [some (fr_r κ 24), some (fr_r κ 35), some (fr_i (k : Int)), none] [] n) (fr_shl 1 (w 43)).toNat ?_ (fun k hj94 ih94 => ?_)) _ (⟨by simp (disch := omega) only [gm_uk, gm_un, gm_uc]; rfl, by simp (disch := omega) only [gm_uk, gm_un, gm_uc]; rw [eA]; rfl, fun u u0 u1 => by simp (disch := omega) only [gm_uk, gm_un, gm_uc]; have := hn.1 u u0 u1; rw [show (((w 0).toNat : Nat) : Int) = w 0 by omega] at this; exact this, fun c h1 h2 => by rw [gm_uc h1, gm_uc h1]; exact hn.2.2 c h2, fun q h1 h2 => by simp (disch := omega) only [gm_uk, gm_un, gm_uc]; rw [hn.2.2 24 (by omega)]⟩)
      · skip
        intro n hn
        have hPn : pl_P w n := hP.keep (fun c c0 c1 => hn.2.2.2.1 c (by omega) (by omega))
        have eN := hPn.n
        have eA := hPn.all
        refine fr_il2 dX2_layNights_94 ?_
        refine fr_al0 dX2_layNights_95 ?_
        refine fr_getr (cz := 15) dX2_layNights_96 flX2_18 ⟨by decide, by decide, rfl⟩ rfl rfl ?_
        refine fr_geti (kz := 9) dX2_layNights_99 flX2_40 ⟨by decide, by decide, rfl⟩ rfl rfl ?_
        refine fr_icmp_gt (tgt := 163) dX2_layNights_102 (by decide) (by omega) (by omega) (fun h2 => ?_) (fun h2 => ?_)
        · skip
          exact fr_vret dX2_layNights_163 rfl (fr_pv ⟨hn.1.trans (nt_tot hI), hn.2.1.trans (nt_sure hI), hn.2.2.2⟩)
        · skip
          exfalso; omega
      · skip
        intro n hn
        have hPn : pl_P w n := hP.keep (fun c c0 c1 => hn.2.2.2.1 c (by omega) (by omega))
        have eN := hPn.n
        have eA := hPn.all
        refine fr_il2 dX2_layNights_94 ?_
        refine fr_al0 dX2_layNights_95 ?_
        refine fr_getr (cz := 15) dX2_layNights_96 flX2_18 ⟨by decide, by decide, rfl⟩ rfl rfl ?_
        refine fr_geti (kz := 9) dX2_layNights_99 flX2_40 ⟨by decide, by decide, rfl⟩ rfl rfl ?_
        refine fr_icmp_gt (tgt := 163) dX2_layNights_102 (by decide) (by omega) (by omega) (fun h3 => ?_) (fun h3 => ?_)
        · skip
          exfalso; omega
        · skip
          refine fr_al0 dX2_layNights_105 ?_
          refine fr_getr (cz := 25) dX2_layNights_106 flX2_9 ⟨by decide, by decide, rfl⟩ rfl rfl ?_
          refine fr_al0 dX2_layNights_109 ?_
          refine fr_getr (cz := 15) dX2_layNights_110 flX2_18 ⟨by decide, by decide, rfl⟩ rfl rfl ?_
          refine fr_geti (kz := 8) dX2_layNights_113 flX2_35 ⟨by decide, by decide, rfl⟩ rfl rfl ?_
          refine fr_bipush dX2_layNights_116 (by decide) ?_
          refine fr_imul dX2_layNights_118 ?_
          refine fr_il2 dX2_layNights_119 ?_
          refine fr_iadd dX2_layNights_120 ?_
          refine fr_iald dX2_layNights_121 ⟨by decide, by decide, rfl, by decide⟩ (by omega) (by omega) ?_
          refine fr_is3 dX2_layNights_122 rfl (Nat.le_of_ble_eq_true rfl) ?_
          refine fr_al0 dX2_layNights_123 ?_
          refine fr_dup dX2_layNights_124 rfl ?_
          refine fr_geti (kz := 3) dX2_layNights_125 flX2_91 ⟨by decide, by decide, rfl⟩ rfl rfl ?_
          refine fr_il3 dX2_layNights_128 ?_
          refine fr_iadd dX2_layNights_129 ?_
          refine fr_put (kz := 3) dX2_layNights_130 fpX2_91 ⟨by decide, by decide, rfl⟩ rfl rfl (fun h => by cases h) ?_
          refine fr_al0 dX2_layNights_133 ?_
          refine fr_dup dX2_layNights_134 rfl ?_
          refine fr_geti (kz := 4) dX2_layNights_135 flX2_94 ⟨by decide, by decide, rfl⟩ rfl rfl ?_
          have eT : n 25 (n 15 8 * 32 + (k : Int)) = nt_T (nt_ok w it (fr_shl 1 (w 43) - 1)) (w 0).toNat (k : Int) := by rw [eN, show w 0 * 32 + (k : Int) = 32 * w 0 + (k : Int) by omega]; exact hn.2.2.1 _ (by omega) (by omega)
          have rT := nt_T_rg (ok := (nt_ok w it (fr_shl 1 (w 43) - 1))) (t := (w 0).toNat) (by omega) (k : Int)
          refine fr_il3 dX2_layNights_138 ?_
          refine fr_if_le (tgt := 146) dX2_layNights_139 (by decide) (by omega) (fun h4 => ?_) (fun h4 => ?_)
          · skip
            refine fr_al0 dX2_layNights_146 ?_
            refine fr_getr (cz := 15) dX2_layNights_147 flX2_18 ⟨by decide, by decide, rfl⟩ rfl rfl ?_
            refine fr_geti (kz := 9) dX2_layNights_150 flX2_40 ⟨by decide, by decide, rfl⟩ rfl rfl ?_
            refine fr_iand dX2_layNights_153 ?_
            refine fr_put (kz := 4) dX2_layNights_154 fpX2_94 ⟨by decide, by decide, rfl⟩ rfl rfl (fun h => by cases h) ?_
            refine fr_ii2 dX2_layNights_157 rfl (Nat.le_of_ble_eq_true rfl) ?_
            refine fr_goto (tgt := 94) dX2_layNights_160 (by decide) ?_
            exact fr_wk (ih94 _ (⟨by simp only [sp_sum]; simp (disch := omega) only [gm_uk, gm_un, gm_uc]; rw [hn.1, eT], (by simp only [nt_sr]; rw [if_neg (by omega), ← hn.2.1]; simp (disch := omega) only [gm_uk, gm_un, gm_uc]; rw [eA]), fun u u0 u1 => by simp (disch := omega) only [gm_uk, gm_un, gm_uc]; exact hn.2.2.1 u u0 u1, fun c h1 h2 => by rw [gm_uc h1, gm_uc h1]; exact hn.2.2.2.1 c h1 h2, fun q h1 h2 => by simp (disch := omega) only [gm_uk, gm_un, gm_uc]; exact hn.2.2.2.2 q h1 h2⟩)) ⟨rfl, rfl, rfl, trivial⟩
          · skip
            refine fr_il2 dX2_layNights_142 ?_
            refine fr_goto (tgt := 153) dX2_layNights_143 (by decide) ?_
            refine fr_iand dX2_layNights_153 ?_
            refine fr_put (kz := 4) dX2_layNights_154 fpX2_94 ⟨by decide, by decide, rfl⟩ rfl rfl (fun h => by cases h) ?_
            refine fr_ii2 dX2_layNights_157 rfl (Nat.le_of_ble_eq_true rfl) ?_
            refine fr_goto (tgt := 94) dX2_layNights_160 (by decide) ?_
            exact fr_wk (ih94 _ (⟨by simp only [sp_sum]; simp (disch := omega) only [gm_uk, gm_un, gm_uc]; rw [hn.1, eT], (by simp only [nt_sr]; rw [if_pos (by omega), ← hn.2.1]; simp (disch := omega) only [gm_uk, gm_un, gm_uc]), fun u u0 u1 => by simp (disch := omega) only [gm_uk, gm_un, gm_uc]; exact hn.2.2.1 u u0 u1, fun c h1 h2 => by rw [gm_uc h1, gm_uc h1]; exact hn.2.2.2.1 c h1 h2, fun q h1 h2 => by simp (disch := omega) only [gm_uk, gm_un, gm_uc]; exact hn.2.2.2.2 q h1 h2⟩)) ⟨rfl, rfl, rfl, trivial⟩
    · skip
      exfalso; omega
  · skip
    intro n hn
    have hPn : pl_P w n := hP.keep (fun c c0 c1 => hn.2.2 c (by omega))
    have eN := hPn.n
    have eA := hPn.all
    refine fr_il2 dX2_layNights_17 ?_
    refine fr_al0 dX2_layNights_18 ?_
    refine fr_getr (cz := 15) dX2_layNights_19 flX2_18 ⟨by decide, by decide, rfl⟩ rfl rfl ?_
    refine fr_geti (kz := 8) dX2_layNights_22 flX2_35 ⟨by decide, by decide, rfl⟩ rfl rfl ?_
    refine fr_icmp_ge (tgt := 76) dX2_layNights_25 (by decide) (by omega) (by omega) (fun h5 => ?_) (fun h5 => ?_)
    · skip
      exfalso; omega
    · skip
      refine fr_iconst dX2_layNights_28 ?_
      refine fr_is3 dX2_layNights_29 rfl (Nat.le_of_ble_eq_true rfl) ?_
      refine fr_wk ?_ (ls := [some (fr_r κ 24), some (fr_r κ 35), some (fr_i (j : Int)), some (fr_i (0 : Int))]) ⟨rfl, rfl, rfl, rfl, trivial⟩
      refine (fr_down (P := fun k : Nat => ∀ (n : fr_Me), ((∀ u, 0 ≤ u → u ≤ 31 → n 25 (32 * (j : Int) + u) = nt_T (nt_ok w it (fr_shl 1 (w 43) - 1)) j u) ∧ (∀ v, 0 ≤ v → v ≤ 31 → n 25 (32 * ((j : Int) + 1) + v) = nt_S (nt_ok w it (fr_shl 1 (w 43) - 1)) j v (k : Int) 0) ∧ (∀ q, 32 * ((j : Int) + 2) ≤ q → q < 224 → n 25 q = 0) ∧ ∀ c, c ≠ 25 → n c = μ c) → fr_A l κ fmX2_layNights 5 (fr_Pv (fun n => n 24 3 = sp_cnt (sp_Nk w it (fr_shl 1 (w 43) - 1)) (sp_p6 (w 0).toNat).toNat ∧ n 24 4 = sp_sr (sp_Nk w it (fr_shl 1 (w 43) - 1)) (fun c => sp_cr (sp_dg (w 0) c) (w 0) (w 0).toNat) (fr_shl 1 (w 43) - 1) (sp_p6 (w 0).toNat).toNat ∧ (∀ c, c ≠ 24 → c ≠ 25 → n c = μ c) ∧ (∀ q, q ≠ 3 → q ≠ 4 → n 24 q = μ 24 q))) 30 [some (fr_r κ 24), some (fr_r κ 35), some (fr_i (j : Int)), some (fr_i (k : Int))] [] n) (fr_shl 1 (w 43)).toNat ?_ (fun k hj30 ih30 => ?_)) _ (⟨hn.1, fun v v0 v1 => by rw [hn.2.1 _ (by omega) (by omega)]; exact nt_S_0.symm, fun q q0 q1 => hn.2.1 q (by omega) q1, hn.2.2⟩)
      · skip
        intro n hn
        have hPn : pl_P w n := hP.keep (fun c c0 c1 => hn.2.2.2 c (by omega))
        have eA := hPn.all
        refine fr_il3 dX2_layNights_30 ?_
        refine fr_al0 dX2_layNights_31 ?_
        refine fr_getr (cz := 15) dX2_layNights_32 flX2_18 ⟨by decide, by decide, rfl⟩ rfl rfl ?_
        refine fr_geti (kz := 9) dX2_layNights_35 flX2_40 ⟨by decide, by decide, rfl⟩ rfl rfl ?_
        refine fr_icmp_gt (tgt := 70) dX2_layNights_38 (by decide) (by omega) (by omega) (fun h6 => ?_) (fun h6 => ?_)
        · skip
          refine fr_ii2 dX2_layNights_70 rfl (Nat.le_of_ble_eq_true rfl) ?_
          refine fr_goto (tgt := 17) dX2_layNights_73 (by decide) ?_
          exact fr_wk (ih17 _ (⟨fun u u0 u1 => by rw [show ((j + 1 : Nat) : Int) = (j : Int) + 1 by omega, hn.2.1 u u0 u1]; exact nt_S_all (by omega) (fun u p h => by have := nt_u_lt hI nt_ok_f _ h.1; rw [h.2] at this; omega), fun q q0 q1 => hn.2.2.1 q (by omega) q1, hn.2.2.2⟩)) ⟨rfl, rfl, rfl, trivial⟩
        · skip
          exfalso; omega
      · skip
        intro n hn
        have hPn : pl_P w n := hP.keep (fun c c0 c1 => hn.2.2.2 c (by omega))
        have eA := hPn.all
        refine fr_il3 dX2_layNights_30 ?_
        refine fr_al0 dX2_layNights_31 ?_
        refine fr_getr (cz := 15) dX2_layNights_32 flX2_18 ⟨by decide, by decide, rfl⟩ rfl rfl ?_
        refine fr_geti (kz := 9) dX2_layNights_35 flX2_40 ⟨by decide, by decide, rfl⟩ rfl rfl ?_
        refine fr_icmp_gt (tgt := 70) dX2_layNights_38 (by decide) (by omega) (by omega) (fun h7 => ?_) (fun h7 => ?_)
        · skip
          exfalso; omega
        · skip
          refine fr_al0 dX2_layNights_41 ?_
          refine fr_getr (cz := 25) dX2_layNights_42 flX2_9 ⟨by decide, by decide, rfl⟩ rfl rfl ?_
          refine fr_il2 dX2_layNights_45 ?_
          refine fr_bipush dX2_layNights_46 (by decide) ?_
          refine fr_imul dX2_layNights_48 ?_
          refine fr_il3 dX2_layNights_49 ?_
          refine fr_iadd dX2_layNights_50 ?_
          refine fr_iald dX2_layNights_51 ⟨by decide, by decide, rfl, by decide⟩ (by omega) (by omega) ?_
          have eTj : n 25 ((j : Int) * 32 + (k : Int)) = nt_T (nt_ok w it (fr_shl 1 (w 43) - 1)) j (k : Int) := by rw [show (j : Int) * 32 + (k : Int) = 32 * (j : Int) + (k : Int) by omega]; exact hn.1 _ (by omega) (by omega)
          have rTj := nt_T_rg (ok := (nt_ok w it (fr_shl 1 (w 43) - 1))) (t := j) (by omega) (k : Int)
          refine fr_if_le (tgt := 64) dX2_layNights_52 (by decide) (by omega) (fun h8 => ?_) (fun h8 => ?_)
          · skip
            refine fr_ii3 dX2_layNights_64 rfl (Nat.le_of_ble_eq_true rfl) ?_
            refine fr_goto (tgt := 30) dX2_layNights_67 (by decide) ?_
            exact fr_wk (ih30 _ (⟨hn.1, fun v v0 v1 => by rw [show ((k + 1 : Nat) : Int) = (k : Int) + 1 by omega, nt_S_z (by omega) (by have := hn.1 (k : Int) (by omega) (by omega); omega)]; exact hn.2.1 v v0 v1, hn.2.2⟩)) ⟨rfl, rfl, rfl, rfl, trivial⟩
          · skip
            refine fr_al0 dX2_layNights_55 ?_
            refine fr_il2 dX2_layNights_56 ?_
            refine fr_il3 dX2_layNights_57 ?_
            refine fr_al1 dX2_layNights_58 ?_
            refine fr_il2 dX2_layNights_59 ?_
            refine fr_iald dX2_layNights_60 ⟨by decide, by decide, rfl, by decide⟩ (by omega) (by omega) ?_
            rw [show n 35 (j : Int) = sp_nr (it (j : Int)) 10 from (congrFun (hn.2.2.2 35 (by omega)) _).trans (hf _ (by omega) (by omega))]
            refine fr_cVQ (mi' := fmX2_spreadWays) dX2_layNights_61 mlX2_87 mvX2_spreadWays ⟨2, _, ⟨by decide, by decide, rfl⟩, rfl, rfl⟩ (Nat.le_of_ble_eq_true rfl) (kcX2_spreadWays hPn hI (it := it) (t := j) (u := (k : Int)) (by omega) (by omega) hn.2.1 (hn.1 _ (by omega) (by omega))) rfl rfl (Nat.le_of_ble_eq_true rfl) (fun m hm => ?_)
            refine fr_ii3 dX2_layNights_64 rfl (Nat.le_of_ble_eq_true rfl) ?_
            refine fr_goto (tgt := 30) dX2_layNights_67 (by decide) ?_
            exact fr_wk (ih30 _ (⟨fun u u0 u1 => by rw [hm.2.1 _ (by omega)]; exact hn.1 u u0 u1, hm.1, fun q q0 q1 => by rw [hm.2.1 _ (by omega)]; exact hn.2.2.1 q q0 q1, fun c hc => (hm.2.2 c hc).trans (hn.2.2.2 c hc)⟩)) ⟨rfl, rfl, rfl, rfl, trivial⟩
