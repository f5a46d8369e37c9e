/-! the class: pies -/
theorem sp_p6_add (a : Nat) : ∀ b : Nat, sp_p6 a * sp_p6 b = sp_p6 (a + b) := by
  intro b
  induction b with
  | zero => simp [sp_p6]
  | succ b ih => rw [show a + (b + 1) = a + b + 1 by omega]; simp only [sp_p6]; rw [← Int.mul_assoc, ih]
set_option maxRecDepth 20000 in
theorem kcX9_bakeFroms {l : Launch} {κ : fr_Ka} {w it : Int → Int} {μ : fr_Me} {t i : Nat} {p u : Int} (ih : ∀ (i' : Nat), i = i' + 1 → ∀ (μ : fr_Me) (t : Nat) (p u : Int), pl_P w μ → hi_pf w it t i' p u (μ 28) (μ 29) → (∀ f, 0 ≤ f → f < 10 → 0 ≤ μ 28 f) → sp_sum 10 (μ 28) = pl_ss w i' → pi_st w it (p * sp_p6 i') (μ 27 5) (μ 30) → fr_C l κ fmX9_bakeFrom (i' + 3) [fr_r κ 27, fr_i (t : Int), fr_i u] μ (fr_Pv (fun n => pi_st w it ((p + 1) * sp_p6 i') (n 27 5) (n 30) ∧ (∀ c, c ≠ 27 → c ≠ 28 → c ≠ 29 → c ≠ 30 → n c = μ c) ∧ (∀ q, q ≠ 5 → n 27 q = μ 27 q) ∧ (∀ f, 0 ≤ f → f < 10 → n 28 f = μ 28 f) ∧ ∀ s, 0 ≤ s → s < (t : Int) → n 29 s = μ 29 s))) (hP : pl_P w μ) (hI : fr_I w) (hpf : hi_pf w it t i p u (μ 28) (μ 29)) (hnn : ∀ f, 0 ≤ f → f < 10 → 0 ≤ μ 28 f) (hsm : sp_sum 10 (μ 28) = pl_ss w i) (hs : pi_st w it (p * sp_p6 i) (μ 27 5) (μ 30))  : fr_C l κ fmX9_bakeFrom (i + 3) [fr_r κ 27, fr_i (t : Int), fr_i u] μ (fr_Pv (fun n => pi_st w it ((p + 1) * sp_p6 i) (n 27 5) (n 30) ∧ (∀ c, c ≠ 27 → c ≠ 28 → c ≠ 29 → c ≠ 30 → n c = μ c) ∧ (∀ q, q ≠ 5 → n 27 q = μ 27 q) ∧ (∀ f, 0 ≤ f → f < 10 → n 28 f = μ 28 f) ∧ ∀ s, 0 ≤ s → s < (t : Int) → n 29 s = μ 29 s)) := by
  have iN := hI.n
  have iM := hI.many
  have ht1 := hpf.1
  have hu := hi_pf_u hpf
  have eN := hP.n
  have hwr : 0 ≤ μ 27 5 ∧ μ 27 5 ≤ 46656 := by have h6 := sp_p6_rg t (by omega); have h7 := sp_p6_rg i (by omega); have h8 := sp_p6_rg (t + i) (by omega); have ha := sp_cnt_rg (sp_Pk w it (wa_A w)) (p * sp_p6 i).toNat; have hb : p * sp_p6 i ≤ 46656 := (by have hc : p * sp_p6 i ≤ sp_p6 t * sp_p6 i := Int.mul_le_mul_of_nonneg_right (by have := hpf.2.1; omega) (by omega); have hd : sp_p6 t * sp_p6 i = sp_p6 (t + i) := sp_p6_add t i; omega); have := hs.1; rw [hs.2.1]; omega
  refine fr_enter (by decide +kernel) (ls := [some (fr_r κ 27), some (fr_i (t : Int)), some (fr_i u), none, none, none]) rfl (Nat.le_of_ble_eq_true rfl) ?_
  refine fr_il1 dX9_bakeFrom_0 ?_
  refine fr_al0 dX9_bakeFrom_1 ?_
  refine fr_getr (cz := 15) dX9_bakeFrom_2 flX9_21 ⟨by decide, by decide, rfl⟩ rfl rfl ?_
  refine fr_geti (kz := 8) dX9_bakeFrom_5 flX9_36 ⟨by decide, by decide, rfl⟩ rfl rfl ?_
  refine fr_icmp_lt (tgt := 44) dX9_bakeFrom_8 (by decide) (by omega) (by omega) (fun h1 => ?_) (fun h1 => ?_)
  · skip
    have efr : fr_or (sp_frc (μ 16 (t : Int)) (μ 15 10) u) 32 = (fr_or (sp_frc (fr_and (fr_shl 1 (w 43) - 1) (fr_xor (w (37 + (t : Int))) (-1))) (sp_mk w 6) u) 32) := by rw [(hP.tr (t := (t : Int)) (by omega) (by omega)).1, hP.mk]
    obtain ⟨i', hi1⟩ : ∃ i', i = i' + 1 := ⟨i - 1, by omega⟩
    have hss1 : pl_ss w i = pl_ss w i' + sp_sl (w (1 + (t : Int))) 0 := by rw [hi1]; simp only [pl_ss]; rw [show w 0 - 1 - (i' : Int) = (t : Int) by omega]
    refine fr_al0 dX9_bakeFrom_44 ?_
    refine fr_getr (cz := 15) dX9_bakeFrom_45 flX9_21 ⟨by decide, by decide, rfl⟩ rfl rfl ?_
    refine fr_il1 dX9_bakeFrom_48 ?_
    refine fr_il2 dX9_bakeFrom_49 ?_
    refine fr_cVi (mi' := fmX3_freeFolk) dX9_bakeFrom_50 mlX9_64 mvX3_freeFolk ⟨3, _, ⟨by decide, by decide, rfl⟩, rfl, rfl⟩ (by omega) (kcX3_freeFolk (by omega)) rfl rfl (Nat.le_of_ble_eq_true rfl) ?_
    rw [efr]
    refine fr_is3 dX9_bakeFrom_53 rfl (Nat.le_of_ble_eq_true rfl) ?_
    refine fr_iconst dX9_bakeFrom_54 ?_
    refine fr_is4 dX9_bakeFrom_55 rfl (Nat.le_of_ble_eq_true rfl) ?_
    refine fr_wk ?_ (ls := [some (fr_r κ 27), some (fr_i (t : Int)), some (fr_i u), some (fr_i (fr_or (sp_frc (fr_and (fr_shl 1 (w 43) - 1) (fr_xor (w (37 + (t : Int))) (-1))) (sp_mk w 6) u) 32)), some (fr_i (0 : Int)), none]) ⟨rfl, rfl, rfl, rfl, rfl, trivial⟩
    refine (fr_down (P := fun j : Nat => ∀ (n : fr_Me), (hi_pf w it t i p u (n 28) (n 29) ∧ pi_st w it ((6 * p + (j : Int)) * sp_p6 i') (n 27 5) (n 30) ∧ (∀ c, c ≠ 27 → c ≠ 28 → c ≠ 29 → c ≠ 30 → n c = μ c) ∧ (∀ q, q ≠ 5 → n 27 q = μ 27 q) ∧ (∀ f, 0 ≤ f → f < 10 → n 28 f = μ 28 f) ∧ ∀ s, 0 ≤ s → s < (t : Int) → n 29 s = μ 29 s) → fr_A l κ fmX9_bakeFrom (i + 3) (fr_Pv (fun n => pi_st w it ((p + 1) * sp_p6 i) (n 27 5) (n 30) ∧ (∀ c, c ≠ 27 → c ≠ 28 → c ≠ 29 → c ≠ 30 → n c = μ c) ∧ (∀ q, q ≠ 5 → n 27 q = μ 27 q) ∧ (∀ f, 0 ≤ f → f < 10 → n 28 f = μ 28 f) ∧ ∀ s, 0 ≤ s → s < (t : Int) → n 29 s = μ 29 s)) 57 [some (fr_r κ 27), some (fr_i (t : Int)), some (fr_i u), some (fr_i (fr_or (sp_frc (fr_and (fr_shl 1 (w 43) - 1) (fr_xor (w (37 + (t : Int))) (-1))) (sp_mk w 6) u) 32)), some (fr_i (j : Int)), none] [] n) 6 ?_ (fun j hj57 ih57 => ?_)) _ (⟨hpf, by have hx := (hi_pp p 0 i').1; rw [Int.zero_mul] at hx; rw [show 6 * p + ((0 : Nat) : Int) = 6 * p + 0 by omega, hx, Int.add_zero, ← hi1]; exact hs, fun _ _ _ _ _ => rfl, fun _ _ => rfl, fun _ _ _ => rfl, fun _ _ _ => rfl⟩)
    · skip
      intro n hn
      refine fr_il4 dX9_bakeFrom_57 ?_
      refine fr_bipush dX9_bakeFrom_59 (by decide) ?_
      refine fr_icmp_ge (tgt := 173) dX9_bakeFrom_61 (by decide) (by omega) (by omega) (fun h2 => ?_) (fun h2 => ?_)
      · skip
        exact fr_vret dX9_bakeFrom_173 rfl (fr_pv ⟨by have hy : (p + 1) * sp_p6 (i' + 1) = (6 * p + 6) * sp_p6 i' := (by simp only [sp_p6]; rw [show 6 * p + 6 = (p + 1) * 6 by omega, Int.mul_comm (sp_p6 i') 6, Int.mul_assoc]); rw [hi1, hy]; exact hn.2.1, hn.2.2⟩)
      · skip
        exfalso; omega
    · skip
      intro n hn
      have hPn : pl_P w n := hP.keep (fun c c0 c1 => hn.2.2.1 c (by omega) (by omega) (by omega) (by omega))
      have hpn : hi_pf w it t (i' + 1) p u (n 28) (n 29) := by rw [← hi1]; exact hn.1
      refine fr_il4 dX9_bakeFrom_57 ?_
      refine fr_bipush dX9_bakeFrom_59 (by decide) ?_
      refine fr_icmp_ge (tgt := 173) dX9_bakeFrom_61 (by decide) (by omega) (by omega) (fun h3 => ?_) (fun h3 => ?_)
      · skip
        exfalso; omega
      · skip
        have efk := hPn.fk (c := (j : Int)) (by omega) (by omega)
        have hbr := sp_br_rg hI (j : Int)
        have hfr : 0 ≤ n 22 (j : Int) ∧ n 22 (j : Int) < 10 := by omega
        have e16 := hPn.tr (t := (t : Int)) (by omega) (by omega)
        have hsl := sp_sl_rg (w (1 + (t : Int))) 0
        have e17 := e16.2.1
        have hlf := hn.1.2.2.2.2.2 (n 22 (j : Int)) hfr.1 hfr.2
        have hLr := wa_L_rg (w := w) (it := it) (o := sp_dg (t : Int) p) (t := t) iN (by omega) (n 22 (j : Int))
        refine fr_al0 dX9_bakeFrom_64 ?_
        refine fr_getr (cz := 15) dX9_bakeFrom_65 flX9_21 ⟨by decide, by decide, rfl⟩ rfl rfl ?_
        refine fr_getr (cz := 22) dX9_bakeFrom_68 flX9_71 ⟨by decide, by decide, rfl⟩ rfl rfl ?_
        refine fr_il4 dX9_bakeFrom_71 ?_
        refine fr_iald dX9_bakeFrom_73 ⟨by decide, by decide, rfl, by decide⟩ (by omega) (by omega) ?_
        refine fr_is5 dX9_bakeFrom_74 rfl (Nat.le_of_ble_eq_true rfl) ?_
        refine fr_il3 dX9_bakeFrom_76 ?_
        refine fr_il4 dX9_bakeFrom_77 ?_
        refine fr_cSi (mi' := fmX10_isIn) dX9_bakeFrom_79 mlX9_67 msX10_isIn (by omega) (kcX10_isIn) rfl rfl (Nat.le_of_ble_eq_true rfl) ?_
        refine fr_ifb_eq (tgt := 167) dX9_bakeFrom_82 (by decide) (fun h4 => ?_) (fun h4 => ?_)
        · skip
          have hin := h4
          refine fr_ii4 dX9_bakeFrom_167 rfl (Nat.le_of_ble_eq_true rfl) ?_
          refine fr_goto (tgt := 57) dX9_bakeFrom_170 (by decide) ?_
          exact fr_wk (ih57 _ (⟨hn.1, by rw [show 6 * p + ((j + 1 : Nat) : Int) = 6 * p + (j : Int) + 1 by omega]; exact pi_sk hI hpn hn.2.1 (by omega) (Or.inl (fun x => hin ((od_fk_in hI (by omega) (by omega)).mpr x))), hn.2.2⟩)) ⟨rfl, rfl, rfl, rfl, rfl, trivial⟩
        · skip
          have hin := h4
          refine fr_al0 dX9_bakeFrom_85 ?_
          refine fr_getr (cz := 28) dX9_bakeFrom_86 flX9_9 ⟨by decide, by decide, rfl⟩ rfl rfl ?_
          refine fr_il5 dX9_bakeFrom_89 ?_
          refine fr_iald dX9_bakeFrom_91 ⟨by decide, by decide, rfl, by decide⟩ (by omega) (by omega) ?_
          refine fr_al0 dX9_bakeFrom_92 ?_
          refine fr_getr (cz := 15) dX9_bakeFrom_93 flX9_21 ⟨by decide, by decide, rfl⟩ rfl rfl ?_
          refine fr_getr (cz := 17) dX9_bakeFrom_96 flX9_74 ⟨by decide, by decide, rfl⟩ rfl rfl ?_
          refine fr_il1 dX9_bakeFrom_99 ?_
          refine fr_iald dX9_bakeFrom_100 ⟨by decide, by decide, rfl, by decide⟩ (by omega) (by omega) ?_
          refine fr_icmp_lt (tgt := 167) dX9_bakeFrom_101 (by decide) (by omega) (by omega) (fun h5 => ?_) (fun h5 => ?_)
          · skip
            have hlt := h5
            refine fr_ii4 dX9_bakeFrom_167 rfl (Nat.le_of_ble_eq_true rfl) ?_
            refine fr_goto (tgt := 57) dX9_bakeFrom_170 (by decide) ?_
            exact fr_wk (ih57 _ (⟨hn.1, by rw [show 6 * p + ((j + 1 : Nat) : Int) = 6 * p + (j : Int) + 1 by omega]; exact pi_sk hI hpn hn.2.1 (by omega) (Or.inr (by rw [← efk.1, ← e17]; exact hlt)), hn.2.2⟩)) ⟨rfl, rfl, rfl, rfl, rfl, trivial⟩
          · skip
            have hge := h5
            refine fr_al0 dX9_bakeFrom_104 ?_
            refine fr_getr (cz := 28) dX9_bakeFrom_105 flX9_9 ⟨by decide, by decide, rfl⟩ rfl rfl ?_
            refine fr_il5 dX9_bakeFrom_108 ?_
            refine fr_dup2 dX9_bakeFrom_110 rfl rfl ?_
            refine fr_iald dX9_bakeFrom_111 ⟨by decide, by decide, rfl, by decide⟩ (by omega) (by omega) ?_
            refine fr_al0 dX9_bakeFrom_112 ?_
            refine fr_getr (cz := 15) dX9_bakeFrom_113 flX9_21 ⟨by decide, by decide, rfl⟩ rfl rfl ?_
            refine fr_getr (cz := 17) dX9_bakeFrom_116 flX9_74 ⟨by decide, by decide, rfl⟩ rfl rfl ?_
            refine fr_il1 dX9_bakeFrom_119 ?_
            refine fr_iald dX9_bakeFrom_120 ⟨by decide, by decide, rfl, by decide⟩ (by omega) (by omega) ?_
            refine fr_isub dX9_bakeFrom_121 ?_
            refine fr_iast dX9_bakeFrom_122 ⟨by decide, by decide, rfl, by decide⟩ (by omega) (by omega) ?_
            refine fr_al0 dX9_bakeFrom_123 ?_
            refine fr_getr (cz := 29) dX9_bakeFrom_124 flX9_15 ⟨by decide, by decide, rfl⟩ rfl rfl ?_
            refine fr_il1 dX9_bakeFrom_127 ?_
            refine fr_il4 dX9_bakeFrom_128 ?_
            refine fr_iast dX9_bakeFrom_130 ⟨by decide, by decide, rfl, by decide⟩ (by omega) (by omega) ?_
            refine fr_al0 dX9_bakeFrom_131 ?_
            refine fr_il1 dX9_bakeFrom_132 ?_
            refine fr_iconst dX9_bakeFrom_133 ?_
            refine fr_iadd dX9_bakeFrom_134 ?_
            refine fr_al0 dX9_bakeFrom_135 ?_
            refine fr_getr (cz := 15) dX9_bakeFrom_136 flX9_21 ⟨by decide, by decide, rfl⟩ rfl rfl ?_
            refine fr_il2 dX9_bakeFrom_139 ?_
            refine fr_il4 dX9_bakeFrom_140 ?_
            refine fr_cVi (mi' := fmX3_join) dX9_bakeFrom_142 mlX9_77 mvX3_join ⟨3, _, ⟨by decide, by decide, rfl⟩, rfl, rfl⟩ (by omega) (kdX3_join (by omega)) rfl rfl (Nat.le_of_ble_eq_true rfl) ?_
            have hll : ∀ f, 0 ≤ f → f < 10 → (fr_up (fr_up n 28 (n 22 (j : Int)) (n 28 (n 22 (j : Int)) - n 17 (t : Int))) 29 (t : Int) (j : Int)) 28 f = n 28 f - (if sp_br w (j : Int) = f then sp_sl (w (1 + (t : Int))) 0 else 0) := fun f f0 f1 => by rw [gm_uc (by omega)]; by_cases q : f = n 22 (j : Int); (· rw [q, gm_uk, if_pos efk.1.symm, e17]); (· rw [gm_un q, if_neg (fun e => q (by rw [efk.1]; exact e.symm))]; omega)
            have hnx : hi_pf w it (t + 1) i' (6 * p + (j : Int)) (od_j u (j : Int)) ((fr_up (fr_up n 28 (n 22 (j : Int)) (n 28 (n 22 (j : Int)) - n 17 (t : Int))) 29 (t : Int) (j : Int)) 28) ((fr_up (fr_up n 28 (n 22 (j : Int)) (n 28 (n 22 (j : Int)) - n 17 (t : Int))) 29 (t : Int) (j : Int)) 29) := hi_nx hI hpn (by omega) ((od_fk_in hI (by omega) (by omega)).mp hin) hll (fun s s0 s1 => by rw [gm_un (by omega), gm_uc (by omega)]) gm_uk
            have hnn2 : ∀ f, 0 ≤ f → f < 10 → 0 ≤ (fr_up (fr_up n 28 (n 22 (j : Int)) (n 28 (n 22 (j : Int)) - n 17 (t : Int))) 29 (t : Int) (j : Int)) 28 f := fun f f0 f1 => by rw [hll f f0 f1]; have hz := hnn f f0 f1; have hy := hn.2.2.2.2.1 f f0 f1; by_cases q : sp_br w (j : Int) = f; (· rw [if_pos q, ← q, ← efk.1]; omega); (· rw [if_neg q]; omega)
            have hsm2 : sp_sum 10 ((fr_up (fr_up n 28 (n 22 (j : Int)) (n 28 (n 22 (j : Int)) - n 17 (t : Int))) 29 (t : Int) (j : Int)) 28) = pl_ss w i' := by rw [sp_sum_sub (by omega) hll, sp_sum_eq 10 (fun f f0 f1 => hn.2.2.2.2.1 f f0 (by omega)), hsm]; omega
            refine fr_cVQ (mi' := fmX9_bakeFrom) dX9_bakeFrom_145 mlX9_86 mvX9_bakeFrom ⟨9, _, ⟨by decide, by decide, rfl⟩, rfl, rfl⟩ (by omega) (ih i' hi1 _ (t + 1) (6 * p + (j : Int)) (od_j u (j : Int)) (hPn.keep (fun c c0 c1 => by rw [gm_uc (by omega), gm_uc (by omega)])) hnx hnn2 hsm2 (by rw [gm_uc (by omega), gm_uc (by omega), gm_uc (by omega), gm_uc (by omega)]; exact hn.2.1)) rfl rfl (Nat.le_of_ble_eq_true rfl) (fun m hm => ?_)
            have hla : ∀ f, 0 ≤ f → f < 10 → (fr_up m 28 (n 22 (j : Int)) (m 28 (n 22 (j : Int)) + m 17 (t : Int))) 28 f = n 28 f := fun f f0 f1 => by by_cases q : f = n 22 (j : Int); (· rw [q, gm_uk, hm.2.2.2.1 _ hfr.1 hfr.2, gm_uc (by omega), gm_uk, hm.2.1 17 (by omega) (by omega) (by omega) (by omega), gm_uc (by omega), gm_uc (by omega)]; omega); (· rw [gm_un q, hm.2.2.2.1 f f0 f1, gm_uc (by omega), gm_un q])
            have hro : ∀ s, 0 ≤ s → s < (t : Int) → (fr_up m 28 (n 22 (j : Int)) (m 28 (n 22 (j : Int)) + m 17 (t : Int))) 29 s = n 29 s := fun s s0 s1 => by rw [gm_uc (by omega), hm.2.2.2.2 s s0 (by omega), gm_un (by omega), gm_uc (by omega)]
            refine fr_al0 dX9_bakeFrom_148 ?_
            refine fr_getr (cz := 28) dX9_bakeFrom_149 flX9_9 ⟨by decide, by decide, rfl⟩ rfl rfl ?_
            refine fr_il5 dX9_bakeFrom_152 ?_
            refine fr_dup2 dX9_bakeFrom_154 rfl rfl ?_
            refine fr_iald dX9_bakeFrom_155 ⟨by decide, by decide, rfl, by decide⟩ (by omega) (by omega) ?_
            refine fr_al0 dX9_bakeFrom_156 ?_
            refine fr_getr (cz := 15) dX9_bakeFrom_157 flX9_21 ⟨by decide, by decide, rfl⟩ rfl rfl ?_
            refine fr_getr (cz := 17) dX9_bakeFrom_160 flX9_74 ⟨by decide, by decide, rfl⟩ rfl rfl ?_
            refine fr_il1 dX9_bakeFrom_163 ?_
            refine fr_iald dX9_bakeFrom_164 ⟨by decide, by decide, rfl, by decide⟩ (by omega) (by omega) ?_
            refine fr_iadd dX9_bakeFrom_165 ?_
            refine fr_iast dX9_bakeFrom_166 ⟨by decide, by decide, rfl, by decide⟩ (by omega) (by omega) ?_
            refine fr_ii4 dX9_bakeFrom_167 rfl (Nat.le_of_ble_eq_true rfl) ?_
            refine fr_goto (tgt := 57) dX9_bakeFrom_170 (by decide) ?_
            exact fr_wk (ih57 _ (⟨hi_pf_k hn.1 hla hro, by rw [show 6 * p + ((j + 1 : Nat) : Int) = 6 * p + (j : Int) + 1 by omega, gm_uc (by omega), gm_uc (by omega)]; exact hm.1, fun c h1 h2 h3 h4 => by rw [gm_uc h2, hm.2.1 c h1 h2 h3 h4, gm_uc h3, gm_uc h2]; exact hn.2.2.1 c h1 h2 h3 h4, fun q h1 => by rw [gm_uc (by omega), hm.2.2.1 q h1, gm_uc (by omega), gm_uc (by omega)]; exact hn.2.2.2.1 q h1, fun f f0 f1 => (hla f f0 f1).trans (hn.2.2.2.2.1 f f0 f1), fun s s0 s1 => (hro s s0 s1).trans (hn.2.2.2.2.2 s s0 s1)⟩)) ⟨rfl, rfl, rfl, rfl, rfl, trivial⟩
  · skip
    have hi0 : i = 0 := by omega
    refine fr_al0 dX9_bakeFrom_11 ?_
    refine fr_geti (kz := 5) dX9_bakeFrom_12 flX9_83 ⟨by decide, by decide, rfl⟩ rfl rfl ?_
    refine fr_if_ne (tgt := 33) dX9_bakeFrom_15 (by decide) (by omega) (fun h6 => ?_) (fun h6 => ?_)
    · skip
      have hw0 := h6
      refine fr_al0 dX9_bakeFrom_33 ?_
      refine fr_dup dX9_bakeFrom_34 rfl ?_
      refine fr_geti (kz := 5) dX9_bakeFrom_35 flX9_83 ⟨by decide, by decide, rfl⟩ rfl rfl ?_
      refine fr_iconst dX9_bakeFrom_38 ?_
      refine fr_iadd dX9_bakeFrom_39 ?_
      refine fr_put (kz := 5) dX9_bakeFrom_40 fpX9_83 ⟨by decide, by decide, rfl⟩ rfl rfl (fun h => by cases h) ?_
      exact fr_vret dX9_bakeFrom_43 rfl (fr_pv ⟨by subst hi0; rw [gm_uk, gm_uc (by omega)]; exact pi_c hI hpf hnn hsm hs (fun q => absurd q hw0) (fun _ => rfl), fun c h1 h2 h3 h4 => gm_uc h1, fun q h1 => gm_un h1, fun f _ _ => by rw [gm_uc (by omega)], fun s _ _ => by rw [gm_uc (by omega)]⟩)
    · skip
      have hw0 := h6
      refine fr_al0 dX9_bakeFrom_18 ?_
      refine fr_getr (cz := 29) dX9_bakeFrom_19 flX9_15 ⟨by decide, by decide, rfl⟩ rfl rfl ?_
      refine fr_iconst dX9_bakeFrom_22 ?_
      refine fr_al0 dX9_bakeFrom_23 ?_
      refine fr_getr (cz := 30) dX9_bakeFrom_24 flX9_18 ⟨by decide, by decide, rfl⟩ rfl rfl ?_
      refine fr_iconst dX9_bakeFrom_27 ?_
      refine fr_bipush dX9_bakeFrom_28 (by decide) ?_
      refine fr_acpi dX9_bakeFrom_30 cyX9_58 ⟨by decide, by decide, rfl, by decide⟩ ⟨by decide, by decide, rfl, by decide⟩ (by omega) (by omega) (by omega) (by omega) (by omega) (by omega) (Nat.le_of_ble_eq_true rfl) ?_
      refine fr_al0 dX9_bakeFrom_33 ?_
      refine fr_dup dX9_bakeFrom_34 rfl ?_
      refine fr_geti (kz := 5) dX9_bakeFrom_35 flX9_83 ⟨by decide, by decide, rfl⟩ rfl rfl ?_
      refine fr_iconst dX9_bakeFrom_38 ?_
      refine fr_iadd dX9_bakeFrom_39 ?_
      refine fr_put (kz := 5) dX9_bakeFrom_40 fpX9_83 ⟨by decide, by decide, rfl⟩ rfl rfl (fun h => by cases h) ?_
      exact fr_vret dX9_bakeFrom_43 rfl (fr_pv ⟨by subst hi0; rw [gm_uk, sp_cpy_nc _ _ _ _ _ (by omega), gm_uc (by omega)]; exact pi_c hI hpf hnn hsm hs (fun _ s s0 s1 => by unfold sp_cpy; rw [if_pos ⟨rfl, by omega, by omega⟩]; congr 1; omega) (fun q => absurd hw0 q), fun c h1 h2 h3 h4 => by rw [gm_uc h1, sp_cpy_nc _ _ _ _ _ h4], fun q h1 => by rw [gm_un h1, sp_cpy_nc _ _ _ _ _ (by omega)], fun f _ _ => by rw [gm_uc (by omega), sp_cpy_nc _ _ _ _ _ (by omega)], fun s _ _ => by rw [gm_uc (by omega), sp_cpy_nc _ _ _ _ _ (by omega)]⟩)
theorem kcX9_bakeFrom {l : Launch} {κ : fr_Ka} {w it : Int → Int} (hI : fr_I w) : ∀ (i : Nat) (μ : fr_Me) (t : Nat) (p u : Int), pl_P w μ → hi_pf w it t i p u (μ 28) (μ 29) → (∀ f, 0 ≤ f → f < 10 → 0 ≤ μ 28 f) → sp_sum 10 (μ 28) = pl_ss w i → pi_st w it (p * sp_p6 i) (μ 27 5) (μ 30) → fr_C l κ fmX9_bakeFrom (i + 3) [fr_r κ 27, fr_i (t : Int), fr_i u] μ (fr_Pv (fun n => pi_st w it ((p + 1) * sp_p6 i) (n 27 5) (n 30) ∧ (∀ c, c ≠ 27 → c ≠ 28 → c ≠ 29 → c ≠ 30 → n c = μ c) ∧ (∀ q, q ≠ 5 → n 27 q = μ 27 q) ∧ (∀ f, 0 ≤ f → f < 10 → n 28 f = μ 28 f) ∧ ∀ s, 0 ≤ s → s < (t : Int) → n 29 s = μ 29 s)) := by
  intro i
  induction i with
  | zero => intro μ t p u hP hpf h1 h2 hs; exact kcX9_bakeFroms (fun i' h => by omega) hP hI hpf h1 h2 hs
  | succ i ih => intro μ t p u hP hpf h1 h2 hs; exact kcX9_bakeFroms (fun i' h => by have e : i' = i := (by omega); subst e; exact ih) hP hI hpf h1 h2 hs
set_option maxRecDepth 20000 in
theorem kcX9_bakeAll {l : Launch} {κ : fr_Ka} {w : Int → Int} {μ : fr_Me} (hP : pl_P w μ) (hI : fr_I w) {it : Int → Int} (hla : ∀ f, 0 ≤ f → f < 10 → μ 28 f = wa_w it f - wa_k w (w 0).toNat f)  : fr_C l κ fmX9_bakeAll 10 [fr_r κ 27] μ (fr_Pv (fun n => pi_st w it ((0 + 1) * sp_p6 (w 0).toNat) (n 27 5) (n 30) ∧ (∀ c, c ≠ 27 → c ≠ 28 → c ≠ 29 → c ≠ 30 → n c = μ c) ∧ ∀ q, q ≠ 5 → n 27 q = μ 27 q)) := by
  have iN := hI.n
  have h0 := hi_0 (w := w) (it := it) (la := μ 28) (ro := μ 29) (fd := μ 30) hI hla
  have hLr := fun f => wa_L_rg (w := w) (it := it) (o := sp_dg ((0 : Nat) : Int) 0) (t := 0) iN (by omega) f
  have e28 : (fr_up μ 27 5 0) 28 = μ 28 := gm_uc (by omega)
  have hss : μ 20 0 = pl_ss w (w 0).toNat := by have := hP.ss (i := (w 0).toNat) (Nat.le_refl _); rw [show w 0 - ((w 0).toNat : Int) = 0 by omega] at this; exact this
  have hsr := pl_ss_rg w (w 0).toNat
  have e20 : (fr_up μ 27 5 0) 20 = μ 20 := gm_uc (by omega)
  have hsR : ∀ j : Nat, j ≤ 10 → -10000 ≤ sp_sum j (μ 28) ∧ sp_sum j (μ 28) ≤ 10000 := fun j hj => by have := sp_sum_rg (F := μ 28) (a := -36) (b := 1000) j (fun i i0 i1 => by have q := h0.1.2.2.2.2.2 i i0 (by omega); have r := hLr i; omega); omega
  refine fr_enter (by decide +kernel) (ls := [some (fr_r κ 27), none, none]) rfl (Nat.le_of_ble_eq_true rfl) ?_
  refine fr_al0 dX9_bakeAll_0 ?_
  refine fr_iconst dX9_bakeAll_1 ?_
  refine fr_put (kz := 5) dX9_bakeAll_2 fpX9_83 ⟨by decide, by decide, rfl⟩ rfl rfl (fun h => by cases h) ?_
  refine fr_iconst dX9_bakeAll_5 ?_
  refine fr_is1 dX9_bakeAll_6 rfl (Nat.le_of_ble_eq_true rfl) ?_
  refine fr_iconst dX9_bakeAll_7 ?_
  refine fr_is2 dX9_bakeAll_8 rfl (Nat.le_of_ble_eq_true rfl) ?_
  refine fr_wk ?_ (ls := [some (fr_r κ 27), some (fr_i (sp_sum 0 (μ 28))), some (fr_i (0 : Int))]) ⟨rfl, rfl, rfl, trivial⟩
  refine (fr_down (P := fun j : Nat => (∀ f, 0 ≤ f → f < (j : Int) → 0 ≤ μ 28 f) → fr_A l κ fmX9_bakeAll 10 (fr_Pv (fun n => pi_st w it ((0 + 1) * sp_p6 (w 0).toNat) (n 27 5) (n 30) ∧ (∀ c, c ≠ 27 → c ≠ 28 → c ≠ 29 → c ≠ 30 → n c = μ c) ∧ ∀ q, q ≠ 5 → n 27 q = μ 27 q)) 9 [some (fr_r κ 27), some (fr_i (sp_sum j (μ 28))), some (fr_i (j : Int))] [] (fr_up μ 27 5 0)) 10 ?_ (fun j hj9 ih9 => ?_)) (fun f a b => by omega)
  · skip
    intro hn
    refine fr_il2 dX9_bakeAll_9 ?_
    refine fr_bipush dX9_bakeAll_10 (by decide) ?_
    refine fr_icmp_ge (tgt := 40) dX9_bakeAll_12 (by decide) (by omega) (by omega) (fun h1 => ?_) (fun h1 => ?_)
    · skip
      refine fr_il1 dX9_bakeAll_40 ?_
      refine fr_al0 dX9_bakeAll_41 ?_
      refine fr_getr (cz := 15) dX9_bakeAll_42 flX9_21 ⟨by decide, by decide, rfl⟩ rfl rfl ?_
      refine fr_getr (cz := 20) dX9_bakeAll_45 flX9_55 ⟨by decide, by decide, rfl⟩ rfl rfl ?_
      refine fr_iconst dX9_bakeAll_48 ?_
      refine fr_iald dX9_bakeAll_49 ⟨by decide, by decide, rfl, by decide⟩ (by omega) (by omega) ?_
      have hs10 := hsR 10 (by omega)
      rw [e20]
      refine fr_icmp_ne (tgt := 59) dX9_bakeAll_50 (by decide) (by omega) (by omega) (fun h2 => ?_) (fun h2 => ?_)
      · skip
        have hne := h2
        exact fr_vret dX9_bakeAll_59 rfl (fr_pv ⟨by rw [gm_uk]; exact pi_no hI hla (Or.inr ⟨hn, by omega⟩), fun c h1 _ _ _ => gm_uc h1, fun q h1 => gm_un h1⟩)
      · skip
        have heq := h2
        refine fr_al0 dX9_bakeAll_53 ?_
        refine fr_iconst dX9_bakeAll_54 ?_
        refine fr_iconst dX9_bakeAll_55 ?_
        have hq := kcX9_bakeFrom (l := l) (κ := κ) (it := it) hI (w 0).toNat (fr_up μ 27 5 0) 0 0 0 (hP.keep (fun c c0 c1 => gm_uc (by omega))) (hi_pf_k h0.1 (fun f _ _ => by rw [e28]) (fun s _ _ => by rw [gm_uc (by omega)])) (fun f f0 f1 => by rw [e28]; exact hn f f0 f1) (by rw [e28]; omega) (by rw [gm_uk]; exact pi_0)
        refine fr_cVQ (mi' := fmX9_bakeFrom) dX9_bakeAll_56 mlX9_86 mvX9_bakeFrom ⟨9, _, ⟨by decide, by decide, rfl⟩, rfl, rfl⟩ (by omega) (hq) rfl rfl (Nat.le_of_ble_eq_true rfl) (fun m hm => ?_)
        exact fr_vret dX9_bakeAll_59 rfl (fr_pv ⟨hm.1, fun c h1 h2 h3 h4 => (hm.2.1 c h1 h2 h3 h4).trans (gm_uc h1), fun q h1 => (hm.2.2.1 q h1).trans (gm_un h1)⟩)
    · skip
      exfalso; omega
  · skip
    intro hn
    refine fr_il2 dX9_bakeAll_9 ?_
    refine fr_bipush dX9_bakeAll_10 (by decide) ?_
    refine fr_icmp_ge (tgt := 40) dX9_bakeAll_12 (by decide) (by omega) (by omega) (fun h3 => ?_) (fun h3 => ?_)
    · skip
      exfalso; omega
    · skip
      have hlf := h0.1.2.2.2.2.2 (j : Int) (by omega) (by omega)
      have hLj := hLr (j : Int)
      rw [← e28] at hlf
      refine fr_al0 dX9_bakeAll_15 ?_
      refine fr_getr (cz := 28) dX9_bakeAll_16 flX9_9 ⟨by decide, by decide, rfl⟩ rfl rfl ?_
      refine fr_il2 dX9_bakeAll_19 ?_
      refine fr_iald dX9_bakeAll_20 ⟨by decide, by decide, rfl, by decide⟩ (by omega) (by omega) ?_
      refine fr_if_ge (tgt := 25) dX9_bakeAll_21 (by decide) (by omega) (fun h4 => ?_) (fun h4 => ?_)
      · skip
        have hge := h4
        rw [e28] at hge
        refine fr_il1 dX9_bakeAll_25 ?_
        refine fr_al0 dX9_bakeAll_26 ?_
        refine fr_getr (cz := 28) dX9_bakeAll_27 flX9_9 ⟨by decide, by decide, rfl⟩ rfl rfl ?_
        refine fr_il2 dX9_bakeAll_30 ?_
        refine fr_iald dX9_bakeAll_31 ⟨by decide, by decide, rfl, by decide⟩ (by omega) (by omega) ?_
        refine fr_iadd dX9_bakeAll_32 ?_
        refine fr_is1 dX9_bakeAll_33 rfl (Nat.le_of_ble_eq_true rfl) ?_
        refine fr_ii2 dX9_bakeAll_34 rfl (Nat.le_of_ble_eq_true rfl) ?_
        refine fr_goto (tgt := 9) dX9_bakeAll_37 (by decide) ?_
        rw [e28]
        exact fr_wk (ih9 (fun f f0 f1 => by rcases (by omega : f < (j : Int) ∨ f = (j : Int)) with q | q; (· exact hn f f0 q); (· rw [q]; omega))) ⟨rfl, rfl, rfl, trivial⟩
      · skip
        have hlt := h4
        rw [e28] at hlt
        exact fr_vret dX9_bakeAll_24 rfl (fr_pv ⟨by rw [gm_uk]; exact pi_no hI hla (Or.inl ⟨(j : Int), by omega, by omega, by omega⟩), fun c h1 _ _ _ => gm_uc h1, fun q h1 => gm_un h1⟩)
set_option maxRecDepth 20000 in
theorem kcX9_foundDigits {l : Launch} {κ : fr_Ka} {w : Int → Int} {μ : fr_Me} (hP : pl_P w μ) (hI : fr_I w) {x : Int} (hx : 0 ≤ x ∧ x < sp_p6 (w 0).toNat) (hf : ∀ t, 0 ≤ t → t < w 0 → μ 30 t = sp_dg (w 0) x t)  : fr_C l κ fmX9_foundDigits 1 [fr_r κ 27] μ (fr_Ei x μ) := by
  have iN := hI.n
  have eN := hP.n
  refine fr_enter (by decide +kernel) (ls := [some (fr_r κ 27), none, none]) rfl (Nat.le_of_ble_eq_true rfl) ?_
  refine fr_iconst dX9_foundDigits_0 ?_
  refine fr_is1 dX9_foundDigits_1 rfl (Nat.le_of_ble_eq_true rfl) ?_
  refine fr_iconst dX9_foundDigits_2 ?_
  refine fr_is2 dX9_foundDigits_3 rfl (Nat.le_of_ble_eq_true rfl) ?_
  refine fr_wk ?_ (ls := [some (fr_r κ 27), some (fr_i _), some (fr_i (0 : Int))]) ⟨rfl, rfl, rfl, trivial⟩
  refine (fr_down (P := fun j : Nat => ∀ (v : Int), (v = x / sp_p6 ((w 0).toNat - j)) → fr_A l κ fmX9_foundDigits 1 (fr_Ei x μ) 4 [some (fr_r κ 27), some (fr_i v), some (fr_i (j : Int))] [] μ) (w 0).toNat ?_ (fun j hj4 ih4 => ?_)) _ (by rw [Nat.sub_zero]; exact (Int.ediv_eq_zero_of_lt hx.1 hx.2).symm)
  · skip
    intro v hn
    refine fr_il2 dX9_foundDigits_4 ?_
    refine fr_al0 dX9_foundDigits_5 ?_
    refine fr_getr (cz := 15) dX9_foundDigits_6 flX9_21 ⟨by decide, by decide, rfl⟩ rfl rfl ?_
    refine fr_geti (kz := 8) dX9_foundDigits_9 flX9_36 ⟨by decide, by decide, rfl⟩ rfl rfl ?_
    refine fr_icmp_ge (tgt := 33) dX9_foundDigits_12 (by decide) (by omega) (by omega) (fun h1 => ?_) (fun h1 => ?_)
    · skip
      refine fr_il1 dX9_foundDigits_33 ?_
      exact fr_iret dX9_foundDigits_34 rfl (fr_e (by rw [hn, Nat.sub_self]; simp [sp_p6]) rfl)
    · skip
      exfalso; omega
  · skip
    intro v hn
    refine fr_il2 dX9_foundDigits_4 ?_
    refine fr_al0 dX9_foundDigits_5 ?_
    refine fr_getr (cz := 15) dX9_foundDigits_6 flX9_21 ⟨by decide, by decide, rfl⟩ rfl rfl ?_
    refine fr_geti (kz := 8) dX9_foundDigits_9 flX9_36 ⟨by decide, by decide, rfl⟩ rfl rfl ?_
    refine fr_icmp_ge (tgt := 33) dX9_foundDigits_12 (by decide) (by omega) (by omega) (fun h2 => ?_) (fun h2 => ?_)
    · skip
      exfalso; omega
    · skip
      refine fr_il1 dX9_foundDigits_15 ?_
      refine fr_bipush dX9_foundDigits_16 (by decide) ?_
      refine fr_imul dX9_foundDigits_18 ?_
      refine fr_al0 dX9_foundDigits_19 ?_
      refine fr_getr (cz := 30) dX9_foundDigits_20 flX9_18 ⟨by decide, by decide, rfl⟩ rfl rfl ?_
      refine fr_il2 dX9_foundDigits_23 ?_
      refine fr_iald dX9_foundDigits_24 ⟨by decide, by decide, rfl, by decide⟩ (by omega) (by omega) ?_
      refine fr_iadd dX9_foundDigits_25 ?_
      refine fr_is1 dX9_foundDigits_26 rfl (Nat.le_of_ble_eq_true rfl) ?_
      refine fr_ii2 dX9_foundDigits_27 rfl (Nat.le_of_ble_eq_true rfl) ?_
      refine fr_goto (tgt := 4) dX9_foundDigits_30 (by decide) ?_
      exact fr_wk (ih4 _ (by have hd := fd_dg (N := (w 0).toNat) (by omega) (x := x) (j := j) (by omega); rw [hd, hf _ (by omega) (by omega), hn, show (((w 0).toNat : Nat) : Int) = w 0 by omega])) ⟨rfl, rfl, rfl, trivial⟩
