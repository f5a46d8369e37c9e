/-! the class: wants, the cheapest -/
theorem wa_L_rg {w it o : Int → Int} {t : Nat} (hN : 0 ≤ w 0 ∧ w 0 ≤ 6) (ht : t ≤ 6) (f : Int) : -36 ≤ wa_L w it o t f ∧ wa_L w it o t f ≤ 1000 := by
  have h1 : 0 ≤ wa_w it f ∧ wa_w it f ≤ 1000 := by
    unfold wa_w sp_nr
    (repeat' split) <;> omega
  have h2 := sp_sum_rg (F := fun t => if sp_br w (w (13 + t)) = f then sp_sb (w (1 + t)) (w (25 + t)) else 0) (a := 0) (b := 2) (w 0).toNat (fun i _ _ => by have := sp_sb_rg (w (1 + i)) (w (25 + i)); split <;> omega)
  have h3 := sp_sum_rg (F := fun s => if sp_br w (o s) = f then sp_sl (w (1 + s)) 0 else 0) (a := 0) (b := 4) t (fun i _ _ => by have := sp_sl_rg (w (1 + i)) 0; split <;> omega)
  unfold wa_L wa_k wa_g
  omega
theorem wa_S_rg {w it o : Int → Int} {t : Nat} (hN : 0 ≤ w 0 ∧ w 0 ≤ 6) (ht : t ≤ 6) : 0 ≤ wa_S (wa_L w it o t) ∧ wa_S (wa_L w it o t) ≤ 10000 := by
  have h := sp_sum_rg (F := fun f => if 0 < wa_L w it o t f then wa_L w it o t f else 0) (a := 0) (b := 1000) 10 (fun i _ _ => by have := wa_L_rg (it := it) (o := o) hN ht i; split <;> omega)
  unfold wa_S
  omega
theorem pl_ss_rg (w : Int → Int) : ∀ i : Nat, 0 ≤ pl_ss w i ∧ pl_ss w i ≤ 4 * i := by
  intro i
  induction i with
  | zero => simp [pl_ss]
  | succ i ih =>
    have := sp_sl_rg (w (1 + (w 0 - 1 - (i : Int)))) 0
    simp only [pl_ss]
    omega
theorem hi_wg_rg {w it : Int → Int} (hI : fr_I w) {j wg : Int} {fd : Int → Int} (h : hi_st w it j wg fd) : 0 ≤ wg ∧ wg ≤ 1000 := by
  rcases h with ⟨a, _⟩ | ⟨bc, _, _, c, _⟩
  · omega
  · have := sp_wg_rg hI (sp_cr (sp_dg (w 0) bc) (w 0) (w 0).toNat)
    unfold sp_W at c
    omega
theorem hi_pf_u {w it : Int → Int} {t i : Nat} {p u : Int} {la ro : Int → Int} (h : hi_pf w it t i p u la ro) : 0 ≤ u ∧ u ≤ 31 := by
  rw [h.2.2.1]; exact nt_u_rg (sp_dg_rg _ _) t
theorem hi_pf_k {w it : Int → Int} {t i : Nat} {p u : Int} {la ro la' ro' : Int → Int} (h : hi_pf w it t i p u la ro) (hl : ∀ f, 0 ≤ f → f < 10 → la' f = la f) (hr : ∀ s, 0 ≤ s → s < (t : Int) → ro' s = ro s) : hi_pf w it t i p u la' ro' :=
  ⟨h.1, h.2.1, h.2.2.1, h.2.2.2.1, fun s s0 s1 => (hr s s0 s1).trans (h.2.2.2.2.1 s s0 s1), fun f f0 f1 => (hl f f0 f1).trans (h.2.2.2.2.2 f f0 f1)⟩
set_option maxRecDepth 20000 in
theorem kcX9_hireFroms {l : Launch} {κ : fr_Ka} {w it : Int → Int} {μ : fr_Me} {t i : Nat} {p u lack : Int} (ih : ∀ (i' : Nat), i = i' + 1 → ∀ (μ : fr_Me) (t : Nat) (p u lack : Int), pl_P w μ → hi_pf w it t i' p u (μ 28) (μ 29) → hi_st w it (p * sp_p6 i') (μ 27 4) (μ 30) → lack = wa_S (wa_L w it (sp_dg (t : Int) p) t) → fr_C l κ fmX9_hireFrom (i' + 3) [fr_r κ 27, fr_i (t : Int), fr_i u, fr_i (sp_wg w u), fr_i lack] μ (fr_Pv (fun n => hi_st w it ((p + 1) * sp_p6 i') (n 27 4) (n 30) ∧ (∀ c, c ≠ 27 → c ≠ 28 → c ≠ 29 → c ≠ 30 → n c = μ c) ∧ (∀ q, q ≠ 4 → n 27 q = μ 27 q) ∧ (∀ f, 0 ≤ f → f < 10 → n 28 f = μ 28 f) ∧ ∀ s, 0 ≤ s → s < (t : Int) → n 29 s = μ 29 s))) (hP : pl_P w μ) (hI : fr_I w) (hpf : hi_pf w it t i p u (μ 28) (μ 29)) (hs : hi_st w it (p * sp_p6 i) (μ 27 4) (μ 30)) (hl : lack = wa_S (wa_L w it (sp_dg (t : Int) p) t))  : fr_C l κ fmX9_hireFrom (i + 3) [fr_r κ 27, fr_i (t : Int), fr_i u, fr_i (sp_wg w u), fr_i lack] μ (fr_Pv (fun n => hi_st w it ((p + 1) * sp_p6 i) (n 27 4) (n 30) ∧ (∀ c, c ≠ 27 → c ≠ 28 → c ≠ 29 → c ≠ 30 → n c = μ c) ∧ (∀ q, q ≠ 4 → n 27 q = μ 27 q) ∧ (∀ f, 0 ≤ f → f < 10 → n 28 f = μ 28 f) ∧ ∀ s, 0 ≤ s → s < (t : Int) → n 29 s = μ 29 s)) := by
  have iN := hI.n
  have iM := hI.many
  have ht1 := hpf.1
  have hu := hi_pf_u hpf
  have hgr := sp_wg_rg hI u
  have hwr := hi_wg_rg hI hs
  have hlr := wa_S_rg (w := w) (it := it) (o := sp_dg (t : Int) p) (t := t) iN (by omega)
  rw [← hl] at hlr
  have hss : μ 20 (t : Int) = pl_ss w i := by have := hP.ss (i := i) (by omega); rw [show w 0 - (i : Int) = (t : Int) by omega] at this; exact this
  have hsr := pl_ss_rg w i
  have eN := hP.n
  refine fr_enter (by decide +kernel) (ls := [some (fr_r κ 27), some (fr_i (t : Int)), some (fr_i u), some (fr_i (sp_wg w u)), some (fr_i lack), none, none, none, none, none, none]) rfl (Nat.le_of_ble_eq_true rfl) ?_
  refine fr_il3 dX9_hireFrom_0 ?_
  refine fr_al0 dX9_hireFrom_1 ?_
  refine fr_geti (kz := 4) dX9_hireFrom_2 flX9_48 ⟨by decide, by decide, rfl⟩ rfl rfl ?_
  refine fr_icmp_ge (tgt := 22) dX9_hireFrom_5 (by decide) (by omega) (by omega) (fun h1 => ?_) (fun h1 => ?_)
  · skip
    exact fr_vret dX9_hireFrom_22 rfl (fr_pv ⟨hi_a hI hpf hs (by omega), fun _ _ _ _ _ => rfl, fun _ _ => rfl, fun _ _ _ => rfl, fun _ _ _ => rfl⟩)
  · skip
    refine fr_il4 dX9_hireFrom_8 ?_
    refine fr_al0 dX9_hireFrom_10 ?_
    refine fr_getr (cz := 15) dX9_hireFrom_11 flX9_21 ⟨by decide, by decide, rfl⟩ rfl rfl ?_
    refine fr_getr (cz := 20) dX9_hireFrom_14 flX9_55 ⟨by decide, by decide, rfl⟩ rfl rfl ?_
    refine fr_il1 dX9_hireFrom_17 ?_
    refine fr_iald dX9_hireFrom_18 ⟨by decide, by decide, rfl, by decide⟩ (by omega) (by omega) ?_
    refine fr_icmp_le (tgt := 23) dX9_hireFrom_19 (by decide) (by omega) (by omega) (fun h2 => ?_) (fun h2 => ?_)
    · skip
      refine fr_il1 dX9_hireFrom_23 ?_
      refine fr_al0 dX9_hireFrom_24 ?_
      refine fr_getr (cz := 15) dX9_hireFrom_25 flX9_21 ⟨by decide, by decide, rfl⟩ rfl rfl ?_
      refine fr_geti (kz := 8) dX9_hireFrom_28 flX9_36 ⟨by decide, by decide, rfl⟩ rfl rfl ?_
      refine fr_icmp_lt (tgt := 55) dX9_hireFrom_31 (by decide) (by omega) (by omega) (fun h3 => ?_) (fun h3 => ?_)
      · skip
        have efr : fr_or (sp_frc (μ 16 (t : Int)) (μ 15 10) u) 32 = (fr_or (sp_frc (fr_and (fr_shl 1 (w 43) - 1) (fr_xor (w (37 + (t : Int))) (-1))) (sp_mk w 6) u) 32) := by rw [(hP.tr (t := (t : Int)) (by omega) (by omega)).1, hP.mk]
        obtain ⟨i', hi1⟩ : ∃ i', i = i' + 1 := ⟨i - 1, by omega⟩
        refine fr_al0 dX9_hireFrom_55 ?_
        refine fr_getr (cz := 15) dX9_hireFrom_56 flX9_21 ⟨by decide, by decide, rfl⟩ rfl rfl ?_
        refine fr_il1 dX9_hireFrom_59 ?_
        refine fr_il2 dX9_hireFrom_60 ?_
        refine fr_cVi (mi' := fmX3_freeFolk) dX9_hireFrom_61 mlX9_64 mvX3_freeFolk ⟨3, _, ⟨by decide, by decide, rfl⟩, rfl, rfl⟩ (by omega) (kcX3_freeFolk (by omega)) rfl rfl (Nat.le_of_ble_eq_true rfl) ?_
        rw [efr]
        refine fr_is5 dX9_hireFrom_64 rfl (Nat.le_of_ble_eq_true rfl) ?_
        refine fr_iconst dX9_hireFrom_66 ?_
        refine fr_is6 dX9_hireFrom_67 rfl (Nat.le_of_ble_eq_true rfl) ?_
        refine fr_wk ?_ (ls := [some (fr_r κ 27), some (fr_i (t : Int)), some (fr_i u), some (fr_i (sp_wg w u)), some (fr_i lack), some (fr_i (fr_or (sp_frc (fr_and (fr_shl 1 (w 43) - 1) (fr_xor (w (37 + (t : Int))) (-1))) (sp_mk w 6) u) 32)), some (fr_i (0 : Int)), none, none, none, none]) ⟨rfl, rfl, rfl, rfl, rfl, rfl, rfl, trivial⟩
        refine (fr_down (P := fun j : Nat => ∀ (n : fr_Me), (hi_pf w it t i p u (n 28) (n 29) ∧ hi_st w it ((6 * p + (j : Int)) * sp_p6 i') (n 27 4) (n 30) ∧ (∀ c, c ≠ 27 → c ≠ 28 → c ≠ 29 → c ≠ 30 → n c = μ c) ∧ (∀ q, q ≠ 4 → n 27 q = μ 27 q) ∧ (∀ f, 0 ≤ f → f < 10 → n 28 f = μ 28 f) ∧ ∀ s, 0 ≤ s → s < (t : Int) → n 29 s = μ 29 s) → fr_A l κ fmX9_hireFrom (i + 3) (fr_Pv (fun n => hi_st w it ((p + 1) * sp_p6 i) (n 27 4) (n 30) ∧ (∀ c, c ≠ 27 → c ≠ 28 → c ≠ 29 → c ≠ 30 → n c = μ c) ∧ (∀ q, q ≠ 4 → n 27 q = μ 27 q) ∧ (∀ f, 0 ≤ f → f < 10 → n 28 f = μ 28 f) ∧ ∀ s, 0 ≤ s → s < (t : Int) → n 29 s = μ 29 s)) 69 [some (fr_r κ 27), some (fr_i (t : Int)), some (fr_i u), some (fr_i (sp_wg w u)), some (fr_i lack), some (fr_i (fr_or (sp_frc (fr_and (fr_shl 1 (w 43) - 1) (fr_xor (w (37 + (t : Int))) (-1))) (sp_mk w 6) u) 32)), some (fr_i (j : Int)), none, none, none, none] [] n) 6 ?_ (fun j hj69 ih69 => ?_)) _ (⟨hpf, by have hx := (hi_pp p 0 i').1; rw [Int.zero_mul] at hx; rw [show 6 * p + ((0 : Nat) : Int) = 6 * p + 0 by omega, hx, Int.add_zero, ← hi1]; exact hs, fun _ _ _ _ _ => rfl, fun _ _ => rfl, fun _ _ _ => rfl, fun _ _ _ => rfl⟩)
        · skip
          intro n hn
          refine fr_il6 dX9_hireFrom_69 ?_
          refine fr_bipush dX9_hireFrom_71 (by decide) ?_
          refine fr_icmp_ge (tgt := 202) dX9_hireFrom_73 (by decide) (by omega) (by omega) (fun h4 => ?_) (fun h4 => ?_)
          · skip
            exact fr_vret dX9_hireFrom_202 rfl (fr_pv ⟨by have hx := (hi_pp p 6 i').1; have hy : (p + 1) * sp_p6 (i' + 1) = (6 * p + 6) * sp_p6 i' := (by simp only [sp_p6]; rw [show 6 * p + 6 = (p + 1) * 6 by omega, Int.mul_comm (sp_p6 i') 6, Int.mul_assoc]); rw [hi1, hy]; exact hn.2.1, hn.2.2⟩)
          · skip
            exfalso; omega
        · skip
          intro n hn
          have hPn : pl_P w n := hP.keep (fun c c0 c1 => hn.2.2.1 c (by omega) (by omega) (by omega) (by omega))
          have hpn : hi_pf w it t (i' + 1) p u (n 28) (n 29) := by rw [← hi1]; exact hn.1
          refine fr_il6 dX9_hireFrom_69 ?_
          refine fr_bipush dX9_hireFrom_71 (by decide) ?_
          refine fr_icmp_ge (tgt := 202) dX9_hireFrom_73 (by decide) (by omega) (by omega) (fun h5 => ?_) (fun h5 => ?_)
          · skip
            exfalso; omega
          · skip
            refine fr_il5 dX9_hireFrom_76 ?_
            refine fr_il6 dX9_hireFrom_78 ?_
            refine fr_cSi (mi' := fmX10_isIn) dX9_hireFrom_80 mlX9_67 msX10_isIn (by omega) (kcX10_isIn) rfl rfl (Nat.le_of_ble_eq_true rfl) ?_
            refine fr_ifb_eq (tgt := 196) dX9_hireFrom_83 (by decide) (fun h6 => ?_) (fun h6 => ?_)
            · skip
              have hin := h6
              refine fr_ii6 dX9_hireFrom_196 rfl (Nat.le_of_ble_eq_true rfl) ?_
              refine fr_goto (tgt := 69) dX9_hireFrom_199 (by decide) ?_
              exact fr_wk (ih69 _ (⟨hn.1, by rw [show 6 * p + ((j + 1 : Nat) : Int) = 6 * p + (j : Int) + 1 by omega]; exact hi_sk hI hpn hn.2.1 (by omega) (fun x => hin ((od_fk_in hI (by omega) (by omega)).mpr x)), hn.2.2⟩)) ⟨rfl, rfl, rfl, rfl, rfl, rfl, rfl, trivial⟩
            · skip
              have hin := h6
              have efk := hPn.fk (c := (j : Int)) (by omega) (by omega)
              have hbr := sp_br_rg hI (j : Int)
              have hfr : 0 ≤ n 22 (j : Int) ∧ n 22 (j : Int) < 10 := by omega
              have e16 := hPn.tr (t := (t : Int)) (by omega) (by omega)
              have hsl := sp_sl_rg (w (1 + (t : Int))) 0
              have e17 := e16.2.1
              have hlf := hn.1.2.2.2.2.2 (n 22 (j : Int)) hfr.1 hfr.2
              have hLr := wa_L_rg (w := w) (it := it) (o := sp_dg (t : Int) p) (t := t) iN (by omega) (n 22 (j : Int))
              refine fr_al0 dX9_hireFrom_86 ?_
              refine fr_getr (cz := 15) dX9_hireFrom_87 flX9_21 ⟨by decide, by decide, rfl⟩ rfl rfl ?_
              refine fr_getr (cz := 22) dX9_hireFrom_90 flX9_71 ⟨by decide, by decide, rfl⟩ rfl rfl ?_
              refine fr_il6 dX9_hireFrom_93 ?_
              refine fr_iald dX9_hireFrom_95 ⟨by decide, by decide, rfl, by decide⟩ (by omega) (by omega) ?_
              refine fr_is7 dX9_hireFrom_96 rfl (Nat.le_of_ble_eq_true rfl) ?_
              refine fr_al0 dX9_hireFrom_98 ?_
              refine fr_getr (cz := 28) dX9_hireFrom_99 flX9_9 ⟨by decide, by decide, rfl⟩ rfl rfl ?_
              refine fr_il7 dX9_hireFrom_102 ?_
              refine fr_iald dX9_hireFrom_104 ⟨by decide, by decide, rfl, by decide⟩ (by omega) (by omega) ?_
              refine fr_is8 dX9_hireFrom_105 rfl (Nat.le_of_ble_eq_true rfl) ?_
              refine fr_il8 dX9_hireFrom_107 ?_
              refine fr_al0 dX9_hireFrom_109 ?_
              refine fr_getr (cz := 15) dX9_hireFrom_110 flX9_21 ⟨by decide, by decide, rfl⟩ rfl rfl ?_
              refine fr_getr (cz := 17) dX9_hireFrom_113 flX9_74 ⟨by decide, by decide, rfl⟩ rfl rfl ?_
              refine fr_il1 dX9_hireFrom_116 ?_
              refine fr_iald dX9_hireFrom_117 ⟨by decide, by decide, rfl, by decide⟩ (by omega) (by omega) ?_
              refine fr_isub dX9_hireFrom_118 ?_
              refine fr_is9 dX9_hireFrom_119 rfl (Nat.le_of_ble_eq_true rfl) ?_
              refine fr_al0 dX9_hireFrom_121 ?_
              refine fr_getr (cz := 28) dX9_hireFrom_122 flX9_9 ⟨by decide, by decide, rfl⟩ rfl rfl ?_
              refine fr_il7 dX9_hireFrom_125 ?_
              refine fr_il9 dX9_hireFrom_127 ?_
              refine fr_iast dX9_hireFrom_129 ⟨by decide, by decide, rfl, by decide⟩ (by omega) (by omega) ?_
              refine fr_al0 dX9_hireFrom_130 ?_
              refine fr_getr (cz := 29) dX9_hireFrom_131 flX9_15 ⟨by decide, by decide, rfl⟩ rfl rfl ?_
              refine fr_il1 dX9_hireFrom_134 ?_
              refine fr_il6 dX9_hireFrom_135 ?_
              refine fr_iast dX9_hireFrom_137 ⟨by decide, by decide, rfl, by decide⟩ (by omega) (by omega) ?_
              refine fr_il4 dX9_hireFrom_138 ?_
              refine fr_iconst dX9_hireFrom_140 ?_
              refine fr_il8 dX9_hireFrom_141 ?_
              refine fr_mmax dX9_hireFrom_143 mxX9_31 (by omega) (by omega) (by omega) (Nat.le_of_ble_eq_true rfl) ?_
              refine fr_isub dX9_hireFrom_146 ?_
              refine fr_iconst dX9_hireFrom_147 ?_
              refine fr_il9 dX9_hireFrom_148 ?_
              refine fr_mmax dX9_hireFrom_150 mxX9_31 (by omega) (by omega) (by omega) (Nat.le_of_ble_eq_true rfl) ?_
              refine fr_iadd dX9_hireFrom_153 ?_
              refine fr_is10 dX9_hireFrom_154 rfl (Nat.le_of_ble_eq_true rfl) ?_
              refine fr_al0 dX9_hireFrom_156 ?_
              refine fr_il1 dX9_hireFrom_157 ?_
              refine fr_iconst dX9_hireFrom_158 ?_
              refine fr_iadd dX9_hireFrom_159 ?_
              refine fr_al0 dX9_hireFrom_160 ?_
              refine fr_getr (cz := 15) dX9_hireFrom_161 flX9_21 ⟨by decide, by decide, rfl⟩ rfl rfl ?_
              refine fr_il2 dX9_hireFrom_164 ?_
              refine fr_il6 dX9_hireFrom_165 ?_
              refine fr_cVi (mi' := fmX3_join) dX9_hireFrom_167 mlX9_77 mvX3_join ⟨3, _, ⟨by decide, by decide, rfl⟩, rfl, rfl⟩ (by omega) (kdX3_join (by omega)) rfl rfl (Nat.le_of_ble_eq_true rfl) ?_
              refine fr_il3 dX9_hireFrom_170 ?_
              refine fr_al0 dX9_hireFrom_171 ?_
              refine fr_getr (cz := 15) dX9_hireFrom_172 flX9_21 ⟨by decide, by decide, rfl⟩ rfl rfl ?_
              refine fr_il2 dX9_hireFrom_175 ?_
              refine fr_il6 dX9_hireFrom_176 ?_
              refine fr_cVi (mi' := fmX3_newWage) dX9_hireFrom_178 mlX9_80 mvX3_newWage ⟨3, _, ⟨by decide, by decide, rfl⟩, rfl, rfl⟩ (by omega) (kcX3_newWagew (hPn.keep (fun c c0 c1 => by rw [gm_uc (by omega), gm_uc (by omega)])) hI (by omega)) rfl rfl (Nat.le_of_ble_eq_true rfl) ?_
              refine fr_iadd dX9_hireFrom_181 ?_
              refine fr_il10 dX9_hireFrom_182 ?_
              rw [← od_wgj hI (u := u) (c := (j : Int)) (by omega)]
              have hnx : hi_pf w it (t + 1) i' (6 * p + (j : Int)) (od_j u (j : Int)) ((fr_up (fr_up n 28 (n 22 (j : Int)) (n 28 (n 22 (j : Int)) - n 17 (t : Int))) 29 (t : Int) (j : Int)) 28) ((fr_up (fr_up n 28 (n 22 (j : Int)) (n 28 (n 22 (j : Int)) - n 17 (t : Int))) 29 (t : Int) (j : Int)) 29) := hi_nx hI hpn (by omega) ((od_fk_in hI (by omega) (by omega)).mp hin) (fun f f0 f1 => by rw [gm_uc (by omega)]; by_cases q : f = n 22 (j : Int); (· rw [q, gm_uk, if_pos efk.1.symm, e16.2.1]); (· rw [gm_un q, if_neg (fun e => q (by rw [efk.1]; exact e.symm))]; omega)) (fun s s0 s1 => by rw [gm_un (by omega), gm_uc (by omega)]) gm_uk
              have hlk : lack - (if 0 < n 28 (n 22 (j : Int)) then n 28 (n 22 (j : Int)) else 0) + (if 0 < n 28 (n 22 (j : Int)) - n 17 (t : Int) then n 28 (n 22 (j : Int)) - n 17 (t : Int) else 0) = wa_S (wa_L w it (sp_dg ((t + 1 : Nat) : Int) (6 * p + (j : Int))) (t + 1)) := by rw [hl, hlf, e16.2.1]; exact (wa_S_s (by omega) (fun f => by rw [wa_L_s, wa_L_eq (hi_dgc (t := t) (by omega) (p := p) (c := (j : Int)) (by omega)).1, (hi_dgc (t := t) (by omega) (p := p) (c := (j : Int)) (by omega)).2, efk.1])).symm
              refine fr_cVQ (mi' := fmX9_hireFrom) dX9_hireFrom_184 mlX9_51 mvX9_hireFrom ⟨9, _, ⟨by decide, by decide, rfl⟩, rfl, rfl⟩ (by omega) (ih i' hi1 _ (t + 1) (6 * p + (j : Int)) (od_j u (j : Int)) _ (hPn.keep (fun c c0 c1 => by rw [gm_uc (by omega), gm_uc (by omega)])) hnx (by rw [gm_uc (by omega), gm_uc (by omega), gm_uc (by omega), gm_uc (by omega)]; exact hn.2.1) hlk) rfl rfl (Nat.le_of_ble_eq_true rfl) (fun m hm => ?_)
              have hla : ∀ f, 0 ≤ f → f < 10 → (fr_up m 28 (n 22 (j : Int)) (n 28 (n 22 (j : Int)))) 28 f = n 28 f := fun f f0 f1 => by by_cases q : f = n 22 (j : Int); (· rw [q, gm_uk]); (· rw [gm_un q, hm.2.2.2.1 f f0 f1, gm_uc (by omega), gm_un q])
              have hro : ∀ s, 0 ≤ s → s < (t : Int) → (fr_up m 28 (n 22 (j : Int)) (n 28 (n 22 (j : Int)))) 29 s = n 29 s := fun s s0 s1 => by rw [gm_uc (by omega), hm.2.2.2.2 s s0 (by omega), gm_un (by omega), gm_uc (by omega)]
              refine fr_al0 dX9_hireFrom_187 ?_
              refine fr_getr (cz := 28) dX9_hireFrom_188 flX9_9 ⟨by decide, by decide, rfl⟩ rfl rfl ?_
              refine fr_il7 dX9_hireFrom_191 ?_
              refine fr_il8 dX9_hireFrom_193 ?_
              refine fr_iast dX9_hireFrom_195 ⟨by decide, by decide, rfl, by decide⟩ (by omega) (by omega) ?_
              refine fr_ii6 dX9_hireFrom_196 rfl (Nat.le_of_ble_eq_true rfl) ?_
              refine fr_goto (tgt := 69) dX9_hireFrom_199 (by decide) ?_
              exact fr_wk (ih69 _ (⟨hi_pf_k hn.1 hla hro, by rw [show 6 * p + ((j + 1 : Nat) : Int) = 6 * p + (j : Int) + 1 by omega, gm_uc (by omega), gm_uc (by omega)]; exact hm.1, fun c h1 h2 h3 h4 => by rw [gm_uc h2, hm.2.1 c h1 h2 h3 h4, gm_uc h3, gm_uc h2]; exact hn.2.2.1 c h1 h2 h3 h4, fun q h1 => by rw [gm_uc (by omega), hm.2.2.1 q h1, gm_uc (by omega), gm_uc (by omega)]; exact hn.2.2.2.1 q h1, fun f f0 f1 => (hla f f0 f1).trans (hn.2.2.2.2.1 f f0 f1), fun s s0 s1 => (hro s s0 s1).trans (hn.2.2.2.2.2 s s0 s1)⟩)) ⟨rfl, rfl, rfl, rfl, rfl, rfl, rfl, trivial⟩
      · skip
        refine fr_al0 dX9_hireFrom_34 ?_
        have hi0 : i = 0 := by omega
        refine fr_il3 dX9_hireFrom_35 ?_
        refine fr_put (kz := 4) dX9_hireFrom_36 fpX9_48 ⟨by decide, by decide, rfl⟩ rfl rfl (fun h => by cases h) ?_
        refine fr_al0 dX9_hireFrom_39 ?_
        refine fr_getr (cz := 29) dX9_hireFrom_40 flX9_15 ⟨by decide, by decide, rfl⟩ rfl rfl ?_
        refine fr_iconst dX9_hireFrom_43 ?_
        refine fr_al0 dX9_hireFrom_44 ?_
        refine fr_getr (cz := 30) dX9_hireFrom_45 flX9_18 ⟨by decide, by decide, rfl⟩ rfl rfl ?_
        refine fr_iconst dX9_hireFrom_48 ?_
        refine fr_bipush dX9_hireFrom_49 (by decide) ?_
        refine fr_acpi dX9_hireFrom_51 cyX9_58 ⟨by decide, by decide, rfl, by decide⟩ ⟨by decide, by decide, rfl, by decide⟩ (by omega) (by omega) (by omega) (by omega) (by omega) (by omega) (Nat.le_of_ble_eq_true rfl) ?_
        exact fr_vret dX9_hireFrom_54 rfl (fr_pv ⟨by subst hi0; rw [sp_cpy_nc _ _ _ _ _ (by omega), gm_uk]; exact hi_c hI hpf hs (by rw [← hl]; simp only [pl_ss] at hss; omega) (by omega) (fun s s0 s1 => by unfold sp_cpy; rw [if_pos ⟨rfl, by omega, by omega⟩, gm_uc (by omega)]; congr 1; omega), fun c h1 h2 h3 h4 => by rw [sp_cpy_nc _ _ _ _ _ h4, gm_uc h1], fun q h1 => by rw [sp_cpy_nc _ _ _ _ _ (by omega), gm_un h1], fun f _ _ => by rw [sp_cpy_nc _ _ _ _ _ (by omega), gm_uc (by omega)], fun s _ _ => by rw [sp_cpy_nc _ _ _ _ _ (by omega), gm_uc (by omega)]⟩)
    · skip
      exact fr_vret dX9_hireFrom_22 rfl (fr_pv ⟨hi_b hI hpf hs (by rw [← hl]; omega), fun _ _ _ _ _ => rfl, fun _ _ => rfl, fun _ _ _ => rfl, fun _ _ _ => rfl⟩)
