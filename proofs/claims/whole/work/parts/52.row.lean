/-! the class: the row of the best orders -/
set_option maxRecDepth 20000 in
theorem kcX2_firstOfMost {l : Launch} {κ : fr_Ka} {w : Int → Int} {μ : fr_Me} (hP : pl_P w μ) (hI : fr_I w) {t u : Int} (ht : 0 ≤ t ∧ t < w 0) (hu : 0 ≤ u ∧ u ≤ 31) (hB : ∀ k, 0 ≤ k → k < 224 → -5000 ≤ μ 25 k ∧ μ 25 k ≤ 5000)  : fr_C l κ fmX2_firstOfMost 4 [fr_r κ 24, fr_i t, fr_i u] μ (fr_Ei (od_ff (od_fr w (μ 24 5) (μ 24 6) t u) (μ 25 (32 * t + u)) (od_F w (fun x => μ 25 (32 * (t + 1) + x)) t u) 5) μ) := by
  have iN := hI.n
  have hF : ∀ c, 0 ≤ c → c ≤ 5 → -6000 ≤ (od_F w (fun x => μ 25 (32 * (t + 1) + x)) t u) c ∧ (od_F w (fun x => μ 25 (32 * (t + 1) + x)) t u) c ≤ 6000 := fun c c0 c1 => od_F_rg hI hB (by omega) hu ⟨c0, c1⟩
  have hT0 := hB (32 * t + u) (by omega) (by omega)
  have eT : t * 32 + u = 32 * t + u := by omega
  refine fr_enter (by decide +kernel) (ls := [some (fr_r κ 24), some (fr_i t), some (fr_i u), none, none]) rfl (Nat.le_of_ble_eq_true rfl) ?_
  refine fr_al0 dX2_firstOfMost_0 ?_
  refine fr_il1 dX2_firstOfMost_1 ?_
  refine fr_il2 dX2_firstOfMost_2 ?_
  refine fr_cVi (mi' := fmX2_freeAllowed) dX2_firstOfMost_3 mlX2_47 mvX2_freeAllowed ⟨2, _, ⟨by decide, by decide, rfl⟩, rfl, rfl⟩ (Nat.le_of_ble_eq_true rfl) (kcX2_freeAllowed hP hI (by omega)) rfl rfl (Nat.le_of_ble_eq_true rfl) ?_
  refine fr_is3 dX2_firstOfMost_6 rfl (Nat.le_of_ble_eq_true rfl) ?_
  refine fr_iconst dX2_firstOfMost_7 ?_
  refine fr_is4 dX2_firstOfMost_8 rfl (Nat.le_of_ble_eq_true rfl) ?_
  refine fr_wk ?_ (ls := [some (fr_r κ 24), some (fr_i t), some (fr_i u), some (fr_i (od_fr w (μ 24 5) (μ 24 6) t u)), some (fr_i (0 : Int))]) ⟨rfl, rfl, rfl, rfl, rfl, trivial⟩
  refine (fr_down (P := fun j : Nat => ((od_ff (od_fr w (μ 24 5) (μ 24 6) t u) (μ 25 (32 * t + u)) (od_F w (fun x => μ 25 (32 * (t + 1) + x)) t u) 5) = (od_ff (od_fr w (μ 24 5) (μ 24 6) t u) (μ 25 (32 * t + u)) (od_F w (fun x => μ 25 (32 * (t + 1) + x)) t u) (5 - j))) → fr_A l κ fmX2_firstOfMost 4 (fr_Ei (od_ff (od_fr w (μ 24 5) (μ 24 6) t u) (μ 25 (32 * t + u)) (od_F w (fun x => μ 25 (32 * (t + 1) + x)) t u) 5) μ) 10 [some (fr_r κ 24), some (fr_i t), some (fr_i u), some (fr_i (od_fr w (μ 24 5) (μ 24 6) t u)), some (fr_i (j : Int))] [] μ) 5 ?_ (fun j hj10 ih10 => ?_)) (rfl)
  · skip
    intro hn
    refine fr_il4 dX2_firstOfMost_10 ?_
    refine fr_iconst dX2_firstOfMost_12 ?_
    refine fr_icmp_ge (tgt := 56) dX2_firstOfMost_13 (by decide) (by omega) (by omega) (fun h1 => ?_) (fun h1 => ?_)
    · skip
      refine fr_iconst dX2_firstOfMost_56 ?_
      exact fr_iret dX2_firstOfMost_57 rfl (fr_e hn.symm rfl)
    · skip
      exfalso; omega
  · skip
    intro hn
    have hFj := hF j (by omega) (by omega)
    rw [od_ff_s _ _ _ (by omega)] at hn
    refine fr_il4 dX2_firstOfMost_10 ?_
    refine fr_iconst dX2_firstOfMost_12 ?_
    refine fr_icmp_ge (tgt := 56) dX2_firstOfMost_13 (by decide) (by omega) (by omega) (fun h2 => ?_) (fun h2 => ?_)
    · skip
      exfalso; omega
    · skip
      refine fr_il3 dX2_firstOfMost_16 ?_
      refine fr_il4 dX2_firstOfMost_17 ?_
      refine fr_cSi (mi' := fmX10_isIn) dX2_firstOfMost_19 mlX2_54 msX10_isIn (Nat.le_of_ble_eq_true rfl) (kcX10_isIn) rfl rfl (Nat.le_of_ble_eq_true rfl) ?_
      refine fr_ifb_eq (tgt := 50) dX2_firstOfMost_22 (by decide) (fun h3 => ?_) (fun h3 => ?_)
      · skip
        have hin := h3
        unfold sp_in at hin
        refine fr_ii4 dX2_firstOfMost_50 rfl (Nat.le_of_ble_eq_true rfl) ?_
        refine fr_goto (tgt := 10) dX2_firstOfMost_53 (by decide) ?_
        exact fr_wk (ih10 (by rw [if_neg (fun x => hin x.1)] at hn; exact hn)) ⟨rfl, rfl, rfl, rfl, rfl, trivial⟩
      · skip
        have hin := h3
        unfold sp_in at hin
        refine fr_al0 dX2_firstOfMost_25 ?_
        refine fr_il1 dX2_firstOfMost_26 ?_
        refine fr_il2 dX2_firstOfMost_27 ?_
        refine fr_il4 dX2_firstOfMost_28 ?_
        refine fr_cVi (mi' := fmX2_gainFrom) dX2_firstOfMost_30 mlX2_50 mvX2_gainFrom ⟨2, _, ⟨by decide, by decide, rfl⟩, rfl, rfl⟩ (Nat.le_of_ble_eq_true rfl) (kcX2_gainFrom hP hI (by omega) (by omega) (by omega)) rfl rfl (Nat.le_of_ble_eq_true rfl) ?_
        refine fr_al0 dX2_firstOfMost_33 ?_
        refine fr_getr (cz := 25) dX2_firstOfMost_34 flX2_9 ⟨by decide, by decide, rfl⟩ rfl rfl ?_
        refine fr_il1 dX2_firstOfMost_37 ?_
        refine fr_bipush dX2_firstOfMost_38 (by decide) ?_
        refine fr_imul dX2_firstOfMost_40 ?_
        refine fr_il2 dX2_firstOfMost_41 ?_
        refine fr_iadd dX2_firstOfMost_42 ?_
        refine fr_iald dX2_firstOfMost_43 ⟨by decide, by decide, rfl, by decide⟩ (by omega) (by omega) ?_
        rw [eT]
        refine fr_icmp_ne (tgt := 50) dX2_firstOfMost_44 (by decide) (by omega) (by omega) (fun h4 => ?_) (fun h4 => ?_)
        · skip
          have hne := h4
          refine fr_ii4 dX2_firstOfMost_50 rfl (Nat.le_of_ble_eq_true rfl) ?_
          refine fr_goto (tgt := 10) dX2_firstOfMost_53 (by decide) ?_
          exact fr_wk (ih10 (by rw [if_neg (fun x => hne x.2)] at hn; exact hn)) ⟨rfl, rfl, rfl, rfl, rfl, trivial⟩
        · skip
          have heq := h4
          refine fr_il4 dX2_firstOfMost_47 ?_
          exact fr_iret dX2_firstOfMost_49 rfl (fr_e (by rw [if_pos ⟨hin, heq⟩] at hn; exact hn.symm) rfl)
set_option maxRecDepth 20000 in
theorem kcX2_layRow {l : Launch} {κ : fr_Ka} {w : Int → Int} {μ : fr_Me} (hP : pl_P w μ) (hI : fr_I w) {S sh : Int} (hT : od_Tb w S sh (w 0).toNat μ)  : fr_C l κ fmX2_layRow 5 [fr_r κ 24] μ (fr_Pv (fun n => (∀ t, 0 ≤ t → t < w 0 → n 26 t = sp_dg (w 0) (od_R w S sh (w 0).toNat 0) t) ∧ (∀ c, c ≠ 26 → n c = μ c) ∧ ∀ k, 6 ≤ k → n 26 k = μ 26 k)) := by
  have iN := hI.n
  have iM := hI.many
  have hA := fr_shl1_rg (m := w 43) (by omega)
  have hA2 : fr_shl 1 (w 43) ≤ 32 := by have e2 : ∀ m : Fin 6, fr_shl 1 (m.val : Nat) ≤ 32 := (by decide +kernel); have := e2 ⟨(w 43).toNat, by omega⟩; simp only [Int.toNat_of_nonneg iM.1] at this; exact this
  have hR := od_R_rg hI S sh (w 0).toNat 0
  refine fr_enter (by decide +kernel) (ls := [some (fr_r κ 24), none, none]) rfl (Nat.le_of_ble_eq_true rfl) ?_
  refine fr_iconst dX2_layRow_0 ?_
  refine fr_is1 dX2_layRow_1 rfl (Nat.le_of_ble_eq_true rfl) ?_
  refine fr_iconst dX2_layRow_2 ?_
  refine fr_is2 dX2_layRow_3 rfl (Nat.le_of_ble_eq_true rfl) ?_
  refine fr_wk ?_ (ls := [some (fr_r κ 24), some (fr_i _), some (fr_i (0 : Int))]) ⟨rfl, rfl, rfl, trivial⟩
  refine (fr_down (P := fun j : Nat => ∀ (u : Int) (n : fr_Me), (((0 ≤ u ∧ u ≤ (fr_shl 1 (w 43) - 1)) ∧ od_R w S sh (w 0).toNat 0 % sp_p6 ((w 0).toNat - j) = od_R w S sh ((w 0).toNat - j) u) ∧ (∀ t, 0 ≤ t → t < (j : Int) → n 26 t = sp_dg (w 0) (od_R w S sh (w 0).toNat 0) t) ∧ (∀ c, c ≠ 26 → n c = μ c) ∧ ∀ k, 6 ≤ k → n 26 k = μ 26 k) → fr_A l κ fmX2_layRow 5 (fr_Pv (fun n => (∀ t, 0 ≤ t → t < w 0 → n 26 t = sp_dg (w 0) (od_R w S sh (w 0).toNat 0) t) ∧ (∀ c, c ≠ 26 → n c = μ c) ∧ ∀ k, 6 ≤ k → n 26 k = μ 26 k)) 4 [some (fr_r κ 24), some (fr_i u), some (fr_i (j : Int))] [] n) (w 0).toNat ?_ (fun j hj4 ih4 => ?_)) _ _ (⟨⟨by omega, by rw [Nat.sub_zero]; exact Int.emod_eq_of_lt hR.1 hR.2⟩, fun t t0 t1 => by omega, fun _ _ => rfl, fun _ _ => rfl⟩)
  · skip
    intro u n hn
    have hPn : pl_P w n := hP.keep (fun c c0 c1 => hn.2.2.1 c (by omega))
    have eN := hPn.n
    refine fr_il2 dX2_layRow_4 ?_
    refine fr_al0 dX2_layRow_5 ?_
    refine fr_getr (cz := 15) dX2_layRow_6 flX2_18 ⟨by decide, by decide, rfl⟩ rfl rfl ?_
    refine fr_geti (kz := 8) dX2_layRow_9 flX2_35 ⟨by decide, by decide, rfl⟩ rfl rfl ?_
    refine fr_icmp_ge (tgt := 48) dX2_layRow_12 (by decide) (by omega) (by omega) (fun h1 => ?_) (fun h1 => ?_)
    · skip
      exact fr_vret dX2_layRow_48 rfl (fr_pv ⟨fun t t0 t1 => hn.2.1 t t0 (by omega), hn.2.2⟩)
    · skip
      exfalso; omega
  · skip
    intro u n hn
    have hPn : pl_P w n := hP.keep (fun c c0 c1 => hn.2.2.1 c (by omega))
    have eN := hPn.n
    refine fr_il2 dX2_layRow_4 ?_
    refine fr_al0 dX2_layRow_5 ?_
    refine fr_getr (cz := 15) dX2_layRow_6 flX2_18 ⟨by decide, by decide, rfl⟩ rfl rfl ?_
    refine fr_geti (kz := 8) dX2_layRow_9 flX2_35 ⟨by decide, by decide, rfl⟩ rfl rfl ?_
    refine fr_icmp_ge (tgt := 48) dX2_layRow_12 (by decide) (by omega) (by omega) (fun h2 => ?_) (fun h2 => ?_)
    · skip
      exfalso; omega
    · skip
      refine fr_al0 dX2_layRow_15 ?_
      refine fr_getr (cz := 26) dX2_layRow_16 flX2_15 ⟨by decide, by decide, rfl⟩ rfl rfl ?_
      refine fr_il2 dX2_layRow_19 ?_
      refine fr_al0 dX2_layRow_20 ?_
      refine fr_il2 dX2_layRow_21 ?_
      refine fr_il1 dX2_layRow_22 ?_
      refine fr_cVi (mi' := fmX2_firstOfMost) dX2_layRow_23 mlX2_75 mvX2_firstOfMost ⟨2, _, ⟨by decide, by decide, rfl⟩, rfl, rfl⟩ (Nat.le_of_ble_eq_true rfl) (kcX2_firstOfMost hPn hI (by omega) (by omega) (fun k k0 k1 => by rw [hn.2.2.1 25 (by omega)]; exact hT.2.1 k k0 k1)) rfl rfl (Nat.le_of_ble_eq_true rfl) ?_
      have e24 := hn.2.2.1 24 (by omega)
      have e25 := hn.2.2.1 25 (by omega)
      have hc0 : od_ff (od_fr w (n 24 5) (n 24 6) (j : Int) u) (n 25 (32 * (j : Int) + u)) (od_F w (fun x => n 25 (32 * ((j : Int) + 1) + x)) (j : Int) u) 5 = od_c0 w S sh ((w 0).toNat - 1 - j) u := by rw [e24, e25, hT.2.2.1, hT.2.2.2]; exact od_Tb_ff hI hT (i := (w 0).toNat - 1 - j) (by omega) (by omega) hn.1.1
      rw [hc0]
      have hcr := (od_c0_at hI S sh ((w 0).toNat - 1 - j) u).1
      have hcl := od_c0_lt hI (S := S) (sh := sh) (i := (w 0).toNat - 1 - j) (u := u)
      have hrow := od_row hI (S := S) (sh := sh) (i := (w 0).toNat - 1 - j) (u := u) (code := od_R w S sh (w 0).toNat 0) (by omega) (by rw [show (w 0).toNat - 1 - j + 1 = (w 0).toNat - j by omega]; exact hn.1.2)
      refine fr_iast dX2_layRow_26 ⟨by decide, by decide, rfl, by decide⟩ (by omega) (by omega) ?_
      refine fr_al0 dX2_layRow_27 ?_
      refine fr_getr (cz := 15) dX2_layRow_28 flX2_18 ⟨by decide, by decide, rfl⟩ rfl rfl ?_
      refine fr_il1 dX2_layRow_31 ?_
      refine fr_al0 dX2_layRow_32 ?_
      refine fr_getr (cz := 26) dX2_layRow_33 flX2_15 ⟨by decide, by decide, rfl⟩ rfl rfl ?_
      refine fr_il2 dX2_layRow_36 ?_
      refine fr_iald dX2_layRow_37 ⟨by decide, by decide, rfl, by decide⟩ (by omega) (by omega) ?_
      refine fr_cVi (mi' := fmX3_join) dX2_layRow_38 mlX2_66 mvX3_join ⟨3, _, ⟨by decide, by decide, rfl⟩, rfl, rfl⟩ (Nat.le_of_ble_eq_true rfl) (kdX3_join (by rw [gm_uk]; omega)) rfl rfl (Nat.le_of_ble_eq_true rfl) ?_
      rw [gm_uk]
      refine fr_is1 dX2_layRow_41 rfl (Nat.le_of_ble_eq_true rfl) ?_
      refine fr_ii2 dX2_layRow_42 rfl (Nat.le_of_ble_eq_true rfl) ?_
      refine fr_goto (tgt := 4) dX2_layRow_45 (by decide) ?_
      exact fr_wk (ih4 _ _ (⟨⟨od_j_lt hI hn.1.1 hcl, by rw [show (w 0).toNat - (j + 1) = (w 0).toNat - 1 - j by omega]; exact hrow.2⟩, fun t t0 t1 => by rcases (by omega : t < (j : Int) ∨ t = (j : Int)) with q | q; (· rw [gm_un (by omega)]; exact hn.2.1 t t0 q); (· rw [q, gm_uk, ← hrow.1]; congr 1; omega), fun c h1 => by rw [gm_uc h1]; exact hn.2.2.1 c h1, fun q h1 => by rw [gm_un (by omega)]; exact hn.2.2.2 q h1⟩)) ⟨rfl, rfl, rfl, trivial⟩
