/-! the class: nights -/
theorem od_fk_in {w : Int → Int} (hI : fr_I w) {t u c : Int} (hc : 0 ≤ c ∧ c < 6) (ht : 0 ≤ t ∧ t < 32) : sp_in (fr_or (sp_frc (fr_and (fr_shl 1 (w 43) - 1) (fr_xor (w (37 + t)) (-1))) (sp_mk w 6) u) 32) c ↔ sp_v1 w (fr_shl 1 (w 43) - 1) 0 t c u := by
  have hM := hI.many
  rw [bx_or _ _ (by omega)]
  unfold sp_v1
  rcases (by omega : c = 5 ∨ c < 5) with q | q
  · subst q
    exact ⟨fun _ => Or.inl rfl, fun _ => Or.inr (by unfold sp_in; decide)⟩
  · rw [sp_frc_in hI ⟨hc.1, q⟩, bx_all (by omega) (by omega)]
    have h32 : ¬ sp_in 32 c := by
      rcases (by omega : c = 0 ∨ c = 1 ∨ c = 2 ∨ c = 3 ∨ c = 4) with h | h | h | h | h <;> subst h <;> (unfold sp_in; decide)
    constructor
    · rintro (⟨a, b, d⟩ | h)
      · exact Or.inr ⟨⟨hc.1, a⟩, a, b, bx_zero ht, d⟩
      · exact absurd h h32
    · rintro (h | ⟨a, b, d, e, f⟩)
      · omega
      · exact Or.inl ⟨b, d, f⟩
theorem nt_bear {w it : Int → Int} (hI : fr_I w) {t c : Int} : (sp_nr (it t) 10 < 0 ∨ ((0 < sp_sl (w (1 + t)) 0 ∧ sp_br w c = sp_nr (it t) 10) ∨ (0 < sp_sb (w (1 + t)) (w (25 + t)) ∧ sp_br w (w (13 + t)) = sp_nr (it t) 10))) ↔ (it t < 0 ∨ (it t < 10 ∧ 0 < sp_nxt w t (it t) c 0)) := by
  have h1 := sp_br_rg hI c
  have h2 := sp_br_rg hI (w (13 + t))
  have s1 := sp_sl_rg (w (1 + t)) 0
  have s2 := sp_sb_rg (w (1 + t)) (w (25 + t))
  unfold sp_nxt sp_bn sp_nr
  generalize sp_sl (w (1 + t)) 0 = x at *
  generalize sp_sb (w (1 + t)) (w (25 + t)) = y at *
  generalize sp_br w c = p at *
  generalize sp_br w (w (13 + t)) = q at *
  generalize it t = v at *
  (repeat' split) <;> omega
theorem nt_S_z {ok : Int → Int → Int → Prop} {t : Nat} (ht : t < 6) {v k : Int} (h : nt_T ok t k = 0) : nt_S ok t v (k + 1) 0 = nt_S ok t v k 0 := by
  have e : ∀ c, 0 ≤ c → c < 6 → nt_S ok t v k (c + 1) = nt_S ok t v k c := by
    intro c c0 c1
    rw [nt_S_c ht ⟨c0, c1⟩, h]
    by_cases q : ok t k c ∧ od_j k c = v
    · rw [if_pos q]; omega
    · rw [if_neg q]; omega
  rw [← nt_S_6]
  have e0 := e 0 (by omega) (by omega)
  have e1 := e 1 (by omega) (by omega)
  have e2 := e 2 (by omega) (by omega)
  have e3 := e 3 (by omega) (by omega)
  have e4 := e 4 (by omega) (by omega)
  have e5 := e 5 (by omega) (by omega)
  simp only [Int.zero_add, Int.reduceAdd] at e0 e1 e2 e3 e4 e5
  omega
theorem nt_S_cT {ok : Int → Int → Int → Prop} {t : Nat} (ht : t < 6) {v k c : Int} (hc : 0 ≤ c ∧ c < 6) (h : ok t k c) (hv : od_j k c = v) : nt_S ok t v k (c + 1) = nt_S ok t v k c + nt_T ok t k := by
  rw [nt_S_c ht hc, if_pos ⟨h, hv⟩]
theorem nt_S_cN {ok : Int → Int → Int → Prop} {t : Nat} (ht : t < 6) {v k c : Int} (hc : 0 ≤ c ∧ c < 6) (h : ¬ (ok t k c ∧ od_j k c = v)) : nt_S ok t v k (c + 1) = nt_S ok t v k c := by
  rw [nt_S_c ht hc, if_neg h]; omega
theorem nt_put {w it : Int → Int} {t : Nat} {u : Int} {μ n : fr_Me} {j : Nat} {x y : Int} (h : (∀ v, 0 ≤ v → v ≤ 31 → n 25 (32 * ((t : Int) + 1) + v) = nt_S (nt_ok w it (fr_shl 1 (w 43) - 1)) t v u (j : Int)) ∧ (∀ k, (k < 32 * ((t : Int) + 1) ∨ 32 * ((t : Int) + 1) + 32 ≤ k) → n 25 k = μ 25 k) ∧ ∀ c, c ≠ 25 → n c = μ c) (ht : t < 6) (hj : j < 6) (hu : 0 ≤ u ∧ u ≤ 31) (ho : (nt_ok w it (fr_shl 1 (w 43) - 1)) t u j) (hx : x = 32 * ((t : Int) + 1) + od_j u j) (hy : y = n 25 x + nt_T (nt_ok w it (fr_shl 1 (w 43) - 1)) t u) : (∀ v, 0 ≤ v → v ≤ 31 → (fr_up n 25 x y) 25 (32 * ((t : Int) + 1) + v) = nt_S (nt_ok w it (fr_shl 1 (w 43) - 1)) t v u ((j + 1 : Nat) : Int)) ∧ (∀ k, (k < 32 * ((t : Int) + 1) ∨ 32 * ((t : Int) + 1) + 32 ≤ k) → (fr_up n 25 x y) 25 k = μ 25 k) ∧ ∀ c, c ≠ 25 → (fr_up n 25 x y) c = μ c := by
  obtain ⟨a, b, c⟩ := h
  have hr := od_j_rg (c := (j : Int)) hu (by omega)
  refine ⟨fun v v0 v1 => ?_, fun k hk => ?_, fun d hd => ?_⟩
  · rw [show ((j + 1 : Nat) : Int) = (j : Int) + 1 by omega]
    by_cases q : od_j u j = v
    · rw [nt_S_cT ht (by omega) ho q, ← a v v0 v1, show 32 * ((t : Int) + 1) + v = x by omega, gm_uk, hy]
    · rw [nt_S_cN ht (by omega) (fun e => q e.2), gm_un (by omega)]; exact a v v0 v1
  · rw [gm_un (by omega)]; exact b k hk
  · rw [gm_uc hd]; exact c d hd
theorem nt_skip {w it : Int → Int} {t : Nat} {u : Int} {μ n : fr_Me} {j : Nat} (h : (∀ v, 0 ≤ v → v ≤ 31 → n 25 (32 * ((t : Int) + 1) + v) = nt_S (nt_ok w it (fr_shl 1 (w 43) - 1)) t v u (j : Int)) ∧ (∀ k, (k < 32 * ((t : Int) + 1) ∨ 32 * ((t : Int) + 1) + 32 ≤ k) → n 25 k = μ 25 k) ∧ ∀ c, c ≠ 25 → n c = μ c) (ht : t < 6) (hj : j < 6) (ho : ¬ (nt_ok w it (fr_shl 1 (w 43) - 1)) t u j) : (∀ v, 0 ≤ v → v ≤ 31 → n 25 (32 * ((t : Int) + 1) + v) = nt_S (nt_ok w it (fr_shl 1 (w 43) - 1)) t v u ((j + 1 : Nat) : Int)) ∧ (∀ k, (k < 32 * ((t : Int) + 1) ∨ 32 * ((t : Int) + 1) + 32 ≤ k) → n 25 k = μ 25 k) ∧ ∀ c, c ≠ 25 → n c = μ c := by
  obtain ⟨a, b, c⟩ := h
  refine ⟨fun v v0 v1 => ?_, b, c⟩
  rw [show ((j + 1 : Nat) : Int) = (j : Int) + 1 by omega, nt_S_cN ht (by omega) (fun e => ho e.1)]
  exact a v v0 v1
set_option maxRecDepth 20000 in
theorem kcX2_spreadWays {l : Launch} {κ : fr_Ka} {w : Int → Int} {μ : fr_Me} (hP : pl_P w μ) (hI : fr_I w) {it : Int → Int} {t : Nat} {u : Int} (ht : (t : Int) < w 0) (hu : 0 ≤ u ∧ u ≤ 31) (hS : ∀ v, 0 ≤ v → v ≤ 31 → μ 25 (32 * ((t : Int) + 1) + v) = nt_S (nt_ok w it (fr_shl 1 (w 43) - 1)) t v u 0) (hT : μ 25 (32 * (t : Int) + u) = nt_T (nt_ok w it (fr_shl 1 (w 43) - 1)) t u)  : fr_C l κ fmX2_spreadWays 4 [fr_r κ 24, fr_i (t : Int), fr_i u, fr_i (sp_nr (it (t : Int)) 10)] μ (fr_Pv (fun n => (∀ v, 0 ≤ v → v ≤ 31 → n 25 (32 * ((t : Int) + 1) + v) = nt_S (nt_ok w it (fr_shl 1 (w 43) - 1)) t v (u + 1) 0) ∧ (∀ k, (k < 32 * ((t : Int) + 1) ∨ 32 * ((t : Int) + 1) + 32 ≤ k) → n 25 k = μ 25 k) ∧ ∀ c, c ≠ 25 → n c = μ c)) := by
  have iN := hI.n
  have iM := hI.many
  have e0 := hP.tr (t := (t : Int)) (by omega) (by omega)
  have efr : fr_or (sp_frc (μ 16 (t : Int)) (μ 15 10) u) 32 = fr_or (sp_frc (fr_and (fr_shl 1 (w 43) - 1) (fr_xor (w (37 + (t : Int))) (-1))) (sp_mk w 6) u) 32 := by rw [e0.1, hP.mk]
  refine fr_enter (by decide +kernel) (ls := [some (fr_r κ 24), some (fr_i (t : Int)), some (fr_i u), some (fr_i (sp_nr (it (t : Int)) 10)), none, none]) rfl (Nat.le_of_ble_eq_true rfl) ?_
  refine fr_al0 dX2_spreadWays_0 ?_
  refine fr_getr (cz := 15) dX2_spreadWays_1 flX2_18 ⟨by decide, by decide, rfl⟩ rfl rfl ?_
  refine fr_il1 dX2_spreadWays_4 ?_
  refine fr_il2 dX2_spreadWays_5 ?_
  refine fr_cVi (mi' := fmX3_freeFolk) dX2_spreadWays_6 mlX2_97 mvX3_freeFolk ⟨3, _, ⟨by decide, by decide, rfl⟩, rfl, rfl⟩ (Nat.le_of_ble_eq_true rfl) (kcX3_freeFolk (by omega)) rfl rfl (Nat.le_of_ble_eq_true rfl) ?_
  rw [efr]
  refine fr_is4 dX2_spreadWays_9 rfl (Nat.le_of_ble_eq_true rfl) ?_
  refine fr_iconst dX2_spreadWays_11 ?_
  refine fr_is5 dX2_spreadWays_12 rfl (Nat.le_of_ble_eq_true rfl) ?_
  refine fr_wk ?_ (ls := [some (fr_r κ 24), some (fr_i (t : Int)), some (fr_i u), some (fr_i (sp_nr (it (t : Int)) 10)), some (fr_i (fr_or (sp_frc (fr_and (fr_shl 1 (w 43) - 1) (fr_xor (w (37 + (t : Int))) (-1))) (sp_mk w 6) u) 32)), some (fr_i (0 : Int))]) ⟨rfl, rfl, rfl, rfl, rfl, rfl, trivial⟩
  refine (fr_down (P := fun j : Nat => ∀ (n : fr_Me), ((∀ v, 0 ≤ v → v ≤ 31 → n 25 (32 * ((t : Int) + 1) + v) = nt_S (nt_ok w it (fr_shl 1 (w 43) - 1)) t v u (j : Int)) ∧ (∀ k, (k < 32 * ((t : Int) + 1) ∨ 32 * ((t : Int) + 1) + 32 ≤ k) → n 25 k = μ 25 k) ∧ ∀ c, c ≠ 25 → n c = μ c) → fr_A l κ fmX2_spreadWays 4 (fr_Pv (fun n => (∀ v, 0 ≤ v → v ≤ 31 → n 25 (32 * ((t : Int) + 1) + v) = nt_S (nt_ok w it (fr_shl 1 (w 43) - 1)) t v (u + 1) 0) ∧ (∀ k, (k < 32 * ((t : Int) + 1) ∨ 32 * ((t : Int) + 1) + 32 ≤ k) → n 25 k = μ 25 k) ∧ ∀ c, c ≠ 25 → n c = μ c)) 14 [some (fr_r κ 24), some (fr_i (t : Int)), some (fr_i u), some (fr_i (sp_nr (it (t : Int)) 10)), some (fr_i (fr_or (sp_frc (fr_and (fr_shl 1 (w 43) - 1) (fr_xor (w (37 + (t : Int))) (-1))) (sp_mk w 6) u) 32)), some (fr_i (j : Int))] [] n) 6 ?_ (fun j hj14 ih14 => ?_)) _ (⟨hS, fun _ _ => rfl, fun _ _ => rfl⟩)
  · skip
    intro n hn
    refine fr_il5 dX2_spreadWays_14 ?_
    refine fr_bipush dX2_spreadWays_16 (by decide) ?_
    refine fr_icmp_ge (tgt := 91) dX2_spreadWays_18 (by decide) (by omega) (by omega) (fun h1 => ?_) (fun h1 => ?_)
    · skip
      exact fr_vret dX2_spreadWays_91 rfl (fr_pv ⟨fun v v0 v1 => (hn.1 v v0 v1).trans nt_S_6, hn.2⟩)
    · skip
      exfalso; omega
  · skip
    intro n hn
    have hPn : pl_P w n := hP.keep (fun c c0 c1 => hn.2.2 c (by omega))
    have e16 := (hPn.tr (t := (t : Int)) (by omega) (by omega))
    have efk := hPn.fk (c := (j : Int)) (by omega) (by omega)
    have s1 := sp_sl_rg (w (1 + (t : Int))) 0
    have s2 := sp_sb_rg (w (1 + (t : Int))) (w (25 + (t : Int)))
    have s3 := sp_br_rg hI (j : Int)
    have s4 := sp_br_rg hI (w (13 + (t : Int)))
    have hjr := od_j_rg (c := (j : Int)) hu (by omega)
    have snr : -1 ≤ sp_nr (it (t : Int)) 10 ∧ sp_nr (it (t : Int)) 10 ≤ 10 := by unfold sp_nr; split <;> (try split) <;> omega
    refine fr_il5 dX2_spreadWays_14 ?_
    refine fr_bipush dX2_spreadWays_16 (by decide) ?_
    refine fr_icmp_ge (tgt := 91) dX2_spreadWays_18 (by decide) (by omega) (by omega) (fun h2 => ?_) (fun h2 => ?_)
    · skip
      exfalso; omega
    · skip
      refine fr_il4 dX2_spreadWays_21 ?_
      refine fr_il5 dX2_spreadWays_23 ?_
      refine fr_cSi (mi' := fmX10_isIn) dX2_spreadWays_25 mlX2_54 msX10_isIn (Nat.le_of_ble_eq_true rfl) (kcX10_isIn) rfl rfl (Nat.le_of_ble_eq_true rfl) ?_
      refine fr_ifb_eq (tgt := 85) dX2_spreadWays_28 (by decide) (fun h3 => ?_) (fun h3 => ?_)
      · skip
        have hin := h3
        refine fr_ii5 dX2_spreadWays_85 rfl (Nat.le_of_ble_eq_true rfl) ?_
        refine fr_goto (tgt := 14) dX2_spreadWays_88 (by decide) ?_
        exact fr_wk (ih14 _ (nt_skip hn (by omega) (by omega) (fun x => hin ((od_fk_in hI (by omega) (by omega)).mpr x.1)))) ⟨rfl, rfl, rfl, rfl, rfl, rfl, trivial⟩
      · skip
        have hin := h3
        refine fr_il3 dX2_spreadWays_31 ?_
        refine fr_if_lt (tgt := 49) dX2_spreadWays_32 (by decide) (by omega) (fun h4 => ?_) (fun h4 => ?_)
        · skip
          have hneg := h4
          refine fr_al0 dX2_spreadWays_49 ?_
          refine fr_getr (cz := 25) dX2_spreadWays_50 flX2_9 ⟨by decide, by decide, rfl⟩ rfl rfl ?_
          refine fr_il1 dX2_spreadWays_53 ?_
          refine fr_iconst dX2_spreadWays_54 ?_
          refine fr_iadd dX2_spreadWays_55 ?_
          refine fr_bipush dX2_spreadWays_56 (by decide) ?_
          refine fr_imul dX2_spreadWays_58 ?_
          refine fr_al0 dX2_spreadWays_59 ?_
          refine fr_getr (cz := 15) dX2_spreadWays_60 flX2_18 ⟨by decide, by decide, rfl⟩ rfl rfl ?_
          refine fr_il2 dX2_spreadWays_63 ?_
          refine fr_il5 dX2_spreadWays_64 ?_
          refine fr_cVi (mi' := fmX3_join) dX2_spreadWays_66 mlX2_66 mvX3_join ⟨3, _, ⟨by decide, by decide, rfl⟩, rfl, rfl⟩ (Nat.le_of_ble_eq_true rfl) (kdX3_join (by omega)) rfl rfl (Nat.le_of_ble_eq_true rfl) ?_
          refine fr_iadd dX2_spreadWays_69 ?_
          refine fr_dup2 dX2_spreadWays_70 rfl rfl ?_
          refine fr_iald dX2_spreadWays_71 ⟨by decide, by decide, rfl, by decide⟩ (by omega) (by omega) ?_
          refine fr_al0 dX2_spreadWays_72 ?_
          refine fr_getr (cz := 25) dX2_spreadWays_73 flX2_9 ⟨by decide, by decide, rfl⟩ rfl rfl ?_
          refine fr_il1 dX2_spreadWays_76 ?_
          refine fr_bipush dX2_spreadWays_77 (by decide) ?_
          refine fr_imul dX2_spreadWays_79 ?_
          refine fr_il2 dX2_spreadWays_80 ?_
          refine fr_iadd dX2_spreadWays_81 ?_
          refine fr_iald dX2_spreadWays_82 ⟨by decide, by decide, rfl, by decide⟩ (by omega) (by omega) ?_
          refine fr_iadd dX2_spreadWays_83 ?_
          refine fr_iast dX2_spreadWays_84 ⟨by decide, by decide, rfl, by decide⟩ (by omega) (by omega) ?_
          refine fr_ii5 dX2_spreadWays_85 rfl (Nat.le_of_ble_eq_true rfl) ?_
          refine fr_goto (tgt := 14) dX2_spreadWays_88 (by decide) ?_
          exact fr_wk (ih14 _ (nt_put hn (by omega) (by omega) hu ⟨(od_fk_in hI (by omega) (by omega)).mp hin, (nt_bear hI).mp (Or.inl hneg)⟩ (by omega) (by rw [show (t : Int) * 32 + u = 32 * (t : Int) + u by omega, hn.2.1 (32 * (t : Int) + u) (by omega), hT]))) ⟨rfl, rfl, rfl, rfl, rfl, rfl, trivial⟩
        · skip
          refine fr_al0 dX2_spreadWays_35 ?_
          refine fr_getr (cz := 15) dX2_spreadWays_36 flX2_18 ⟨by decide, by decide, rfl⟩ rfl rfl ?_
          refine fr_il1 dX2_spreadWays_39 ?_
          refine fr_il5 dX2_spreadWays_40 ?_
          refine fr_il3 dX2_spreadWays_42 ?_
          refine fr_cVi (mi' := fmX3_wouldBear) dX2_spreadWays_43 mlX2_100 mvX3_wouldBear ⟨3, _, ⟨by decide, by decide, rfl⟩, rfl, rfl⟩ (Nat.le_of_ble_eq_true rfl) (kcX3_wouldBear (by omega) (by omega) (by rw [e16.2.1]; omega) (by rw [e16.2.2.1]; omega) (by rw [e16.2.2.2]; omega) (by rw [efk.1]; omega) (by omega)) rfl rfl (Nat.le_of_ble_eq_true rfl) ?_
          refine fr_ifb_eq (tgt := 85) dX2_spreadWays_46 (by decide) (fun h5 => ?_) (fun h5 => ?_)
          · skip
            have hwb := h5
            rw [e16.2.1, e16.2.2.1, e16.2.2.2, efk.1] at hwb
            refine fr_ii5 dX2_spreadWays_85 rfl (Nat.le_of_ble_eq_true rfl) ?_
            refine fr_goto (tgt := 14) dX2_spreadWays_88 (by decide) ?_
            exact fr_wk (ih14 _ (nt_skip hn (by omega) (by omega) (fun x => by have e := (nt_bear hI).mpr x.2; rcases e with e | e; (· omega); (· exact hwb e)))) ⟨rfl, rfl, rfl, rfl, rfl, rfl, trivial⟩
          · skip
            have hwb := h5
            rw [e16.2.1, e16.2.2.1, e16.2.2.2, efk.1] at hwb
            refine fr_al0 dX2_spreadWays_49 ?_
            refine fr_getr (cz := 25) dX2_spreadWays_50 flX2_9 ⟨by decide, by decide, rfl⟩ rfl rfl ?_
            refine fr_il1 dX2_spreadWays_53 ?_
            refine fr_iconst dX2_spreadWays_54 ?_
            refine fr_iadd dX2_spreadWays_55 ?_
            refine fr_bipush dX2_spreadWays_56 (by decide) ?_
            refine fr_imul dX2_spreadWays_58 ?_
            refine fr_al0 dX2_spreadWays_59 ?_
            refine fr_getr (cz := 15) dX2_spreadWays_60 flX2_18 ⟨by decide, by decide, rfl⟩ rfl rfl ?_
            refine fr_il2 dX2_spreadWays_63 ?_
            refine fr_il5 dX2_spreadWays_64 ?_
            refine fr_cVi (mi' := fmX3_join) dX2_spreadWays_66 mlX2_66 mvX3_join ⟨3, _, ⟨by decide, by decide, rfl⟩, rfl, rfl⟩ (Nat.le_of_ble_eq_true rfl) (kdX3_join (by omega)) rfl rfl (Nat.le_of_ble_eq_true rfl) ?_
            refine fr_iadd dX2_spreadWays_69 ?_
            refine fr_dup2 dX2_spreadWays_70 rfl rfl ?_
            refine fr_iald dX2_spreadWays_71 ⟨by decide, by decide, rfl, by decide⟩ (by omega) (by omega) ?_
            refine fr_al0 dX2_spreadWays_72 ?_
            refine fr_getr (cz := 25) dX2_spreadWays_73 flX2_9 ⟨by decide, by decide, rfl⟩ rfl rfl ?_
            refine fr_il1 dX2_spreadWays_76 ?_
            refine fr_bipush dX2_spreadWays_77 (by decide) ?_
            refine fr_imul dX2_spreadWays_79 ?_
            refine fr_il2 dX2_spreadWays_80 ?_
            refine fr_iadd dX2_spreadWays_81 ?_
            refine fr_iald dX2_spreadWays_82 ⟨by decide, by decide, rfl, by decide⟩ (by omega) (by omega) ?_
            refine fr_iadd dX2_spreadWays_83 ?_
            refine fr_iast dX2_spreadWays_84 ⟨by decide, by decide, rfl, by decide⟩ (by omega) (by omega) ?_
            refine fr_ii5 dX2_spreadWays_85 rfl (Nat.le_of_ble_eq_true rfl) ?_
            refine fr_goto (tgt := 14) dX2_spreadWays_88 (by decide) ?_
            exact fr_wk (ih14 _ (nt_put hn (by omega) (by omega) hu ⟨(od_fk_in hI (by omega) (by omega)).mp hin, (nt_bear hI).mp (Or.inr hwb)⟩ (by omega) (by rw [show (t : Int) * 32 + u = 32 * (t : Int) + u by omega, hn.2.1 (32 * (t : Int) + u) (by omega), hT]))) ⟨rfl, rfl, rfl, rfl, rfl, rfl, trivial⟩
