/-! the class: a game, from a state on -/
set_option maxRecDepth 20000 in
theorem kcX8_outcomeFroms {l : Launch} {κ : fr_Ka} {w : Int → Int} {μ : fr_Me} {set a c s b : Int} {m : Nat} (ih : ∀ m' : Nat, m = m' + 1 → vi_C l κ w set m') (hI : fr_I w) (hr : vi_r a c s) (hb : b = 0 ∨ (b = 1 ∧ ¬ sp_ca w set (sp_bh (vi_st a c s) 30))) (hR : 2 * sp_rk w set (vi_st a c s) + 1 - b ≤ (m : Int)) (hP : pl_P w μ) (hO : μ 31 2 = set) (hM : vi_M w set (μ 32))  : fr_C l κ fmX8_outcomeFrom (2 * m + 3) [fr_r κ 31, fr_i a, fr_i c, fr_i s, fr_i b] μ (fr_Pi (fun z n => z = sp_G w set (vi_st a c s) ∧ vi_M w set (n 32) ∧ ∀ x, x ≠ 32 → n x = μ x)) := by
  have iN := hI.n
  have hsr := vi_st_rg hr
  have hr2 := hr
  unfold vi_r at hr2
  have hrk := sp_rk_rg w set (vi_st a c s)
  obtain ⟨m', hm1⟩ : ∃ m', m = m' + 1 := ⟨m - 1, by omega⟩
  have hC := ih m' hm1
  have hGr := sp_G_rg hI iN.2 (set := set) hsr
  have hTr : -1000000 ≤ μ 32 ((a * 32 + c) * 2 + s) ∧ μ 32 ((a * 32 + c) * 2 + s) ≤ 100000 := by rcases hM a c s hr with e | e <;> (unfold vi_i at e; omega)
  refine fr_enter (by decide +kernel) (ls := [some (fr_r κ 31), some (fr_i a), some (fr_i c), some (fr_i s), some (fr_i b), none, none]) rfl (Nat.le_of_ble_eq_true rfl) ?_
  refine fr_il1 dX8_outcomeFrom_0 ?_
  refine fr_bipush dX8_outcomeFrom_1 (by decide) ?_
  refine fr_imul dX8_outcomeFrom_3 ?_
  refine fr_il2 dX8_outcomeFrom_4 ?_
  refine fr_iadd dX8_outcomeFrom_5 ?_
  refine fr_iconst dX8_outcomeFrom_6 ?_
  refine fr_imul dX8_outcomeFrom_7 ?_
  refine fr_il3 dX8_outcomeFrom_8 ?_
  refine fr_iadd dX8_outcomeFrom_9 ?_
  refine fr_is5 dX8_outcomeFrom_10 rfl (Nat.le_of_ble_eq_true rfl) ?_
  refine fr_al0 dX8_outcomeFrom_12 ?_
  refine fr_getr (cz := 32) dX8_outcomeFrom_13 flX8_9 ⟨by decide, by decide, rfl⟩ rfl rfl ?_
  refine fr_il5 dX8_outcomeFrom_16 ?_
  refine fr_iald dX8_outcomeFrom_18 ⟨by decide, by decide, rfl, by decide⟩ (by omega) (by omega) ?_
  refine fr_ldc dX8_outcomeFrom_19 cnX8_23 ?_
  refine fr_icmp_ne (tgt := 70) dX8_outcomeFrom_21 (by decide) (by omega) (by omega) (fun h1 => ?_) (fun h1 => ?_)
  · skip
    have hne := h1
    refine fr_al0 dX8_outcomeFrom_70 ?_
    refine fr_getr (cz := 32) dX8_outcomeFrom_71 flX8_9 ⟨by decide, by decide, rfl⟩ rfl rfl ?_
    refine fr_il5 dX8_outcomeFrom_74 ?_
    refine fr_iald dX8_outcomeFrom_76 ⟨by decide, by decide, rfl, by decide⟩ (by omega) (by omega) ?_
    exact fr_iret dX8_outcomeFrom_77 rfl (fr_pi ⟨(hM a c s hr).resolve_left hne, hM, fun _ _ => rfl⟩)
  · skip
    refine fr_al0 dX8_outcomeFrom_24 ?_
    refine fr_il1 dX8_outcomeFrom_25 ?_
    refine fr_il2 dX8_outcomeFrom_26 ?_
    refine fr_il3 dX8_outcomeFrom_27 ?_
    refine fr_cVP (mi' := fmX8_sendBest) dX8_outcomeFrom_28 mlX8_34 mvX8_sendBest ⟨8, _, ⟨by decide, by decide, rfl⟩, rfl, rfl⟩ (by omega) (kcX8_sendBest hC (by omega) hr hP hI hO hM) rfl rfl (Nat.le_of_ble_eq_true rfl) (fun z m hm => ?_)
    have hzr : -1000000 ≤ z ∧ z ≤ 50000 := by rcases hm.1 with e | e <;> omega
    refine fr_is6 dX8_outcomeFrom_31 rfl (Nat.le_of_ble_eq_true rfl) ?_
    refine fr_il6 dX8_outcomeFrom_33 ?_
    refine fr_ldc dX8_outcomeFrom_35 cnX8_23 ?_
    refine fr_icmp_ne (tgt := 61) dX8_outcomeFrom_37 (by decide) (by omega) (by omega) (fun h2 => ?_) (fun h2 => ?_)
    · skip
      have hzG : z = sp_G w set (vi_st a c s) := by rcases hm.1 with e | e; (· exact absurd e.2 h2); (· rw [vi_Gc hI hr e.1]; exact e.2.1)
      refine fr_al0 dX8_outcomeFrom_61 ?_
      refine fr_getr (cz := 32) dX8_outcomeFrom_62 flX8_9 ⟨by decide, by decide, rfl⟩ rfl rfl ?_
      refine fr_il5 dX8_outcomeFrom_65 ?_
      refine fr_il6 dX8_outcomeFrom_67 ?_
      refine fr_iast dX8_outcomeFrom_69 ⟨by decide, by decide, rfl, by decide⟩ (by omega) (by omega) ?_
      refine fr_al0 dX8_outcomeFrom_70 ?_
      refine fr_getr (cz := 32) dX8_outcomeFrom_71 flX8_9 ⟨by decide, by decide, rfl⟩ rfl rfl ?_
      refine fr_il5 dX8_outcomeFrom_74 ?_
      refine fr_iald dX8_outcomeFrom_76 ⟨by decide, by decide, rfl, by decide⟩ (by omega) (by omega) ?_
      exact fr_iret dX8_outcomeFrom_77 rfl (fr_pi ⟨by rw [gm_uk]; exact hzG, vi_M_up hm.2.1 hr rfl hzG, fun x hx => by rw [gm_uc hx]; exact hm.2.2 x hx⟩)
    · skip
      have hnc : ¬ sp_ca w set (vi_st a c s) := by rcases hm.1 with e | e; (· exact e.1); (· omega)
      refine fr_il4 dX8_outcomeFrom_40 ?_
      refine fr_if_eq (tgt := 49) dX8_outcomeFrom_42 (by decide) (by omega) (fun h3 => ?_) (fun h3 => ?_)
      · skip
        have hps := vi_ps2 (w := w) hr
        have hnp : ¬ sp_ca w set (sp_bh (vi_st a c (1 - s)) 30) := by intro x; have h3 := (vi_ps2 (w := w) hps.1).2; rw [show 1 - (1 - s) = s by omega] at h3; exact hnc ((vi_ca h3).mp x)
        have hrp : sp_rk w set (vi_st a c (1 - s)) ≤ sp_rk w set (vi_st a c s) := by rw [← vi_rk hps.2]; unfold sp_rk; rw [sp_lf_pass hsr, fr_bF hnc]; have := fr_bR (sp_ca w set (sp_bh (vi_st a c s) 30)); omega
        refine fr_al0 dX8_outcomeFrom_49 ?_
        refine fr_il1 dX8_outcomeFrom_50 ?_
        refine fr_il2 dX8_outcomeFrom_51 ?_
        refine fr_iconst dX8_outcomeFrom_52 ?_
        refine fr_il3 dX8_outcomeFrom_53 ?_
        refine fr_isub dX8_outcomeFrom_54 ?_
        refine fr_iconst dX8_outcomeFrom_55 ?_
        refine fr_cVP (mi' := fmX8_outcomeFrom) dX8_outcomeFrom_56 mlX8_30 mvX8_outcomeFrom ⟨8, _, ⟨by decide, by decide, rfl⟩, rfl, rfl⟩ (by omega) (hC m _ _ _ 1 hps.1 (Or.inr ⟨rfl, hnp⟩) (by omega) (hP.keep (fun c c0 c1 => hm.2.2 c (by omega))) ((congrFun (hm.2.2 31 (by omega)) _).trans hO) hm.2.1) rfl rfl (Nat.le_of_ble_eq_true rfl) (fun z2 m2 hm2 => ?_)
        have hz2 : z2 = sp_G w set (vi_st a c s) := by rw [hm2.1]; exact (vi_Gp hI hr hnc).symm
        refine fr_is6 dX8_outcomeFrom_59 rfl (Nat.le_of_ble_eq_true rfl) ?_
        refine fr_al0 dX8_outcomeFrom_61 ?_
        refine fr_getr (cz := 32) dX8_outcomeFrom_62 flX8_9 ⟨by decide, by decide, rfl⟩ rfl rfl ?_
        refine fr_il5 dX8_outcomeFrom_65 ?_
        refine fr_il6 dX8_outcomeFrom_67 ?_
        refine fr_iast dX8_outcomeFrom_69 ⟨by decide, by decide, rfl, by decide⟩ (by omega) (by omega) ?_
        refine fr_al0 dX8_outcomeFrom_70 ?_
        refine fr_getr (cz := 32) dX8_outcomeFrom_71 flX8_9 ⟨by decide, by decide, rfl⟩ rfl rfl ?_
        refine fr_il5 dX8_outcomeFrom_74 ?_
        refine fr_iald dX8_outcomeFrom_76 ⟨by decide, by decide, rfl, by decide⟩ (by omega) (by omega) ?_
        exact fr_iret dX8_outcomeFrom_77 rfl (fr_pi ⟨by rw [gm_uk]; exact hz2, vi_M_up hm2.2.1 hr rfl hz2, fun x hx => by rw [gm_uc hx]; exact (hm2.2.2 x hx).trans (hm.2.2 x hx)⟩)
      · skip
        have hz0 : (0 : Int) = sp_G w set (vi_st a c s) := by rcases hb with e | e; (· omega); (· exact (vi_G0 hI hr hnc e.2).symm)
        refine fr_iconst dX8_outcomeFrom_45 ?_
        refine fr_goto (tgt := 59) dX8_outcomeFrom_46 (by decide) ?_
        refine fr_is6 dX8_outcomeFrom_59 rfl (Nat.le_of_ble_eq_true rfl) ?_
        refine fr_al0 dX8_outcomeFrom_61 ?_
        refine fr_getr (cz := 32) dX8_outcomeFrom_62 flX8_9 ⟨by decide, by decide, rfl⟩ rfl rfl ?_
        refine fr_il5 dX8_outcomeFrom_65 ?_
        refine fr_il6 dX8_outcomeFrom_67 ?_
        refine fr_iast dX8_outcomeFrom_69 ⟨by decide, by decide, rfl, by decide⟩ (by omega) (by omega) ?_
        refine fr_al0 dX8_outcomeFrom_70 ?_
        refine fr_getr (cz := 32) dX8_outcomeFrom_71 flX8_9 ⟨by decide, by decide, rfl⟩ rfl rfl ?_
        refine fr_il5 dX8_outcomeFrom_74 ?_
        refine fr_iald dX8_outcomeFrom_76 ⟨by decide, by decide, rfl, by decide⟩ (by omega) (by omega) ?_
        exact fr_iret dX8_outcomeFrom_77 rfl (fr_pi ⟨by rw [gm_uk]; exact hz0, vi_M_up hm.2.1 hr rfl hz0, fun x hx => by rw [gm_uc hx]; exact hm.2.2 x hx⟩)
theorem kcX8_outcomeFrom {l : Launch} {κ : fr_Ka} {w : Int → Int} (hI : fr_I w) (set : Int) : ∀ m : Nat, vi_C l κ w set m := by
  intro m
  induction m with
  | zero => intro μ a c s b hr hb hR hP hO hM; exact kcX8_outcomeFroms (fun m' h => by omega) hI hr hb hR hP hO hM
  | succ m ih => intro μ a c s b hr hb hR hP hO hM; exact kcX8_outcomeFroms (fun m' h => by have e : m' = m := (by omega); subst e; exact ih) hI hr hb hR hP hO hM
set_option maxRecDepth 20000 in
theorem kcX8_outcome {l : Launch} {κ : fr_Ka} {w : Int → Int} {μ : fr_Me} (hP : pl_P w μ) (hI : fr_I w) {set : Int}  : fr_C l κ fmX8_outcome 62 [fr_r κ 31, fr_i set] μ (fr_Pi (fun z n => z = sp_G w set 0 ∧ (∀ x, x ≠ 31 → x ≠ 32 → n x = μ x) ∧ ∀ k, k ≠ 2 → n 31 k = μ 31 k)) := by
  have hrk := sp_rk_rg w set (vi_st 0 0 0)
  refine fr_enter (by decide +kernel) (ls := [some (fr_r κ 31), some (fr_i set)]) rfl (Nat.le_of_ble_eq_true rfl) ?_
  refine fr_al0 dX8_outcome_0 ?_
  refine fr_il1 dX8_outcome_1 ?_
  refine fr_put (kz := 2) dX8_outcome_2 fpX8_19 ⟨by decide, by decide, rfl⟩ rfl rfl (fun h => by cases h) ?_
  refine fr_al0 dX8_outcome_5 ?_
  refine fr_getr (cz := 32) dX8_outcome_6 flX8_9 ⟨by decide, by decide, rfl⟩ rfl rfl ?_
  refine fr_ldc dX8_outcome_9 cnX8_23 ?_
  refine fr_cSv (mi' := fmJ7_fill_53178) dX8_outcome_11 mlX8_24 msJ7_fill_53178 (Nat.le_of_ble_eq_true rfl) (kcJ7_fill_53178 (n := 4096) ⟨by decide, by decide, rfl, by decide⟩) rfl rfl (Nat.le_of_ble_eq_true rfl) ?_
  refine fr_al0 dX8_outcome_14 ?_
  refine fr_iconst dX8_outcome_15 ?_
  refine fr_iconst dX8_outcome_16 ?_
  refine fr_iconst dX8_outcome_17 ?_
  refine fr_iconst dX8_outcome_18 ?_
  refine fr_cVP (mi' := fmX8_outcomeFrom) dX8_outcome_19 mlX8_30 mvX8_outcomeFrom ⟨8, _, ⟨by decide, by decide, rfl⟩, rfl, rfl⟩ (Nat.le_of_ble_eq_true rfl) (kcX8_outcomeFrom hI set 29 _ 0 0 0 0 ⟨by omega, by omega, by omega⟩ (Or.inl rfl) (by omega) (hP.keep (fun c c0 c1 => by rw [sp_fill_nc _ _ _ (by omega), gm_uc (by omega)])) (by rw [sp_fill_nc _ _ _ (by omega), gm_uk]) (fun a c s hr => Or.inl (by unfold sp_fill vi_i; unfold vi_r at hr; rw [if_pos ⟨rfl, by omega, by omega⟩]))) rfl rfl (Nat.le_of_ble_eq_true rfl) (fun z m hm => ?_)
  exact fr_iret dX8_outcome_22 rfl (fr_pi ⟨hm.1, fun x h1 h2 => by rw [hm.2.2 x h2, sp_fill_nc _ _ _ h2, gm_uc h1], fun k hk => by rw [hm.2.2 31 (by omega), sp_fill_nc _ _ _ (by omega), gm_un hk]⟩)
