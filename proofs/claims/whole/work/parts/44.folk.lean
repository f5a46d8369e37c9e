/-! the class: a plan's folk -/
def sp_pw (w : Int → Int) (c : Int) : Int := if c < w 43 then w (54 + c) else 0
def sp_mk (w : Int → Int) : Nat → Int
  | 0 => 0
  | j + 1 => if (j : Int) < w 43 then fr_or (sp_mk w j) (if w (44 + j) = 2 then fr_shl 1 j else 0) else sp_mk w j
theorem fk_keep {w : Int → Int} {μ n m : fr_Me} {j : Nat} (hn : (∀ c, 0 ≤ c → c < (j : Int) → n 22 c = sp_br w c ∧ n 23 c = sp_pw w c) ∧ n 15 10 = sp_mk w j ∧ (∀ c, c ≠ 22 → c ≠ 23 → c ≠ 15 → n c = μ c) ∧ ∀ k, k ≠ 10 → n 15 k = μ 15 k) (h22 : ∀ c, c ≠ (j : Int) → m 22 c = n 22 c) (h22j : m 22 j = sp_br w j) (h23 : ∀ c, c ≠ (j : Int) → m 23 c = n 23 c) (h23j : m 23 j = sp_pw w j) (h15 : m 15 10 = sp_mk w (j + 1)) (h15k : ∀ k, k ≠ 10 → m 15 k = n 15 k) (hc : ∀ c, c ≠ 22 → c ≠ 23 → c ≠ 15 → m c = n c) : (∀ c, 0 ≤ c → c < ((j + 1 : Nat) : Int) → m 22 c = sp_br w c ∧ m 23 c = sp_pw w c) ∧ m 15 10 = sp_mk w (j + 1) ∧ (∀ c, c ≠ 22 → c ≠ 23 → c ≠ 15 → m c = μ c) ∧ ∀ k, k ≠ 10 → m 15 k = μ 15 k := by
  refine ⟨fun c c0 c1 => ?_, h15, fun c a b d => (hc c a b d).trans (hn.2.2.1 c a b d), fun k hk => (h15k k hk).trans (hn.2.2.2 k hk)⟩
  rcases (by omega : c < (j : Int) ∨ c = (j : Int)) with e | e
  · rw [h22 c (by omega), h23 c (by omega)]
    exact hn.1 c c0 e
  · subst e
    exact ⟨h22j, h23j⟩
set_option maxRecDepth 20000 in
theorem kcX3_layFolk {l : Launch} {κ : fr_Ka} {w : Int → Int} {μ : fr_Me} (hG : fr_G w μ) (hI : fr_I w)  : fr_C l κ fmX3_layFolk 4 [fr_r κ 15, fr_r κ 1] μ (fr_Pv (fun n => (∀ c, 0 ≤ c → c < 6 → n 22 c = sp_br w c ∧ n 23 c = sp_pw w c) ∧ n 15 10 = sp_mk w 6 ∧ (∀ c, c ≠ 22 → c ≠ 23 → c ≠ 15 → n c = μ c) ∧ ∀ k, k ≠ 10 → n 15 k = μ 15 k)) := by
  have iM := hI.many
  refine fr_enter (by decide +kernel) (ls := [some (fr_r κ 15), some (fr_r κ 1), none]) rfl (Nat.le_of_ble_eq_true rfl) ?_
  refine fr_al0 dX3_layFolk_0 ?_
  refine fr_iconst dX3_layFolk_1 ?_
  refine fr_put (kz := 10) dX3_layFolk_2 fpX3_57 ⟨by decide, by decide, rfl⟩ rfl rfl (fun h => by cases h) ?_
  refine fr_iconst dX3_layFolk_5 ?_
  refine fr_is2 dX3_layFolk_6 rfl (Nat.le_of_ble_eq_true rfl) ?_
  refine fr_wk ?_ (ls := [some (fr_r κ 15), some (fr_r κ 1), some (fr_i (0 : Int))]) ⟨rfl, rfl, rfl, trivial⟩
  refine (fr_down (P := fun j : Nat => ∀ (n : fr_Me), ((∀ c, 0 ≤ c → c < (j : Int) → n 22 c = sp_br w c ∧ n 23 c = sp_pw w c) ∧ n 15 10 = sp_mk w j ∧ (∀ c, c ≠ 22 → c ≠ 23 → c ≠ 15 → n c = μ c) ∧ ∀ k, k ≠ 10 → n 15 k = μ 15 k) → fr_A l κ fmX3_layFolk 4 (fr_Pv (fun n => (∀ c, 0 ≤ c → c < 6 → n 22 c = sp_br w c ∧ n 23 c = sp_pw w c) ∧ n 15 10 = sp_mk w 6 ∧ (∀ c, c ≠ 22 → c ≠ 23 → c ≠ 15 → n c = μ c) ∧ ∀ k, k ≠ 10 → n 15 k = μ 15 k)) 7 [some (fr_r κ 15), some (fr_r κ 1), some (fr_i (j : Int))] [] n) 6 ?_ (fun j hj7 ih7 => ?_)) _ (⟨fun c _ _ => by omega, gm_uk, fun c _ _ h => gm_uc h, fun k h => gm_un h⟩)
  · skip
    intro n hn
    refine fr_il2 dX3_layFolk_7 ?_
    refine fr_bipush dX3_layFolk_8 (by decide) ?_
    refine fr_icmp_ge (tgt := 88) dX3_layFolk_10 (by decide) (by omega) (by omega) (fun h1 => ?_) (fun h1 => ?_)
    · skip
      exact fr_vret dX3_layFolk_88 rfl (fr_pv hn)
    · skip
      exfalso; omega
  · skip
    intro n hn
    have hGn : fr_G w n := hG.keep (fun c hc => hn.2.2.1 c (by omega) (by omega) (by omega))
    refine fr_il2 dX3_layFolk_7 ?_
    refine fr_bipush dX3_layFolk_8 (by decide) ?_
    refine fr_icmp_ge (tgt := 88) dX3_layFolk_10 (by decide) (by omega) (by omega) (fun h2 => ?_) (fun h2 => ?_)
    · skip
      exfalso; omega
    · skip
      refine fr_al0 dX3_layFolk_13 ?_
      refine fr_getr (cz := 22) dX3_layFolk_14 flX3_30 ⟨by decide, by decide, rfl⟩ rfl rfl ?_
      refine fr_il2 dX3_layFolk_17 ?_
      refine fr_al1 dX3_layFolk_18 ?_
      refine fr_il2 dX3_layFolk_19 ?_
      refine fr_cVi (mi' := fmX1_brought) dX3_layFolk_20 mlX3_60 mvX1_brought ⟨1, _, ⟨by decide, by decide, rfl⟩, rfl, rfl⟩ (Nat.le_of_ble_eq_true rfl) (kcX1_brought hGn hI (by omega)) rfl rfl (Nat.le_of_ble_eq_true rfl) ?_
      refine fr_iast dX3_layFolk_23 ⟨by decide, by decide, rfl, by decide⟩ (by omega) (by omega) ?_
      refine fr_al0 dX3_layFolk_24 ?_
      refine fr_getr (cz := 23) dX3_layFolk_25 flX3_33 ⟨by decide, by decide, rfl⟩ rfl rfl ?_
      refine fr_il2 dX3_layFolk_28 ?_
      refine fr_iconst dX3_layFolk_29 ?_
      refine fr_iast dX3_layFolk_30 ⟨by decide, by decide, rfl, by decide⟩ (by omega) (by omega) ?_
      refine fr_al1 dX3_layFolk_31 ?_
      refine fr_il2 dX3_layFolk_32 ?_
      refine fr_cVi (mi' := fmX1_hasClimber) dX3_layFolk_33 mlX3_64 mvX1_hasClimber ⟨1, _, ⟨by decide, by decide, rfl⟩, rfl, rfl⟩ (Nat.le_of_ble_eq_true rfl) (kcX1_hasClimber (hGn.keep (fun c hc => by repeat rw [gm_uc (by omega)])) hI (by omega)) rfl rfl (Nat.le_of_ble_eq_true rfl) ?_
      refine fr_ifb_eq (tgt := 82) dX3_layFolk_36 (by decide) (fun h3 => ?_) (fun h3 => ?_)
      · skip
        refine fr_ii2 dX3_layFolk_82 rfl (Nat.le_of_ble_eq_true rfl) ?_
        refine fr_goto (tgt := 7) dX3_layFolk_85 (by decide) ?_
        have e43 : (j : Int) < w 43 ∨ ¬ (j : Int) < w 43 := Classical.em _
        exact fr_wk (ih7 _ (fk_keep hn (fun c h => by repeat (first | rw [gm_uc (by omega)] | rw [gm_un (by omega)])) (by repeat (first | rw [gm_uk] | rw [gm_un (by omega)] | rw [gm_uc (by omega)])) (fun c h => by repeat (first | rw [gm_uc (by omega)] | rw [gm_un (by omega)])) (by unfold sp_pw; rw [if_neg (by omega)]; repeat (first | rw [gm_uk] | rw [gm_uc (by omega)])) (by simp only [sp_mk]; rw [if_neg (by omega), ← hn.2.1]; repeat rw [gm_uc (by decide)]) (fun k h => by repeat (first | rw [gm_uc (by omega)] | rw [gm_un (by omega)])) (fun c h1 h2 h3 => by repeat (first | rw [gm_uc (by omega)] | rw [gm_un (by omega)])))) ⟨rfl, rfl, rfl, trivial⟩
      · skip
        refine fr_al0 dX3_layFolk_39 ?_
        refine fr_getr (cz := 23) dX3_layFolk_40 flX3_33 ⟨by decide, by decide, rfl⟩ rfl rfl ?_
        refine fr_il2 dX3_layFolk_43 ?_
        refine fr_al1 dX3_layFolk_44 ?_
        refine fr_getr (cz := 3) dX3_layFolk_45 flX3_68 ⟨by decide, by decide, rfl⟩ rfl rfl ?_
        refine fr_il2 dX3_layFolk_48 ?_
        refine fr_aaC dX3_layFolk_49 (by omega) (by omega) ?_
        refine fr_geti (kz := 2) dX3_layFolk_50 flX3_72 (fr_obC (by omega) (by omega)) rfl rfl ?_
        refine fr_iast dX3_layFolk_53 ⟨by decide, by decide, rfl, by decide⟩ (by omega) (by omega) ?_
        refine fr_al0 dX3_layFolk_54 ?_
        refine fr_dup dX3_layFolk_55 rfl ?_
        refine fr_geti (kz := 10) dX3_layFolk_56 flX3_57 ⟨by decide, by decide, rfl⟩ rfl rfl ?_
        refine fr_al1 dX3_layFolk_59 ?_
        refine fr_getr (cz := 3) dX3_layFolk_60 flX3_68 ⟨by decide, by decide, rfl⟩ rfl rfl ?_
        refine fr_il2 dX3_layFolk_63 ?_
        refine fr_aaC dX3_layFolk_64 (by omega) (by omega) ?_
        refine fr_cVi (mi' := fmX0_isMonk) dX3_layFolk_65 mlX3_77 mvX0_isMonk ⟨0, _, (fr_obC (by omega) (by omega)), rfl, rfl⟩ (Nat.le_of_ble_eq_true rfl) (kcX0_isMonk (fr_obC (by omega) (by omega)) (by (repeat rw [gm_uc (by omega)]); have := (hGn.cl (c := (j : Int)) (by omega) (by omega)).1; have iC := hI.cl (c := (j : Int)) (by omega) (by omega); unfold fr_Ic at iC; omega)) rfl rfl (Nat.le_of_ble_eq_true rfl) ?_
        refine fr_ifb_eq (tgt := 77) dX3_layFolk_68 (by decide) (fun h4 => ?_) (fun h4 => ?_)
        · skip
          have hmk : ¬ w (44 + (j : Int)) = 2 := by have e := h4; (repeat rw [gm_uc (by omega)] at e); rw [← (hGn.cl (c := (j : Int)) (by omega) (by omega)).1]; exact e
          refine fr_iconst dX3_layFolk_77 ?_
          refine fr_ior dX3_layFolk_78 ?_
          refine fr_put (kz := 10) dX3_layFolk_79 fpX3_57 ⟨by decide, by decide, rfl⟩ rfl rfl (fun h => by cases h) ?_
          refine fr_ii2 dX3_layFolk_82 rfl (Nat.le_of_ble_eq_true rfl) ?_
          refine fr_goto (tgt := 7) dX3_layFolk_85 (by decide) ?_
          have e43 : (j : Int) < w 43 ∨ ¬ (j : Int) < w 43 := Classical.em _
          exact fr_wk (ih7 _ (fk_keep hn (fun c h => by repeat (first | rw [gm_uc (by omega)] | rw [gm_un (by omega)])) (by repeat (first | rw [gm_uk] | rw [gm_un (by omega)] | rw [gm_uc (by omega)])) (fun c h => by repeat (first | rw [gm_uc (by omega)] | rw [gm_un (by omega)])) (by unfold sp_pw; rw [if_pos (by omega), ← (hGn.cl (c := (j : Int)) (by omega) (by omega)).2.2.1]; repeat (first | rw [gm_uk] | rw [gm_uc (by omega)])) (by simp only [sp_mk]; rw [if_pos (by omega), if_neg hmk, ← hn.2.1, gm_uk]; repeat rw [gm_uc (by decide)]) (fun k h => by repeat (first | rw [gm_uc (by omega)] | rw [gm_un (by omega)])) (fun c h1 h2 h3 => by repeat (first | rw [gm_uc (by omega)] | rw [gm_un (by omega)])))) ⟨rfl, rfl, rfl, trivial⟩
        · skip
          have hmk : w (44 + (j : Int)) = 2 := by have e := h4; (repeat rw [gm_uc (by omega)] at e); rw [← (hGn.cl (c := (j : Int)) (by omega) (by omega)).1]; exact e
          refine fr_iconst dX3_layFolk_71 ?_
          refine fr_il2 dX3_layFolk_72 ?_
          refine fr_ishl dX3_layFolk_73 ?_
          refine fr_goto (tgt := 78) dX3_layFolk_74 (by decide) ?_
          refine fr_ior dX3_layFolk_78 ?_
          refine fr_put (kz := 10) dX3_layFolk_79 fpX3_57 ⟨by decide, by decide, rfl⟩ rfl rfl (fun h => by cases h) ?_
          refine fr_ii2 dX3_layFolk_82 rfl (Nat.le_of_ble_eq_true rfl) ?_
          refine fr_goto (tgt := 7) dX3_layFolk_85 (by decide) ?_
          have e43 : (j : Int) < w 43 ∨ ¬ (j : Int) < w 43 := Classical.em _
          exact fr_wk (ih7 _ (fk_keep hn (fun c h => by repeat (first | rw [gm_uc (by omega)] | rw [gm_un (by omega)])) (by repeat (first | rw [gm_uk] | rw [gm_un (by omega)] | rw [gm_uc (by omega)])) (fun c h => by repeat (first | rw [gm_uc (by omega)] | rw [gm_un (by omega)])) (by unfold sp_pw; rw [if_pos (by omega), ← (hGn.cl (c := (j : Int)) (by omega) (by omega)).2.2.1]; repeat (first | rw [gm_uk] | rw [gm_uc (by omega)])) (by simp only [sp_mk]; rw [if_pos (by omega), if_pos hmk, ← hn.2.1, gm_uk]; repeat rw [gm_uc (by decide)]) (fun k h => by repeat (first | rw [gm_uc (by omega)] | rw [gm_un (by omega)])) (fun c h1 h2 h3 => by repeat (first | rw [gm_uc (by omega)] | rw [gm_un (by omega)])))) ⟨rfl, rfl, rfl, trivial⟩
