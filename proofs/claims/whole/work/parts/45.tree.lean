/-! the class: a plan's trees -/
def pl_v (w : Int → Int) (t c : Int) : Int := sp_sl (w (1 + t)) 0 * w (64 + sp_br w c) + sp_sb (w (1 + t)) (w (25 + t)) * w (64 + sp_br w (w (13 + t)))
def pl_T (w : Int → Int) (A t : Int) (n : fr_Me) : Prop := n 16 t = fr_and A (fr_xor (w (37 + t)) (-1)) ∧ n 17 t = sp_sl (w (1 + t)) 0 ∧ n 18 t = sp_sb (w (1 + t)) (w (25 + t)) ∧ n 19 t = sp_br w (w (13 + t))
def pl_F (t : Int) (μ n : fr_Me) : Prop := (∀ c, c ≠ 16 → c ≠ 17 → c ≠ 18 → c ≠ 19 → c ≠ 21 → n c = μ c) ∧ (∀ i, i ≠ t → n 16 i = μ 16 i ∧ n 17 i = μ 17 i ∧ n 18 i = μ 18 i ∧ n 19 i = μ 19 i) ∧ ∀ i, (i < 6 * t ∨ 6 * t + 6 ≤ i) → n 21 i = μ 21 i
theorem pl_keep {w : Int → Int} {A t : Int} {μ n : fr_Me} {j : Nat} {x y : Int} (h : pl_T w A t n ∧ (∀ c, 0 ≤ c → c < (j : Int) → n 21 (6 * t + c) = pl_v w t c) ∧ pl_F t μ n) (hj : j < 6) (hx : x = 6 * t + j) (hy : y = pl_v w t j) : pl_T w A t (fr_up n 21 x y) ∧ (∀ c, 0 ≤ c → c < ((j + 1 : Nat) : Int) → (fr_up n 21 x y) 21 (6 * t + c) = pl_v w t c) ∧ pl_F t μ (fr_up n 21 x y) := by
  obtain ⟨⟨a, b, c, d⟩, e, f, g, i⟩ := h
  subst hx hy
  refine ⟨⟨?_, ?_, ?_, ?_⟩, fun c c0 c1 => ?_, fun c h1 h2 h3 h4 h5 => ?_, fun k hk => ?_, fun k hk => ?_⟩
  · rw [gm_uc (by omega)]; exact a
  · rw [gm_uc (by omega)]; exact b
  · rw [gm_uc (by omega)]; exact c
  · rw [gm_uc (by omega)]; exact d
  · rcases (by omega : c < (j : Int) ∨ c = (j : Int)) with q | q
    · rw [gm_un (by omega)]; exact e c c0 q
    · rw [q, gm_uk]
  · rw [gm_uc (by omega)]; exact f c h1 h2 h3 h4 h5
  · (repeat rw [gm_uc (by omega)]); exact g k hk
  · rw [gm_un (by omega)]; exact i k hk
set_option maxRecDepth 20000 in
theorem kcX3_layTree {l : Launch} {κ : fr_Ka} {w : Int → Int} {μ : fr_Me} (hG : fr_G w μ) (hI : fr_I w) {t : Int} (ht : 0 ≤ t ∧ t < 6)  : fr_C l κ fmX3_layTree 5 [fr_r κ 15, fr_i t, fr_r κ 1] μ (fr_Pv (fun n => pl_T w (μ 15 9) t n ∧ (∀ c, 0 ≤ c → c < 6 → n 21 (6 * t + c) = pl_v w t c) ∧ pl_F t μ n)) := by
  obtain ⟨a0, a1, a2, a3, a4, a5, a6⟩ := hG.tree (t := t) (by omega) (by omega)
  have iT := hI.tree (t := t) (by omega) (by omega)
  unfold fr_It at iT
  refine fr_enter (by decide +kernel) (ls := [some (fr_r κ 15), some (fr_i t), some (fr_r κ 1), none, none, none]) rfl (Nat.le_of_ble_eq_true rfl) ?_
  refine fr_al2 dX3_layTree_0 ?_
  refine fr_getr (cz := 2) dX3_layTree_1 flX3_81 ⟨by decide, by decide, rfl⟩ rfl rfl ?_
  refine fr_il1 dX3_layTree_4 ?_
  refine fr_aaT dX3_layTree_5 (by omega) (by omega) ?_
  refine fr_as3 dX3_layTree_6 rfl (Nat.le_of_ble_eq_true rfl) ?_
  refine fr_al0 dX3_layTree_7 ?_
  refine fr_getr (cz := 16) dX3_layTree_8 flX3_9 ⟨by decide, by decide, rfl⟩ rfl rfl ?_
  refine fr_il1 dX3_layTree_11 ?_
  refine fr_al0 dX3_layTree_12 ?_
  refine fr_geti (kz := 9) dX3_layTree_13 flX3_46 ⟨by decide, by decide, rfl⟩ rfl rfl ?_
  refine fr_al3 dX3_layTree_16 ?_
  refine fr_geti (kz := 6) dX3_layTree_17 flX3_85 (fr_obT (by omega) (by omega)) rfl rfl ?_
  refine fr_iconst dX3_layTree_20 ?_
  refine fr_ixor dX3_layTree_21 ?_
  refine fr_iand dX3_layTree_22 ?_
  refine fr_iast dX3_layTree_23 ⟨by decide, by decide, rfl, by decide⟩ (by omega) (by omega) ?_
  refine fr_al0 dX3_layTree_24 ?_
  refine fr_getr (cz := 17) dX3_layTree_25 flX3_15 ⟨by decide, by decide, rfl⟩ rfl rfl ?_
  refine fr_il1 dX3_layTree_28 ?_
  refine fr_al3 dX3_layTree_29 ?_
  refine fr_geti (kz := 0) dX3_layTree_30 flX3_90 (fr_obT (by omega) (by omega)) rfl rfl ?_
  refine fr_iconst dX3_layTree_33 ?_
  refine fr_cSi (mi' := fmX7_shareOfLast) dX3_layTree_34 mlX3_93 msX7_shareOfLast (Nat.le_of_ble_eq_true rfl) (kcX7_shareOfLast (by simp (disch := omega) only [gm_uk, gm_un, gm_uc]; omega) (by omega)) rfl rfl (Nat.le_of_ble_eq_true rfl) ?_
  refine fr_iast dX3_layTree_37 ⟨by decide, by decide, rfl, by decide⟩ (by omega) (by omega) ?_
  refine fr_al0 dX3_layTree_38 ?_
  refine fr_getr (cz := 18) dX3_layTree_39 flX3_18 ⟨by decide, by decide, rfl⟩ rfl rfl ?_
  refine fr_il1 dX3_layTree_42 ?_
  refine fr_al3 dX3_layTree_43 ?_
  refine fr_geti (kz := 0) dX3_layTree_44 flX3_90 (fr_obT (by omega) (by omega)) rfl rfl ?_
  refine fr_al3 dX3_layTree_47 ?_
  refine fr_geti (kz := 4) dX3_layTree_48 flX3_97 (fr_obT (by omega) (by omega)) rfl rfl ?_
  refine fr_cSi (mi' := fmX7_shareOfBefore) dX3_layTree_51 mlX3_101 msX7_shareOfBefore (Nat.le_of_ble_eq_true rfl) (kcX7_shareOfBefore (by simp (disch := omega) only [gm_uk, gm_un, gm_uc]; omega) (by simp (disch := omega) only [gm_uk, gm_un, gm_uc]; omega)) rfl rfl (Nat.le_of_ble_eq_true rfl) ?_
  refine fr_iast dX3_layTree_54 ⟨by decide, by decide, rfl, by decide⟩ (by omega) (by omega) ?_
  refine fr_al0 dX3_layTree_55 ?_
  refine fr_getr (cz := 19) dX3_layTree_56 flX3_21 ⟨by decide, by decide, rfl⟩ rfl rfl ?_
  refine fr_il1 dX3_layTree_59 ?_
  refine fr_al2 dX3_layTree_60 ?_
  refine fr_al3 dX3_layTree_61 ?_
  refine fr_geti (kz := 2) dX3_layTree_62 flX3_104 (fr_obT (by omega) (by omega)) rfl rfl ?_
  refine fr_cVi (mi' := fmX1_brought) dX3_layTree_65 mlX3_60 mvX1_brought ⟨1, _, ⟨by decide, by decide, rfl⟩, rfl, rfl⟩ (Nat.le_of_ble_eq_true rfl) (kcX1_brought (hG.keep (fun c hc => by simp (disch := omega) only [gm_uk, gm_un, gm_uc])) hI (by simp (disch := omega) only [gm_uk, gm_un, gm_uc]; omega)) rfl rfl (Nat.le_of_ble_eq_true rfl) ?_
  refine fr_iast dX3_layTree_68 ⟨by decide, by decide, rfl, by decide⟩ (by omega) (by omega) ?_
  refine fr_al0 dX3_layTree_69 ?_
  refine fr_getr (cz := 18) dX3_layTree_70 flX3_18 ⟨by decide, by decide, rfl⟩ rfl rfl ?_
  refine fr_il1 dX3_layTree_73 ?_
  refine fr_iald dX3_layTree_74 ⟨by decide, by decide, rfl, by decide⟩ (by omega) (by omega) ?_
  refine fr_al2 dX3_layTree_75 ?_
  refine fr_al3 dX3_layTree_76 ?_
  refine fr_geti (kz := 2) dX3_layTree_77 flX3_104 (fr_obT (by omega) (by omega)) rfl rfl ?_
  refine fr_cVi (mi' := fmX1_priceOfBrought) dX3_layTree_80 mlX3_107 mvX1_priceOfBrought ⟨1, _, ⟨by decide, by decide, rfl⟩, rfl, rfl⟩ (Nat.le_of_ble_eq_true rfl) (kcX1_priceOfBrought (hG.keep (fun c hc => by simp (disch := omega) only [gm_uk, gm_un, gm_uc])) hI (by simp (disch := omega) only [gm_uk, gm_un, gm_uc]; omega)) rfl rfl (Nat.le_of_ble_eq_true rfl) ?_
  refine fr_imul dX3_layTree_83 ?_
  refine fr_is4 dX3_layTree_84 rfl (Nat.le_of_ble_eq_true rfl) ?_
  refine fr_iconst dX3_layTree_86 ?_
  refine fr_is5 dX3_layTree_87 rfl (Nat.le_of_ble_eq_true rfl) ?_
  refine fr_wk ?_ (ls := [some (fr_r κ 15), some (fr_i t), some (fr_r κ 1), some (fr_r κ (36 + t)), some (fr_i _), some (fr_i (0 : Int))]) ⟨rfl, rfl, rfl, rfl, rfl, rfl, trivial⟩
  refine (fr_down (P := fun j : Nat => ∀ (v : Int) (n : fr_Me), ((v = sp_sb (w (1 + t)) (w (25 + t)) * w (64 + sp_br w (w (13 + t)))) ∧ pl_T w (μ 15 9) t n ∧ (∀ c, 0 ≤ c → c < (j : Int) → n 21 (6 * t + c) = pl_v w t c) ∧ pl_F t μ n) → fr_A l κ fmX3_layTree 5 (fr_Pv (fun n => pl_T w (μ 15 9) t n ∧ (∀ c, 0 ≤ c → c < 6 → n 21 (6 * t + c) = pl_v w t c) ∧ pl_F t μ n)) 89 [some (fr_r κ 15), some (fr_i t), some (fr_r κ 1), some (fr_r κ (36 + t)), some (fr_i v), some (fr_i (j : Int))] [] n) 6 ?_ (fun j hj89 ih89 => ?_)) _ _ (⟨by simp (disch := omega) only [gm_uk, gm_un, gm_uc, a0, a2, a4, a6], ⟨by simp (disch := omega) only [gm_uk, gm_un, gm_uc, a0, a2, a4, a6], by simp (disch := omega) only [gm_uk, gm_un, gm_uc, a0, a2, a4, a6], by simp (disch := omega) only [gm_uk, gm_un, gm_uc, a0, a2, a4, a6], by simp (disch := omega) only [gm_uk, gm_un, gm_uc, a0, a2, a4, a6]⟩, fun c _ _ => by omega, fun c _ _ _ _ _ => by simp (disch := omega) only [gm_uk, gm_un, gm_uc], fun i _ => ⟨by simp (disch := omega) only [gm_uk, gm_un, gm_uc], by simp (disch := omega) only [gm_uk, gm_un, gm_uc], by simp (disch := omega) only [gm_uk, gm_un, gm_uc], by simp (disch := omega) only [gm_uk, gm_un, gm_uc]⟩, fun i _ => by simp (disch := omega) only [gm_uk, gm_un, gm_uc]⟩)
  · skip
    intro v n hn
    refine fr_il5 dX3_layTree_89 ?_
    refine fr_bipush dX3_layTree_91 (by decide) ?_
    refine fr_icmp_ge (tgt := 130) dX3_layTree_93 (by decide) (by omega) (by omega) (fun h1 => ?_) (fun h1 => ?_)
    · skip
      exact fr_vret dX3_layTree_130 rfl (fr_pv hn.2)
    · skip
      exfalso; omega
  · skip
    intro v n hn
    have hGn : fr_G w n := hG.keep (fun c hc => hn.2.2.2.1 c (by omega) (by omega) (by omega) (by omega) (by omega))
    refine fr_il5 dX3_layTree_89 ?_
    refine fr_bipush dX3_layTree_91 (by decide) ?_
    refine fr_icmp_ge (tgt := 130) dX3_layTree_93 (by decide) (by omega) (by omega) (fun h2 => ?_) (fun h2 => ?_)
    · skip
      exfalso; omega
    · skip
      refine fr_al0 dX3_layTree_96 ?_
      refine fr_getr (cz := 21) dX3_layTree_97 flX3_27 ⟨by decide, by decide, rfl⟩ rfl rfl ?_
      refine fr_il1 dX3_layTree_100 ?_
      refine fr_bipush dX3_layTree_101 (by decide) ?_
      refine fr_imul dX3_layTree_103 ?_
      refine fr_il5 dX3_layTree_104 ?_
      refine fr_iadd dX3_layTree_106 ?_
      refine fr_al0 dX3_layTree_107 ?_
      refine fr_getr (cz := 17) dX3_layTree_108 flX3_15 ⟨by decide, by decide, rfl⟩ rfl rfl ?_
      refine fr_il1 dX3_layTree_111 ?_
      refine fr_iald dX3_layTree_112 ⟨by decide, by decide, rfl, by decide⟩ (by omega) (by omega) ?_
      refine fr_al2 dX3_layTree_113 ?_
      refine fr_il5 dX3_layTree_114 ?_
      refine fr_cVi (mi' := fmX1_priceOfBrought) dX3_layTree_116 mlX3_107 mvX1_priceOfBrought ⟨1, _, ⟨by decide, by decide, rfl⟩, rfl, rfl⟩ (Nat.le_of_ble_eq_true rfl) (kcX1_priceOfBrought hGn hI (by omega)) rfl rfl (Nat.le_of_ble_eq_true rfl) ?_
      refine fr_imul dX3_layTree_119 ?_
      refine fr_il4 dX3_layTree_120 ?_
      refine fr_iadd dX3_layTree_122 ?_
      refine fr_iast dX3_layTree_123 ⟨by decide, by decide, rfl, by decide⟩ (by omega) (by omega) ?_
      refine fr_ii5 dX3_layTree_124 rfl (Nat.le_of_ble_eq_true rfl) ?_
      refine fr_goto (tgt := 89) dX3_layTree_127 (by decide) ?_
      exact fr_wk (ih89 _ _ (⟨hn.1, pl_keep hn.2 (by omega) (by omega) (by unfold pl_v; rw [hn.2.1.2.1, hn.1])⟩)) ⟨rfl, rfl, rfl, rfl, rfl, rfl, trivial⟩
