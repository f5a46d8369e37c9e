/-! the class: a plan laid -/
def pl_ss (w : Int → Int) : Nat → Int
  | 0 => 0
  | j + 1 => pl_ss w j + sp_sl (w (1 + (w 0 - 1 - (j : Int)))) 0
def pl_L (w : Int → Int) (j : Nat) (μ n : fr_Me) : Prop := n 15 8 = w 0 ∧ n 15 9 = fr_shl 1 (w 43) - 1 ∧ n 15 10 = sp_mk w 6 ∧ (∀ c, 0 ≤ c → c < 6 → n 22 c = sp_br w c ∧ n 23 c = sp_pw w c) ∧ (∀ t, w 0 - j ≤ t → t < w 0 → pl_T w (fr_shl 1 (w 43) - 1) t n ∧ ∀ c, 0 ≤ c → c < 6 → n 21 (6 * t + c) = pl_v w t c) ∧ (∀ i : Nat, i ≤ j → n 20 (w 0 - i) = pl_ss w i) ∧ ∀ c, (c < 15 ∨ 23 < c) → n c = μ c
theorem pl_Ls {w : Int → Int} {j : Nat} {μ n m : fr_Me} {t : Int} (h : pl_L w j μ n) (hj : (j : Int) < w 0) (ht : t = w 0 - 1 - j) (hm : pl_T w (n 15 9) t m ∧ (∀ c, 0 ≤ c → c < 6 → m 21 (6 * t + c) = pl_v w t c) ∧ pl_F t n m) : pl_L w (j + 1) μ (fr_up m 20 t (m 20 (t + 1) + m 17 t)) := by
  obtain ⟨a, b, c, d, e, f, g⟩ := h
  obtain ⟨p, q, r, s, u⟩ := hm
  refine ⟨?_, ?_, ?_, fun c c0 c1 => ?_, fun x x0 x1 => ?_, fun i hi => ?_, fun c hc => ?_⟩
  · rw [gm_uc (by omega), r 15 (by omega) (by omega) (by omega) (by omega) (by omega)]; exact a
  · rw [gm_uc (by omega), r 15 (by omega) (by omega) (by omega) (by omega) (by omega)]; exact b
  · rw [gm_uc (by omega), r 15 (by omega) (by omega) (by omega) (by omega) (by omega)]; exact c
  · rw [gm_uc (by omega), gm_uc (by omega), r 22 (by omega) (by omega) (by omega) (by omega) (by omega), r 23 (by omega) (by omega) (by omega) (by omega) (by omega)]; exact d c c0 c1
  · rcases (by omega : w 0 - j ≤ x ∨ x = t) with hx | hx
    · obtain ⟨⟨e1, e2, e3, e4⟩, e5⟩ := e x hx x1
      obtain ⟨s1, s2, s3, s4⟩ := s x (by omega)
      refine ⟨⟨?_, ?_, ?_, ?_⟩, fun c c0 c1 => ?_⟩
      · rw [gm_uc (by omega), s1]; exact e1
      · rw [gm_uc (by omega), s2]; exact e2
      · rw [gm_uc (by omega), s3]; exact e3
      · rw [gm_uc (by omega), s4]; exact e4
      · rw [gm_uc (by omega), u _ (by omega)]; exact e5 c c0 c1
    · subst hx
      obtain ⟨p1, p2, p3, p4⟩ := p
      refine ⟨⟨?_, ?_, ?_, ?_⟩, fun c c0 c1 => ?_⟩
      · rw [gm_uc (by omega), p1, b]
      · rw [gm_uc (by omega)]; exact p2
      · rw [gm_uc (by omega)]; exact p3
      · rw [gm_uc (by omega)]; exact p4
      · rw [gm_uc (by omega)]; exact q c c0 c1
  · rcases (by omega : i ≤ j ∨ i = j + 1) with hx | hx
    · rw [gm_un (by omega), r 20 (by omega) (by omega) (by omega) (by omega) (by omega)]; exact f i hx
    · subst hx
      have e1 : w 0 - ((j + 1 : Nat) : Int) = t := by omega
      have e2 : t + 1 = w 0 - (j : Int) := by omega
      rw [e1, gm_uk, e2, r 20 (by omega) (by omega) (by omega) (by omega) (by omega), f j (by omega), p.2.1, ht]
      rfl
  · rw [gm_uc (by omega), r c (by omega) (by omega) (by omega) (by omega) (by omega)]; exact g c hc
set_option maxRecDepth 20000 in
theorem kcX3_lay {l : Launch} {κ : fr_Ka} {w : Int → Int} {μ : fr_Me} (hG : fr_G w μ) (hI : fr_I w)  : fr_C l κ fmX3_lay 6 [fr_r κ 15, fr_r κ 1] μ (fr_Pv (fun n => pl_L w (w 0).toNat μ n)) := by
  have iN := hI.n
  have iM := hI.many
  have gN := hG.n
  have gM := hG.many
  refine fr_enter (by decide +kernel) (ls := [some (fr_r κ 15), some (fr_r κ 1), none]) rfl (Nat.le_of_ble_eq_true rfl) ?_
  refine fr_al0 dX3_lay_0 ?_
  refine fr_al1 dX3_lay_1 ?_
  refine fr_geti (kz := 3) dX3_lay_2 flX3_36 ⟨by decide, by decide, rfl⟩ rfl rfl ?_
  refine fr_put (kz := 8) dX3_lay_5 fpX3_42 ⟨by decide, by decide, rfl⟩ rfl rfl (fun h => by cases h) ?_
  refine fr_al0 dX3_lay_8 ?_
  refine fr_iconst dX3_lay_9 ?_
  refine fr_al1 dX3_lay_10 ?_
  refine fr_geti (kz := 4) dX3_lay_11 flX3_43 ⟨by decide, by decide, rfl⟩ rfl rfl ?_
  refine fr_ishl dX3_lay_14 ?_
  refine fr_iconst dX3_lay_15 ?_
  refine fr_isub dX3_lay_16 ?_
  refine fr_put (kz := 9) dX3_lay_17 fpX3_46 ⟨by decide, by decide, rfl⟩ rfl rfl (fun h => by cases h) ?_
  refine fr_al0 dX3_lay_20 ?_
  refine fr_al1 dX3_lay_21 ?_
  refine fr_cVQ (mi' := fmX3_layFolk) dX3_lay_22 mlX3_49 mvX3_layFolk ⟨3, _, ⟨by decide, by decide, rfl⟩, rfl, rfl⟩ (Nat.le_of_ble_eq_true rfl) (kcX3_layFolk (hG.keep (fun c hc => by simp (disch := omega) only [gm_uk, gm_un, gm_uc])) hI) rfl rfl (Nat.le_of_ble_eq_true rfl) (fun m hm => ?_)
  have m8 : m 15 8 = w 0 := by rw [hm.2.2.2 8 (by omega)]; simp (disch := omega) only [gm_uk, gm_un, gm_uc]; exact gN
  have m9 : m 15 9 = fr_shl 1 (w 43) - 1 := by rw [hm.2.2.2 9 (by omega)]; simp (disch := omega) only [gm_uk, gm_un, gm_uc]; rw [gM]
  refine fr_al0 dX3_lay_25 ?_
  refine fr_getr (cz := 20) dX3_lay_26 flX3_24 ⟨by decide, by decide, rfl⟩ rfl rfl ?_
  refine fr_al0 dX3_lay_29 ?_
  refine fr_geti (kz := 8) dX3_lay_30 flX3_42 ⟨by decide, by decide, rfl⟩ rfl rfl ?_
  refine fr_iconst dX3_lay_33 ?_
  refine fr_iast dX3_lay_34 ⟨by decide, by decide, rfl, by decide⟩ (by omega) (by omega) ?_
  refine fr_al0 dX3_lay_35 ?_
  refine fr_geti (kz := 8) dX3_lay_36 flX3_42 ⟨by decide, by decide, rfl⟩ rfl rfl ?_
  refine fr_iconst dX3_lay_39 ?_
  refine fr_isub dX3_lay_40 ?_
  refine fr_is2 dX3_lay_41 rfl (Nat.le_of_ble_eq_true rfl) ?_
  refine fr_wk ?_ (ls := [some (fr_r κ 15), some (fr_r κ 1), some (fr_i _)]) ⟨rfl, rfl, rfl, trivial⟩
  refine (fr_down (P := fun j : Nat => ∀ (v : Int) (n : fr_Me), (v = w 0 - 1 - (j : Int) ∧ pl_L w j μ n) → fr_A l κ fmX3_lay 6 (fr_Pv (fun n => pl_L w (w 0).toNat μ n)) 42 [some (fr_r κ 15), some (fr_r κ 1), some (fr_i v)] [] n) (w 0).toNat ?_ (fun j hj42 ih42 => ?_)) _ _ (⟨by simp (disch := omega) only [gm_uk, gm_un, gm_uc]; omega, by simp (disch := omega) only [gm_uk, gm_un, gm_uc]; exact m8, by simp (disch := omega) only [gm_uk, gm_un, gm_uc]; exact m9, by simp (disch := omega) only [gm_uk, gm_un, gm_uc]; exact hm.2.1, fun c c0 c1 => by simp (disch := omega) only [gm_uk, gm_un, gm_uc]; exact hm.1 c c0 c1, fun t t0 t1 => by omega, fun i hi => by rw [show i = 0 by omega, m8, show w 0 - ((0 : Nat) : Int) = w 0 by omega, gm_uk]; rfl, fun c hc => by rw [gm_uc (by omega), hm.2.2.1 c (by omega) (by omega) (by omega)]; simp (disch := omega) only [gm_uk, gm_un, gm_uc]⟩)
  · skip
    intro v n hn
    refine fr_il2 dX3_lay_42 ?_
    refine fr_if_lt (tgt := 79) dX3_lay_43 (by decide) (by omega) (fun h1 => ?_) (fun h1 => ?_)
    · skip
      exact fr_vret dX3_lay_79 rfl (fr_pv hn.2)
    · skip
      exfalso; omega
  · skip
    intro v n hn
    have hGn : fr_G w n := hG.keep (fun c hc => hn.2.2.2.2.2.2.2 c (by omega))
    obtain ⟨hv, hn⟩ := hn
    refine fr_il2 dX3_lay_42 ?_
    refine fr_if_lt (tgt := 79) dX3_lay_43 (by decide) (by omega) (fun h2 => ?_) (fun h2 => ?_)
    · skip
      exfalso; omega
    · skip
      refine fr_al0 dX3_lay_46 ?_
      refine fr_il2 dX3_lay_47 ?_
      refine fr_al1 dX3_lay_48 ?_
      refine fr_cVQ (mi' := fmX3_layTree) dX3_lay_49 mlX3_53 mvX3_layTree ⟨3, _, ⟨by decide, by decide, rfl⟩, rfl, rfl⟩ (Nat.le_of_ble_eq_true rfl) (kcX3_layTree hGn hI (by omega)) rfl rfl (Nat.le_of_ble_eq_true rfl) (fun m hm2 => ?_)
      refine fr_al0 dX3_lay_52 ?_
      refine fr_getr (cz := 20) dX3_lay_53 flX3_24 ⟨by decide, by decide, rfl⟩ rfl rfl ?_
      refine fr_il2 dX3_lay_56 ?_
      refine fr_al0 dX3_lay_57 ?_
      refine fr_getr (cz := 20) dX3_lay_58 flX3_24 ⟨by decide, by decide, rfl⟩ rfl rfl ?_
      refine fr_il2 dX3_lay_61 ?_
      refine fr_iconst dX3_lay_62 ?_
      refine fr_iadd dX3_lay_63 ?_
      refine fr_iald dX3_lay_64 ⟨by decide, by decide, rfl, by decide⟩ (by omega) (by omega) ?_
      refine fr_al0 dX3_lay_65 ?_
      refine fr_getr (cz := 17) dX3_lay_66 flX3_15 ⟨by decide, by decide, rfl⟩ rfl rfl ?_
      refine fr_il2 dX3_lay_69 ?_
      refine fr_iald dX3_lay_70 ⟨by decide, by decide, rfl, by decide⟩ (by omega) (by omega) ?_
      refine fr_iadd dX3_lay_71 ?_
      refine fr_iast dX3_lay_72 ⟨by decide, by decide, rfl, by decide⟩ (by omega) (by omega) ?_
      refine fr_ii2 dX3_lay_73 rfl (Nat.le_of_ble_eq_true rfl) ?_
      refine fr_goto (tgt := 42) dX3_lay_76 (by decide) ?_
      exact fr_wk (ih42 _ _ (⟨by omega, pl_Ls hn (by omega) hv hm2⟩)) ⟨rfl, rfl, rfl, trivial⟩
