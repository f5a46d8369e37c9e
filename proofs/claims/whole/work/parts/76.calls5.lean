/-! the class: images; a text that becomes trees -/
theorem fr_G.b45 {w : Int → Int} {μ : fr_Me} (hG : fr_G w μ) (hI : fr_I w) : ∀ t, 0 ≤ t → t < 6 → (0 ≤ μ (36 + t) 4 ∧ μ (36 + t) 4 ≤ 1) ∧ 0 ≤ μ (36 + t) 5 ∧ μ (36 + t) 5 ≤ 1 := by
  intro t t0 t1
  obtain ⟨_, _, _, _, e, f, _⟩ := hG.tree t0 t1
  have iT := hI.tree t0 t1
  unfold fr_It at iT
  omega
theorem out0_rg {M : Int} (hM : 0 ≤ M ∧ M ≤ 5) {tp : Int → Int} {n : Int} (hn : 0 ≤ n) {i : Nat} {x : Int} (hc : ∀ q : Nat, q < i → sp_cm M tp n q) (h : sp_out0 M tp n i x) : 0 ≤ x ∧ x ≤ n := by
  have hp := sp_po_rg (m := M) (tp := tp) hn i hc
  rcases h with ⟨_, e⟩ | ⟨h1, h2, _, e⟩
  · have hs := tp_skp (tp := tp) hp.2
    have e2 : sp_r0 tp n (sp_po M tp n i) = sp_skp tp n (sp_po M tp n i) := rfl
    omega
  · have ht := tp_te hM hp.1 hp.2 h1
    have hs := tp_skp (tp := tp) ht.2
    have e2 : sp_se M tp n i = sp_skp tp n (sp_te M tp n (sp_po M tp n i)) := rfl
    omega
theorem begin_eq {μ m : fr_Me} {c a b d : Int} (h : m c = μ c) : sp_begin m c a b d c = sp_begin μ c a b d c := by
  funext k
  have e := congrFun h k
  unfold sp_begin
  simp only [fr_up]
  (repeat' split) <;> first | rfl | exact e
set_option maxRecDepth 20000 in
theorem kcX10_image {l : Launch} {κ : fr_Ka} {w : Int → Int} {μ : fr_Me} (hG : fr_G w μ) (hI : fr_I w)  : fr_C l κ fmX10_image 5 [fr_r κ 0] μ (fr_Pi (fun z m => z = 1 ∧ ∃ n, fr_Cp μ n 5 8 42 53 1 4 36 48 ∧ m = fr_up n 0 2 1)) := by
  refine fr_enter (by decide +kernel) (ls := [some (fr_r κ 0)]) rfl (Nat.le_of_ble_eq_true rfl) ?_
  refine fr_al0 dX10_image_0 ?_
  refine fr_getr (cz := 5) dX10_image_1 flX10_16 ⟨by decide, by decide, rfl⟩ rfl rfl ?_
  refine fr_al0 dX10_image_4 ?_
  refine fr_getr (cz := 1) dX10_image_5 flX10_12 ⟨by decide, by decide, rfl⟩ rfl rfl ?_
  refine fr_cVQ (mi' := fmX1_become) dX10_image_8 mlX10_228 mvX1_become ⟨1, _, ⟨by decide, by decide, rfl⟩, rfl, rfl⟩ (Nat.le_of_ble_eq_true rfl) (kcX1_becomeK (hG.b45 hI)) rfl rfl (Nat.le_of_ble_eq_true rfl) (fun n hn => ?_)
  refine fr_al0 dX10_image_11 ?_
  refine fr_iconst dX10_image_12 ?_
  refine fr_put (kz := 2) dX10_image_13 fpX10_231 ⟨by decide, by decide, rfl⟩ rfl rfl (fun _ => Or.inr rfl) ?_
  refine fr_iconst dX10_image_16 ?_
  exact fr_iret dX10_image_17 rfl (fr_pi ⟨rfl, n, hn, rfl⟩)
set_option maxRecDepth 20000 in
theorem kcX10_restore {l : Launch} {κ : fr_Ka} {μ : fr_Me} (hk : μ 0 2 = 0 ∨ μ 0 2 = 1) (hb : μ 0 2 = 1 → ∀ t, 0 ≤ t → t < 6 → (0 ≤ μ (42 + t) 4 ∧ μ (42 + t) 4 ≤ 1) ∧ 0 ≤ μ (42 + t) 5 ∧ μ (42 + t) 5 ≤ 1)  : fr_C l κ fmX10_restore 5 [fr_r κ 0] μ (fr_Pi (fun z m => (μ 0 2 = 0 ∧ z = -4 ∧ m = μ) ∨ (μ 0 2 = 1 ∧ z = 1 ∧ fr_Cp μ m 1 4 36 48 5 8 42 53))) := by
  refine fr_enter (by decide +kernel) (ls := [some (fr_r κ 0)]) rfl (Nat.le_of_ble_eq_true rfl) ?_
  refine fr_al0 dX10_restore_0 ?_
  refine fr_geti (kz := 2) dX10_restore_1 flX10_231 ⟨by decide, by decide, rfl⟩ rfl rfl ?_
  refine fr_if_ne (tgt := 10) dX10_restore_4 (by decide) (by omega) (fun h1 => ?_) (fun h1 => ?_)
  · skip
    refine fr_al0 dX10_restore_10 ?_
    refine fr_getr (cz := 1) dX10_restore_11 flX10_12 ⟨by decide, by decide, rfl⟩ rfl rfl ?_
    refine fr_al0 dX10_restore_14 ?_
    refine fr_getr (cz := 5) dX10_restore_15 flX10_16 ⟨by decide, by decide, rfl⟩ rfl rfl ?_
    refine fr_cVQ (mi' := fmX1_become) dX10_restore_18 mlX10_228 mvX1_become ⟨1, _, ⟨by decide, by decide, rfl⟩, rfl, rfl⟩ (Nat.le_of_ble_eq_true rfl) (kcX1_becomeG (hb (by omega))) rfl rfl (Nat.le_of_ble_eq_true rfl) (fun n hn => ?_)
    refine fr_iconst dX10_restore_21 ?_
    exact fr_iret dX10_restore_22 rfl (fr_pi (by first | exact Or.inl ⟨by omega, rfl, rfl⟩ | exact Or.inr ⟨by omega, rfl, hn⟩))
  · skip
    refine fr_bipush dX10_restore_7 (by decide) ?_
    exact fr_iret dX10_restore_9 rfl (fr_pi (by first | exact Or.inl ⟨by omega, rfl, rfl⟩ | exact Or.inr ⟨by omega, rfl, hn⟩))
set_option maxRecDepth 20000 in
theorem kcX10_commons {l : Launch} {κ : fr_Ka} {w : Int → Int} {μ : fr_Me} (hG : fr_G w μ) (hI : fr_I w) (hn60 : 0 ≤ μ 9 4 ∧ μ 9 4 ≤ 60) (hT : ∀ i, 0 ≤ i → i < 60 → 0 ≤ μ 10 i ∧ μ 10 i ≤ 1000)  : fr_C l κ fmX10_commons 7 [fr_r κ 0] μ (fr_Pi (fun z m => m 9 4 = 0 ∧ (∀ k, k ≠ 4 → k ≠ 5 → m 9 k = μ 9 k) ∧ ∃ i : Nat, i < 6 ∧ (∀ q : Nat, q < i → sp_cm (w 43) (μ 10) (μ 9 4) q) ∧ (((∃ at9, sp_out0 (w 43) (μ 10) (μ 9 4) i at9 ∧ z = -20 - at9) ∧ ∀ c, c ≠ 9 → c ≠ 11 → c ≠ 12 → c ≠ 13 → m c = μ c) ∨ (sp_ok1 (w 43) (μ 10) (μ 9 4) i ∧ sp_se (w 43) (μ 10) (μ 9 4) i = μ 9 4 ∧ z = (i : Int) + 1 ∧ (∀ q : Nat, q ≤ i → m (36 + (q : Int)) = sp_begin μ (36 + (q : Int)) (sp_tk (μ 10) (μ 9 4) (sp_po (w 43) (μ 10) (μ 9 4) q)) (sp_tl (w 43) (μ 10) (μ 9 4) (sp_po (w 43) (μ 10) (μ 9 4) q)) (sp_tb (w 43) (μ 10) (μ 9 4) (sp_po (w 43) (μ 10) (μ 9 4) q)) (36 + (q : Int))) ∧ (∀ c, c ≠ 1 → c ≠ 9 → c ≠ 11 → c ≠ 12 → c ≠ 13 → (c < 36 ∨ 36 + ((i : Int) + 1) ≤ c) → m c = μ c) ∧ m 1 3 = (i : Int) + 1 ∧ ∀ k, k ≠ 3 → m 1 k = μ 1 k)))) := by
  have iN := hI.n
  have iM := hI.many
  have gN := hG.n
  have gM := hG.many
  refine fr_enter (by decide +kernel) (ls := [some (fr_r κ 0), none]) rfl (Nat.le_of_ble_eq_true rfl) ?_
  refine fr_al0 dX10_commons_0 ?_
  refine fr_getr (cz := 9) dX10_commons_1 flX10_22 ⟨by decide, by decide, rfl⟩ rfl rfl ?_
  refine fr_al0 dX10_commons_4 ?_
  refine fr_getr (cz := 1) dX10_commons_5 flX10_12 ⟨by decide, by decide, rfl⟩ rfl rfl ?_
  refine fr_geti (kz := 4) dX10_commons_8 flX10_99 ⟨by decide, by decide, rfl⟩ rfl rfl ?_
  rw [gM]
  refine fr_cVP (mi' := fmX6_parse) dX10_commons_11 mlX10_162 mvX6_parse ⟨6, _, ⟨by decide, by decide, rfl⟩, rfl, rfl⟩ (Nat.le_of_ble_eq_true rfl) (kcX6_parse hn60 hT iM) rfl rfl (Nat.le_of_ble_eq_true rfl) (fun z m hz => ?_)
  obtain ⟨hfr, i, hi6, hcm, hz⟩ := hz
  rcases hz with ⟨at9, ho, rfl⟩ | ⟨hok, hse, rfl, hkn⟩
  · skip
    have hor := out0_rg iM hn60.1 hcm ho
    refine fr_is1 dX10_commons_14 rfl (Nat.le_of_ble_eq_true rfl) ?_
    refine fr_il1 dX10_commons_15 ?_
    refine fr_if_le (tgt := 31) dX10_commons_16 (by decide) (by omega) (fun h1 => ?_) (fun h1 => ?_)
    · skip
      refine fr_al0 dX10_commons_31 ?_
      refine fr_getr (cz := 9) dX10_commons_32 flX10_22 ⟨by decide, by decide, rfl⟩ rfl rfl ?_
      refine fr_iconst dX10_commons_35 ?_
      refine fr_put (kz := 4) dX10_commons_36 fpX10_156 ⟨by decide, by decide, rfl⟩ rfl rfl (fun h => by cases h) ?_
      refine fr_il1 dX10_commons_39 ?_
      exact fr_iret dX10_commons_40 rfl (fr_pi ⟨gm_uk, fun k h4 h5 => by rw [gm_un h4]; exact hfr.1 k h5, i, hi6, hcm, Or.inl ⟨⟨at9, ho, rfl⟩, fun c a b d e => by rw [gm_uc a]; exact hfr.2 c a b d e⟩⟩)
    · skip
      exfalso; omega
  · skip
    refine fr_is1 dX10_commons_14 rfl (Nat.le_of_ble_eq_true rfl) ?_
    refine fr_il1 dX10_commons_15 ?_
    refine fr_if_le (tgt := 31) dX10_commons_16 (by decide) (by omega) (fun h2 => ?_) (fun h2 => ?_)
    · skip
      exfalso; omega
    · skip
      refine fr_al0 dX10_commons_19 ?_
      refine fr_getr (cz := 9) dX10_commons_20 flX10_22 ⟨by decide, by decide, rfl⟩ rfl rfl ?_
      refine fr_al0 dX10_commons_23 ?_
      refine fr_getr (cz := 1) dX10_commons_24 flX10_12 ⟨by decide, by decide, rfl⟩ rfl rfl ?_
      refine fr_il1 dX10_commons_27 ?_
      refine fr_cVQ (mi' := fmX6_plantAll) dX10_commons_28 mlX10_165 mvX6_plantAll ⟨6, _, ⟨by decide, by decide, rfl⟩, rfl, rfl⟩ (Nat.le_of_ble_eq_true rfl) (kcX6_plantAll (n := i + 1) (hG.keep (fun c hc => hfr.2 c (by omega) (by omega) (by omega) (by omega))) (by omega)) rfl rfl (Nat.le_of_ble_eq_true rfl) (fun q9 hq => ?_)
      refine fr_al0 dX10_commons_31 ?_
      refine fr_getr (cz := 9) dX10_commons_32 flX10_22 ⟨by decide, by decide, rfl⟩ rfl rfl ?_
      refine fr_iconst dX10_commons_35 ?_
      refine fr_put (kz := 4) dX10_commons_36 fpX10_156 ⟨by decide, by decide, rfl⟩ rfl rfl (fun h => by cases h) ?_
      refine fr_il1 dX10_commons_39 ?_
      exact fr_iret dX10_commons_40 rfl (fr_pi ⟨gm_uk, fun k h4 h5 => by rw [gm_un h4, hq.2.1 9 (by omega) (by omega)]; exact hfr.1 k h5, i, hi6, hcm, Or.inr ⟨hok, hse, rfl, fun q hqi => by rw [gm_uc (by omega), hq.1 (q : Int) (by omega) (by omega), (hkn q hqi).1, (hkn q hqi).2.1, (hkn q hqi).2.2]; exact begin_eq (hfr.2 (36 + (q : Int)) (by omega) (by omega) (by omega) (by omega)), fun c c1 a b d e hc => by rw [gm_uc a, hq.2.1 c c1 (by omega)]; exact hfr.2 c a b d e, by rw [gm_uc (by omega)]; exact hq.2.2.1, fun k hk => by rw [gm_uc (by omega), hq.2.2.2 k hk, hfr.2 1 (by omega) (by omega) (by omega) (by omega)]⟩⟩)
