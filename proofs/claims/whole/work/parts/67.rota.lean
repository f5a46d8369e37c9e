/-! the class: a rota -/
def ro_H (it : Int → Int) (n : Int) (μ : fr_Me) : Prop := (1 ≤ n ∧ n ≤ 8) ∧ μ 33 2 = n ∧ ∀ k, 0 ≤ k → k < n → μ 34 k = it k
theorem ro_md {a n : Int} (ha : 0 ≤ a) (hn : 1 ≤ n) : 0 ≤ a.tmod n ∧ a.tmod n < n := by
  rw [Int.tmod_eq_emod_of_nonneg ha]
  exact ⟨Int.emod_nonneg _ (by omega), Int.emod_lt_of_pos _ (by omega)⟩
def ro_v (w it : Int → Int) (n y t : Int) : Int := sp_sl (w (1 + t)) (sp_rf w y t) * w (64 + sp_br w (sp_rl w it n y t)) + sp_sb (w (1 + t)) (sp_rg w y t) * w (64 + sp_br w (sp_rb w it n y t))
theorem ro_v_eq {w : Int → Int} (hI : fr_I w) (it : Int → Int) (n y : Int) : sp_rv w it n y = sp_sum (w 0).toNat (ro_v w it n y) := by
  unfold sp_rv
  refine sp_sum_eq _ (fun t _ _ => ?_)
  have h1 := sp_br_rg hI (sp_rl w it n y t)
  have h2 := sp_br_rg hI (sp_rb w it n y t)
  unfold sp_bn ro_v
  have e : ∀ f : Int, w (64 + f) * ((if sp_br w (sp_rl w it n y t) = f then sp_sl (w (1 + t)) (sp_rf w y t) else 0) + (if sp_br w (sp_rb w it n y t) = f then sp_sb (w (1 + t)) (sp_rg w y t) else 0)) = (fun f => w (64 + f) * (if sp_br w (sp_rl w it n y t) = f then sp_sl (w (1 + t)) (sp_rf w y t) else 0)) f + (fun f => w (64 + f) * (if sp_br w (sp_rb w it n y t) = f then sp_sb (w (1 + t)) (sp_rg w y t) else 0)) f := fun f => Int.mul_add _ _ _
  rw [funext e, sp_sum_add, sp_sum_if (fun f => w (64 + f)), sp_sum_if (fun f => w (64 + f)), if_pos (by omega), if_pos (by omega), Int.mul_comm, Int.mul_comm (w (64 + sp_br w (sp_rb w it n y t)))]
theorem ro_nr {v m : Int} (hm : 0 ≤ m ∧ m ≤ 5) : (sp_nr v 6 = 5 ∨ (0 ≤ sp_nr v 6 ∧ sp_nr v 6 < m)) ↔ (v = 5 ∨ (0 ≤ v ∧ v < m)) := by
  unfold sp_nr; (repeat' split) <;> omega
theorem ro_nr2 {v m : Int} (hm : 0 ≤ m ∧ m ≤ 5) (h : v = 5 ∨ (0 ≤ v ∧ v < m)) : sp_nr v 6 = v := by
  unfold sp_nr; (repeat' split) <;> omega
set_option maxRecDepth 20000 in
theorem kcX4_take {l : Launch} {κ : fr_Ka} {w : Int → Int} {μ : fr_Me} (hG : fr_G w μ) (hI : fr_I w) {s i n : Int} (s0 : 0 ≤ s) (s4 : s < 4) (hn : 1 ≤ n ∧ n ≤ 8) (hi : 0 ≤ i ∧ i + n ≤ 16) (hv : ∀ k, 0 ≤ k → k < 16 → -9223372036854775808 ≤ μ (62 + s) k ∧ μ (62 + s) k ≤ 9223372036854775807)  : fr_C l κ fmX4_take 4 [fr_r κ 33, fr_r κ (58 + s), fr_i i, fr_i n] μ (fr_Pi (fun z m => (∀ c, c ≠ 33 → c ≠ 34 → m c = μ c) ∧ (∀ q, q ≠ 2 → m 33 q = μ 33 q) ∧ m 33 2 = n ∧ ((sp_folks w (fun q => μ (62 + s) (i + q)) n ∧ z = 1 ∧ ∀ k, 0 ≤ k → k < n → m 34 k = (fun q => μ (62 + s) (i + q)) k) ∨ (¬ sp_folks w (fun q => μ (62 + s) (i + q)) n ∧ z = 0)))) := by
  have iM := hI.many
  refine fr_enter (by decide +kernel) (ls := [some (fr_r κ 33), some (fr_r κ (58 + s)), some (fr_i i), some (fr_i n), none]) rfl (Nat.le_of_ble_eq_true rfl) ?_
  refine fr_al0 dX4_take_0 ?_
  refine fr_il3 dX4_take_1 ?_
  refine fr_put (kz := 2) dX4_take_2 fpX4_15 ⟨by decide, by decide, rfl⟩ rfl rfl (fun h => by cases h) ?_
  refine fr_iconst dX4_take_5 ?_
  refine fr_is4 dX4_take_6 rfl (Nat.le_of_ble_eq_true rfl) ?_
  refine fr_wk ?_ (ls := [some (fr_r κ 33), some (fr_r κ (58 + s)), some (fr_i i), some (fr_i n), some (fr_i (0 : Int))]) ⟨rfl, rfl, rfl, rfl, rfl, trivial⟩
  refine (fr_down (P := fun j : Nat => ∀ (m : fr_Me), (((∀ c, c ≠ 33 → c ≠ 34 → m c = μ c) ∧ (∀ q, q ≠ 2 → m 33 q = μ 33 q) ∧ m 33 2 = n) ∧ ∀ k, 0 ≤ k → k < (j : Int) → (μ (62 + s) (i + k) = 5 ∨ (0 ≤ μ (62 + s) (i + k) ∧ μ (62 + s) (i + k) < w 43)) ∧ m 34 k = μ (62 + s) (i + k)) → fr_A l κ fmX4_take 4 (fr_Pi (fun z m => (∀ c, c ≠ 33 → c ≠ 34 → m c = μ c) ∧ (∀ q, q ≠ 2 → m 33 q = μ 33 q) ∧ m 33 2 = n ∧ ((sp_folks w (fun q => μ (62 + s) (i + q)) n ∧ z = 1 ∧ ∀ k, 0 ≤ k → k < n → m 34 k = (fun q => μ (62 + s) (i + q)) k) ∨ (¬ sp_folks w (fun q => μ (62 + s) (i + q)) n ∧ z = 0)))) 8 [some (fr_r κ 33), some (fr_r κ (58 + s)), some (fr_i i), some (fr_i n), some (fr_i (j : Int))] [] m) n.toNat ?_ (fun j hj8 ih8 => ?_)) _ (⟨⟨fun c h1 h2 => by rw [gm_uc h1], fun q h1 => by rw [gm_un h1], gm_uk⟩, fun k k0 k1 => by omega⟩)
  · skip
    intro m hm
    refine fr_il4 dX4_take_8 ?_
    refine fr_il3 dX4_take_10 ?_
    refine fr_icmp_ge (tgt := 56) dX4_take_11 (by decide) (by omega) (by omega) (fun h1 => ?_) (fun h1 => ?_)
    · skip
      refine fr_iconst dX4_take_56 ?_
      exact fr_zret dX4_take_57 rfl (Or.inr rfl) (fr_pi ⟨hm.1.1, hm.1.2.1, hm.1.2.2, Or.inl ⟨fun k k0 k1 => (hm.2 k k0 (by omega)).1, rfl, fun k k0 k1 => (hm.2 k k0 (by omega)).2⟩⟩)
    · skip
      exfalso; omega
  · skip
    intro m hm
    refine fr_il4 dX4_take_8 ?_
    refine fr_il3 dX4_take_10 ?_
    refine fr_icmp_ge (tgt := 56) dX4_take_11 (by decide) (by omega) (by omega) (fun h2 => ?_) (fun h2 => ?_)
    · skip
      exfalso; omega
    · skip
      refine fr_al0 dX4_take_14 ?_
      refine fr_getr (cz := 34) dX4_take_15 flX4_9 ⟨by decide, by decide, rfl⟩ rfl rfl ?_
      refine fr_il4 dX4_take_18 ?_
      refine fr_al1 dX4_take_20 ?_
      refine fr_il2 dX4_take_21 ?_
      refine fr_il4 dX4_take_22 ?_
      refine fr_iadd dX4_take_24 ?_
      refine fr_bipush dX4_take_25 (by decide) ?_
      refine fr_cVi (mi' := fmX5_near) dX4_take_27 mlX4_23 mvX5_near ⟨5, _, (fr_obS (by omega) (by omega)), rfl, rfl⟩ (Nat.le_of_ble_eq_true rfl) (kcX5_near s0 s4 (by omega) (by omega) (by rw [hm.1.1 _ (by omega) (by omega)]; exact hv _ (by omega) (by omega))) rfl rfl (Nat.le_of_ble_eq_true rfl) ?_
      have snr : -1 ≤ sp_nr (m (62 + s) (i + (j : Int))) 6 ∧ sp_nr (m (62 + s) (i + (j : Int))) 6 ≤ 6 := by unfold sp_nr; split <;> (try split) <;> omega
      have eit : m (62 + s) (i + (j : Int)) = μ (62 + s) (i + (j : Int)) := by rw [hm.1.1 _ (by omega) (by omega)]
      rw [eit] at snr ⊢
      refine fr_iast dX4_take_30 ⟨by decide, by decide, rfl, by decide⟩ (by omega) (by omega) ?_
      refine fr_al0 dX4_take_31 ?_
      refine fr_getr (cz := 1) dX4_take_32 flX4_19 ⟨by decide, by decide, rfl⟩ rfl rfl ?_
      refine fr_al0 dX4_take_35 ?_
      refine fr_getr (cz := 34) dX4_take_36 flX4_9 ⟨by decide, by decide, rfl⟩ rfl rfl ?_
      refine fr_il4 dX4_take_39 ?_
      refine fr_iald dX4_take_41 ⟨by decide, by decide, rfl, by decide⟩ (by omega) (by omega) ?_
      refine fr_cVi (mi' := fmX1_isFolk) dX4_take_42 mlX4_29 mvX1_isFolk ⟨1, _, ⟨by decide, by decide, rfl⟩, rfl, rfl⟩ (Nat.le_of_ble_eq_true rfl) (kcX1_isFolk (hG.keep (fun c hc => by rw [gm_uc (by omega)]; exact hm.1.1 c (by omega) (by omega))) hI (by rw [gm_uk]; omega)) rfl rfl (Nat.le_of_ble_eq_true rfl) ?_
      rw [gm_uk]
      refine fr_ifb_ne (tgt := 50) dX4_take_45 (by decide) (fun h3 => ?_) (fun h3 => ?_)
      · skip
        have hfk := (ro_nr iM).mp h3
        refine fr_ii4 dX4_take_50 rfl (Nat.le_of_ble_eq_true rfl) ?_
        refine fr_goto (tgt := 8) dX4_take_53 (by decide) ?_
        exact fr_wk (ih8 _ (⟨⟨fun c h1 h2 => by rw [gm_uc h2]; exact hm.1.1 c h1 h2, fun q h1 => by rw [gm_uc (by omega)]; exact hm.1.2.1 q h1, by rw [gm_uc (by omega)]; exact hm.1.2.2⟩, fun k k0 k1 => by rcases (by omega : k < (j : Int) ∨ k = (j : Int)) with q | q; (· rw [gm_un (by omega)]; exact hm.2 k k0 q); (· rw [q, gm_uk]; exact ⟨hfk, ro_nr2 iM hfk⟩)⟩)) ⟨rfl, rfl, rfl, rfl, rfl, trivial⟩
      · skip
        have hnf := h3
        refine fr_iconst dX4_take_48 ?_
        exact fr_zret dX4_take_49 rfl (Or.inl rfl) (fr_pi ⟨fun c h1 h2 => by rw [gm_uc h2]; exact hm.1.1 c h1 h2, fun q h1 => by rw [gm_uc (by omega)]; exact hm.1.2.1 q h1, by rw [gm_uc (by omega)]; exact hm.1.2.2, Or.inr ⟨fun h => hnf ((ro_nr iM).mpr (h (j : Int) (by omega) (by omega))), rfl⟩⟩)
set_option maxRecDepth 20000 in
theorem kcX4_lastBehind {l : Launch} {κ : fr_Ka} {w : Int → Int} {μ : fr_Me} (hG : fr_G w μ) (hI : fr_I w) {it : Int → Int} {n : Int} (hH : ro_H it n μ) {t y : Int} (ht : 0 ≤ t ∧ t < w 0) (hy : 0 ≤ y ∧ y ≤ 201)  : fr_C l κ fmX4_lastBehind 1 [fr_r κ 33, fr_i t, fr_i y] μ (fr_Ei (sp_rl w it n y t) μ) := by
  have iN := hI.n
  obtain ⟨a0, a1, a2, a3, a4, a5, a6⟩ := hG.tree (t := t) (by omega) (by omega)
  have iT := hI.tree (t := t) (by omega) (by omega)
  unfold fr_It at iT
  have hl := hH.2.1
  have hn8 := hH.1
  have hmd : y ≠ 0 → 0 ≤ (y - 1 + t).tmod (μ 33 2) ∧ (y - 1 + t).tmod (μ 33 2) < μ 33 2 := fun h => ro_md (by omega) (by omega)
  refine fr_enter (by decide +kernel) (ls := [some (fr_r κ 33), some (fr_i t), some (fr_i y)]) rfl (Nat.le_of_ble_eq_true rfl) ?_
  refine fr_il2 dX4_lastBehind_0 ?_
  refine fr_if_ne (tgt := 19) dX4_lastBehind_1 (by decide) (by omega) (fun h1 => ?_) (fun h1 => ?_)
  · skip
    have hm2 := hmd (by omega)
    refine fr_al0 dX4_lastBehind_19 ?_
    refine fr_getr (cz := 34) dX4_lastBehind_20 flX4_9 ⟨by decide, by decide, rfl⟩ rfl rfl ?_
    refine fr_il2 dX4_lastBehind_23 ?_
    refine fr_iconst dX4_lastBehind_24 ?_
    refine fr_isub dX4_lastBehind_25 ?_
    refine fr_il1 dX4_lastBehind_26 ?_
    refine fr_iadd dX4_lastBehind_27 ?_
    refine fr_al0 dX4_lastBehind_28 ?_
    refine fr_geti (kz := 2) dX4_lastBehind_29 flX4_15 ⟨by decide, by decide, rfl⟩ rfl rfl ?_
    refine fr_irem dX4_lastBehind_32 (by omega) (by omega) (by omega) ?_
    refine fr_iald dX4_lastBehind_33 ⟨by decide, by decide, rfl, by decide⟩ (by omega) (by omega) ?_
    exact fr_iret dX4_lastBehind_34 rfl (fr_e (by unfold sp_rl; rw [if_neg (by omega), hl, hH.2.2 _ (by rw [← hl]; omega) (by rw [← hl]; omega)]) rfl)
  · skip
    refine fr_al0 dX4_lastBehind_4 ?_
    refine fr_getr (cz := 1) dX4_lastBehind_5 flX4_19 ⟨by decide, by decide, rfl⟩ rfl rfl ?_
    refine fr_getr (cz := 2) dX4_lastBehind_8 flX4_41 ⟨by decide, by decide, rfl⟩ rfl rfl ?_
    refine fr_il1 dX4_lastBehind_11 ?_
    refine fr_aaT dX4_lastBehind_12 (by omega) (by omega) ?_
    refine fr_geti (kz := 2) dX4_lastBehind_13 flX4_74 (fr_obT (by omega) (by omega)) rfl rfl ?_
    refine fr_goto (tgt := 34) dX4_lastBehind_16 (by decide) ?_
    exact fr_iret dX4_lastBehind_34 rfl (fr_e (by unfold sp_rl; rw [if_pos (by omega)]; exact a2) rfl)
set_option maxRecDepth 20000 in
theorem kcX4_beforeBehind {l : Launch} {κ : fr_Ka} {w : Int → Int} {μ : fr_Me} (hG : fr_G w μ) (hI : fr_I w) {it : Int → Int} {n : Int} (hH : ro_H it n μ) {t y : Int} (ht : 0 ≤ t ∧ t < w 0) (hy : 0 ≤ y ∧ y ≤ 201)  : fr_C l κ fmX4_beforeBehind 2 [fr_r κ 33, fr_i t, fr_i y] μ (fr_Ei (sp_rb w it n y t) μ) := by
  have iN := hI.n
  obtain ⟨a0, a1, a2, a3, a4, a5, a6⟩ := hG.tree (t := t) (by omega) (by omega)
  have iT := hI.tree (t := t) (by omega) (by omega)
  unfold fr_It at iT
  have hl := hH.2.1
  have hn8 := hH.1
  refine fr_enter (by decide +kernel) (ls := [some (fr_r κ 33), some (fr_i t), some (fr_i y)]) rfl (Nat.le_of_ble_eq_true rfl) ?_
  refine fr_il2 dX4_beforeBehind_0 ?_
  refine fr_if_ne (tgt := 19) dX4_beforeBehind_1 (by decide) (by omega) (fun h1 => ?_) (fun h1 => ?_)
  · skip
    refine fr_al0 dX4_beforeBehind_19 ?_
    refine fr_il1 dX4_beforeBehind_20 ?_
    refine fr_il2 dX4_beforeBehind_21 ?_
    refine fr_iconst dX4_beforeBehind_22 ?_
    refine fr_isub dX4_beforeBehind_23 ?_
    refine fr_cVi (mi' := fmX4_lastBehind) dX4_beforeBehind_24 mlX4_64 mvX4_lastBehind ⟨4, _, ⟨by decide, by decide, rfl⟩, rfl, rfl⟩ (Nat.le_of_ble_eq_true rfl) (kcX4_lastBehind hG hI hH (by omega) (by omega)) rfl rfl (Nat.le_of_ble_eq_true rfl) ?_
    exact fr_iret dX4_beforeBehind_27 rfl (fr_e (by unfold sp_rb; rw [if_neg (by omega)]) rfl)
  · skip
    refine fr_al0 dX4_beforeBehind_4 ?_
    refine fr_getr (cz := 1) dX4_beforeBehind_5 flX4_19 ⟨by decide, by decide, rfl⟩ rfl rfl ?_
    refine fr_getr (cz := 2) dX4_beforeBehind_8 flX4_41 ⟨by decide, by decide, rfl⟩ rfl rfl ?_
    refine fr_il1 dX4_beforeBehind_11 ?_
    refine fr_aaT dX4_beforeBehind_12 (by omega) (by omega) ?_
    refine fr_geti (kz := 3) dX4_beforeBehind_13 flX4_77 (fr_obT (by omega) (by omega)) rfl rfl ?_
    refine fr_goto (tgt := 27) dX4_beforeBehind_16 (by decide) ?_
    exact fr_iret dX4_beforeBehind_27 rfl (fr_e (by unfold sp_rb; rw [if_pos (by omega)]; exact a3) rfl)
set_option maxRecDepth 20000 in
theorem kcX4_lastFellBehind {l : Launch} {κ : fr_Ka} {w : Int → Int} {μ : fr_Me} (hG : fr_G w μ) (hI : fr_I w) {it : Int → Int} {n : Int} (hH : ro_H it n μ) {t y : Int} (ht : 0 ≤ t ∧ t < w 0) (hy : 0 ≤ y ∧ y ≤ 201)  : fr_C l κ fmX4_lastFellBehind 1 [fr_r κ 33, fr_i t, fr_i y] μ (fr_Ei (sp_rf w y t) μ) := by
  have iN := hI.n
  obtain ⟨a0, a1, a2, a3, a4, a5, a6⟩ := hG.tree (t := t) (by omega) (by omega)
  have iT := hI.tree (t := t) (by omega) (by omega)
  unfold fr_It at iT
  have hl := hH.2.1
  have hn8 := hH.1
  refine fr_enter (by decide +kernel) (ls := [some (fr_r κ 33), some (fr_i t), some (fr_i y)]) rfl (Nat.le_of_ble_eq_true rfl) ?_
  refine fr_il2 dX4_lastFellBehind_0 ?_
  refine fr_if_ne (tgt := 23) dX4_lastFellBehind_1 (by decide) (by omega) (fun h1 => ?_) (fun h1 => ?_)
  · skip
    refine fr_iconst dX4_lastFellBehind_23 ?_
    exact fr_zret dX4_lastFellBehind_24 rfl (Or.inl rfl) (fr_e (by unfold sp_rf; (first | rw [if_neg (by omega)] | rw [if_pos (by omega)]) <;> omega) rfl)
  · skip
    refine fr_al0 dX4_lastFellBehind_4 ?_
    refine fr_getr (cz := 1) dX4_lastFellBehind_5 flX4_19 ⟨by decide, by decide, rfl⟩ rfl rfl ?_
    refine fr_getr (cz := 2) dX4_lastFellBehind_8 flX4_41 ⟨by decide, by decide, rfl⟩ rfl rfl ?_
    refine fr_il1 dX4_lastFellBehind_11 ?_
    refine fr_aaT dX4_lastFellBehind_12 (by omega) (by omega) ?_
    refine fr_geti (kz := 4) dX4_lastFellBehind_13 flX4_80 (fr_obT (by omega) (by omega)) rfl rfl ?_
    refine fr_if_eq (tgt := 23) dX4_lastFellBehind_16 (by decide) (by omega) (fun h2 => ?_) (fun h2 => ?_)
    · skip
      refine fr_iconst dX4_lastFellBehind_23 ?_
      exact fr_zret dX4_lastFellBehind_24 rfl (Or.inl rfl) (fr_e (by unfold sp_rf; (first | rw [if_neg (by omega)] | rw [if_pos (by omega)]) <;> omega) rfl)
    · skip
      refine fr_iconst dX4_lastFellBehind_19 ?_
      refine fr_goto (tgt := 24) dX4_lastFellBehind_20 (by decide) ?_
      exact fr_zret dX4_lastFellBehind_24 rfl (Or.inr rfl) (fr_e (by unfold sp_rf; (first | rw [if_neg (by omega)] | rw [if_pos (by omega)]) <;> omega) rfl)
set_option maxRecDepth 20000 in
theorem kcX4_beforeFellBehind {l : Launch} {κ : fr_Ka} {w : Int → Int} {μ : fr_Me} (hG : fr_G w μ) (hI : fr_I w) {it : Int → Int} {n : Int} (hH : ro_H it n μ) {t y : Int} (ht : 0 ≤ t ∧ t < w 0) (hy : 0 ≤ y ∧ y ≤ 201)  : fr_C l κ fmX4_beforeFellBehind 2 [fr_r κ 33, fr_i t, fr_i y] μ (fr_Ei (sp_rg w y t) μ) := by
  have iN := hI.n
  obtain ⟨a0, a1, a2, a3, a4, a5, a6⟩ := hG.tree (t := t) (by omega) (by omega)
  have iT := hI.tree (t := t) (by omega) (by omega)
  unfold fr_It at iT
  have hl := hH.2.1
  have hn8 := hH.1
  have hrf := sp_rf_ok (y := y - 1) hI ht.1 ht.2
  refine fr_enter (by decide +kernel) (ls := [some (fr_r κ 33), some (fr_i t), some (fr_i y)]) rfl (Nat.le_of_ble_eq_true rfl) ?_
  refine fr_il2 dX4_beforeFellBehind_0 ?_
  refine fr_if_ne (tgt := 19) dX4_beforeFellBehind_1 (by decide) (by omega) (fun h1 => ?_) (fun h1 => ?_)
  · skip
    refine fr_al0 dX4_beforeFellBehind_19 ?_
    refine fr_il1 dX4_beforeFellBehind_20 ?_
    refine fr_il2 dX4_beforeFellBehind_21 ?_
    refine fr_iconst dX4_beforeFellBehind_22 ?_
    refine fr_isub dX4_beforeFellBehind_23 ?_
    refine fr_cVi (mi' := fmX4_lastFellBehind) dX4_beforeFellBehind_24 mlX4_50 mvX4_lastFellBehind ⟨4, _, ⟨by decide, by decide, rfl⟩, rfl, rfl⟩ (Nat.le_of_ble_eq_true rfl) (kcX4_lastFellBehind hG hI hH (by omega) (by omega)) rfl rfl (Nat.le_of_ble_eq_true rfl) ?_
    exact fr_zret dX4_beforeFellBehind_27 rfl (by omega) (fr_e (by unfold sp_rg; rw [if_neg (by omega)]) rfl)
  · skip
    refine fr_al0 dX4_beforeFellBehind_4 ?_
    refine fr_getr (cz := 1) dX4_beforeFellBehind_5 flX4_19 ⟨by decide, by decide, rfl⟩ rfl rfl ?_
    refine fr_getr (cz := 2) dX4_beforeFellBehind_8 flX4_41 ⟨by decide, by decide, rfl⟩ rfl rfl ?_
    refine fr_il1 dX4_beforeFellBehind_11 ?_
    refine fr_aaT dX4_beforeFellBehind_12 (by omega) (by omega) ?_
    refine fr_geti (kz := 5) dX4_beforeFellBehind_13 flX4_84 (fr_obT (by omega) (by omega)) rfl rfl ?_
    refine fr_goto (tgt := 27) dX4_beforeFellBehind_16 (by decide) ?_
    exact fr_zret dX4_beforeFellBehind_27 rfl (by omega) (fr_e (by unfold sp_rg; rw [if_pos (by omega)]; exact a5) rfl)
set_option maxRecDepth 20000 in
theorem kcX4_valueBehind {l : Launch} {κ : fr_Ka} {w : Int → Int} {μ : fr_Me} (hG : fr_G w μ) (hI : fr_I w) {it : Int → Int} {n : Int} (hH : ro_H it n μ) (hfk : sp_folks w it n) {t y : Int} (ht : 0 ≤ t ∧ t < w 0) (hy : 0 ≤ y ∧ y ≤ 201)  : fr_C l κ fmX4_valueBehind 5 [fr_r κ 33, fr_i t, fr_i y] μ (fr_Ei (ro_v w it n y t) μ) := by
  have iN := hI.n
  obtain ⟨a0, a1, a2, a3, a4, a5, a6⟩ := hG.tree (t := t) (by omega) (by omega)
  have iT := hI.tree (t := t) (by omega) (by omega)
  unfold fr_It at iT
  have hl := hH.2.1
  have hn8 := hH.1
  have hok1 := sp_rl_ok hI hfk hn8.1 hy.1 ht.1 ht.2
  have hok2 := sp_rb_ok hI hfk hn8.1 hy.1 ht.1 ht.2
  have hok3 := sp_rf_ok (y := y) hI ht.1 ht.2
  have hok4 := sp_rg_ok (y := y) hI ht.1 ht.2
  have iM := hI.many
  refine fr_enter (by decide +kernel) (ls := [some (fr_r κ 33), some (fr_i t), some (fr_i y), none, none, none]) rfl (Nat.le_of_ble_eq_true rfl) ?_
  refine fr_al0 dX4_valueBehind_0 ?_
  refine fr_getr (cz := 1) dX4_valueBehind_1 flX4_19 ⟨by decide, by decide, rfl⟩ rfl rfl ?_
  refine fr_getr (cz := 2) dX4_valueBehind_4 flX4_41 ⟨by decide, by decide, rfl⟩ rfl rfl ?_
  refine fr_il1 dX4_valueBehind_7 ?_
  refine fr_aaT dX4_valueBehind_8 (by omega) (by omega) ?_
  refine fr_geti (kz := 0) dX4_valueBehind_9 flX4_45 (fr_obT (by omega) (by omega)) rfl rfl ?_
  refine fr_is3 dX4_valueBehind_12 rfl (Nat.le_of_ble_eq_true rfl) ?_
  refine fr_il3 dX4_valueBehind_13 ?_
  refine fr_al0 dX4_valueBehind_14 ?_
  refine fr_il1 dX4_valueBehind_15 ?_
  refine fr_il2 dX4_valueBehind_16 ?_
  refine fr_cVi (mi' := fmX4_lastFellBehind) dX4_valueBehind_17 mlX4_50 mvX4_lastFellBehind ⟨4, _, ⟨by decide, by decide, rfl⟩, rfl, rfl⟩ (Nat.le_of_ble_eq_true rfl) (kcX4_lastFellBehind hG hI hH (by omega) (by omega)) rfl rfl (Nat.le_of_ble_eq_true rfl) ?_
  refine fr_cSi (mi' := fmX7_shareOfLast) dX4_valueBehind_20 mlX4_54 msX7_shareOfLast (Nat.le_of_ble_eq_true rfl) (kcX7_shareOfLast (by omega) (by omega)) rfl rfl (Nat.le_of_ble_eq_true rfl) ?_
  refine fr_is4 dX4_valueBehind_23 rfl (Nat.le_of_ble_eq_true rfl) ?_
  refine fr_il3 dX4_valueBehind_25 ?_
  refine fr_al0 dX4_valueBehind_26 ?_
  refine fr_il1 dX4_valueBehind_27 ?_
  refine fr_il2 dX4_valueBehind_28 ?_
  refine fr_cVi (mi' := fmX4_beforeFellBehind) dX4_valueBehind_29 mlX4_58 mvX4_beforeFellBehind ⟨4, _, ⟨by decide, by decide, rfl⟩, rfl, rfl⟩ (Nat.le_of_ble_eq_true rfl) (kcX4_beforeFellBehind hG hI hH (by omega) (by omega)) rfl rfl (Nat.le_of_ble_eq_true rfl) ?_
  refine fr_cSi (mi' := fmX7_shareOfBefore) dX4_valueBehind_32 mlX4_61 msX7_shareOfBefore (Nat.le_of_ble_eq_true rfl) (kcX7_shareOfBefore (by omega) (by omega)) rfl rfl (Nat.le_of_ble_eq_true rfl) ?_
  refine fr_is5 dX4_valueBehind_35 rfl (Nat.le_of_ble_eq_true rfl) ?_
  refine fr_il4 dX4_valueBehind_37 ?_
  refine fr_al0 dX4_valueBehind_39 ?_
  refine fr_getr (cz := 1) dX4_valueBehind_40 flX4_19 ⟨by decide, by decide, rfl⟩ rfl rfl ?_
  refine fr_al0 dX4_valueBehind_43 ?_
  refine fr_il1 dX4_valueBehind_44 ?_
  refine fr_il2 dX4_valueBehind_45 ?_
  refine fr_cVi (mi' := fmX4_lastBehind) dX4_valueBehind_46 mlX4_64 mvX4_lastBehind ⟨4, _, ⟨by decide, by decide, rfl⟩, rfl, rfl⟩ (Nat.le_of_ble_eq_true rfl) (kcX4_lastBehind hG hI hH (by omega) (by omega)) rfl rfl (Nat.le_of_ble_eq_true rfl) ?_
  refine fr_cVi (mi' := fmX1_priceOfBrought) dX4_valueBehind_49 mlX4_67 mvX1_priceOfBrought ⟨1, _, ⟨by decide, by decide, rfl⟩, rfl, rfl⟩ (Nat.le_of_ble_eq_true rfl) (kcX1_priceOfBrought hG hI (by omega)) rfl rfl (Nat.le_of_ble_eq_true rfl) ?_
  refine fr_imul dX4_valueBehind_52 ?_
  refine fr_il5 dX4_valueBehind_53 ?_
  refine fr_al0 dX4_valueBehind_55 ?_
  refine fr_getr (cz := 1) dX4_valueBehind_56 flX4_19 ⟨by decide, by decide, rfl⟩ rfl rfl ?_
  refine fr_al0 dX4_valueBehind_59 ?_
  refine fr_il1 dX4_valueBehind_60 ?_
  refine fr_il2 dX4_valueBehind_61 ?_
  refine fr_cVi (mi' := fmX4_beforeBehind) dX4_valueBehind_62 mlX4_71 mvX4_beforeBehind ⟨4, _, ⟨by decide, by decide, rfl⟩, rfl, rfl⟩ (Nat.le_of_ble_eq_true rfl) (kcX4_beforeBehind hG hI hH (by omega) (by omega)) rfl rfl (Nat.le_of_ble_eq_true rfl) ?_
  refine fr_cVi (mi' := fmX1_priceOfBrought) dX4_valueBehind_65 mlX4_67 mvX1_priceOfBrought ⟨1, _, ⟨by decide, by decide, rfl⟩, rfl, rfl⟩ (Nat.le_of_ble_eq_true rfl) (kcX1_priceOfBrought hG hI (by omega)) rfl rfl (Nat.le_of_ble_eq_true rfl) ?_
  refine fr_imul dX4_valueBehind_68 ?_
  refine fr_iadd dX4_valueBehind_69 ?_
  exact fr_iret dX4_valueBehind_70 rfl (fr_e (by unfold ro_v; rw [a0]) rfl)
set_option maxRecDepth 20000 in
theorem kcX4_valueOfYears {l : Launch} {κ : fr_Ka} {w : Int → Int} {μ : fr_Me} (hG : fr_G w μ) (hI : fr_I w) {it : Int → Int} {n : Int} (hH : ro_H it n μ) (hfk : sp_folks w it n) {mm : Int} (hmm : 0 ≤ mm ∧ mm ≤ 200)  : fr_C l κ fmX4_valueOfYears 6 [fr_r κ 33, fr_i mm] μ (fr_Ei (sp_sum mm.toNat (fun y => sp_rv w it n (y + 1))) μ) := by
  have iN := hI.n
  have gN := hG.n
  refine fr_enter (by decide +kernel) (ls := [some (fr_r κ 33), some (fr_i mm), none, none, none]) rfl (Nat.le_of_ble_eq_true rfl) ?_
  refine fr_iconst dX4_valueOfYears_0 ?_
  refine fr_is2 dX4_valueOfYears_1 rfl (Nat.le_of_ble_eq_true rfl) ?_
  refine fr_iconst dX4_valueOfYears_2 ?_
  refine fr_is3 dX4_valueOfYears_3 rfl (Nat.le_of_ble_eq_true rfl) ?_
  refine fr_wk ?_ (ls := [some (fr_r κ 33), some (fr_i mm), some (fr_i _), some (fr_i (1 + (0 : Int))), none]) ⟨rfl, rfl, rfl, rfl, trivial⟩
  refine (fr_down (P := fun j : Nat => ∀ (v : Int), (v = sp_sum j (fun y => sp_rv w it n (y + 1))) → fr_A l κ fmX4_valueOfYears 6 (fr_Ei (sp_sum mm.toNat (fun y => sp_rv w it n (y + 1))) μ) 4 [some (fr_r κ 33), some (fr_i mm), some (fr_i v), some (fr_i (1 + (j : Int))), none] [] μ) mm.toNat ?_ (fun j hj4 ih4 => ?_)) _ (rfl)
  · skip
    intro v hn
    refine fr_il3 dX4_valueOfYears_4 ?_
    refine fr_il1 dX4_valueOfYears_5 ?_
    refine fr_icmp_gt (tgt := 46) dX4_valueOfYears_6 (by decide) (by omega) (by omega) (fun h1 => ?_) (fun h1 => ?_)
    · skip
      refine fr_il2 dX4_valueOfYears_46 ?_
      exact fr_iret dX4_valueOfYears_47 rfl (fr_e hn rfl)
    · skip
      exfalso; omega
  · skip
    intro v hn
    refine fr_il3 dX4_valueOfYears_4 ?_
    refine fr_il1 dX4_valueOfYears_5 ?_
    refine fr_icmp_gt (tgt := 46) dX4_valueOfYears_6 (by decide) (by omega) (by omega) (fun h2 => ?_) (fun h2 => ?_)
    · skip
      exfalso; omega
    · skip
      refine fr_iconst dX4_valueOfYears_9 ?_
      refine fr_is4 dX4_valueOfYears_10 rfl (Nat.le_of_ble_eq_true rfl) ?_
      refine fr_wk ?_ (ls := [some (fr_r κ 33), some (fr_i mm), some (fr_i _), some (fr_i (1 + (j : Int))), some (fr_i (0 : Int))]) ⟨rfl, rfl, rfl, rfl, rfl, trivial⟩
      refine (fr_down (P := fun k : Nat => ∀ (u : Int), (u = sp_sum j (fun y => sp_rv w it n (y + 1)) + sp_sum k (ro_v w it n (1 + (j : Int)))) → fr_A l κ fmX4_valueOfYears 6 (fr_Ei (sp_sum mm.toNat (fun y => sp_rv w it n (y + 1))) μ) 12 [some (fr_r κ 33), some (fr_i mm), some (fr_i u), some (fr_i (1 + (j : Int))), some (fr_i (k : Int))] [] μ) (w 0).toNat ?_ (fun k hj12 ih12 => ?_)) _ (by rw [hn]; simp [sp_sum])
      · skip
        intro u hn2
        refine fr_il4 dX4_valueOfYears_12 ?_
        refine fr_al0 dX4_valueOfYears_14 ?_
        refine fr_getr (cz := 1) dX4_valueOfYears_15 flX4_19 ⟨by decide, by decide, rfl⟩ rfl rfl ?_
        refine fr_geti (kz := 3) dX4_valueOfYears_18 flX4_35 ⟨by decide, by decide, rfl⟩ rfl rfl ?_
        refine fr_icmp_ge (tgt := 40) dX4_valueOfYears_21 (by decide) (by omega) (by omega) (fun h3 => ?_) (fun h3 => ?_)
        · skip
          refine fr_ii3 dX4_valueOfYears_40 rfl (Nat.le_of_ble_eq_true rfl) ?_
          refine fr_goto (tgt := 4) dX4_valueOfYears_43 (by decide) ?_
          rw [show (1 : Int) + (j : Int) + 1 = 1 + ((j + 1 : Nat) : Int) by omega]
          exact fr_wk (ih4 _ (by rw [hn2]; simp only [sp_sum]; rw [ro_v_eq hI, show (j : Int) + 1 = 1 + (j : Int) by omega])) ⟨rfl, rfl, rfl, rfl, trivial⟩
        · skip
          exfalso; omega
      · skip
        intro u hn2
        refine fr_il4 dX4_valueOfYears_12 ?_
        refine fr_al0 dX4_valueOfYears_14 ?_
        refine fr_getr (cz := 1) dX4_valueOfYears_15 flX4_19 ⟨by decide, by decide, rfl⟩ rfl rfl ?_
        refine fr_geti (kz := 3) dX4_valueOfYears_18 flX4_35 ⟨by decide, by decide, rfl⟩ rfl rfl ?_
        refine fr_icmp_ge (tgt := 40) dX4_valueOfYears_21 (by decide) (by omega) (by omega) (fun h4 => ?_) (fun h4 => ?_)
        · skip
          exfalso; omega
        · skip
          refine fr_il2 dX4_valueOfYears_24 ?_
          refine fr_al0 dX4_valueOfYears_25 ?_
          refine fr_il4 dX4_valueOfYears_26 ?_
          refine fr_il3 dX4_valueOfYears_28 ?_
          refine fr_cVi (mi' := fmX4_valueBehind) dX4_valueOfYears_29 mlX4_38 mvX4_valueBehind ⟨4, _, ⟨by decide, by decide, rfl⟩, rfl, rfl⟩ (Nat.le_of_ble_eq_true rfl) (kcX4_valueBehind hG hI hH hfk (by omega) (by omega)) rfl rfl (Nat.le_of_ble_eq_true rfl) ?_
          refine fr_iadd dX4_valueOfYears_32 ?_
          refine fr_is2 dX4_valueOfYears_33 rfl (Nat.le_of_ble_eq_true rfl) ?_
          refine fr_ii4 dX4_valueOfYears_34 rfl (Nat.le_of_ble_eq_true rfl) ?_
          refine fr_goto (tgt := 12) dX4_valueOfYears_37 (by decide) ?_
          exact fr_wk (ih12 _ (by rw [hn2]; simp only [sp_sum]; omega)) ⟨rfl, rfl, rfl, rfl, rfl, trivial⟩
set_option maxRecDepth 20000 in
theorem kcX4_areAlike {l : Launch} {κ : fr_Ka} {w : Int → Int} {μ : fr_Me} (hG : fr_G w μ) (hI : fr_I w) {it : Int → Int} {n : Int} (hH : ro_H it n μ) (hfk : sp_folks w it n) {x y : Int} (hx : 0 ≤ x ∧ x ≤ 201) (hy : 0 ≤ y ∧ y ≤ 201)  : fr_C l κ fmX4_areAlike 3 [fr_r κ 33, fr_i x, fr_i y] μ (fr_Ei (fr_b (sp_al w it n x y)) μ) := by
  have iN := hI.n
  have gN := hG.n
  have hn8 := hH.1
  refine fr_enter (by decide +kernel) (ls := [some (fr_r κ 33), some (fr_i x), some (fr_i y), none]) rfl (Nat.le_of_ble_eq_true rfl) ?_
  refine fr_iconst dX4_areAlike_0 ?_
  refine fr_is3 dX4_areAlike_1 rfl (Nat.le_of_ble_eq_true rfl) ?_
  refine fr_wk ?_ (ls := [some (fr_r κ 33), some (fr_i x), some (fr_i y), some (fr_i (0 : Int))]) ⟨rfl, rfl, rfl, rfl, trivial⟩
  refine (fr_down (P := fun j : Nat => (∀ t, 0 ≤ t → t < (j : Int) → sp_rl w it n y t = sp_rl w it n x t ∧ sp_rb w it n y t = sp_rb w it n x t ∧ sp_rf w y t = sp_rf w x t ∧ sp_rg w y t = sp_rg w x t) → fr_A l κ fmX4_areAlike 3 (fr_Ei (fr_b (sp_al w it n x y)) μ) 2 [some (fr_r κ 33), some (fr_i x), some (fr_i y), some (fr_i (j : Int))] [] μ) (w 0).toNat ?_ (fun j hj2 ih2 => ?_)) (fun t t0 t1 => by omega)
  · skip
    intro hn
    refine fr_il3 dX4_areAlike_2 ?_
    refine fr_al0 dX4_areAlike_3 ?_
    refine fr_getr (cz := 1) dX4_areAlike_4 flX4_19 ⟨by decide, by decide, rfl⟩ rfl rfl ?_
    refine fr_geti (kz := 3) dX4_areAlike_7 flX4_35 ⟨by decide, by decide, rfl⟩ rfl rfl ?_
    refine fr_icmp_ge (tgt := 81) dX4_areAlike_10 (by decide) (by omega) (by omega) (fun h1 => ?_) (fun h1 => ?_)
    · skip
      refine fr_iconst dX4_areAlike_81 ?_
      exact fr_zret dX4_areAlike_82 rfl (Or.inr rfl) (fr_e (fr_bT (fun t t0 t1 => hn t t0 (by omega))).symm rfl)
    · skip
      exfalso; omega
  · skip
    intro hn
    have iM := hI.many
    have hok1x := sp_rl_ok hI hfk hn8.1 hx.1 (t := (j : Int)) (by omega) (by omega)
    have hok2x := sp_rb_ok hI hfk hn8.1 hx.1 (t := (j : Int)) (by omega) (by omega)
    have hok3x := sp_rf_ok (y := x) hI (t := (j : Int)) (by omega) (by omega)
    have hok4x := sp_rg_ok (y := x) hI (t := (j : Int)) (by omega) (by omega)
    have hok1y := sp_rl_ok hI hfk hn8.1 hy.1 (t := (j : Int)) (by omega) (by omega)
    have hok2y := sp_rb_ok hI hfk hn8.1 hy.1 (t := (j : Int)) (by omega) (by omega)
    have hok3y := sp_rf_ok (y := y) hI (t := (j : Int)) (by omega) (by omega)
    have hok4y := sp_rg_ok (y := y) hI (t := (j : Int)) (by omega) (by omega)
    refine fr_il3 dX4_areAlike_2 ?_
    refine fr_al0 dX4_areAlike_3 ?_
    refine fr_getr (cz := 1) dX4_areAlike_4 flX4_19 ⟨by decide, by decide, rfl⟩ rfl rfl ?_
    refine fr_geti (kz := 3) dX4_areAlike_7 flX4_35 ⟨by decide, by decide, rfl⟩ rfl rfl ?_
    refine fr_icmp_ge (tgt := 81) dX4_areAlike_10 (by decide) (by omega) (by omega) (fun h2 => ?_) (fun h2 => ?_)
    · skip
      exfalso; omega
    · skip
      refine fr_al0 dX4_areAlike_13 ?_
      refine fr_il3 dX4_areAlike_14 ?_
      refine fr_il1 dX4_areAlike_15 ?_
      refine fr_cVi (mi' := fmX4_lastBehind) dX4_areAlike_16 mlX4_64 mvX4_lastBehind ⟨4, _, ⟨by decide, by decide, rfl⟩, rfl, rfl⟩ (Nat.le_of_ble_eq_true rfl) (kcX4_lastBehind hG hI hH (by omega) (by omega)) rfl rfl (Nat.le_of_ble_eq_true rfl) ?_
      refine fr_al0 dX4_areAlike_19 ?_
      refine fr_il3 dX4_areAlike_20 ?_
      refine fr_il2 dX4_areAlike_21 ?_
      refine fr_cVi (mi' := fmX4_lastBehind) dX4_areAlike_22 mlX4_64 mvX4_lastBehind ⟨4, _, ⟨by decide, by decide, rfl⟩, rfl, rfl⟩ (Nat.le_of_ble_eq_true rfl) (kcX4_lastBehind hG hI hH (by omega) (by omega)) rfl rfl (Nat.le_of_ble_eq_true rfl) ?_
      refine fr_icmp_ne (tgt := 73) dX4_areAlike_25 (by decide) (by omega) (by omega) (fun h3 => ?_) (fun h3 => ?_)
      · skip
        refine fr_iconst dX4_areAlike_73 ?_
        exact fr_zret dX4_areAlike_74 rfl (Or.inl rfl) (fr_e (fr_bF (fun h => by have := h (j : Int) (by omega) (by omega); omega)).symm rfl)
      · skip
        refine fr_al0 dX4_areAlike_28 ?_
        refine fr_il3 dX4_areAlike_29 ?_
        refine fr_il1 dX4_areAlike_30 ?_
        refine fr_cVi (mi' := fmX4_beforeBehind) dX4_areAlike_31 mlX4_71 mvX4_beforeBehind ⟨4, _, ⟨by decide, by decide, rfl⟩, rfl, rfl⟩ (Nat.le_of_ble_eq_true rfl) (kcX4_beforeBehind hG hI hH (by omega) (by omega)) rfl rfl (Nat.le_of_ble_eq_true rfl) ?_
        refine fr_al0 dX4_areAlike_34 ?_
        refine fr_il3 dX4_areAlike_35 ?_
        refine fr_il2 dX4_areAlike_36 ?_
        refine fr_cVi (mi' := fmX4_beforeBehind) dX4_areAlike_37 mlX4_71 mvX4_beforeBehind ⟨4, _, ⟨by decide, by decide, rfl⟩, rfl, rfl⟩ (Nat.le_of_ble_eq_true rfl) (kcX4_beforeBehind hG hI hH (by omega) (by omega)) rfl rfl (Nat.le_of_ble_eq_true rfl) ?_
        refine fr_icmp_ne (tgt := 73) dX4_areAlike_40 (by decide) (by omega) (by omega) (fun h4 => ?_) (fun h4 => ?_)
        · skip
          refine fr_iconst dX4_areAlike_73 ?_
          exact fr_zret dX4_areAlike_74 rfl (Or.inl rfl) (fr_e (fr_bF (fun h => by have := h (j : Int) (by omega) (by omega); omega)).symm rfl)
        · skip
          refine fr_al0 dX4_areAlike_43 ?_
          refine fr_il3 dX4_areAlike_44 ?_
          refine fr_il1 dX4_areAlike_45 ?_
          refine fr_cVi (mi' := fmX4_lastFellBehind) dX4_areAlike_46 mlX4_50 mvX4_lastFellBehind ⟨4, _, ⟨by decide, by decide, rfl⟩, rfl, rfl⟩ (Nat.le_of_ble_eq_true rfl) (kcX4_lastFellBehind hG hI hH (by omega) (by omega)) rfl rfl (Nat.le_of_ble_eq_true rfl) ?_
          refine fr_al0 dX4_areAlike_49 ?_
          refine fr_il3 dX4_areAlike_50 ?_
          refine fr_il2 dX4_areAlike_51 ?_
          refine fr_cVi (mi' := fmX4_lastFellBehind) dX4_areAlike_52 mlX4_50 mvX4_lastFellBehind ⟨4, _, ⟨by decide, by decide, rfl⟩, rfl, rfl⟩ (Nat.le_of_ble_eq_true rfl) (kcX4_lastFellBehind hG hI hH (by omega) (by omega)) rfl rfl (Nat.le_of_ble_eq_true rfl) ?_
          refine fr_icmp_ne (tgt := 73) dX4_areAlike_55 (by decide) (by omega) (by omega) (fun h5 => ?_) (fun h5 => ?_)
          · skip
            refine fr_iconst dX4_areAlike_73 ?_
            exact fr_zret dX4_areAlike_74 rfl (Or.inl rfl) (fr_e (fr_bF (fun h => by have := h (j : Int) (by omega) (by omega); omega)).symm rfl)
          · skip
            refine fr_al0 dX4_areAlike_58 ?_
            refine fr_il3 dX4_areAlike_59 ?_
            refine fr_il1 dX4_areAlike_60 ?_
            refine fr_cVi (mi' := fmX4_beforeFellBehind) dX4_areAlike_61 mlX4_58 mvX4_beforeFellBehind ⟨4, _, ⟨by decide, by decide, rfl⟩, rfl, rfl⟩ (Nat.le_of_ble_eq_true rfl) (kcX4_beforeFellBehind hG hI hH (by omega) (by omega)) rfl rfl (Nat.le_of_ble_eq_true rfl) ?_
            refine fr_al0 dX4_areAlike_64 ?_
            refine fr_il3 dX4_areAlike_65 ?_
            refine fr_il2 dX4_areAlike_66 ?_
            refine fr_cVi (mi' := fmX4_beforeFellBehind) dX4_areAlike_67 mlX4_58 mvX4_beforeFellBehind ⟨4, _, ⟨by decide, by decide, rfl⟩, rfl, rfl⟩ (Nat.le_of_ble_eq_true rfl) (kcX4_beforeFellBehind hG hI hH (by omega) (by omega)) rfl rfl (Nat.le_of_ble_eq_true rfl) ?_
            refine fr_icmp_eq (tgt := 75) dX4_areAlike_70 (by decide) (by omega) (by omega) (fun h6 => ?_) (fun h6 => ?_)
            · skip
              refine fr_ii3 dX4_areAlike_75 rfl (Nat.le_of_ble_eq_true rfl) ?_
              refine fr_goto (tgt := 2) dX4_areAlike_78 (by decide) ?_
              exact fr_wk (ih2 (fun t t0 t1 => by rcases (by omega : t < (j : Int) ∨ t = (j : Int)) with q | q; (· exact hn t t0 q); (· subst q; exact ⟨by omega, by omega, by omega, by omega⟩))) ⟨rfl, rfl, rfl, rfl, trivial⟩
            · skip
              refine fr_iconst dX4_areAlike_73 ?_
              exact fr_zret dX4_areAlike_74 rfl (Or.inl rfl) (fr_e (fr_bF (fun h => by have := h (j : Int) (by omega) (by omega); omega)).symm rfl)
set_option maxRecDepth 20000 in
theorem kcX4_findAgain {l : Launch} {κ : fr_Ka} {w : Int → Int} {μ : fr_Me} (hG : fr_G w μ) (hI : fr_I w) {it : Int → Int} {n : Int} (hH : ro_H it n μ) (hfk : sp_folks w it n)  : fr_C l κ fmX4_findAgain 4 [fr_r κ 33] μ (fr_Pi (fun z m => (∀ c, c ≠ 33 → m c = μ c) ∧ ((z = 1 ∧ sp_ag w it n 0 (m 33 3) ∧ sp_ag w it n 1 (m 33 4)) ∨ (z = 0 ∧ sp_ag w it n 0 (-4) ∧ sp_ag w it n 1 (-4))))) := by
  have hn8 := hH.1
  have hl := hH.2.1
  refine fr_enter (by decide +kernel) (ls := [some (fr_r κ 33), none, none]) rfl (Nat.le_of_ble_eq_true rfl) ?_
  refine fr_iconst dX4_findAgain_0 ?_
  refine fr_is1 dX4_findAgain_1 rfl (Nat.le_of_ble_eq_true rfl) ?_
  refine fr_wk ?_ (ls := [some (fr_r κ 33), some (fr_i (1 + (0 : Int))), none]) ⟨rfl, rfl, trivial⟩
  refine (fr_down (P := fun j : Nat => (∀ y' : Int, 1 ≤ y' → y' ≤ j → ∀ d', sp_mul n d' → d' ≤ y' → ¬ sp_al w it n (y' - d') y') → fr_A l κ fmX4_findAgain 4 (fr_Pi (fun z m => (∀ c, c ≠ 33 → m c = μ c) ∧ ((z = 1 ∧ sp_ag w it n 0 (m 33 3) ∧ sp_ag w it n 1 (m 33 4)) ∨ (z = 0 ∧ sp_ag w it n 0 (-4) ∧ sp_ag w it n 1 (-4))))) 2 [some (fr_r κ 33), some (fr_i (1 + (j : Int))), none] [] μ) 200 ?_ (fun j hj2 ih2 => ?_)) (fun y y0 y1 => by omega)
  · skip
    intro hm
    refine fr_il1 dX4_findAgain_2 ?_
    refine fr_sipush dX4_findAgain_3 (by decide) ?_
    refine fr_icmp_gt (tgt := 59) dX4_findAgain_6 (by decide) (by omega) (by omega) (fun h1 => ?_) (fun h1 => ?_)
    · skip
      refine fr_iconst dX4_findAgain_59 ?_
      exact fr_zret dX4_findAgain_60 rfl (Or.inl rfl) (fr_pi ⟨fun c _ => rfl, Or.inr ⟨rfl, Or.inr ⟨hm, rfl⟩, Or.inr ⟨hm, rfl⟩⟩⟩)
    · skip
      exfalso; omega
  · skip
    intro hm
    refine fr_il1 dX4_findAgain_2 ?_
    refine fr_sipush dX4_findAgain_3 (by decide) ?_
    refine fr_icmp_gt (tgt := 59) dX4_findAgain_6 (by decide) (by omega) (by omega) (fun h2 => ?_) (fun h2 => ?_)
    · skip
      exfalso; omega
    · skip
      refine fr_il1 dX4_findAgain_9 ?_
      refine fr_al0 dX4_findAgain_10 ?_
      refine fr_geti (kz := 2) dX4_findAgain_11 flX4_15 ⟨by decide, by decide, rfl⟩ rfl rfl ?_
      refine fr_isub dX4_findAgain_14 ?_
      refine fr_is2 dX4_findAgain_15 rfl (Nat.le_of_ble_eq_true rfl) ?_
      refine fr_wk ?_ (ls := [some (fr_r κ 33), some (fr_i (1 + (j : Int))), some (fr_i _)]) ⟨rfl, rfl, rfl, trivial⟩
      refine (fr_down (P := fun i9 : Nat => ∀ (x : Int) (d : Int), (x = 1 + (j : Int) - d ∧ n + i9 ≤ d ∧ d ≤ 208 ∧ sp_mul n d ∧ ∀ d', sp_mul n d' → d' < d → ¬ sp_al w it n (1 + j - d') (1 + j)) → fr_A l κ fmX4_findAgain 4 (fr_Pi (fun z m => (∀ c, c ≠ 33 → m c = μ c) ∧ ((z = 1 ∧ sp_ag w it n 0 (m 33 3) ∧ sp_ag w it n 1 (m 33 4)) ∨ (z = 0 ∧ sp_ag w it n 0 (-4) ∧ sp_ag w it n 1 (-4))))) 16 [some (fr_r κ 33), some (fr_i (1 + (j : Int))), some (fr_i x)] [] μ) 201 ?_ (fun i9 hj16 ih16 => ?_)) _ _ ((⟨by omega, by omega, by omega, sp_mul.one n, fun d9 hd9 hl9 => absurd (hd9.pos (by omega)) (by omega)⟩ : _ ∧ _))
      · skip
        intro x d hd
        have hdp := hd.2.2.2.1.pos (by omega)
        refine fr_il2 dX4_findAgain_16 ?_
        refine fr_if_lt (tgt := 53) dX4_findAgain_17 (by decide) (by omega) (fun h3 => ?_) (fun h3 => ?_)
        · skip
          refine fr_ii1 dX4_findAgain_53 rfl (Nat.le_of_ble_eq_true rfl) ?_
          refine fr_goto (tgt := 2) dX4_findAgain_56 (by decide) ?_
          rw [show (1 : Int) + (j : Int) + 1 = 1 + ((j + 1 : Nat) : Int) by omega]
          exact fr_wk (ih2 (fun y y0 y1 d9 hd9 hl9 => (by omega : y ≤ j ∨ y = 1 + j).elim (fun h => hm y y0 h d9 hd9 hl9) (fun h => by subst h; exact hd.2.2.2.2 d9 hd9 (by omega)))) ⟨rfl, rfl, trivial⟩
        · skip
          exfalso; omega
      · skip
        intro x d hd
        have hdp := hd.2.2.2.1.pos (by omega)
        refine fr_il2 dX4_findAgain_16 ?_
        refine fr_if_lt (tgt := 53) dX4_findAgain_17 (by decide) (by omega) (fun h4 => ?_) (fun h4 => ?_)
        · skip
          refine fr_ii1 dX4_findAgain_53 rfl (Nat.le_of_ble_eq_true rfl) ?_
          refine fr_goto (tgt := 2) dX4_findAgain_56 (by decide) ?_
          rw [show (1 : Int) + (j : Int) + 1 = 1 + ((j + 1 : Nat) : Int) by omega]
          exact fr_wk (ih2 (fun y y0 y1 d9 hd9 hl9 => (by omega : y ≤ j ∨ y = 1 + j).elim (fun h => hm y y0 h d9 hd9 hl9) (fun h => by subst h; exact hd.2.2.2.2 d9 hd9 (by omega)))) ⟨rfl, rfl, trivial⟩
        · skip
          refine fr_al0 dX4_findAgain_20 ?_
          refine fr_il2 dX4_findAgain_21 ?_
          refine fr_il1 dX4_findAgain_22 ?_
          refine fr_cVi (mi' := fmX4_areAlike) dX4_findAgain_23 mlX4_87 mvX4_areAlike ⟨4, _, ⟨by decide, by decide, rfl⟩, rfl, rfl⟩ (Nat.le_of_ble_eq_true rfl) (kcX4_areAlike hG hI hH hfk (by omega) (by omega)) rfl rfl (Nat.le_of_ble_eq_true rfl) ?_
          refine fr_ifb_eq (tgt := 43) dX4_findAgain_26 (by decide) (fun h5 => ?_) (fun h5 => ?_)
          · skip
            have hal := h5
            refine fr_il2 dX4_findAgain_43 ?_
            refine fr_al0 dX4_findAgain_44 ?_
            refine fr_geti (kz := 2) dX4_findAgain_45 flX4_15 ⟨by decide, by decide, rfl⟩ rfl rfl ?_
            refine fr_isub dX4_findAgain_48 ?_
            refine fr_is2 dX4_findAgain_49 rfl (Nat.le_of_ble_eq_true rfl) ?_
            refine fr_goto (tgt := 16) dX4_findAgain_50 (by decide) ?_
            exact fr_wk (ih16 _ _ (⟨by omega, by omega, by omega, hd.2.2.2.1.add, fun d9 hd9 hl9 => (by have := hd.2.2.2.1.step (by omega) hd9 hl9; omega : d9 < d ∨ d9 = d).elim (fun h => hd.2.2.2.2 d9 hd9 h) (fun h => by subst h; rw [← hd.1]; exact hal)⟩)) ⟨rfl, rfl, rfl, trivial⟩
          · skip
            have hal := h5
            refine fr_al0 dX4_findAgain_29 ?_
            refine fr_il1 dX4_findAgain_30 ?_
            refine fr_put (kz := 3) dX4_findAgain_31 fpX4_90 ⟨by decide, by decide, rfl⟩ rfl rfl (fun h => by cases h) ?_
            refine fr_al0 dX4_findAgain_34 ?_
            refine fr_il1 dX4_findAgain_35 ?_
            refine fr_il2 dX4_findAgain_36 ?_
            refine fr_isub dX4_findAgain_37 ?_
            refine fr_put (kz := 4) dX4_findAgain_38 fpX4_93 ⟨by decide, by decide, rfl⟩ rfl rfl (fun h => by cases h) ?_
            refine fr_iconst dX4_findAgain_41 ?_
            exact fr_zret dX4_findAgain_42 rfl (Or.inr rfl) (fr_pi ⟨fun c hc => by rw [gm_uc hc, gm_uc hc], Or.inl ⟨rfl, by rw [gm_un (by omega), gm_uk]; exact Or.inl ⟨1 + j, d, by omega, by omega, hd.2.2.2.1, by omega, by rw [← hd.1]; exact hal, hd.2.2.2.2, fun y y0 y1 => hm y y0 (by omega), rfl⟩, by rw [gm_uk]; exact Or.inl ⟨1 + j, d, by omega, by omega, hd.2.2.2.1, by omega, by rw [← hd.1]; exact hal, hd.2.2.2.2, fun y y0 y1 => hm y y0 (by omega), by rw [if_neg (by omega)]; omega⟩⟩⟩)
