/-! the class: orders by a table -/
def pl_P (w : Int → Int) (μ : fr_Me) : Prop := pl_L w (w 0).toNat μ μ
theorem pl_P.keep {w : Int → Int} {μ n : fr_Me} (h : pl_P w μ) (e : ∀ c, 15 ≤ c → c ≤ 23 → n c = μ c) : pl_P w n := by
  obtain ⟨a, b, c, d, f, g, _⟩ := h
  unfold pl_P pl_L pl_T
  rw [e 15 (by omega) (by omega), e 16 (by omega) (by omega), e 17 (by omega) (by omega), e 18 (by omega) (by omega), e 19 (by omega) (by omega), e 20 (by omega) (by omega), e 21 (by omega) (by omega), e 22 (by omega) (by omega), e 23 (by omega) (by omega)]
  exact ⟨a, b, c, d, f, g, fun _ _ => rfl⟩
theorem pl_L.P {w : Int → Int} {μ n : fr_Me} (h : pl_L w (w 0).toNat μ n) : pl_P w n := ⟨h.1, h.2.1, h.2.2.1, h.2.2.2.1, h.2.2.2.2.1, h.2.2.2.2.2.1, fun _ _ => rfl⟩
theorem pl_P.n {w : Int → Int} {μ : fr_Me} (h : pl_P w μ) : μ 15 8 = w 0 := h.1
theorem pl_P.all {w : Int → Int} {μ : fr_Me} (h : pl_P w μ) : μ 15 9 = fr_shl 1 (w 43) - 1 := h.2.1
theorem pl_P.mk {w : Int → Int} {μ : fr_Me} (h : pl_P w μ) : μ 15 10 = sp_mk w 6 := h.2.2.1
theorem pl_P.fk {w : Int → Int} {μ : fr_Me} (h : pl_P w μ) {c : Int} (h0 : 0 ≤ c) (h1 : c < 6) : μ 22 c = sp_br w c ∧ μ 23 c = sp_pw w c := h.2.2.2.1 c h0 h1
theorem pl_P.tr {w : Int → Int} {μ : fr_Me} (h : pl_P w μ) {t : Int} (h0 : 0 ≤ t) (h1 : t < w 0) : pl_T w (fr_shl 1 (w 43) - 1) t μ := (h.2.2.2.2.1 t (by omega) h1).1
theorem pl_P.vl {w : Int → Int} {μ : fr_Me} (h : pl_P w μ) {t c : Int} (h0 : 0 ≤ t) (h1 : t < w 0) (c0 : 0 ≤ c) (c1 : c < 6) : μ 21 (6 * t + c) = pl_v w t c := (h.2.2.2.2.1 t (by omega) h1).2 c c0 c1
theorem pl_P.ss {w : Int → Int} {μ : fr_Me} (h : pl_P w μ) {i : Nat} (hi : i ≤ (w 0).toNat) : μ 20 (w 0 - i) = pl_ss w i := h.2.2.2.2.2.1 i hi
theorem kdX3_join {l : Launch} {κ : fr_Ka} {μ : fr_Me} {u c : Int} (hc : 0 ≤ c ∧ c < 6) : fr_C l κ fmX3_join 1 [fr_r κ 15, fr_i u, fr_i c] μ (fr_Ei (od_j u c) μ) := kcX3_join hc
set_option maxRecDepth 20000 in
theorem kcX3_newWagew {l : Launch} {κ : fr_Ka} {w : Int → Int} {μ : fr_Me} (hP : pl_P w μ) (hI : fr_I w) {u c : Int} (hc : 0 ≤ c ∧ c < 6)  : fr_C l κ fmX3_newWage 2 [fr_r κ 15, fr_i u, fr_i c] μ (fr_Ei (od_nw w u c) μ) := by
  refine fr_enter (by decide +kernel) (ls := [some (fr_r κ 15), some (fr_i u), some (fr_i c)]) rfl (Nat.le_of_ble_eq_true rfl) ?_
  refine fr_il1 dX3_newWage_0 ?_
  refine fr_il2 dX3_newWage_1 ?_
  refine fr_cSi (mi' := fmX10_isIn) dX3_newWage_2 mlX3_114 msX10_isIn (Nat.le_of_ble_eq_true rfl) (kcX10_isIn) rfl rfl (Nat.le_of_ble_eq_true rfl) ?_
  refine fr_ifb_eq (tgt := 12) dX3_newWage_5 (by decide) (fun h1 => ?_) (fun h1 => ?_)
  · skip
    refine fr_al0 dX3_newWage_12 ?_
    refine fr_getr (cz := 23) dX3_newWage_13 flX3_33 ⟨by decide, by decide, rfl⟩ rfl rfl ?_
    refine fr_il2 dX3_newWage_16 ?_
    refine fr_iald dX3_newWage_17 ⟨by decide, by decide, rfl, by decide⟩ (by omega) (by omega) ?_
    exact fr_iret dX3_newWage_18 rfl (fr_e (by unfold od_nw; first | rw [if_pos (by assumption)] | rw [if_neg (by assumption), (hP.fk hc.1 hc.2).2]) rfl)
  · skip
    refine fr_iconst dX3_newWage_8 ?_
    refine fr_goto (tgt := 18) dX3_newWage_9 (by decide) ?_
    exact fr_iret dX3_newWage_18 rfl (fr_e (by unfold od_nw; first | rw [if_pos (by assumption)] | rw [if_neg (by assumption), (hP.fk hc.1 hc.2).2]) rfl)
set_option maxRecDepth 20000 in
theorem kcX2_freeAllowed {l : Launch} {κ : fr_Ka} {w : Int → Int} {μ : fr_Me} (hP : pl_P w μ) (hI : fr_I w) {t u : Int} (ht : 0 ≤ t ∧ t < w 0)  : fr_C l κ fmX2_freeAllowed 2 [fr_r κ 24, fr_i t, fr_i u] μ (fr_Ei (od_fr w (μ 24 5) (μ 24 6) t u) μ) := by
  have iN := hI.n
  refine fr_enter (by decide +kernel) (ls := [some (fr_r κ 24), some (fr_i t), some (fr_i u)]) rfl (Nat.le_of_ble_eq_true rfl) ?_
  refine fr_al0 dX2_freeAllowed_0 ?_
  refine fr_geti (kz := 6) dX2_freeAllowed_1 flX2_26 ⟨by decide, by decide, rfl⟩ rfl rfl ?_
  refine fr_il1 dX2_freeAllowed_4 ?_
  refine fr_cSi (mi' := fmX10_isIn) dX2_freeAllowed_5 mlX2_54 msX10_isIn (Nat.le_of_ble_eq_true rfl) (kcX10_isIn) rfl rfl (Nat.le_of_ble_eq_true rfl) ?_
  refine fr_ifb_eq (tgt := 15) dX2_freeAllowed_8 (by decide) (fun h1 => ?_) (fun h1 => ?_)
  · skip
    refine fr_al0 dX2_freeAllowed_15 ?_
    refine fr_getr (cz := 15) dX2_freeAllowed_16 flX2_18 ⟨by decide, by decide, rfl⟩ rfl rfl ?_
    refine fr_il1 dX2_freeAllowed_19 ?_
    refine fr_il2 dX2_freeAllowed_20 ?_
    refine fr_cVi (mi' := fmX3_freeClimbers) dX2_freeAllowed_21 mlX2_63 mvX3_freeClimbers ⟨3, _, ⟨by decide, by decide, rfl⟩, rfl, rfl⟩ (Nat.le_of_ble_eq_true rfl) (kcX3_freeClimbers (by omega)) rfl rfl (Nat.le_of_ble_eq_true rfl) ?_
    refine fr_al0 dX2_freeAllowed_24 ?_
    refine fr_geti (kz := 5) dX2_freeAllowed_25 flX2_22 ⟨by decide, by decide, rfl⟩ rfl rfl ?_
    refine fr_iand dX2_freeAllowed_28 ?_
    exact fr_iret dX2_freeAllowed_29 rfl (fr_e (by unfold od_fr; first | rw [if_pos (by assumption)] | rw [if_neg (by assumption), (hP.tr ht.1 ht.2).1, hP.mk]) rfl)
  · skip
    refine fr_iconst dX2_freeAllowed_11 ?_
    refine fr_goto (tgt := 29) dX2_freeAllowed_12 (by decide) ?_
    exact fr_iret dX2_freeAllowed_29 rfl (fr_e (by unfold od_fr; first | rw [if_pos (by assumption)] | rw [if_neg (by assumption), (hP.tr ht.1 ht.2).1, hP.mk]) rfl)
set_option maxRecDepth 20000 in
theorem kcX2_gainFrom {l : Launch} {κ : fr_Ka} {w : Int → Int} {μ : fr_Me} (hP : pl_P w μ) (hI : fr_I w) {t u : Int} (ht : 0 ≤ t ∧ t < w 0) (hu : 0 ≤ u ∧ u ≤ 31) {c : Int} (hc : 0 ≤ c ∧ c < 6)  : fr_C l κ fmX2_gainFrom 3 [fr_r κ 24, fr_i t, fr_i u, fr_i c] μ (fr_Ei ((od_F w (fun x => μ 25 (32 * (t + 1) + x)) t u) c) μ) := by
  have iN := hI.n
  have hj := od_j_rg (u := u) (c := c) hu (by omega)
  refine fr_enter (by decide +kernel) (ls := [some (fr_r κ 24), some (fr_i t), some (fr_i u), some (fr_i c), none]) rfl (Nat.le_of_ble_eq_true rfl) ?_
  refine fr_al0 dX2_gainFrom_0 ?_
  refine fr_getr (cz := 25) dX2_gainFrom_1 flX2_9 ⟨by decide, by decide, rfl⟩ rfl rfl ?_
  refine fr_il1 dX2_gainFrom_4 ?_
  refine fr_iconst dX2_gainFrom_5 ?_
  refine fr_iadd dX2_gainFrom_6 ?_
  refine fr_bipush dX2_gainFrom_7 (by decide) ?_
  refine fr_imul dX2_gainFrom_9 ?_
  refine fr_al0 dX2_gainFrom_10 ?_
  refine fr_getr (cz := 15) dX2_gainFrom_11 flX2_18 ⟨by decide, by decide, rfl⟩ rfl rfl ?_
  refine fr_il2 dX2_gainFrom_14 ?_
  refine fr_il3 dX2_gainFrom_15 ?_
  refine fr_cVi (mi' := fmX3_join) dX2_gainFrom_16 mlX2_66 mvX3_join ⟨3, _, ⟨by decide, by decide, rfl⟩, rfl, rfl⟩ (Nat.le_of_ble_eq_true rfl) (kdX3_join (by omega)) rfl rfl (Nat.le_of_ble_eq_true rfl) ?_
  refine fr_iadd dX2_gainFrom_19 ?_
  refine fr_iald dX2_gainFrom_20 ⟨by decide, by decide, rfl, by decide⟩ (by omega) (by omega) ?_
  refine fr_is4 dX2_gainFrom_21 rfl (Nat.le_of_ble_eq_true rfl) ?_
  refine fr_al0 dX2_gainFrom_23 ?_
  refine fr_getr (cz := 15) dX2_gainFrom_24 flX2_18 ⟨by decide, by decide, rfl⟩ rfl rfl ?_
  refine fr_il1 dX2_gainFrom_27 ?_
  refine fr_il3 dX2_gainFrom_28 ?_
  refine fr_cVi (mi' := fmX3_valueBy) dX2_gainFrom_29 mlX2_69 mvX3_valueBy ⟨3, _, ⟨by decide, by decide, rfl⟩, rfl, rfl⟩ (Nat.le_of_ble_eq_true rfl) (kcX3_valueBy (by omega) (by omega)) rfl rfl (Nat.le_of_ble_eq_true rfl) ?_
  refine fr_al0 dX2_gainFrom_32 ?_
  refine fr_getr (cz := 15) dX2_gainFrom_33 flX2_18 ⟨by decide, by decide, rfl⟩ rfl rfl ?_
  refine fr_il2 dX2_gainFrom_36 ?_
  refine fr_il3 dX2_gainFrom_37 ?_
  refine fr_cVi (mi' := fmX3_newWage) dX2_gainFrom_38 mlX2_72 mvX3_newWage ⟨3, _, ⟨by decide, by decide, rfl⟩, rfl, rfl⟩ (Nat.le_of_ble_eq_true rfl) (kcX3_newWagew hP hI (by omega)) rfl rfl (Nat.le_of_ble_eq_true rfl) ?_
  refine fr_isub dX2_gainFrom_41 ?_
  refine fr_il4 dX2_gainFrom_42 ?_
  refine fr_iadd dX2_gainFrom_44 ?_
  exact fr_iret dX2_gainFrom_45 rfl (fr_e (by unfold od_F; dsimp only; rw [hP.vl ht.1 ht.2 hc.1 hc.2, show (t + 1) * 32 + od_j u c = 32 * (t + 1) + od_j u c by omega]) rfl)
set_option maxRecDepth 20000 in
theorem kcX2_mostFrom {l : Launch} {κ : fr_Ka} {w : Int → Int} {μ : fr_Me} (hP : pl_P w μ) (hI : fr_I w) {t u : Int} (ht : 0 ≤ t ∧ t < w 0) (hu : 0 ≤ u ∧ u ≤ 31) (hB : ∀ k, 0 ≤ k → k < 224 → -5000 ≤ μ 25 k ∧ μ 25 k ≤ 5000)  : fr_C l κ fmX2_mostFrom 4 [fr_r κ 24, fr_i t, fr_i u] μ (fr_Ei (od_mx (od_fr w (μ 24 5) (μ 24 6) t u) (od_F w (fun x => μ 25 (32 * (t + 1) + x)) t u) 5) μ) := by
  have iN := hI.n
  have hF : ∀ c, 0 ≤ c → c ≤ 5 → -6000 ≤ (od_F w (fun x => μ 25 (32 * (t + 1) + x)) t u) c ∧ (od_F w (fun x => μ 25 (32 * (t + 1) + x)) t u) c ≤ 6000 := fun c c0 c1 => od_F_rg hI hB (by omega) hu ⟨c0, c1⟩
  refine fr_enter (by decide +kernel) (ls := [some (fr_r κ 24), some (fr_i t), some (fr_i u), none, none, none]) rfl (Nat.le_of_ble_eq_true rfl) ?_
  refine fr_al0 dX2_mostFrom_0 ?_
  refine fr_il1 dX2_mostFrom_1 ?_
  refine fr_il2 dX2_mostFrom_2 ?_
  refine fr_cVi (mi' := fmX2_freeAllowed) dX2_mostFrom_3 mlX2_47 mvX2_freeAllowed ⟨2, _, ⟨by decide, by decide, rfl⟩, rfl, rfl⟩ (Nat.le_of_ble_eq_true rfl) (kcX2_freeAllowed hP hI (by omega)) rfl rfl (Nat.le_of_ble_eq_true rfl) ?_
  refine fr_is3 dX2_mostFrom_6 rfl (Nat.le_of_ble_eq_true rfl) ?_
  refine fr_al0 dX2_mostFrom_7 ?_
  refine fr_il1 dX2_mostFrom_8 ?_
  refine fr_il2 dX2_mostFrom_9 ?_
  refine fr_iconst dX2_mostFrom_10 ?_
  refine fr_cVi (mi' := fmX2_gainFrom) dX2_mostFrom_11 mlX2_50 mvX2_gainFrom ⟨2, _, ⟨by decide, by decide, rfl⟩, rfl, rfl⟩ (Nat.le_of_ble_eq_true rfl) (kcX2_gainFrom hP hI (by omega) (by omega) (by omega)) rfl rfl (Nat.le_of_ble_eq_true rfl) ?_
  refine fr_is4 dX2_mostFrom_14 rfl (Nat.le_of_ble_eq_true rfl) ?_
  refine fr_iconst dX2_mostFrom_16 ?_
  refine fr_is5 dX2_mostFrom_17 rfl (Nat.le_of_ble_eq_true rfl) ?_
  refine fr_wk ?_ (ls := [some (fr_r κ 24), some (fr_i t), some (fr_i u), some (fr_i (od_fr w (μ 24 5) (μ 24 6) t u)), some (fr_i _), some (fr_i (0 : Int))]) ⟨rfl, rfl, rfl, rfl, rfl, rfl, trivial⟩
  refine (fr_down (P := fun j : Nat => ∀ (v : Int), (v = od_mx (od_fr w (μ 24 5) (μ 24 6) t u) (od_F w (fun x => μ 25 (32 * (t + 1) + x)) t u) j) → fr_A l κ fmX2_mostFrom 4 (fr_Ei (od_mx (od_fr w (μ 24 5) (μ 24 6) t u) (od_F w (fun x => μ 25 (32 * (t + 1) + x)) t u) 5) μ) 19 [some (fr_r κ 24), some (fr_i t), some (fr_i u), some (fr_i (od_fr w (μ 24 5) (μ 24 6) t u)), some (fr_i v), some (fr_i (j : Int))] [] μ) 5 ?_ (fun j hj19 ih19 => ?_)) _ (rfl)
  · skip
    intro v hn
    refine fr_il5 dX2_mostFrom_19 ?_
    refine fr_iconst dX2_mostFrom_21 ?_
    refine fr_icmp_ge (tgt := 55) dX2_mostFrom_22 (by decide) (by omega) (by omega) (fun h1 => ?_) (fun h1 => ?_)
    · skip
      refine fr_il4 dX2_mostFrom_55 ?_
      exact fr_iret dX2_mostFrom_57 rfl (fr_e hn rfl)
    · skip
      exfalso; omega
  · skip
    intro v hn
    have hv : -6000 ≤ v ∧ v ≤ 6000 := by rw [hn]; exact od_mx_rg (by omega) hF
    have hFj := hF j (by omega) (by omega)
    refine fr_il5 dX2_mostFrom_19 ?_
    refine fr_iconst dX2_mostFrom_21 ?_
    refine fr_icmp_ge (tgt := 55) dX2_mostFrom_22 (by decide) (by omega) (by omega) (fun h2 => ?_) (fun h2 => ?_)
    · skip
      exfalso; omega
    · skip
      refine fr_il3 dX2_mostFrom_25 ?_
      refine fr_il5 dX2_mostFrom_26 ?_
      refine fr_cSi (mi' := fmX10_isIn) dX2_mostFrom_28 mlX2_54 msX10_isIn (Nat.le_of_ble_eq_true rfl) (kcX10_isIn) rfl rfl (Nat.le_of_ble_eq_true rfl) ?_
      refine fr_ifb_eq (tgt := 49) dX2_mostFrom_31 (by decide) (fun h3 => ?_) (fun h3 => ?_)
      · skip
        have hin := h3
        unfold sp_in at hin
        refine fr_ii5 dX2_mostFrom_49 rfl (Nat.le_of_ble_eq_true rfl) ?_
        refine fr_goto (tgt := 19) dX2_mostFrom_52 (by decide) ?_
        exact fr_wk (ih19 _ (by simp only [od_mx]; rw [if_neg hin, ← hn])) ⟨rfl, rfl, rfl, rfl, rfl, rfl, trivial⟩
      · skip
        have hin := h3
        unfold sp_in at hin
        refine fr_il4 dX2_mostFrom_34 ?_
        refine fr_al0 dX2_mostFrom_36 ?_
        refine fr_il1 dX2_mostFrom_37 ?_
        refine fr_il2 dX2_mostFrom_38 ?_
        refine fr_il5 dX2_mostFrom_39 ?_
        refine fr_cVi (mi' := fmX2_gainFrom) dX2_mostFrom_41 mlX2_50 mvX2_gainFrom ⟨2, _, ⟨by decide, by decide, rfl⟩, rfl, rfl⟩ (Nat.le_of_ble_eq_true rfl) (kcX2_gainFrom hP hI (by omega) (by omega) (by omega)) rfl rfl (Nat.le_of_ble_eq_true rfl) ?_
        refine fr_mmax dX2_mostFrom_44 mxX2_58 (by omega) (by omega) (Nat.le_of_ble_eq_true rfl) (Nat.le_of_ble_eq_true rfl) ?_
        refine fr_is4 dX2_mostFrom_47 rfl (Nat.le_of_ble_eq_true rfl) ?_
        refine fr_ii5 dX2_mostFrom_49 rfl (Nat.le_of_ble_eq_true rfl) ?_
        refine fr_goto (tgt := 19) dX2_mostFrom_52 (by decide) ?_
        exact fr_wk (ih19 _ (by simp only [od_mx]; rw [if_pos hin, ← hn]; exact (od_max _ _).symm)) ⟨rfl, rfl, rfl, rfl, rfl, rfl, trivial⟩
theorem od_Tb_put {w : Int → Int} (hI : fr_I w) {S sh : Int} {j : Nat} {n : fr_Me} {x y : Int} {k : Nat} (h : od_Tb w S sh j n ∧ (∀ u, 0 ≤ u → u < (k : Int) → n 25 (32 * (w 0 - 1 - j) + u) = od_V w S sh (j + 1) u)) (hj : (j : Int) < w 0) (hk : (k : Int) ≤ (fr_shl 1 (w 43) - 1)) (hx : x = 32 * (w 0 - 1 - j) + k) (hy : y = od_V w S sh (j + 1) k) : od_Tb w S sh j (fr_up n 25 x y) ∧ (∀ u, 0 ≤ u → u < ((k + 1 : Nat) : Int) → (fr_up n 25 x y) 25 (32 * (w 0 - 1 - j) + u) = od_V w S sh (j + 1) u) := by
  have hN := hI.n
  have hM := hI.many
  have hA := fr_shl1_rg (m := w 43) (by omega)
  have hr := od_V_rg hI S sh (j + 1) k
  obtain ⟨⟨a, b, c, d⟩, e⟩ := h
  have hA2 : fr_shl 1 (w 43) ≤ 32 := by
    have e : ∀ m : Fin 6, fr_shl 1 (m.val : Nat) ≤ 32 := by decide +kernel
    have := e ⟨(w 43).toNat, by omega⟩
    simp only [Int.toNat_of_nonneg hM.1] at this
    exact this
  refine ⟨⟨fun i hi u u0 u1 => ?_, fun q q0 q1 => ?_, ?_, ?_⟩, fun u u0 u1 => ?_⟩
  · rw [gm_un (by omega)]; exact a i hi u u0 u1
  · by_cases hq : q = x
    · rw [hq, gm_uk]; omega
    · rw [gm_un hq]; exact b q q0 q1
  · rw [gm_uc (by omega)]; exact c
  · rw [gm_uc (by omega)]; exact d
  · rcases (by omega : u < (k : Int) ∨ u = (k : Int)) with q | q
    · rw [gm_un (by omega)]; exact e u u0 q
    · rw [q, ← hx, gm_uk]; exact hy
theorem od_Tb_s {w : Int → Int} {S sh : Int} {j : Nat} {n : fr_Me} (h : od_Tb w S sh j n) (g : ∀ u, 0 ≤ u → u ≤ (fr_shl 1 (w 43) - 1) → n 25 (32 * (w 0 - 1 - j) + u) = od_V w S sh (j + 1) u) : od_Tb w S sh (j + 1) n := by
  obtain ⟨a, b, c, d⟩ := h
  refine ⟨fun i hi u u0 u1 => ?_, b, c, d⟩
  rcases (by omega : i ≤ j ∨ i = j + 1) with q | q
  · exact a i q u u0 u1
  · subst q
    rw [show w 0 - ((j + 1 : Nat) : Int) = w 0 - 1 - (j : Int) by omega]
    exact g u u0 u1
theorem od_Tb_0 {w : Int → Int} (hI : fr_I w) {S sh : Int} {μ : fr_Me} : od_Tb w S sh 0 (sp_fill (fr_up (fr_up μ 24 5 S) 24 6 sh) 25 (224 : Nat) 0) := by
  have hN := hI.n
  have hM := hI.many
  have hA := fr_shl1_rg (m := w 43) (by omega)
  have hA2 : fr_shl 1 (w 43) ≤ 32 := by
    have e : ∀ m : Fin 6, fr_shl 1 (m.val : Nat) ≤ 32 := by decide +kernel
    have := e ⟨(w 43).toNat, by omega⟩
    simp only [Int.toNat_of_nonneg hM.1] at this
    exact this
  have e : ∀ k, 0 ≤ k → k < 224 → sp_fill (fr_up (fr_up μ 24 5 S) 24 6 sh) 25 (224 : Nat) 0 25 k = 0 := by
    intro k k0 k1
    unfold sp_fill
    rw [if_pos ⟨rfl, k0, by omega⟩]
  refine ⟨fun i hi u u0 u1 => ?_, fun k k0 k1 => ?_, ?_, ?_⟩
  · rw [show i = 0 by omega, e _ (by omega) (by omega)]; rfl
  · rw [e k k0 k1]; omega
  · rw [sp_fill_nc _ _ _ (by omega), gm_un (by omega), gm_uk]
  · rw [sp_fill_nc _ _ _ (by omega), gm_uk]
set_option maxRecDepth 20000 in
theorem kcX2_mostGain {l : Launch} {κ : fr_Ka} {w : Int → Int} {μ : fr_Me} (hP : pl_P w μ) (hI : fr_I w) {S sh : Int}  : fr_C l κ fmX2_mostGain 5 [fr_r κ 24, fr_i S, fr_i sh] μ (fr_Pi (fun z n => z = od_V w S sh (w 0).toNat 0 ∧ od_Tb w S sh (w 0).toNat n ∧ (∀ c, c ≠ 24 → c ≠ 25 → n c = μ c) ∧ (∀ k, k ≠ 5 → k ≠ 6 → n 24 k = μ 24 k))) := by
  have iN := hI.n
  have iM := hI.many
  have hA := fr_shl1_rg (m := w 43) (by omega)
  have hA2 : fr_shl 1 (w 43) ≤ 32 := by have e := od_j_lt hI (u := fr_shl 1 (w 43) - 1) (c := 5) (by omega) (Or.inl rfl); have e2 : ∀ m : Fin 6, fr_shl 1 (m.val : Nat) ≤ 32 := (by decide +kernel); have := e2 ⟨(w 43).toNat, by omega⟩; simp only [Int.toNat_of_nonneg iM.1] at this; exact this
  refine fr_enter (by decide +kernel) (ls := [some (fr_r κ 24), some (fr_i S), some (fr_i sh), none, none]) rfl (Nat.le_of_ble_eq_true rfl) ?_
  refine fr_al0 dX2_mostGain_0 ?_
  refine fr_il1 dX2_mostGain_1 ?_
  refine fr_put (kz := 5) dX2_mostGain_2 fpX2_22 ⟨by decide, by decide, rfl⟩ rfl rfl (fun h => by cases h) ?_
  refine fr_al0 dX2_mostGain_5 ?_
  refine fr_il2 dX2_mostGain_6 ?_
  refine fr_put (kz := 6) dX2_mostGain_7 fpX2_26 ⟨by decide, by decide, rfl⟩ rfl rfl (fun h => by cases h) ?_
  refine fr_al0 dX2_mostGain_10 ?_
  refine fr_getr (cz := 25) dX2_mostGain_11 flX2_9 ⟨by decide, by decide, rfl⟩ rfl rfl ?_
  refine fr_iconst dX2_mostGain_14 ?_
  refine fr_cSv (mi' := fmJ7_fill_53178) dX2_mostGain_15 mlX2_29 msJ7_fill_53178 (Nat.le_of_ble_eq_true rfl) (kcJ7_fill_53178 (n := 224) ⟨by decide, by decide, rfl, by decide⟩) rfl rfl (Nat.le_of_ble_eq_true rfl) ?_
  refine fr_al0 dX2_mostGain_18 ?_
  refine fr_getr (cz := 15) dX2_mostGain_19 flX2_18 ⟨by decide, by decide, rfl⟩ rfl rfl ?_
  refine fr_geti (kz := 8) dX2_mostGain_22 flX2_35 ⟨by decide, by decide, rfl⟩ rfl rfl ?_
  refine fr_iconst dX2_mostGain_25 ?_
  refine fr_isub dX2_mostGain_26 ?_
  refine fr_is3 dX2_mostGain_27 rfl (Nat.le_of_ble_eq_true rfl) ?_
  refine fr_wk ?_ (ls := [some (fr_r κ 24), some (fr_i S), some (fr_i sh), some (fr_i _), none]) ⟨rfl, rfl, rfl, rfl, trivial⟩
  refine (fr_down (P := fun j : Nat => ∀ (v : Int) (n : fr_Me), (v = w 0 - 1 - (j : Int) ∧ od_Tb w S sh j n ∧ (∀ c, c ≠ 24 → c ≠ 25 → n c = μ c) ∧ (∀ k, k ≠ 5 → k ≠ 6 → n 24 k = μ 24 k)) → fr_A l κ fmX2_mostGain 5 (fr_Pi (fun z n => z = od_V w S sh (w 0).toNat 0 ∧ od_Tb w S sh (w 0).toNat n ∧ (∀ c, c ≠ 24 → c ≠ 25 → n c = μ c) ∧ (∀ k, k ≠ 5 → k ≠ 6 → n 24 k = μ 24 k))) 28 [some (fr_r κ 24), some (fr_i S), some (fr_i sh), some (fr_i v), none] [] n) (w 0).toNat ?_ (fun j hj28 ih28 => ?_)) _ _ (⟨by rw [sp_fill_nc _ _ _ (by omega)]; simp (disch := omega) only [gm_uk, gm_un, gm_uc]; have := hP.n; omega, od_Tb_0 hI, fun c h1 h2 => by rw [sp_fill_nc _ _ _ h2]; simp (disch := omega) only [gm_uk, gm_un, gm_uc], fun k h1 h2 => by rw [sp_fill_nc _ _ _ (by omega)]; simp (disch := omega) only [gm_uk, gm_un, gm_uc]⟩)
  · skip
    intro v n hn
    refine fr_il3 dX2_mostGain_28 ?_
    refine fr_if_lt (tgt := 78) dX2_mostGain_29 (by decide) (by omega) (fun h1 => ?_) (fun h1 => ?_)
    · skip
      refine fr_al0 dX2_mostGain_78 ?_
      refine fr_getr (cz := 25) dX2_mostGain_79 flX2_9 ⟨by decide, by decide, rfl⟩ rfl rfl ?_
      refine fr_iconst dX2_mostGain_82 ?_
      refine fr_iald dX2_mostGain_83 ⟨by decide, by decide, rfl, by decide⟩ (by omega) (by omega) ?_
      exact fr_iret dX2_mostGain_84 rfl (fr_pi ⟨by have := hn.2.1.1 (w 0).toNat (Nat.le_refl _) 0 (by omega) (by omega); rw [show 32 * (w 0 - ((w 0).toNat : Int)) + 0 = 0 by omega] at this; exact this, hn.2⟩)
    · skip
      exfalso; omega
  · skip
    intro v n hn
    obtain ⟨hv, hn⟩ := hn
    have hn0 := hn
    refine fr_il3 dX2_mostGain_28 ?_
    refine fr_if_lt (tgt := 78) dX2_mostGain_29 (by decide) (by omega) (fun h2 => ?_) (fun h2 => ?_)
    · skip
      exfalso; omega
    · skip
      refine fr_iconst dX2_mostGain_32 ?_
      refine fr_is4 dX2_mostGain_33 rfl (Nat.le_of_ble_eq_true rfl) ?_
      refine fr_wk ?_ (ls := [some (fr_r κ 24), some (fr_i S), some (fr_i sh), some (fr_i v), some (fr_i (0 : Int))]) ⟨rfl, rfl, rfl, rfl, rfl, trivial⟩
      refine (fr_down (P := fun k : Nat => ∀ (n : fr_Me), ((od_Tb w S sh j n ∧ (∀ u, 0 ≤ u → u < (k : Int) → n 25 (32 * (w 0 - 1 - j) + u) = od_V w S sh (j + 1) u)) ∧ (∀ c, c ≠ 24 → c ≠ 25 → n c = μ c) ∧ (∀ k, k ≠ 5 → k ≠ 6 → n 24 k = μ 24 k)) → fr_A l κ fmX2_mostGain 5 (fr_Pi (fun z n => z = od_V w S sh (w 0).toNat 0 ∧ od_Tb w S sh (w 0).toNat n ∧ (∀ c, c ≠ 24 → c ≠ 25 → n c = μ c) ∧ (∀ k, k ≠ 5 → k ≠ 6 → n 24 k = μ 24 k))) 35 [some (fr_r κ 24), some (fr_i S), some (fr_i sh), some (fr_i v), some (fr_i (k : Int))] [] n) (fr_shl 1 (w 43)).toNat ?_ (fun k hj35 ih35 => ?_)) _ (⟨⟨hn.1, fun u u0 u1 => by omega⟩, hn.2⟩)
      · skip
        intro n hn
        have hPn : pl_P w n := hP.keep (fun c c0 c1 => hn.2.1 c (by omega) (by omega))
        have eA := hPn.all
        refine fr_il4 dX2_mostGain_35 ?_
        refine fr_al0 dX2_mostGain_37 ?_
        refine fr_getr (cz := 15) dX2_mostGain_38 flX2_18 ⟨by decide, by decide, rfl⟩ rfl rfl ?_
        refine fr_geti (kz := 9) dX2_mostGain_41 flX2_40 ⟨by decide, by decide, rfl⟩ rfl rfl ?_
        refine fr_icmp_gt (tgt := 72) dX2_mostGain_44 (by decide) (by omega) (by omega) (fun h3 => ?_) (fun h3 => ?_)
        · skip
          refine fr_ii3 dX2_mostGain_72 rfl (Nat.le_of_ble_eq_true rfl) ?_
          refine fr_goto (tgt := 28) dX2_mostGain_75 (by decide) ?_
          exact fr_wk (ih28 _ _ (⟨by omega, od_Tb_s hn.1.1 (fun u u0 u1 => hn.1.2 u u0 (by omega)), hn.2⟩)) ⟨rfl, rfl, rfl, rfl, trivial⟩
        · skip
          exfalso; omega
      · skip
        intro n hn
        have hPn : pl_P w n := hP.keep (fun c c0 c1 => hn.2.1 c (by omega) (by omega))
        have eA := hPn.all
        refine fr_il4 dX2_mostGain_35 ?_
        refine fr_al0 dX2_mostGain_37 ?_
        refine fr_getr (cz := 15) dX2_mostGain_38 flX2_18 ⟨by decide, by decide, rfl⟩ rfl rfl ?_
        refine fr_geti (kz := 9) dX2_mostGain_41 flX2_40 ⟨by decide, by decide, rfl⟩ rfl rfl ?_
        refine fr_icmp_gt (tgt := 72) dX2_mostGain_44 (by decide) (by omega) (by omega) (fun h4 => ?_) (fun h4 => ?_)
        · skip
          exfalso; omega
        · skip
          refine fr_al0 dX2_mostGain_47 ?_
          refine fr_getr (cz := 25) dX2_mostGain_48 flX2_9 ⟨by decide, by decide, rfl⟩ rfl rfl ?_
          refine fr_il3 dX2_mostGain_51 ?_
          refine fr_bipush dX2_mostGain_52 (by decide) ?_
          refine fr_imul dX2_mostGain_54 ?_
          refine fr_il4 dX2_mostGain_55 ?_
          refine fr_iadd dX2_mostGain_57 ?_
          refine fr_al0 dX2_mostGain_58 ?_
          refine fr_il3 dX2_mostGain_59 ?_
          refine fr_il4 dX2_mostGain_60 ?_
          refine fr_cVi (mi' := fmX2_mostFrom) dX2_mostGain_62 mlX2_43 mvX2_mostFrom ⟨2, _, ⟨by decide, by decide, rfl⟩, rfl, rfl⟩ (Nat.le_of_ble_eq_true rfl) (kcX2_mostFrom hPn hI (by omega) (by omega) hn.1.1.2.1) rfl rfl (Nat.le_of_ble_eq_true rfl) ?_
          refine fr_iast dX2_mostGain_65 ⟨by decide, by decide, rfl, by decide⟩ (by omega) (by omega) ?_
          refine fr_ii4 dX2_mostGain_66 rfl (Nat.le_of_ble_eq_true rfl) ?_
          refine fr_goto (tgt := 35) dX2_mostGain_69 (by decide) ?_
          exact fr_wk (ih35 _ (⟨od_Tb_put hI hn.1 (by omega) (by omega) (by omega) (by rw [hn.1.1.2.2.1, hn.1.1.2.2.2]; exact od_Tb_mx hI hn.1.1 hv (by omega)), fun c h1 h2 => by rw [gm_uc h2]; exact hn.2.1 c h1 h2, fun q h1 h2 => by rw [gm_uc (by omega)]; exact hn.2.2 q h1 h2⟩)) ⟨rfl, rfl, rfl, rfl, rfl, trivial⟩
