/-! the class: wants taken; the cheapest hired -/
theorem kcX9_hireFrom {l : Launch} {κ : fr_Ka} {w it : Int → Int} (hI : fr_I w) : ∀ (i : Nat) (μ : fr_Me) (t : Nat) (p u lack : Int), pl_P w μ → hi_pf w it t i p u (μ 28) (μ 29) → hi_st w it (p * sp_p6 i) (μ 27 4) (μ 30) → lack = wa_S (wa_L w it (sp_dg (t : Int) p) t) → fr_C l κ fmX9_hireFrom (i + 3) [fr_r κ 27, fr_i (t : Int), fr_i u, fr_i (sp_wg w u), fr_i lack] μ (fr_Pv (fun n => hi_st w it ((p + 1) * sp_p6 i) (n 27 4) (n 30) ∧ (∀ c, c ≠ 27 → c ≠ 28 → c ≠ 29 → c ≠ 30 → n c = μ c) ∧ (∀ q, q ≠ 4 → n 27 q = μ 27 q) ∧ (∀ f, 0 ≤ f → f < 10 → n 28 f = μ 28 f) ∧ ∀ s, 0 ≤ s → s < (t : Int) → n 29 s = μ 29 s)) := by
  intro i
  induction i with
  | zero => intro μ t p u lack hP hpf hs hl; exact kcX9_hireFroms (fun i' h => by omega) hP hI hpf hs hl
  | succ i ih => intro μ t p u lack hP hpf hs hl; exact kcX9_hireFroms (fun i' h => by have e : i' = i := (by omega); subst e; exact ih) hP hI hpf hs hl
set_option maxRecDepth 20000 in
theorem kcX9_take {l : Launch} {κ : fr_Ka} {w : Int → Int} {μ : fr_Me} (hP : pl_P w μ) (hI : fr_I w) {s i : Int} (s0 : 0 ≤ s) (s4 : s < 4) (hi : 0 ≤ i ∧ i + 10 ≤ 16) (hv : ∀ k, 0 ≤ k → k < 16 → -9223372036854775808 ≤ μ (62 + s) k ∧ μ (62 + s) k ≤ 9223372036854775807)  : fr_C l κ fmX9_take 2 [fr_r κ 27, fr_r κ (58 + s), fr_i i] μ (fr_Pv (fun n => (∀ f, 0 ≤ f → f < 10 → n 28 f = wa_w (fun f => μ (62 + s) (i + f)) f - wa_k w (w 0).toNat f) ∧ ∀ c, c ≠ 28 → n c = μ c)) := by
  have iN := hI.n
  refine fr_enter (by decide +kernel) (ls := [some (fr_r κ 27), some (fr_r κ (58 + s)), some (fr_i i), none]) rfl (Nat.le_of_ble_eq_true rfl) ?_
  refine fr_iconst dX9_take_0 ?_
  refine fr_is3 dX9_take_1 rfl (Nat.le_of_ble_eq_true rfl) ?_
  refine fr_wk ?_ (ls := [some (fr_r κ 27), some (fr_r κ (58 + s)), some (fr_i i), some (fr_i (0 : Int))]) ⟨rfl, rfl, rfl, rfl, trivial⟩
  refine (fr_down (P := fun j : Nat => ∀ (n : fr_Me), ((∀ f, 0 ≤ f → f < (j : Int) → n 28 f = wa_w (fun f => μ (62 + s) (i + f)) f) ∧ ∀ c, c ≠ 28 → n c = μ c) → fr_A l κ fmX9_take 2 (fr_Pv (fun n => (∀ f, 0 ≤ f → f < 10 → n 28 f = wa_w (fun f => μ (62 + s) (i + f)) f - wa_k w (w 0).toNat f) ∧ ∀ c, c ≠ 28 → n c = μ c)) 2 [some (fr_r κ 27), some (fr_r κ (58 + s)), some (fr_i i), some (fr_i (j : Int))] [] n) 10 ?_ (fun j hj2 ih2 => ?_)) _ (⟨fun f a b => by omega, fun _ _ => rfl⟩)
  · skip
    intro n hn
    refine fr_il3 dX9_take_2 ?_
    refine fr_bipush dX9_take_3 (by decide) ?_
    refine fr_icmp_ge (tgt := 34) dX9_take_5 (by decide) (by omega) (by omega) (fun h1 => ?_) (fun h1 => ?_)
    · skip
      refine fr_iconst dX9_take_34 ?_
      refine fr_is3 dX9_take_35 rfl (Nat.le_of_ble_eq_true rfl) ?_
      refine fr_wk ?_ (ls := [some (fr_r κ 27), some (fr_r κ (58 + s)), some (fr_i i), some (fr_i (0 : Int))]) ⟨rfl, rfl, rfl, rfl, trivial⟩
      refine (fr_down (P := fun j : Nat => ∀ (n : fr_Me), ((∀ f, 0 ≤ f → f < 10 → n 28 f = wa_w (fun f => μ (62 + s) (i + f)) f - wa_k w j f) ∧ ∀ c, c ≠ 28 → n c = μ c) → fr_A l κ fmX9_take 2 (fr_Pv (fun n => (∀ f, 0 ≤ f → f < 10 → n 28 f = wa_w (fun f => μ (62 + s) (i + f)) f - wa_k w (w 0).toNat f) ∧ ∀ c, c ≠ 28 → n c = μ c)) 36 [some (fr_r κ 27), some (fr_r κ (58 + s)), some (fr_i i), some (fr_i (j : Int))] [] n) (w 0).toNat ?_ (fun j hj36 ih36 => ?_)) _ (⟨fun f a b => by rw [hn.1 f a (by omega)]; unfold wa_k; simp [sp_sum], hn.2⟩)
      · skip
        intro n hn
        have hPn : pl_P w n := hP.keep (fun c c0 c1 => hn.2 c (by omega))
        have eN := hPn.n
        refine fr_il3 dX9_take_36 ?_
        refine fr_al0 dX9_take_37 ?_
        refine fr_getr (cz := 15) dX9_take_38 flX9_21 ⟨by decide, by decide, rfl⟩ rfl rfl ?_
        refine fr_geti (kz := 8) dX9_take_41 flX9_36 ⟨by decide, by decide, rfl⟩ rfl rfl ?_
        refine fr_icmp_ge (tgt := 79) dX9_take_44 (by decide) (by omega) (by omega) (fun h2 => ?_) (fun h2 => ?_)
        · skip
          exact fr_vret dX9_take_79 rfl (fr_pv hn)
        · skip
          exfalso; omega
      · skip
        intro n hn
        have hPn : pl_P w n := hP.keep (fun c c0 c1 => hn.2 c (by omega))
        have eN := hPn.n
        refine fr_il3 dX9_take_36 ?_
        refine fr_al0 dX9_take_37 ?_
        refine fr_getr (cz := 15) dX9_take_38 flX9_21 ⟨by decide, by decide, rfl⟩ rfl rfl ?_
        refine fr_geti (kz := 8) dX9_take_41 flX9_36 ⟨by decide, by decide, rfl⟩ rfl rfl ?_
        refine fr_icmp_ge (tgt := 79) dX9_take_44 (by decide) (by omega) (by omega) (fun h3 => ?_) (fun h3 => ?_)
        · skip
          exfalso; omega
        · skip
          have e16 := hPn.tr (t := (j : Int)) (by omega) (by omega)
          have hbr := sp_br_rg hI (w (13 + (j : Int)))
          have e19 : n 19 (j : Int) = sp_br w (w (13 + (j : Int))) := e16.2.2.2
          refine fr_al0 dX9_take_47 ?_
          refine fr_getr (cz := 28) dX9_take_48 flX9_9 ⟨by decide, by decide, rfl⟩ rfl rfl ?_
          refine fr_al0 dX9_take_51 ?_
          refine fr_getr (cz := 15) dX9_take_52 flX9_21 ⟨by decide, by decide, rfl⟩ rfl rfl ?_
          refine fr_getr (cz := 19) dX9_take_55 flX9_42 ⟨by decide, by decide, rfl⟩ rfl rfl ?_
          refine fr_il3 dX9_take_58 ?_
          refine fr_iald dX9_take_59 ⟨by decide, by decide, rfl, by decide⟩ (by omega) (by omega) ?_
          refine fr_dup2 dX9_take_60 rfl rfl ?_
          refine fr_iald dX9_take_61 ⟨by decide, by decide, rfl, by decide⟩ (by omega) (by omega) ?_
          refine fr_al0 dX9_take_62 ?_
          refine fr_getr (cz := 15) dX9_take_63 flX9_21 ⟨by decide, by decide, rfl⟩ rfl rfl ?_
          refine fr_getr (cz := 18) dX9_take_66 flX9_45 ⟨by decide, by decide, rfl⟩ rfl rfl ?_
          refine fr_il3 dX9_take_69 ?_
          refine fr_iald dX9_take_70 ⟨by decide, by decide, rfl, by decide⟩ (by omega) (by omega) ?_
          refine fr_isub dX9_take_71 ?_
          refine fr_iast dX9_take_72 ⟨by decide, by decide, rfl, by decide⟩ (by omega) (by omega) ?_
          refine fr_ii3 dX9_take_73 rfl (Nat.le_of_ble_eq_true rfl) ?_
          refine fr_goto (tgt := 36) dX9_take_76 (by decide) ?_
          exact fr_wk (ih36 _ (⟨fun f f0 f1 => by have hk : wa_k w (j + 1) f = wa_k w j f + (if sp_br w (w (13 + (j : Int))) = f then sp_sb (w (1 + (j : Int))) (w (25 + (j : Int))) else 0) := rfl; rw [hk, e19, e16.2.2.1]; by_cases q : f = sp_br w (w (13 + (j : Int))); (· rw [q, gm_uk, if_pos rfl, hn.1 _ (by omega) (by omega)]; omega); (· rw [gm_un q, if_neg (fun e => q e.symm), hn.1 f f0 f1]; omega), fun c hc => by rw [gm_uc hc]; exact hn.2 c hc⟩)) ⟨rfl, rfl, rfl, rfl, trivial⟩
    · skip
      exfalso; omega
  · skip
    intro n hn
    refine fr_il3 dX9_take_2 ?_
    refine fr_bipush dX9_take_3 (by decide) ?_
    refine fr_icmp_ge (tgt := 34) dX9_take_5 (by decide) (by omega) (by omega) (fun h4 => ?_) (fun h4 => ?_)
    · skip
      exfalso; omega
    · skip
      refine fr_al0 dX9_take_8 ?_
      refine fr_getr (cz := 28) dX9_take_9 flX9_9 ⟨by decide, by decide, rfl⟩ rfl rfl ?_
      refine fr_il3 dX9_take_12 ?_
      refine fr_iconst dX9_take_13 ?_
      refine fr_al1 dX9_take_14 ?_
      refine fr_il2 dX9_take_15 ?_
      refine fr_il3 dX9_take_16 ?_
      refine fr_iadd dX9_take_17 ?_
      refine fr_sipush dX9_take_18 (by decide) ?_
      refine fr_cVi (mi' := fmX5_near) dX9_take_21 mlX9_25 mvX5_near ⟨5, _, (fr_obS (by omega) (by omega)), rfl, rfl⟩ (Nat.le_of_ble_eq_true rfl) (kcX5_near s0 s4 (by omega) (by omega) (by rw [hn.2 _ (by omega)]; exact hv _ (by omega) (by omega))) rfl rfl (Nat.le_of_ble_eq_true rfl) ?_
      have snr : -1 ≤ sp_nr (n (62 + s) (i + (j : Int))) 1000 ∧ sp_nr (n (62 + s) (i + (j : Int))) 1000 ≤ 1000 := by unfold sp_nr; split <;> (try split) <;> omega
      refine fr_mmax dX9_take_24 mxX9_31 (by omega) (by omega) (Nat.le_of_ble_eq_true rfl) (Nat.le_of_ble_eq_true rfl) ?_
      refine fr_iast dX9_take_27 ⟨by decide, by decide, rfl, by decide⟩ (by omega) (by omega) ?_
      refine fr_ii3 dX9_take_28 rfl (Nat.le_of_ble_eq_true rfl) ?_
      refine fr_goto (tgt := 2) dX9_take_31 (by decide) ?_
      exact fr_wk (ih2 _ (⟨fun f f0 f1 => by rcases (by omega : f < (j : Int) ∨ f = (j : Int)) with q | q; (· rw [gm_un (by omega)]; exact hn.1 f f0 q); (· rw [q, gm_uk, hn.2 (62 + s) (by omega)]; rfl), fun c hc => by rw [gm_uc hc]; exact hn.2 c hc⟩)) ⟨rfl, rfl, rfl, rfl, trivial⟩
set_option maxRecDepth 20000 in
theorem kcX9_hireCheapest {l : Launch} {κ : fr_Ka} {w : Int → Int} {μ : fr_Me} (hP : pl_P w μ) (hI : fr_I w) {it : Int → Int} (hla : ∀ f, 0 ≤ f → f < 10 → μ 28 f = wa_w it f - wa_k w (w 0).toNat f)  : fr_C l κ fmX9_hireCheapest 10 [fr_r κ 27] μ (fr_Pi (fun z n => z = fr_b (n 27 4 < 1000) ∧ hi_st w it ((0 + 1) * sp_p6 (w 0).toNat) (n 27 4) (n 30) ∧ (∀ c, c ≠ 27 → c ≠ 28 → c ≠ 29 → c ≠ 30 → n c = μ c) ∧ ∀ q, q ≠ 4 → n 27 q = μ 27 q)) := by
  have iN := hI.n
  have h0 := hi_0 (w := w) (it := it) (la := μ 28) (ro := μ 29) (fd := μ 30) hI hla
  have hLr := fun f => wa_L_rg (w := w) (it := it) (o := sp_dg ((0 : Nat) : Int) 0) (t := 0) iN (by omega) f
  refine fr_enter (by decide +kernel) (ls := [some (fr_r κ 27), none, none]) rfl (Nat.le_of_ble_eq_true rfl) ?_
  refine fr_iconst dX9_hireCheapest_0 ?_
  refine fr_is1 dX9_hireCheapest_1 rfl (Nat.le_of_ble_eq_true rfl) ?_
  refine fr_iconst dX9_hireCheapest_2 ?_
  refine fr_is2 dX9_hireCheapest_3 rfl (Nat.le_of_ble_eq_true rfl) ?_
  refine fr_wk ?_ (ls := [some (fr_r κ 27), some (fr_i (sp_sum 0 (fun f => if 0 < μ 28 f then μ 28 f else 0))), some (fr_i (0 : Int))]) ⟨rfl, rfl, rfl, trivial⟩
  refine fr_down (P := fun j : Nat => fr_A l κ fmX9_hireCheapest 10 (fr_Pi (fun z n => z = fr_b (n 27 4 < 1000) ∧ hi_st w it ((0 + 1) * sp_p6 (w 0).toNat) (n 27 4) (n 30) ∧ (∀ c, c ≠ 27 → c ≠ 28 → c ≠ 29 → c ≠ 30 → n c = μ c) ∧ ∀ q, q ≠ 4 → n 27 q = μ 27 q)) 4 [some (fr_r κ 27), some (fr_i (sp_sum j (fun f => if 0 < μ 28 f then μ 28 f else 0))), some (fr_i (j : Int))] [] μ) 10 ?_ (fun j hj4 ih4 => ?_)
  · skip
    refine fr_il2 dX9_hireCheapest_4 ?_
    refine fr_bipush dX9_hireCheapest_5 (by decide) ?_
    refine fr_icmp_ge (tgt := 29) dX9_hireCheapest_7 (by decide) (by omega) (by omega) (fun h1 => ?_) (fun h1 => ?_)
    · skip
      refine fr_al0 dX9_hireCheapest_29 ?_
      refine fr_sipush dX9_hireCheapest_30 (by decide) ?_
      refine fr_put (kz := 4) dX9_hireCheapest_33 fpX9_48 ⟨by decide, by decide, rfl⟩ rfl rfl (fun h => by cases h) ?_
      refine fr_al0 dX9_hireCheapest_36 ?_
      refine fr_iconst dX9_hireCheapest_37 ?_
      refine fr_iconst dX9_hireCheapest_38 ?_
      refine fr_iconst dX9_hireCheapest_39 ?_
      refine fr_il1 dX9_hireCheapest_40 ?_
      have hq := kcX9_hireFrom (l := l) (κ := κ) hI (w 0).toNat (fr_up μ 27 4 1000) 0 0 0 (sp_sum 10 (fun f => if 0 < μ 28 f then μ 28 f else 0)) (hP.keep (fun c c0 c1 => by rw [gm_uc (by omega)])) (hi_pf_k h0.1 (fun f _ _ => by rw [gm_uc (by omega)]) (fun s _ _ => by rw [gm_uc (by omega)])) (by rw [gm_uk, gm_uc (by omega)]; exact h0.2) (wa_Lf h0.1.2.2.2.2.2)
      rw [sp_wg_0 w hI.many.2] at hq
      refine fr_cVQ (mi' := fmX9_hireFrom) dX9_hireCheapest_41 mlX9_51 mvX9_hireFrom ⟨9, _, ⟨by decide, by decide, rfl⟩, rfl, rfl⟩ (by omega) (hq) rfl rfl (Nat.le_of_ble_eq_true rfl) (fun m hm => ?_)
      have hwr := hi_wg_rg hI hm.1
      have hfr : (∀ c, c ≠ 27 → c ≠ 28 → c ≠ 29 → c ≠ 30 → m c = μ c) ∧ ∀ q, q ≠ 4 → m 27 q = μ 27 q := ⟨fun c h1 h2 h3 h4 => (hm.2.1 c h1 h2 h3 h4).trans (gm_uc h1), fun q h1 => (hm.2.2.1 q h1).trans (gm_un h1)⟩
      refine fr_al0 dX9_hireCheapest_44 ?_
      refine fr_geti (kz := 4) dX9_hireCheapest_45 flX9_48 ⟨by decide, by decide, rfl⟩ rfl rfl ?_
      refine fr_sipush dX9_hireCheapest_48 (by decide) ?_
      refine fr_icmp_ge (tgt := 58) dX9_hireCheapest_51 (by decide) (by omega) (by omega) (fun h2 => ?_) (fun h2 => ?_)
      · skip
        refine fr_iconst dX9_hireCheapest_58 ?_
        exact fr_zret dX9_hireCheapest_59 rfl (Or.inl rfl) (fr_pi ⟨(fr_bF (by omega)).symm, hm.1, hfr⟩)
      · skip
        refine fr_iconst dX9_hireCheapest_54 ?_
        refine fr_goto (tgt := 59) dX9_hireCheapest_55 (by decide) ?_
        exact fr_zret dX9_hireCheapest_59 rfl (Or.inr rfl) (fr_pi ⟨(fr_bT (by omega)).symm, hm.1, hfr⟩)
    · skip
      exfalso; omega
  · skip
    refine fr_il2 dX9_hireCheapest_4 ?_
    refine fr_bipush dX9_hireCheapest_5 (by decide) ?_
    refine fr_icmp_ge (tgt := 29) dX9_hireCheapest_7 (by decide) (by omega) (by omega) (fun h3 => ?_) (fun h3 => ?_)
    · skip
      exfalso; omega
    · skip
      refine fr_il1 dX9_hireCheapest_10 ?_
      refine fr_iconst dX9_hireCheapest_11 ?_
      refine fr_al0 dX9_hireCheapest_12 ?_
      have hlf := h0.1.2.2.2.2.2 (j : Int) (by omega) (by omega)
      have hLj := hLr (j : Int)
      refine fr_getr (cz := 28) dX9_hireCheapest_13 flX9_9 ⟨by decide, by decide, rfl⟩ rfl rfl ?_
      refine fr_il2 dX9_hireCheapest_16 ?_
      refine fr_iald dX9_hireCheapest_17 ⟨by decide, by decide, rfl, by decide⟩ (by omega) (by omega) ?_
      refine fr_mmax dX9_hireCheapest_18 mxX9_31 (by omega) (by omega) (Nat.le_of_ble_eq_true rfl) (Nat.le_of_ble_eq_true rfl) ?_
      refine fr_iadd dX9_hireCheapest_21 ?_
      refine fr_is1 dX9_hireCheapest_22 rfl (Nat.le_of_ble_eq_true rfl) ?_
      refine fr_ii2 dX9_hireCheapest_23 rfl (Nat.le_of_ble_eq_true rfl) ?_
      refine fr_goto (tgt := 4) dX9_hireCheapest_26 (by decide) ?_
      exact fr_wk (ih4) ⟨rfl, rfl, rfl, trivial⟩
