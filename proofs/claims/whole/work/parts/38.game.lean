set_option maxRecDepth 20000 in
theorem kcX11_gameOf {l : Launch} {κ : fr_Ka} {μ : fr_Me} (hI : fr_I (μ 67)) {set : Int} : fr_C l κ fmX11_gameOf 6 [fr_r κ 66, fr_i set] μ (fr_Pi (fun z m => z = sp_G (μ 67) set 0 ∧ ∀ c, c ≠ 71 → c ≠ 72 → c ≠ 73 → c ≠ 74 → m c = μ c)) := by
  refine fr_enter (by decide +kernel) (ls := [some (fr_r κ 66), some (fr_i set), none, none]) rfl (Nat.le_of_ble_eq_true rfl) ?_
  refine fr_al0 dX11_gameOf_0 ?_
  refine fr_cVQ (mi' := fmX11_layWorths) dX11_gameOf_1 mlX11_166 mvX11_layWorths ⟨11, _, ⟨by decide, by decide, rfl⟩, rfl, rfl⟩ (Nat.le_of_ble_eq_true rfl) (kcX11_layWorths hI) rfl rfl (Nat.le_of_ble_eq_true rfl) (fun m hm => ?_)
  have e67 : m 67 = μ 67 := hm.2 67 (by decide)
  refine fr_iconst dX11_gameOf_4 ?_
  refine fr_is2 dX11_gameOf_5 rfl (Nat.le_of_ble_eq_true rfl) ?_
  refine fr_wk ?_ (ls := [some (fr_r κ 66), some (fr_i set), some (fr_i (0 : Int)), none]) ⟨rfl, rfl, rfl, trivial⟩
  refine (fr_down (P := fun j : Nat => ∀ (n : fr_Me), ((∀ s : Int, 0 ≤ s → s < (j : Int) → n 73 s = 0) ∧ ∀ c, c ≠ 73 → n c = m c) → fr_A l κ fmX11_gameOf 6 (fr_Pi (fun z m => z = sp_G (μ 67) set 0 ∧ ∀ c, c ≠ 71 → c ≠ 72 → c ≠ 73 → c ≠ 74 → m c = μ c)) 6 [some (fr_r κ 66), some (fr_i set), some (fr_i (j : Int)), none] [] n) 4096 ?_ (fun j hj6 ih6 => ?_)) _ (⟨fun s s0 s1 => by omega, fun c _ => rfl⟩)
  · skip
    intro n hn
    refine fr_il2 dX11_gameOf_6 ?_
    refine fr_sipush dX11_gameOf_7 (by decide) ?_
    refine fr_icmp_ge (tgt := 26) dX11_gameOf_10 (by decide) (by omega) (by omega) (fun h1 => ?_) (fun h1 => ?_)
    · skip
      refine fr_al0 dX11_gameOf_26 ?_
      refine fr_getr (cz := 74) dX11_gameOf_27 flX11_32 ⟨by decide, by decide, rfl⟩ rfl rfl ?_
      refine fr_iconst dX11_gameOf_30 ?_
      refine fr_iconst dX11_gameOf_31 ?_
      refine fr_iast dX11_gameOf_32 ⟨by decide, by decide, rfl, by decide⟩ (by omega) (by omega) ?_
      refine fr_iconst dX11_gameOf_33 ?_
      refine fr_is2 dX11_gameOf_34 rfl (Nat.le_of_ble_eq_true rfl) ?_
      have hok : gm_ok m set (fr_up n 74 0 0) := gm_ok2 ⟨fun c c1 c2 c3 => hn.2 c c2, fun s s0 s1 => ⟨Or.inl (hn.1 s s0 (by omega)), fun h => by have := hn.1 s s0 (by omega); omega⟩⟩
      refine fr_wk ?_ (ls := [some (fr_r κ 66), some (fr_i set), some (fr_i 0), none]) ⟨rfl, rfl, rfl, trivial⟩
      refine gm_run (μ0 := m) (by rw [e67]; exact hI) (by rw [e67]; exact hm.1) 14 ((gm_ct _).toNat + 1) 0 0 _ hok (by omega) (by omega) (by omega) gm_uk (by have := (sp_rk_rg (m 67) set 0).2; omega) (gm_tn (gm_ct0 _)) (fun ν ok2 _ _ hk0 => ?_)
      unfold gm_A
      refine fr_il2 dX11_gameOf_35 ?_
      refine fr_if_lt (tgt := 77) dX11_gameOf_36 (by decide) (by decide) (fun _ => ?_) (fun h2 => absurd h2 (by decide))
      refine fr_al0 dX11_gameOf_77 ?_
      refine fr_getr (cz := 72) dX11_gameOf_78 flX11_25 ⟨by decide, by decide, rfl⟩ rfl rfl ?_
      refine fr_iconst dX11_gameOf_81 ?_
      refine fr_iald dX11_gameOf_82 ⟨by decide, by decide, rfl, by decide⟩ (by omega) (by omega) ?_
      exact fr_iret dX11_gameOf_83 rfl (fr_pi ⟨by rw [(ok2.2 0 (by omega) (by omega)).2 hk0, e67], fun c c1 c2 c3 c4 => (ok2.1 c c2 c3 c4).trans (hm.2 c c1)⟩)
    · skip
      exfalso; omega
  · skip
    intro n hn
    refine fr_il2 dX11_gameOf_6 ?_
    refine fr_sipush dX11_gameOf_7 (by decide) ?_
    refine fr_icmp_ge (tgt := 26) dX11_gameOf_10 (by decide) (by omega) (by omega) (fun h3 => ?_) (fun h3 => ?_)
    · skip
      exfalso; omega
    · skip
      refine fr_al0 dX11_gameOf_13 ?_
      refine fr_getr (cz := 73) dX11_gameOf_14 flX11_28 ⟨by decide, by decide, rfl⟩ rfl rfl ?_
      refine fr_il2 dX11_gameOf_17 ?_
      refine fr_iconst dX11_gameOf_18 ?_
      refine fr_zast dX11_gameOf_19 ⟨by decide, by decide, rfl, by decide⟩ (by omega) (by omega) (Or.inl rfl) ?_
      refine fr_ii2 dX11_gameOf_20 rfl (Nat.le_of_ble_eq_true rfl) ?_
      refine fr_goto (tgt := 6) dX11_gameOf_23 (by decide) ?_
      exact fr_wk (ih6 _ (⟨fun s s0 s1 => (by omega : s < (j : Int) ∨ s = (j : Int)).elim (fun e => (gm_un (by omega)).trans (hn.1 s s0 e)) (fun e => by subst e; exact gm_uk), fun c hc => (gm_uc hc).trans (hn.2 c hc)⟩)) ⟨rfl, rfl, rfl, trivial⟩
