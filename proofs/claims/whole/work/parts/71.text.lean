/-! the class: a text read; its trees planted -/
theorem tp_te {M : Int} (hM : 0 ≤ M ∧ M ≤ 5) {tp : Int → Int} {n a : Int} (h0 : 0 ≤ a) (h : a ≤ n) (hk : 0 ≤ sp_tk tp n a) : 0 ≤ sp_te M tp n a ∧ sp_te M tp n a ≤ n := by
  have hr := tp_r hk
  have hs := tp_skp (tp := tp) h
  have e : sp_r0 tp n a = sp_skp tp n a := rfl
  have h1 := tp_p_rg hM (tp := tp) (n := n) (a := sp_r0 tp n a + 1) (by omega)
  have h2 := tp_p_rg hM (tp := tp) (n := n) (a := tp_p M tp n (sp_r0 tp n a + 1)) (by omega)
  rw [(tp_2 hM h hk).2.2] at h2
  omega
set_option maxRecDepth 20000 in
theorem kcX6_parse {l : Launch} {κ : fr_Ka} {μ : fr_Me} (hn60 : 0 ≤ μ 9 4 ∧ μ 9 4 ≤ 60) (hT : ∀ i, 0 ≤ i → i < 60 → 0 ≤ μ 10 i ∧ μ 10 i ≤ 1000) {M : Int} (hM : 0 ≤ M ∧ M ≤ 5)  : fr_C l κ fmX6_parse 6 [fr_r κ 9, fr_i M] μ (fr_Pi (fun z m => ((∀ k, k ≠ 5 → m 9 k = μ 9 k) ∧ ∀ c, c ≠ 9 → c ≠ 11 → c ≠ 12 → c ≠ 13 → m c = μ c) ∧ ∃ i : Nat, i < 6 ∧ (∀ q : Nat, q < i → sp_cm M (μ 10) (μ 9 4) q) ∧ ((∃ at9, sp_out0 M (μ 10) (μ 9 4) i at9 ∧ z = -20 - at9) ∨ (sp_ok1 M (μ 10) (μ 9 4) i ∧ sp_se M (μ 10) (μ 9 4) i = μ 9 4 ∧ z = (i : Int) + 1 ∧ (∀ q : Nat, q ≤ i → m 11 q = sp_tk (μ 10) (μ 9 4) (sp_po M (μ 10) (μ 9 4) q) ∧ m 12 q = sp_tl M (μ 10) (μ 9 4) (sp_po M (μ 10) (μ 9 4) q) ∧ m 13 q = sp_tb M (μ 10) (μ 9 4) (sp_po M (μ 10) (μ 9 4) q)))))) := by
  refine fr_enter (by decide +kernel) (ls := [some (fr_r κ 9), some (fr_i M), none, none]) rfl (Nat.le_of_ble_eq_true rfl) ?_
  refine fr_al0 dX6_parse_0 ?_
  refine fr_iconst dX6_parse_1 ?_
  refine fr_put (kz := 5) dX6_parse_2 fpX6_28 ⟨by decide, by decide, rfl⟩ rfl rfl (fun h => by cases h) ?_
  refine fr_iconst dX6_parse_5 ?_
  refine fr_is2 dX6_parse_6 rfl (Nat.le_of_ble_eq_true rfl) ?_
  refine fr_wk ?_ (ls := [some (fr_r κ 9), some (fr_i M), some (fr_i (1 + (0 : Int))), none]) ⟨rfl, rfl, rfl, trivial⟩
  refine (fr_down (P := fun j : Nat => ∀ (m : fr_Me), ((∀ q : Nat, q < j → sp_cm M (μ 10) (μ 9 4) q) ∧ m 9 5 = (sp_po M (μ 10) (μ 9 4) j) ∧ (∀ q : Nat, q < j → m 11 q = sp_tk (μ 10) (μ 9 4) (sp_po M (μ 10) (μ 9 4) q) ∧ m 12 q = sp_tl M (μ 10) (μ 9 4) (sp_po M (μ 10) (μ 9 4) q) ∧ m 13 q = sp_tb M (μ 10) (μ 9 4) (sp_po M (μ 10) (μ 9 4) q)) ∧ (∀ k, k ≠ 5 → m 9 k = μ 9 k) ∧ ∀ c, c ≠ 9 → c ≠ 11 → c ≠ 12 → c ≠ 13 → m c = μ c) → fr_A l κ fmX6_parse 6 (fr_Pi (fun z m => ((∀ k, k ≠ 5 → m 9 k = μ 9 k) ∧ ∀ c, c ≠ 9 → c ≠ 11 → c ≠ 12 → c ≠ 13 → m c = μ c) ∧ ∃ i : Nat, i < 6 ∧ (∀ q : Nat, q < i → sp_cm M (μ 10) (μ 9 4) q) ∧ ((∃ at9, sp_out0 M (μ 10) (μ 9 4) i at9 ∧ z = -20 - at9) ∨ (sp_ok1 M (μ 10) (μ 9 4) i ∧ sp_se M (μ 10) (μ 9 4) i = μ 9 4 ∧ z = (i : Int) + 1 ∧ (∀ q : Nat, q ≤ i → m 11 q = sp_tk (μ 10) (μ 9 4) (sp_po M (μ 10) (μ 9 4) q) ∧ m 12 q = sp_tl M (μ 10) (μ 9 4) (sp_po M (μ 10) (μ 9 4) q) ∧ m 13 q = sp_tb M (μ 10) (μ 9 4) (sp_po M (μ 10) (μ 9 4) q)))))) 7 [some (fr_r κ 9), some (fr_i M), some (fr_i (1 + (j : Int))), none] [] m) 5 ?_ (fun j hj7 ih7 => ?_)) _ (⟨fun q hq => by omega, gm_uk, fun q hq => by omega, fun k hk => gm_un hk, fun c a _ _ _ => gm_uc a⟩)
  · skip
    intro m hn
    refine fr_il2 dX6_parse_7 ?_
    refine fr_bipush dX6_parse_8 (by decide) ?_
    refine fr_icmp_gt (tgt := 73) dX6_parse_10 (by decide) (by omega) (by omega) (fun h1 => ?_) (fun h1 => ?_)
    · skip
      exfalso; omega
    · skip
      have hpr := sp_po_rg (m := M) (tp := μ 10) (n := μ 9 4) (by omega) (5 : Nat) hn.1
      have e4 : m 9 4 = μ 9 4 := hn.2.2.2.1 4 (by omega)
      have e10 : m 10 = μ 10 := hn.2.2.2.2 10 (by omega) (by omega) (by omega) (by omega)
      have e5 := hn.2.1
      refine fr_al0 dX6_parse_13 ?_
      refine fr_il2 dX6_parse_14 ?_
      refine fr_iconst dX6_parse_15 ?_
      refine fr_isub dX6_parse_16 ?_
      refine fr_il1 dX6_parse_17 ?_
      rw [show (1 : Int) + (((5 : Nat) : Nat) : Int) - 1 = (((5 : Nat) : Nat) : Int) by omega]
      refine fr_cVP (mi' := fmX6_parseTree) dX6_parse_18 mlX6_31 mvX6_parseTree ⟨6, _, ⟨by decide, by decide, rfl⟩, rfl, rfl⟩ (Nat.le_of_ble_eq_true rfl) (kcX6_parseTree (by rw [e4, e5]; omega) (by rw [e10]; exact hT) (by omega) hM) rfl rfl (Nat.le_of_ble_eq_true rfl) (fun z m2 h2 => ?_)
      rcases h2 with ⟨hk, hz, hm2⟩ | ⟨hk, hz, hm2⟩
      · skip
        subst hz hm2
        rw [e10, e4, e5] at hk ⊢
        refine fr_if_eq (tgt := 73) dX6_parse_21 (by decide) (by decide) (fun _ => ?_) (fun h2 => absurd h2 (by decide))
        refine fr_bipush dX6_parse_73 (by decide) ?_
        refine fr_al0 dX6_parse_75 ?_
        refine fr_geti (kz := 5) dX6_parse_76 flX6_28 ⟨by decide, by decide, rfl⟩ rfl rfl ?_
        refine fr_isub dX6_parse_79 ?_
        exact fr_iret dX6_parse_80 rfl (fr_pi ⟨⟨fun k hk => by rw [gm_un hk]; exact hn.2.2.2.1 k hk, fun c a b d e => by rw [gm_uc a]; exact hn.2.2.2.2 c a b d e⟩, (5 : Nat), by omega, hn.1, Or.inl ⟨_, Or.inl ⟨hk, rfl⟩, by rw [gm_uk]⟩⟩)
      · skip
        subst hz
        rw [e10, e4, e5] at hk hm2
        have e24 : m2 9 4 = μ 9 4 := (hm2.2.2.2.2.1 4 (by omega)).trans e4
        have e210 : m2 10 = μ 10 := (hm2.2.2.2.2.2.2 10 (by omega) (by omega) (by omega) (by omega)).trans e10
        have e25 : m2 9 5 = sp_te M (μ 10) (μ 9 4) (sp_po M (μ 10) (μ 9 4) (5 : Nat)) := hm2.1
        have hte : 0 ≤ sp_te M (μ 10) (μ 9 4) (sp_po M (μ 10) (μ 9 4) (5 : Nat)) ∧ sp_te M (μ 10) (μ 9 4) (sp_po M (μ 10) (μ 9 4) (5 : Nat)) ≤ μ 9 4 := tp_te hM (by omega) (by omega) hk
        have hkn : (∀ q : Nat, q ≤ (5 : Nat) → m2 11 q = sp_tk (μ 10) (μ 9 4) (sp_po M (μ 10) (μ 9 4) q) ∧ m2 12 q = sp_tl M (μ 10) (μ 9 4) (sp_po M (μ 10) (μ 9 4) q) ∧ m2 13 q = sp_tb M (μ 10) (μ 9 4) (sp_po M (μ 10) (μ 9 4) q)) := fun q hq => by rcases (by omega : q < (5 : Nat) ∨ q = (5 : Nat)) with r | r; (· have h9 := hm2.2.2.2.2.2.1 (q : Int) (by omega); have h8 := hn.2.2.1 q r; rw [h9.1, h9.2.1, h9.2.2]; exact h8); (· subst r; exact ⟨hm2.2.1, hm2.2.2.1, hm2.2.2.2.1⟩)
        refine fr_if_eq (tgt := 73) dX6_parse_21 (by decide) (by decide) (fun h3 => absurd h3 (by decide)) (fun _ => ?_)
        refine fr_al0 dX6_parse_24 ?_
        refine fr_cVP (mi' := fmX6_peek) dX6_parse_25 mlX6_35 mvX6_peek ⟨6, _, ⟨by decide, by decide, rfl⟩, rfl, rfl⟩ (Nat.le_of_ble_eq_true rfl) (kcX6_peek (by rw [e24, e25]; omega) (by rw [e210]; exact hT)) rfl rfl (Nat.le_of_ble_eq_true rfl) (fun z3 m3 h3 => ?_)
        obtain ⟨hz3, hm3⟩ := h3
        rw [e210, e24, e25] at hz3 hm3
        subst hm3
        have ese : sp_skp (μ 10) (μ 9 4) (sp_te M (μ 10) (μ 9 4) (sp_po M (μ 10) (μ 9 4) (5 : Nat))) = sp_se M (μ 10) (μ 9 4) (5 : Nat) := rfl
        rw [ese] at hz3 ⊢
        have hser : 0 ≤ sp_se M (μ 10) (μ 9 4) (5 : Nat) ∧ sp_se M (μ 10) (μ 9 4) (5 : Nat) ≤ μ 9 4 := by have := tp_skp (tp := μ 10) hte.2; rw [ese] at this; omega
        have e3 : fr_up m2 9 5 (sp_se M (μ 10) (μ 9 4) (5 : Nat)) 9 5 = sp_se M (μ 10) (μ 9 4) (5 : Nat) := gm_uk
        have e34 : fr_up m2 9 5 (sp_se M (μ 10) (μ 9 4) (5 : Nat)) 9 4 = μ 9 4 := (gm_un (by omega)).trans e24
        have hz3r : 0 ≤ z3 ∧ z3 ≤ 1000 := by rw [hz3]; split; (· exact hT _ (by omega) (by omega)); (· omega)
        have hch : sp_se M (μ 10) (μ 9 4) (5 : Nat) < μ 9 4 → z3 = sp_ch (μ 10) (μ 9 4) (sp_se M (μ 10) (μ 9 4) (5 : Nat)) := fun h => by rw [hz3]; unfold sp_ch; rw [if_pos h, if_pos h]
        refine fr_is3 dX6_parse_28 rfl (Nat.le_of_ble_eq_true rfl) ?_
        refine fr_al0 dX6_parse_29 ?_
        refine fr_geti (kz := 5) dX6_parse_30 flX6_28 ⟨by decide, by decide, rfl⟩ rfl rfl ?_
        refine fr_al0 dX6_parse_33 ?_
        refine fr_geti (kz := 4) dX6_parse_34 flX6_24 ⟨by decide, by decide, rfl⟩ rfl rfl ?_
        refine fr_icmp_ne (tgt := 42) dX6_parse_37 (by decide) (by omega) (by omega) (fun h4 => ?_) (fun h4 => ?_)
        · skip
          refine fr_il3 dX6_parse_42 ?_
          refine fr_bipush dX6_parse_43 (by decide) ?_
          refine fr_icmp_ne (tgt := 73) dX6_parse_45 (by decide) (by omega) (by omega) (fun h5 => ?_) (fun h5 => ?_)
          · skip
            refine fr_bipush dX6_parse_73 (by decide) ?_
            refine fr_al0 dX6_parse_75 ?_
            refine fr_geti (kz := 5) dX6_parse_76 flX6_28 ⟨by decide, by decide, rfl⟩ rfl rfl ?_
            refine fr_isub dX6_parse_79 ?_
            exact fr_iret dX6_parse_80 rfl (fr_pi ⟨⟨fun k hk => (by rw [gm_un hk, hm2.2.2.2.2.1 k hk]; exact hn.2.2.2.1 k hk), fun c a b d e => (by rw [gm_uc a, hm2.2.2.2.2.2.2 c a b d e]; exact hn.2.2.2.2 c a b d e)⟩, (5 : Nat), by omega, hn.1, Or.inl ⟨sp_se M (μ 10) (μ 9 4) (5 : Nat), Or.inr ⟨hk, by omega, (by first | exact Or.inr (by omega) | exact Or.inl (fun e => by rw [← hch (by omega)] at e; omega)), rfl⟩, by first | rw [gm_uk] | rw [e3]⟩⟩)
          · skip
            refine fr_il2 dX6_parse_48 ?_
            refine fr_bipush dX6_parse_49 (by decide) ?_
            refine fr_icmp_ne (tgt := 57) dX6_parse_51 (by decide) (by omega) (by omega) (fun h6 => ?_) (fun h6 => ?_)
            · skip
              exfalso; omega
            · skip
              refine fr_goto (tgt := 73) dX6_parse_54 (by decide) ?_
              refine fr_bipush dX6_parse_73 (by decide) ?_
              refine fr_al0 dX6_parse_75 ?_
              refine fr_geti (kz := 5) dX6_parse_76 flX6_28 ⟨by decide, by decide, rfl⟩ rfl rfl ?_
              refine fr_isub dX6_parse_79 ?_
              exact fr_iret dX6_parse_80 rfl (fr_pi ⟨⟨fun k hk => (by rw [gm_un hk, hm2.2.2.2.2.1 k hk]; exact hn.2.2.2.1 k hk), fun c a b d e => (by rw [gm_uc a, hm2.2.2.2.2.2.2 c a b d e]; exact hn.2.2.2.2 c a b d e)⟩, (5 : Nat), by omega, hn.1, Or.inl ⟨sp_se M (μ 10) (μ 9 4) (5 : Nat), Or.inr ⟨hk, by omega, (by first | exact Or.inr (by omega) | exact Or.inl (fun e => by rw [← hch (by omega)] at e; omega)), rfl⟩, by first | rw [gm_uk] | rw [e3]⟩⟩)
        · skip
          refine fr_il2 dX6_parse_40 ?_
          exact fr_iret dX6_parse_41 rfl (fr_pi ⟨⟨fun k hk => (by rw [gm_un hk, hm2.2.2.2.2.1 k hk]; exact hn.2.2.2.1 k hk), fun c a b d e => (by rw [gm_uc a, hm2.2.2.2.2.2.2 c a b d e]; exact hn.2.2.2.2 c a b d e)⟩, (5 : Nat), by omega, hn.1, Or.inr ⟨hk, by omega, by omega, fun q hq => by rw [gm_uc (by omega), gm_uc (by omega), gm_uc (by omega)]; exact hkn q (by omega)⟩⟩)
  · skip
    intro m hn
    refine fr_il2 dX6_parse_7 ?_
    refine fr_bipush dX6_parse_8 (by decide) ?_
    refine fr_icmp_gt (tgt := 73) dX6_parse_10 (by decide) (by omega) (by omega) (fun h7 => ?_) (fun h7 => ?_)
    · skip
      exfalso; omega
    · skip
      have hpr := sp_po_rg (m := M) (tp := μ 10) (n := μ 9 4) (by omega) j hn.1
      have e4 : m 9 4 = μ 9 4 := hn.2.2.2.1 4 (by omega)
      have e10 : m 10 = μ 10 := hn.2.2.2.2 10 (by omega) (by omega) (by omega) (by omega)
      have e5 := hn.2.1
      refine fr_al0 dX6_parse_13 ?_
      refine fr_il2 dX6_parse_14 ?_
      refine fr_iconst dX6_parse_15 ?_
      refine fr_isub dX6_parse_16 ?_
      refine fr_il1 dX6_parse_17 ?_
      rw [show (1 : Int) + ((j : Nat) : Int) - 1 = ((j : Nat) : Int) by omega]
      refine fr_cVP (mi' := fmX6_parseTree) dX6_parse_18 mlX6_31 mvX6_parseTree ⟨6, _, ⟨by decide, by decide, rfl⟩, rfl, rfl⟩ (Nat.le_of_ble_eq_true rfl) (kcX6_parseTree (by rw [e4, e5]; omega) (by rw [e10]; exact hT) (by omega) hM) rfl rfl (Nat.le_of_ble_eq_true rfl) (fun z m2 h2 => ?_)
      rcases h2 with ⟨hk, hz, hm2⟩ | ⟨hk, hz, hm2⟩
      · skip
        subst hz hm2
        rw [e10, e4, e5] at hk ⊢
        refine fr_if_eq (tgt := 73) dX6_parse_21 (by decide) (by decide) (fun _ => ?_) (fun h8 => absurd h8 (by decide))
        refine fr_bipush dX6_parse_73 (by decide) ?_
        refine fr_al0 dX6_parse_75 ?_
        refine fr_geti (kz := 5) dX6_parse_76 flX6_28 ⟨by decide, by decide, rfl⟩ rfl rfl ?_
        refine fr_isub dX6_parse_79 ?_
        exact fr_iret dX6_parse_80 rfl (fr_pi ⟨⟨fun k hk => by rw [gm_un hk]; exact hn.2.2.2.1 k hk, fun c a b d e => by rw [gm_uc a]; exact hn.2.2.2.2 c a b d e⟩, j, by omega, hn.1, Or.inl ⟨_, Or.inl ⟨hk, rfl⟩, by rw [gm_uk]⟩⟩)
      · skip
        subst hz
        rw [e10, e4, e5] at hk hm2
        have e24 : m2 9 4 = μ 9 4 := (hm2.2.2.2.2.1 4 (by omega)).trans e4
        have e210 : m2 10 = μ 10 := (hm2.2.2.2.2.2.2 10 (by omega) (by omega) (by omega) (by omega)).trans e10
        have e25 : m2 9 5 = sp_te M (μ 10) (μ 9 4) (sp_po M (μ 10) (μ 9 4) j) := hm2.1
        have hte : 0 ≤ sp_te M (μ 10) (μ 9 4) (sp_po M (μ 10) (μ 9 4) j) ∧ sp_te M (μ 10) (μ 9 4) (sp_po M (μ 10) (μ 9 4) j) ≤ μ 9 4 := tp_te hM (by omega) (by omega) hk
        have hkn : (∀ q : Nat, q ≤ j → m2 11 q = sp_tk (μ 10) (μ 9 4) (sp_po M (μ 10) (μ 9 4) q) ∧ m2 12 q = sp_tl M (μ 10) (μ 9 4) (sp_po M (μ 10) (μ 9 4) q) ∧ m2 13 q = sp_tb M (μ 10) (μ 9 4) (sp_po M (μ 10) (μ 9 4) q)) := fun q hq => by rcases (by omega : q < j ∨ q = j) with r | r; (· have h9 := hm2.2.2.2.2.2.1 (q : Int) (by omega); have h8 := hn.2.2.1 q r; rw [h9.1, h9.2.1, h9.2.2]; exact h8); (· subst r; exact ⟨hm2.2.1, hm2.2.2.1, hm2.2.2.2.1⟩)
        refine fr_if_eq (tgt := 73) dX6_parse_21 (by decide) (by decide) (fun h9 => absurd h9 (by decide)) (fun _ => ?_)
        refine fr_al0 dX6_parse_24 ?_
        refine fr_cVP (mi' := fmX6_peek) dX6_parse_25 mlX6_35 mvX6_peek ⟨6, _, ⟨by decide, by decide, rfl⟩, rfl, rfl⟩ (Nat.le_of_ble_eq_true rfl) (kcX6_peek (by rw [e24, e25]; omega) (by rw [e210]; exact hT)) rfl rfl (Nat.le_of_ble_eq_true rfl) (fun z3 m3 h3 => ?_)
        obtain ⟨hz3, hm3⟩ := h3
        rw [e210, e24, e25] at hz3 hm3
        subst hm3
        have ese : sp_skp (μ 10) (μ 9 4) (sp_te M (μ 10) (μ 9 4) (sp_po M (μ 10) (μ 9 4) j)) = sp_se M (μ 10) (μ 9 4) j := rfl
        rw [ese] at hz3 ⊢
        have hser : 0 ≤ sp_se M (μ 10) (μ 9 4) j ∧ sp_se M (μ 10) (μ 9 4) j ≤ μ 9 4 := by have := tp_skp (tp := μ 10) hte.2; rw [ese] at this; omega
        have e3 : fr_up m2 9 5 (sp_se M (μ 10) (μ 9 4) j) 9 5 = sp_se M (μ 10) (μ 9 4) j := gm_uk
        have e34 : fr_up m2 9 5 (sp_se M (μ 10) (μ 9 4) j) 9 4 = μ 9 4 := (gm_un (by omega)).trans e24
        have hz3r : 0 ≤ z3 ∧ z3 ≤ 1000 := by rw [hz3]; split; (· exact hT _ (by omega) (by omega)); (· omega)
        have hch : sp_se M (μ 10) (μ 9 4) j < μ 9 4 → z3 = sp_ch (μ 10) (μ 9 4) (sp_se M (μ 10) (μ 9 4) j) := fun h => by rw [hz3]; unfold sp_ch; rw [if_pos h, if_pos h]
        refine fr_is3 dX6_parse_28 rfl (Nat.le_of_ble_eq_true rfl) ?_
        refine fr_al0 dX6_parse_29 ?_
        refine fr_geti (kz := 5) dX6_parse_30 flX6_28 ⟨by decide, by decide, rfl⟩ rfl rfl ?_
        refine fr_al0 dX6_parse_33 ?_
        refine fr_geti (kz := 4) dX6_parse_34 flX6_24 ⟨by decide, by decide, rfl⟩ rfl rfl ?_
        refine fr_icmp_ne (tgt := 42) dX6_parse_37 (by decide) (by omega) (by omega) (fun h10 => ?_) (fun h10 => ?_)
        · skip
          refine fr_il3 dX6_parse_42 ?_
          refine fr_bipush dX6_parse_43 (by decide) ?_
          refine fr_icmp_ne (tgt := 73) dX6_parse_45 (by decide) (by omega) (by omega) (fun h11 => ?_) (fun h11 => ?_)
          · skip
            refine fr_bipush dX6_parse_73 (by decide) ?_
            refine fr_al0 dX6_parse_75 ?_
            refine fr_geti (kz := 5) dX6_parse_76 flX6_28 ⟨by decide, by decide, rfl⟩ rfl rfl ?_
            refine fr_isub dX6_parse_79 ?_
            exact fr_iret dX6_parse_80 rfl (fr_pi ⟨⟨fun k hk => (by rw [gm_un hk, hm2.2.2.2.2.1 k hk]; exact hn.2.2.2.1 k hk), fun c a b d e => (by rw [gm_uc a, hm2.2.2.2.2.2.2 c a b d e]; exact hn.2.2.2.2 c a b d e)⟩, j, by omega, hn.1, Or.inl ⟨sp_se M (μ 10) (μ 9 4) j, Or.inr ⟨hk, by omega, (by first | exact Or.inr (by omega) | exact Or.inl (fun e => by rw [← hch (by omega)] at e; omega)), rfl⟩, by first | rw [gm_uk] | rw [e3]⟩⟩)
          · skip
            refine fr_il2 dX6_parse_48 ?_
            refine fr_bipush dX6_parse_49 (by decide) ?_
            refine fr_icmp_ne (tgt := 57) dX6_parse_51 (by decide) (by omega) (by omega) (fun h12 => ?_) (fun h12 => ?_)
            · skip
              refine fr_al0 dX6_parse_57 ?_
              refine fr_dup dX6_parse_58 rfl ?_
              refine fr_geti (kz := 5) dX6_parse_59 flX6_28 ⟨by decide, by decide, rfl⟩ rfl rfl ?_
              refine fr_iconst dX6_parse_62 ?_
              refine fr_iadd dX6_parse_63 ?_
              refine fr_put (kz := 5) dX6_parse_64 fpX6_28 ⟨by decide, by decide, rfl⟩ rfl rfl (fun h => by cases h) ?_
              refine fr_ii2 dX6_parse_67 rfl (Nat.le_of_ble_eq_true rfl) ?_
              refine fr_goto (tgt := 7) dX6_parse_70 (by decide) ?_
              rw [show (1 : Int) + (j : Int) + 1 = 1 + ((j + 1 : Nat) : Int) by omega]
              exact fr_wk (ih7 _ (⟨fun q hq => by rcases (by omega : q < j ∨ q = j) with r | r; (· exact hn.1 q r); (· subst r; exact ⟨hk, by rw [← hch (by omega)]; omega⟩), by rw [gm_uk, e3]; rfl, fun q hq => by rw [gm_uc (by omega), gm_uc (by omega), gm_uc (by omega), gm_uc (by omega), gm_uc (by omega), gm_uc (by omega)]; exact hkn q (by omega), fun k hk9 => by rw [gm_un hk9, gm_un hk9, hm2.2.2.2.2.1 k hk9]; exact hn.2.2.2.1 k hk9, fun c a b d e => by rw [gm_uc a, gm_uc a, hm2.2.2.2.2.2.2 c a b d e]; exact hn.2.2.2.2 c a b d e⟩)) ⟨rfl, rfl, rfl, trivial⟩
            · skip
              exfalso; omega
        · skip
          refine fr_il2 dX6_parse_40 ?_
          exact fr_iret dX6_parse_41 rfl (fr_pi ⟨⟨fun k hk => (by rw [gm_un hk, hm2.2.2.2.2.1 k hk]; exact hn.2.2.2.1 k hk), fun c a b d e => (by rw [gm_uc a, hm2.2.2.2.2.2.2 c a b d e]; exact hn.2.2.2.2 c a b d e)⟩, j, by omega, hn.1, Or.inr ⟨hk, by omega, by omega, fun q hq => by rw [gm_uc (by omega), gm_uc (by omega), gm_uc (by omega)]; exact hkn q (by omega)⟩⟩)
set_option maxRecDepth 20000 in
theorem kcX6_plantAll {l : Launch} {κ : fr_Ka} {w : Int → Int} {μ : fr_Me} (hG : fr_G w μ) {n : Nat} (hn : n ≤ 6)  : fr_C l κ fmX6_plantAll 2 [fr_r κ 9, fr_r κ 1, fr_i (n : Int)] μ (fr_Pv (fun m => (∀ t, 0 ≤ t → t < (n : Int) → m (36 + t) = sp_begin μ (36 + t) (μ 11 t) (μ 12 t) (μ 13 t) (36 + t)) ∧ (∀ c, c ≠ 1 → (c < 36 ∨ 36 + (n : Int) ≤ c) → m c = μ c) ∧ m 1 3 = (n : Int) ∧ ∀ k, k ≠ 3 → m 1 k = μ 1 k)) := by
  refine fr_enter (by decide +kernel) (ls := [some (fr_r κ 9), some (fr_r κ 1), some (fr_i (n : Int)), none]) rfl (Nat.le_of_ble_eq_true rfl) ?_
  refine fr_iconst dX6_plantAll_0 ?_
  refine fr_is3 dX6_plantAll_1 rfl (Nat.le_of_ble_eq_true rfl) ?_
  refine fr_wk ?_ (ls := [some (fr_r κ 9), some (fr_r κ 1), some (fr_i (n : Int)), some (fr_i (0 : Int))]) ⟨rfl, rfl, rfl, rfl, trivial⟩
  refine (fr_down (P := fun j : Nat => ∀ (m : fr_Me), ((∀ t, 0 ≤ t → t < (j : Int) → m (36 + t) = sp_begin μ (36 + t) (μ 11 t) (μ 12 t) (μ 13 t) (36 + t)) ∧ ∀ c, (c < 36 ∨ 36 + (j : Int) ≤ c) → m c = μ c) → fr_A l κ fmX6_plantAll 2 (fr_Pv (fun m => (∀ t, 0 ≤ t → t < (n : Int) → m (36 + t) = sp_begin μ (36 + t) (μ 11 t) (μ 12 t) (μ 13 t) (36 + t)) ∧ (∀ c, c ≠ 1 → (c < 36 ∨ 36 + (n : Int) ≤ c) → m c = μ c) ∧ m 1 3 = (n : Int) ∧ ∀ k, k ≠ 3 → m 1 k = μ 1 k)) 2 [some (fr_r κ 9), some (fr_r κ 1), some (fr_i (n : Int)), some (fr_i (j : Int))] [] m) n ?_ (fun j hj2 ih2 => ?_)) _ (⟨fun t a b => by omega, fun _ _ => rfl⟩)
  · skip
    intro m hm
    refine fr_il3 dX6_plantAll_2 ?_
    refine fr_il2 dX6_plantAll_3 ?_
    refine fr_icmp_ge (tgt := 40) dX6_plantAll_4 (by decide) (by omega) (by omega) (fun h1 => ?_) (fun h1 => ?_)
    · skip
      refine fr_al1 dX6_plantAll_40 ?_
      refine fr_il2 dX6_plantAll_41 ?_
      refine fr_put (kz := 3) dX6_plantAll_42 fpX6_66 ⟨by decide, by decide, rfl⟩ rfl rfl (fun h => by cases h) ?_
      exact fr_vret dX6_plantAll_45 rfl (fr_pv ⟨fun t t0 t1 => by rw [gm_uc (by omega)]; exact hm.1 t t0 t1, fun c c1 hc => by rw [gm_uc c1]; exact hm.2 c hc, gm_uk, fun k hk => by rw [gm_un hk, hm.2 1 (by omega)]⟩)
    · skip
      exfalso; omega
  · skip
    intro m hm
    have e11 := hm.2 11 (by omega)
    have e12 := hm.2 12 (by omega)
    have e13 := hm.2 13 (by omega)
    refine fr_il3 dX6_plantAll_2 ?_
    refine fr_il2 dX6_plantAll_3 ?_
    refine fr_icmp_ge (tgt := 40) dX6_plantAll_4 (by decide) (by omega) (by omega) (fun h2 => ?_) (fun h2 => ?_)
    · skip
      exfalso; omega
    · skip
      refine fr_al1 dX6_plantAll_7 ?_
      refine fr_getr (cz := 2) dX6_plantAll_8 flX6_54 ⟨by decide, by decide, rfl⟩ rfl rfl ?_
      refine fr_il3 dX6_plantAll_11 ?_
      refine fr_aaT dX6_plantAll_12 (by omega) (by omega) ?_
      refine fr_al0 dX6_plantAll_13 ?_
      refine fr_getr (cz := 11) dX6_plantAll_14 flX6_15 ⟨by decide, by decide, rfl⟩ rfl rfl ?_
      refine fr_il3 dX6_plantAll_17 ?_
      refine fr_iald dX6_plantAll_18 ⟨by decide, by decide, rfl, by decide⟩ (by omega) (by omega) ?_
      refine fr_al0 dX6_plantAll_19 ?_
      refine fr_getr (cz := 12) dX6_plantAll_20 flX6_18 ⟨by decide, by decide, rfl⟩ rfl rfl ?_
      refine fr_il3 dX6_plantAll_23 ?_
      refine fr_iald dX6_plantAll_24 ⟨by decide, by decide, rfl, by decide⟩ (by omega) (by omega) ?_
      refine fr_al0 dX6_plantAll_25 ?_
      refine fr_getr (cz := 13) dX6_plantAll_26 flX6_21 ⟨by decide, by decide, rfl⟩ rfl rfl ?_
      refine fr_il3 dX6_plantAll_29 ?_
      refine fr_iald dX6_plantAll_30 ⟨by decide, by decide, rfl, by decide⟩ (by omega) (by omega) ?_
      refine fr_cVv (mi' := fmX7_begin) dX6_plantAll_31 mlX6_60 mvX7_begin ⟨7, _, (fr_obT (by omega) (by omega)), rfl, rfl⟩ (Nat.le_of_ble_eq_true rfl) (kcX7_begin (fr_obT (by omega) (by omega))) rfl rfl (Nat.le_of_ble_eq_true rfl) ?_
      refine fr_ii3 dX6_plantAll_34 rfl (Nat.le_of_ble_eq_true rfl) ?_
      refine fr_goto (tgt := 2) dX6_plantAll_37 (by decide) ?_
      exact fr_wk (ih2 _ (⟨fun t t0 t1 => by rcases (by omega : t < (j : Int) ∨ t = (j : Int)) with q | q; (· rw [sp_begin_nc _ _ _ _ (by omega)]; exact hm.1 t t0 q); (· subst q; rw [e11, e12, e13]; unfold sp_begin; funext k; have e36 := congrFun (hm.2 (36 + (j : Int)) (by omega)) k; simp only [fr_up]; (repeat' split) <;> first | rfl | exact e36), fun c hc => by rw [sp_begin_nc _ _ _ _ (by omega)]; exact hm.2 c (by omega)⟩)) ⟨rfl, rfl, rfl, rfl, trivial⟩
