theorem fr_and1 (a : Int) : 0 ≤ fr_and a 1 ∧ fr_and a 1 ≤ 1 := by
  unfold fr_and
  have h1 : (Int32.ofInt a &&& Int32.ofInt 1).toInt = (BitVec.ofInt 32 a &&& 1#32).toInt := rfl
  have hm : (BitVec.ofInt 32 a &&& 1#32).toNat = (BitVec.ofInt 32 a).toNat % 2 := by
    rw [BitVec.toNat_and, show (1#32).toNat = 2 ^ 1 - 1 from rfl, Nat.and_two_pow_sub_one_eq_mod]
  rw [h1, BitVec.toInt_eq_toNat_of_lt (by omega), hm]
  omega
def sp_sz (s : Int) : Int := sp_sum 6 (fun k => fr_and (fr_shr s k) 1)
theorem sp_sz_rg (s : Int) : 0 ≤ sp_sz s ∧ sp_sz s ≤ 6 := by
  have h := sp_sum_rg (F := fun k => fr_and (fr_shr s k) 1) (a := 0) (b := 1) 6 (fun i _ _ => fr_and1 _)
  unfold sp_sz
  omega
def sp_Fk (w : Int → Int) (set gain s : Int) : Prop := ∃ most bc, sp_bst w set s most bc ∧ most ≤ gain
def sp_fi (ok : Int → Prop) (j x : Int) : Prop := (x = -4 ∧ ∀ s, 0 ≤ s → s < j → ¬ ok s) ∨ (0 ≤ x ∧ x < j ∧ ok x ∧ ∀ s, 0 ≤ s → s < j → ok s → sp_sz x < sp_sz s ∨ (sp_sz x = sp_sz s ∧ x ≤ s))
theorem sp_fi.uniq {ok : Int → Prop} {j x y : Int} (h : sp_fi ok j x) (g : sp_fi ok j y) : x = y := by
  rcases h with ⟨h1, h2⟩ | ⟨h1, h2, h3, h4⟩
  · rcases g with ⟨g1, g2⟩ | ⟨g1, g2, g3, g4⟩
    · omega
    · exact absurd g3 (h2 y g1 g2)
  · rcases g with ⟨g1, g2⟩ | ⟨g1, g2, g3, g4⟩
    · exact absurd h3 (g2 x h1 h2)
    · have a := h4 y g1 g2 g3
      have b := g4 x h1 h2 h3
      omega
theorem sp_fi.no {ok : Int → Prop} {j x : Int} (h : sp_fi ok j x) (hn : ¬ ok j) : sp_fi ok (j + 1) x := by
  rcases h with ⟨h1, h2⟩ | ⟨h1, h2, h3, h4⟩
  · exact Or.inl ⟨h1, fun s s0 s1 => (by omega : s < j ∨ s = j).elim (h2 s s0) (fun e => by rw [e]; exact hn)⟩
  · exact Or.inr ⟨h1, by omega, h3, fun s s0 s1 so => (by omega : s < j ∨ s = j).elim (fun e => h4 s s0 e so) (fun e => absurd (e ▸ so) hn)⟩
theorem sp_fi.keep {ok : Int → Prop} {j x : Int} (h : sp_fi ok j x) (hx : x ≠ -4) (hs : sp_sz x ≤ sp_sz j) : sp_fi ok (j + 1) x := by
  rcases h with ⟨h1, h2⟩ | ⟨h1, h2, h3, h4⟩
  · exact absurd h1 hx
  · exact Or.inr ⟨h1, by omega, h3, fun s s0 s1 so => (by omega : s < j ∨ s = j).elim (fun e => h4 s s0 e so) (fun e => by rw [e]; omega)⟩
theorem sp_fi.up {ok : Int → Prop} {j x : Int} (h : sp_fi ok j x) (hj : 0 ≤ j) (ho : ok j) (hs : x = -4 ∨ sp_sz j < sp_sz x) : sp_fi ok (j + 1) j := by
  refine Or.inr ⟨hj, by omega, ho, fun s s0 s1 so => ?_⟩
  rcases (by omega : s < j ∨ s = j) with e | e
  · rcases h with ⟨h1, h2⟩ | ⟨h1, h2, h3, h4⟩
    · exact absurd so (h2 s s0 e)
    · have := h4 s s0 e so
      omega
  · rw [e]; omega
def sp_sdw (w : Int → Int) (bc : Int) : Int → Int := fun k => if 7 ≤ k ∧ k < 7 + w 0 then sp_dg (w 0) bc (k - 7) else w k
set_option maxRecDepth 20000 in
theorem kcX11_best {l : Launch} {κ : fr_Ka} {μ : fr_Me} (hI : fr_I (μ 67)) {t : Int} (rt : -2147483648 ≤ t ∧ t ≤ 2147483647) : fr_C l κ fmX11_best 7 [fr_r κ 66, fr_i t] μ (fr_Pi (fun z m => (∀ c, c ≠ 66 → c ≠ 70 → c ≠ 71 → m c = μ c) ∧ (∀ k, k ≠ 9 → m 66 k = μ 66 k) ∧ ((¬ (-1 ≤ t ∧ t ≤ μ 67 0 - 1) ∧ z = -100001) ∨ ((-1 ≤ t ∧ t ≤ μ 67 0 - 1) ∧ ∃ most bc, sp_bst (μ 67) (fr_shl 1 (μ 67 43) - 1) 0 most bc ∧ z = if t < 0 then most else sp_dg (μ 67 0) bc t)))) := by
  have iN := hI.n
  have iM := hI.many
  have hp := sp_p6_rg (μ 67 0).toNat (by omega)
  refine fr_enter (by decide +kernel) (ls := [some (fr_r κ 66), some (fr_i t), none]) rfl (Nat.le_of_ble_eq_true rfl) ?_
  refine fr_il1 dX11_best_0 ?_
  refine fr_i2l dX11_best_1 (by omega) ?_
  refine fr_ldc2 dX11_best_2 clX11_182 ?_
  refine fr_al0 dX11_best_5 ?_
  refine fr_getr (cz := 67) dX11_best_6 flX11_7 ⟨by decide, by decide, rfl⟩ rfl rfl ?_
  refine fr_iconst dX11_best_9 ?_
  refine fr_iald dX11_best_10 ⟨by decide, by decide, rfl, by decide⟩ (by omega) (by omega) ?_
  refine fr_iconst dX11_best_11 ?_
  refine fr_isub dX11_best_12 ?_
  refine fr_i2l dX11_best_13 (by omega) ?_
  refine fr_cSi (mi' := fmX11_in) dX11_best_14 mlX11_51 msX11_in (Nat.le_of_ble_eq_true rfl) (kcX11_in (by omega) (by omega) (by omega)) rfl rfl (Nat.le_of_ble_eq_true rfl) ?_
  refine fr_ifb_ne (tgt := 23) dX11_best_17 (by decide) (fun h1 => ?_) (fun h1 => ?_)
  · skip
    refine fr_al0 dX11_best_23 ?_
    refine fr_al0 dX11_best_24 ?_
    refine fr_cVi (mi' := fmX11_everybody) dX11_best_25 mlX11_184 mvX11_everybody ⟨11, _, ⟨by decide, by decide, rfl⟩, rfl, rfl⟩ (Nat.le_of_ble_eq_true rfl) (kcX11_everybody) rfl rfl (Nat.le_of_ble_eq_true rfl) ?_
    refine fr_iconst dX11_best_28 ?_
    refine fr_cVP (mi' := fmX11_bestOf) dX11_best_29 mlX11_187 mvX11_bestOf ⟨11, _, ⟨by decide, by decide, rfl⟩, rfl, rfl⟩ (Nat.le_of_ble_eq_true rfl) (kcX11_bestOf hI) rfl rfl (Nat.le_of_ble_eq_true rfl) (fun z1 m1 h1 => ?_)
    obtain ⟨b1, b2, b3⟩ := h1
    have w1 : m1 67 = μ 67 := b1 67 (by decide) (by decide) (by decide)
    obtain ⟨c1, c2, c3, c4⟩ := b3.some hI
    refine fr_is2 dX11_best_32 rfl (Nat.le_of_ble_eq_true rfl) ?_
    refine fr_al0 dX11_best_33 ?_
    refine fr_al0 dX11_best_34 ?_
    refine fr_geti (kz := 9) dX11_best_35 flX11_170 ⟨by decide, by decide, rfl⟩ rfl rfl ?_
    refine fr_al0 dX11_best_38 ?_
    refine fr_cVi (mi' := fmX11_everybody) dX11_best_39 mlX11_184 mvX11_everybody ⟨11, _, ⟨by decide, by decide, rfl⟩, rfl, rfl⟩ (Nat.le_of_ble_eq_true rfl) (kcX11_everybody) rfl rfl (Nat.le_of_ble_eq_true rfl) ?_
    rw [w1]
    refine fr_iconst dX11_best_42 ?_
    refine fr_cVP (mi' := fmX11_layOrder) dX11_best_43 mlX11_176 mvX11_layOrder ⟨11, _, ⟨by decide, by decide, rfl⟩, rfl, rfl⟩ (Nat.le_of_ble_eq_true rfl) (kcX11_layOrder (by rw [w1]; exact hI) (by omega)) rfl rfl (Nat.le_of_ble_eq_true rfl) (fun z2 m2 h2 => ?_)
    rw [w1] at h2
    obtain ⟨f70, h2⟩ := h2
    rcases h2 with ⟨ez, hv, hwho⟩ | ⟨_, hnv⟩
    · skip
      refine fr_pop dX11_best_46 rfl ?_
      refine fr_il1 dX11_best_47 ?_
      refine fr_if_ge (tgt := 55) dX11_best_48 (by decide) (by omega) (fun h2 => ?_) (fun h2 => ?_)
      · skip
        refine fr_al0 dX11_best_55 ?_
        refine fr_getr (cz := 70) dX11_best_56 flX11_19 ⟨by decide, by decide, rfl⟩ rfl rfl ?_
        refine fr_il1 dX11_best_59 ?_
        refine fr_iald dX11_best_60 ⟨by decide, by decide, rfl, by decide⟩ (by omega) (by omega) ?_
        exact fr_iret dX11_best_61 rfl (fr_pi ⟨fun c g1 g2 g3 => by rw [f70 c g2]; exact b1 c g1 g2 g3, fun k hk => by rw [f70 66 (by decide)]; exact b2 k hk, Or.inr ⟨by assumption, _, _, b3, by rw [if_neg (by omega)]; exact hwho t (by omega) (by omega)⟩⟩)
      · skip
        refine fr_il2 dX11_best_51 ?_
        refine fr_goto (tgt := 61) dX11_best_52 (by decide) ?_
        exact fr_iret dX11_best_61 rfl (fr_pi ⟨fun c g1 g2 g3 => by rw [f70 c g2]; exact b1 c g1 g2 g3, fun k hk => by rw [f70 66 (by decide)]; exact b2 k hk, Or.inr ⟨by assumption, _, _, b3, by rw [if_pos (by assumption)]⟩⟩)
    · skip
      exact absurd c3 hnv
  · skip
    refine fr_ldc dX11_best_20 cnX11_84 ?_
    exact fr_iret dX11_best_22 rfl (fr_pi ⟨fun c _ _ _ => rfl, fun k _ => rfl, Or.inl ⟨by assumption, rfl⟩⟩)
set_option maxRecDepth 20000 in
theorem kcX11_worth {l : Launch} {κ : fr_Ka} {μ : fr_Me} (hI : fr_I (μ 67)) {c : Int} (rc : -2147483648 ≤ c ∧ c ≤ 2147483647) : fr_C l κ fmX11_worth 7 [fr_r κ 66, fr_i c] μ (fr_Pi (fun z m => (∀ c, c ≠ 66 → c ≠ 70 → c ≠ 71 → m c = μ c) ∧ (∀ k, k ≠ 9 → m 66 k = μ 66 k) ∧ ((¬ (0 ≤ c ∧ c < μ 67 43) ∧ z = -100001) ∨ ((0 ≤ c ∧ c < μ 67 43) ∧ ∃ most bc most2 bc2, sp_bst (μ 67) (fr_shl 1 (μ 67 43) - 1) 0 most bc ∧ sp_bst (μ 67) (fr_and (fr_shl 1 (μ 67 43) - 1) (fr_xor (fr_shl 1 c) (-1))) 0 most2 bc2 ∧ z = most - most2)))) := by
  have iN := hI.n
  have iM := hI.many
  refine fr_enter (by decide +kernel) (ls := [some (fr_r κ 66), some (fr_i c)]) rfl (Nat.le_of_ble_eq_true rfl) ?_
  refine fr_al0 dX11_worth_0 ?_
  refine fr_il1 dX11_worth_1 ?_
  refine fr_cVi (mi' := fmX11_isClimber) dX11_worth_2 mlX11_71 mvX11_isClimber ⟨11, _, ⟨by decide, by decide, rfl⟩, rfl, rfl⟩ (Nat.le_of_ble_eq_true rfl) (kcX11_isClimber hI (by omega)) rfl rfl (Nat.le_of_ble_eq_true rfl) ?_
  refine fr_ifb_ne (tgt := 11) dX11_worth_5 (by decide) (fun h1 => ?_) (fun h1 => ?_)
  · skip
    refine fr_al0 dX11_worth_11 ?_
    refine fr_al0 dX11_worth_12 ?_
    refine fr_cVi (mi' := fmX11_everybody) dX11_worth_13 mlX11_184 mvX11_everybody ⟨11, _, ⟨by decide, by decide, rfl⟩, rfl, rfl⟩ (Nat.le_of_ble_eq_true rfl) (kcX11_everybody) rfl rfl (Nat.le_of_ble_eq_true rfl) ?_
    refine fr_iconst dX11_worth_16 ?_
    refine fr_cVP (mi' := fmX11_bestOf) dX11_worth_17 mlX11_187 mvX11_bestOf ⟨11, _, ⟨by decide, by decide, rfl⟩, rfl, rfl⟩ (Nat.le_of_ble_eq_true rfl) (kcX11_bestOf hI) rfl rfl (Nat.le_of_ble_eq_true rfl) (fun z1 m1 h1 => ?_)
    obtain ⟨b1, b2, b3⟩ := h1
    have w1 : m1 67 = μ 67 := b1 67 (by decide) (by decide) (by decide)
    obtain ⟨c1, c2, c3, c4⟩ := b3.some hI
    refine fr_al0 dX11_worth_20 ?_
    refine fr_al0 dX11_worth_21 ?_
    refine fr_cVi (mi' := fmX11_everybody) dX11_worth_22 mlX11_184 mvX11_everybody ⟨11, _, ⟨by decide, by decide, rfl⟩, rfl, rfl⟩ (Nat.le_of_ble_eq_true rfl) (kcX11_everybody) rfl rfl (Nat.le_of_ble_eq_true rfl) ?_
    rw [w1]
    refine fr_iconst dX11_worth_25 ?_
    refine fr_il1 dX11_worth_26 ?_
    refine fr_ishl dX11_worth_27 ?_
    refine fr_iconst dX11_worth_28 ?_
    refine fr_ixor dX11_worth_29 ?_
    refine fr_iand dX11_worth_30 ?_
    refine fr_iconst dX11_worth_31 ?_
    refine fr_cVP (mi' := fmX11_bestOf) dX11_worth_32 mlX11_187 mvX11_bestOf ⟨11, _, ⟨by decide, by decide, rfl⟩, rfl, rfl⟩ (Nat.le_of_ble_eq_true rfl) (kcX11_bestOf (by rw [w1]; exact hI)) rfl rfl (Nat.le_of_ble_eq_true rfl) (fun z2 m2 h2 => ?_)
    rw [w1] at h2
    obtain ⟨d1, d2, d3⟩ := h2
    refine fr_isub dX11_worth_35 ?_
    exact fr_iret dX11_worth_36 rfl (fr_pi ⟨fun c g1 g2 g3 => by rw [d1 c g1 g2 g3]; exact b1 c g1 g2 g3, fun k hk => by rw [d2 k hk]; exact b2 k hk, Or.inr ⟨by assumption, _, _, _, _, b3, d3, rfl⟩⟩)
  · skip
    refine fr_ldc dX11_worth_8 cnX11_84 ?_
    exact fr_iret dX11_worth_10 rfl (fr_pi ⟨fun c _ _ _ => rfl, fun k _ => rfl, Or.inl ⟨by assumption, rfl⟩⟩)
set_option maxRecDepth 20000 in
theorem kcX11_send {l : Launch} {κ : fr_Ka} {μ : fr_Me} (hI : fr_I (μ 67))  : fr_C l κ fmX11_send 7 [fr_r κ 66] μ (fr_Pi (fun z m => (∀ c, c ≠ 66 → c ≠ 67 → c ≠ 70 → c ≠ 71 → m c = μ c) ∧ (∀ k, k ≠ 9 → m 66 k = μ 66 k) ∧ ∃ bc, sp_bst (μ 67) (fr_shl 1 (μ 67 43) - 1) 0 z bc ∧ m 67 = sp_sdw (μ 67) bc)) := by
  have iN := hI.n
  have iM := hI.many
  have hp := sp_p6_rg (μ 67 0).toNat (by omega)
  refine fr_enter (by decide +kernel) (ls := [some (fr_r κ 66), none, none]) rfl (Nat.le_of_ble_eq_true rfl) ?_
  refine fr_al0 dX11_send_0 ?_
  refine fr_al0 dX11_send_1 ?_
  refine fr_cVi (mi' := fmX11_everybody) dX11_send_2 mlX11_184 mvX11_everybody ⟨11, _, ⟨by decide, by decide, rfl⟩, rfl, rfl⟩ (Nat.le_of_ble_eq_true rfl) (kcX11_everybody) rfl rfl (Nat.le_of_ble_eq_true rfl) ?_
  refine fr_iconst dX11_send_5 ?_
  refine fr_cVP (mi' := fmX11_bestOf) dX11_send_6 mlX11_187 mvX11_bestOf ⟨11, _, ⟨by decide, by decide, rfl⟩, rfl, rfl⟩ (Nat.le_of_ble_eq_true rfl) (kcX11_bestOf hI) rfl rfl (Nat.le_of_ble_eq_true rfl) (fun z1 m1 h1 => ?_)
  obtain ⟨b1, b2, b3⟩ := h1
  have w1 : m1 67 = μ 67 := b1 67 (by decide) (by decide) (by decide)
  obtain ⟨c1, c2, c3, c4⟩ := b3.some hI
  refine fr_is1 dX11_send_9 rfl (Nat.le_of_ble_eq_true rfl) ?_
  refine fr_al0 dX11_send_10 ?_
  refine fr_al0 dX11_send_11 ?_
  refine fr_geti (kz := 9) dX11_send_12 flX11_170 ⟨by decide, by decide, rfl⟩ rfl rfl ?_
  refine fr_al0 dX11_send_15 ?_
  refine fr_cVi (mi' := fmX11_everybody) dX11_send_16 mlX11_184 mvX11_everybody ⟨11, _, ⟨by decide, by decide, rfl⟩, rfl, rfl⟩ (Nat.le_of_ble_eq_true rfl) (kcX11_everybody) rfl rfl (Nat.le_of_ble_eq_true rfl) ?_
  rw [w1]
  refine fr_iconst dX11_send_19 ?_
  refine fr_cVP (mi' := fmX11_layOrder) dX11_send_20 mlX11_176 mvX11_layOrder ⟨11, _, ⟨by decide, by decide, rfl⟩, rfl, rfl⟩ (Nat.le_of_ble_eq_true rfl) (kcX11_layOrder (by rw [w1]; exact hI) (by omega)) rfl rfl (Nat.le_of_ble_eq_true rfl) (fun z2 m2 h2 => ?_)
  rw [w1] at h2
  obtain ⟨f70, h2⟩ := h2
  rcases h2 with ⟨ez, hv, hwho⟩ | ⟨_, hnv⟩
  · skip
    refine fr_pop dX11_send_23 rfl ?_
    refine fr_iconst dX11_send_24 ?_
    refine fr_is2 dX11_send_25 rfl (Nat.le_of_ble_eq_true rfl) ?_
    refine fr_wk ?_ (ls := [some (fr_r κ 66), some (fr_i z1), some (fr_i (0 : Int))]) ⟨rfl, rfl, rfl, trivial⟩
    refine (fr_down (P := fun j : Nat => ∀ (m : fr_Me), ((∀ k : Int, m 67 k = if 7 ≤ k ∧ k < 7 + j then sp_dg (μ 67 0) (m1 66 9) (k - 7) else μ 67 k) ∧ ∀ c, c ≠ 67 → m c = m2 c) → fr_A l κ fmX11_send 7 (fr_Pi (fun z m => (∀ c, c ≠ 66 → c ≠ 67 → c ≠ 70 → c ≠ 71 → m c = μ c) ∧ (∀ k, k ≠ 9 → m 66 k = μ 66 k) ∧ ∃ bc, sp_bst (μ 67) (fr_shl 1 (μ 67 43) - 1) 0 z bc ∧ m 67 = sp_sdw (μ 67) bc)) 26 [some (fr_r κ 66), some (fr_i z1), some (fr_i (j : Int))] [] m) (μ 67 0).toNat ?_ (fun j hj26 ih26 => ?_)) _ (⟨fun k => by rw [if_neg (by omega), f70 67 (by decide), w1], fun c hc => rfl⟩)
    · skip
      intro m hm
      have h00 := hm.1 0
      rw [if_neg (by omega)] at h00
      refine fr_il2 dX11_send_26 ?_
      refine fr_al0 dX11_send_27 ?_
      refine fr_getr (cz := 67) dX11_send_28 flX11_7 ⟨by decide, by decide, rfl⟩ rfl rfl ?_
      refine fr_iconst dX11_send_31 ?_
      refine fr_iald dX11_send_32 ⟨by decide, by decide, rfl, by decide⟩ (by omega) (by omega) ?_
      refine fr_icmp_ge (tgt := 57) dX11_send_33 (by decide) (by omega) (by omega) (fun h1 => ?_) (fun h1 => ?_)
      · skip
        refine fr_il1 dX11_send_57 ?_
        exact fr_iret dX11_send_58 rfl (fr_pi ⟨fun c g1 g2 g3 g4 => by rw [hm.2 c g2, f70 c g3]; exact b1 c g1 g3 g4, fun k hk => by rw [hm.2 66 (by decide), f70 66 (by decide)]; exact b2 k hk, _, b3, funext fun k => by rw [hm.1 k]; unfold sp_sdw; rw [show (((μ 67 0).toNat : Nat) : Int) = μ 67 0 by omega]⟩)
      · skip
        exfalso; omega
    · skip
      intro m hm
      have e70 := hwho (j : Int) (by omega) (by omega)
      have g70 : m 70 = m2 70 := hm.2 70 (by decide)
      have h00 := hm.1 0
      rw [if_neg (by omega)] at h00
      refine fr_il2 dX11_send_26 ?_
      refine fr_al0 dX11_send_27 ?_
      refine fr_getr (cz := 67) dX11_send_28 flX11_7 ⟨by decide, by decide, rfl⟩ rfl rfl ?_
      refine fr_iconst dX11_send_31 ?_
      refine fr_iald dX11_send_32 ⟨by decide, by decide, rfl, by decide⟩ (by omega) (by omega) ?_
      refine fr_icmp_ge (tgt := 57) dX11_send_33 (by decide) (by omega) (by omega) (fun h2 => ?_) (fun h2 => ?_)
      · skip
        exfalso; omega
      · skip
        refine fr_al0 dX11_send_36 ?_
        refine fr_getr (cz := 67) dX11_send_37 flX11_7 ⟨by decide, by decide, rfl⟩ rfl rfl ?_
        refine fr_bipush dX11_send_40 (by decide) ?_
        refine fr_il2 dX11_send_42 ?_
        refine fr_iadd dX11_send_43 ?_
        refine fr_al0 dX11_send_44 ?_
        refine fr_getr (cz := 70) dX11_send_45 flX11_19 ⟨by decide, by decide, rfl⟩ rfl rfl ?_
        refine fr_il2 dX11_send_48 ?_
        refine fr_iald dX11_send_49 ⟨by decide, by decide, rfl, by decide⟩ (by omega) (by omega) ?_
        refine fr_iast dX11_send_50 ⟨by decide, by decide, rfl, by decide⟩ (by omega) (by omega) ?_
        refine fr_ii2 dX11_send_51 rfl (Nat.le_of_ble_eq_true rfl) ?_
        refine fr_goto (tgt := 26) dX11_send_54 (by decide) ?_
        exact fr_wk (ih26 _ (⟨fun k => by (by_cases hk : k = 7 + j); (· subst hk; rw [fr_up_eq, if_pos (by omega), g70, e70, show (7 : Int) + j - 7 = j by omega]); (· rw [fr_up_nk _ _ _ hk, hm.1 k]; by_cases h9 : 7 ≤ k ∧ k < 7 + (j : Int); (· rw [if_pos h9, if_pos (by omega)]); (· rw [if_neg h9, if_neg (by omega)])), fun c hc => by rw [fr_up_nc _ _ _ hc]; exact hm.2 c hc⟩)) ⟨rfl, rfl, rfl, trivial⟩
  · skip
    exact absurd c3 hnv
set_option maxRecDepth 20000 in
theorem kcX11_fences {l : Launch} {κ : fr_Ka} {μ : fr_Me} (hI : fr_I (μ 67)) {set gain : Int} (rset : -2147483648 ≤ set ∧ set ≤ 2147483647) (rgain : -2147483648 ≤ gain ∧ gain ≤ 2147483647) : fr_C l κ fmX11_fences 7 [fr_r κ 66, fr_i set, fr_i gain] μ (fr_Pi (fun z m => (∀ c, c ≠ 66 → c ≠ 70 → c ≠ 71 → m c = μ c) ∧ (∀ k, k ≠ 9 → m 66 k = μ 66 k) ∧ ((¬ ((0 ≤ set ∧ set ≤ fr_shl 1 (μ 67 43) - 1) ∧ (-9999 ≤ gain ∧ gain ≤ 9999)) ∧ z = -1) ∨ (((0 ≤ set ∧ set ≤ fr_shl 1 (μ 67 43) - 1) ∧ (-9999 ≤ gain ∧ gain ≤ 9999)) ∧ sp_fi (sp_Fk (μ 67) set gain) (fr_shl 1 (μ 67 0)) z)))) := by
  have iN := hI.n
  have iM := hI.many
  have hs0 := fr_shl1_rg (m := μ 67 0) (by omega)
  refine fr_enter (by decide +kernel) (ls := [some (fr_r κ 66), some (fr_i set), some (fr_i gain), none, none, none]) rfl (Nat.le_of_ble_eq_true rfl) ?_
  refine fr_al0 dX11_fences_0 ?_
  refine fr_il1 dX11_fences_1 ?_
  refine fr_cVi (mi' := fmX11_isSet) dX11_fences_2 mlX11_85 mvX11_isSet ⟨11, _, ⟨by decide, by decide, rfl⟩, rfl, rfl⟩ (Nat.le_of_ble_eq_true rfl) (kcX11_isSet hI (by omega)) rfl rfl (Nat.le_of_ble_eq_true rfl) ?_
  refine fr_ifb_eq (tgt := 22) dX11_fences_5 (by decide) (fun h1 => ?_) (fun h1 => ?_)
  · skip
    refine fr_iconst dX11_fences_22 ?_
    exact fr_iret dX11_fences_23 rfl (fr_pi ⟨fun c _ _ _ => rfl, fun k _ => rfl, Or.inl ⟨by omega, rfl⟩⟩)
  · skip
    refine fr_il2 dX11_fences_8 ?_
    refine fr_i2l dX11_fences_9 (by omega) ?_
    refine fr_ldc2 dX11_fences_10 clX11_216 ?_
    refine fr_ldc2 dX11_fences_13 clX11_218 ?_
    refine fr_cSi (mi' := fmX11_in) dX11_fences_16 mlX11_51 msX11_in (Nat.le_of_ble_eq_true rfl) (kcX11_in (by omega) (by omega) (by omega)) rfl rfl (Nat.le_of_ble_eq_true rfl) ?_
    refine fr_ifb_ne (tgt := 24) dX11_fences_19 (by decide) (fun h2 => ?_) (fun h2 => ?_)
    · skip
      refine fr_bipush dX11_fences_24 (by decide) ?_
      refine fr_is3 dX11_fences_26 rfl (Nat.le_of_ble_eq_true rfl) ?_
      refine fr_iconst dX11_fences_27 ?_
      refine fr_is4 dX11_fences_28 rfl (Nat.le_of_ble_eq_true rfl) ?_
      refine fr_wk ?_ (ls := [some (fr_r κ 66), some (fr_i set), some (fr_i gain), some (fr_i _), some (fr_i (0 : Int)), none]) ⟨rfl, rfl, rfl, rfl, rfl, trivial⟩
      refine (fr_down (P := fun j : Nat => ∀ (x : Int) (m : fr_Me), ((∀ c, c ≠ 66 → c ≠ 70 → c ≠ 71 → m c = μ c) ∧ (∀ k, k ≠ 9 → m 66 k = μ 66 k) ∧ sp_fi (sp_Fk (μ 67) set gain) j x) → fr_A l κ fmX11_fences 7 (fr_Pi (fun z m => (∀ c, c ≠ 66 → c ≠ 70 → c ≠ 71 → m c = μ c) ∧ (∀ k, k ≠ 9 → m 66 k = μ 66 k) ∧ ((¬ ((0 ≤ set ∧ set ≤ fr_shl 1 (μ 67 43) - 1) ∧ (-9999 ≤ gain ∧ gain ≤ 9999)) ∧ z = -1) ∨ (((0 ≤ set ∧ set ≤ fr_shl 1 (μ 67 43) - 1) ∧ (-9999 ≤ gain ∧ gain ≤ 9999)) ∧ sp_fi (sp_Fk (μ 67) set gain) (fr_shl 1 (μ 67 0)) z)))) 30 [some (fr_r κ 66), some (fr_i set), some (fr_i gain), some (fr_i x), some (fr_i (j : Int)), none] [] m) (fr_shl 1 (μ 67 0)).toNat ?_ (fun j hj30 ih30 => ?_)) _ _ (⟨fun c _ _ _ => rfl, fun k _ => rfl, Or.inl ⟨rfl, fun s s0 s1 => by omega⟩⟩)
      · skip
        intro x m hm
        have hw : m 67 = μ 67 := hm.1 67 (by decide) (by decide) (by decide)
        have hxr : x = -4 ∨ (0 ≤ x ∧ x < (((fr_shl 1 (μ 67 0)).toNat : Nat) : Int)) := by rcases hm.2.2 with h | h; (· exact Or.inl h.1); (· exact Or.inr ⟨h.1, h.2.1⟩)
        refine fr_il4 dX11_fences_30 ?_
        refine fr_iconst dX11_fences_32 ?_
        refine fr_al0 dX11_fences_33 ?_
        refine fr_getr (cz := 67) dX11_fences_34 flX11_7 ⟨by decide, by decide, rfl⟩ rfl rfl ?_
        refine fr_iconst dX11_fences_37 ?_
        refine fr_iald dX11_fences_38 ⟨by decide, by decide, rfl, by decide⟩ (by omega) (by omega) ?_
        refine fr_ishl dX11_fences_39 ?_
        rw [hw]
        refine fr_icmp_ge (tgt := 97) dX11_fences_40 (by decide) (by omega) (by omega) (fun h3 => ?_) (fun h3 => ?_)
        · skip
          refine fr_il3 dX11_fences_97 ?_
          exact fr_iret dX11_fences_98 rfl (fr_pi ⟨hm.1, hm.2.1, Or.inr ⟨by omega, by have := hm.2.2; rw [show (((fr_shl 1 (μ 67 0)).toNat : Nat) : Int) = fr_shl 1 (μ 67 0) by omega] at this; exact this⟩⟩)
        · skip
          exfalso; omega
      · skip
        intro x m hm
        have sj := sp_sz_rg (j : Int)
        have sx := sp_sz_rg x
        have sjd : sp_sz (j : Int) = sp_sum 6 (fun k => fr_and (fr_shr (j : Int) k) 1) := rfl
        have sxd : sp_sz x = sp_sum 6 (fun k => fr_and (fr_shr x k) 1) := rfl
        have hw : m 67 = μ 67 := hm.1 67 (by decide) (by decide) (by decide)
        have hxr : x = -4 ∨ (0 ≤ x ∧ x < j) := by rcases hm.2.2 with h | h; (· exact Or.inl h.1); (· exact Or.inr ⟨h.1, h.2.1⟩)
        refine fr_il4 dX11_fences_30 ?_
        refine fr_iconst dX11_fences_32 ?_
        refine fr_al0 dX11_fences_33 ?_
        refine fr_getr (cz := 67) dX11_fences_34 flX11_7 ⟨by decide, by decide, rfl⟩ rfl rfl ?_
        refine fr_iconst dX11_fences_37 ?_
        refine fr_iald dX11_fences_38 ⟨by decide, by decide, rfl, by decide⟩ (by omega) (by omega) ?_
        refine fr_ishl dX11_fences_39 ?_
        rw [hw]
        refine fr_icmp_ge (tgt := 97) dX11_fences_40 (by decide) (by omega) (by omega) (fun h4 => ?_) (fun h4 => ?_)
        · skip
          exfalso; omega
        · skip
          refine fr_il3 dX11_fences_43 ?_
          refine fr_bipush dX11_fences_44 (by decide) ?_
          refine fr_icmp_eq (tgt := 61) dX11_fences_46 (by decide) (by omega) (by omega) (fun h5 => ?_) (fun h5 => ?_)
          · skip
            refine fr_iconst dX11_fences_61 ?_
            refine fr_goto (tgt := 66) dX11_fences_62 (by decide) ?_
            refine fr_is5 dX11_fences_66 rfl (Nat.le_of_ble_eq_true rfl) ?_
            refine fr_il5 dX11_fences_68 ?_
            refine fr_if_eq (tgt := 89) dX11_fences_70 (by decide) (by decide) (fun h6 => absurd h6 (by decide)) (fun _ => ?_)
            refine fr_al0 dX11_fences_73 ?_
            refine fr_il1 dX11_fences_74 ?_
            refine fr_il4 dX11_fences_75 ?_
            refine fr_cVP (mi' := fmX11_bestOf) dX11_fences_77 mlX11_187 mvX11_bestOf ⟨11, _, ⟨by decide, by decide, rfl⟩, rfl, rfl⟩ (Nat.le_of_ble_eq_true rfl) (kcX11_bestOf (by rw [hw]; exact hI)) rfl rfl (Nat.le_of_ble_eq_true rfl) (fun z1 m1 h1 => ?_)
            rw [hw] at h1
            obtain ⟨b1, b2, b3⟩ := h1
            have hz1 := b3.rg hI (by have := sp_p6_rg (μ 67 0).toNat (by omega); omega)
            refine fr_il2 dX11_fences_80 ?_
            refine fr_icmp_gt (tgt := 89) dX11_fences_81 (by decide) (by omega) (by omega) (fun h7 => ?_) (fun h7 => ?_)
            · skip
              refine fr_il3 dX11_fences_89 ?_
              refine fr_is3 dX11_fences_90 rfl (Nat.le_of_ble_eq_true rfl) ?_
              refine fr_ii4 dX11_fences_91 rfl (Nat.le_of_ble_eq_true rfl) ?_
              refine fr_goto (tgt := 30) dX11_fences_94 (by decide) ?_
              exact fr_wk (ih30 _ _ (⟨fun c g1 g2 g3 => by rw [b1 c g1 g2 g3]; exact hm.1 c g1 g2 g3, fun k hk => by rw [b2 k hk]; exact hm.2.1 k hk, hm.2.2.no (fun ⟨a1, a2, a3, a4⟩ => by have := (a3.uniq b3).1; omega)⟩)) ⟨rfl, rfl, rfl, rfl, rfl, trivial⟩
            · skip
              refine fr_il4 dX11_fences_84 ?_
              refine fr_goto (tgt := 90) dX11_fences_86 (by decide) ?_
              refine fr_is3 dX11_fences_90 rfl (Nat.le_of_ble_eq_true rfl) ?_
              refine fr_ii4 dX11_fences_91 rfl (Nat.le_of_ble_eq_true rfl) ?_
              refine fr_goto (tgt := 30) dX11_fences_94 (by decide) ?_
              exact fr_wk (ih30 _ _ (⟨fun c g1 g2 g3 => by rw [b1 c g1 g2 g3]; exact hm.1 c g1 g2 g3, fun k hk => by rw [b2 k hk]; exact hm.2.1 k hk, hm.2.2.up (by omega) ⟨_, _, b3, by assumption⟩ (by omega)⟩)) ⟨rfl, rfl, rfl, rfl, rfl, trivial⟩
          · skip
            refine fr_il4 dX11_fences_49 ?_
            refine fr_cSi (mi' := fmX11_size) dX11_fences_51 mlX11_220 msX11_size (Nat.le_of_ble_eq_true rfl) (kcX11_size) rfl rfl (Nat.le_of_ble_eq_true rfl) ?_
            refine fr_il3 dX11_fences_54 ?_
            refine fr_cSi (mi' := fmX11_size) dX11_fences_55 mlX11_220 msX11_size (Nat.le_of_ble_eq_true rfl) (kcX11_size) rfl rfl (Nat.le_of_ble_eq_true rfl) ?_
            refine fr_icmp_ge (tgt := 65) dX11_fences_58 (by decide) (by omega) (by omega) (fun h8 => ?_) (fun h8 => ?_)
            · skip
              refine fr_iconst dX11_fences_65 ?_
              refine fr_is5 dX11_fences_66 rfl (Nat.le_of_ble_eq_true rfl) ?_
              refine fr_il5 dX11_fences_68 ?_
              refine fr_if_eq (tgt := 89) dX11_fences_70 (by decide) (by decide) (fun _ => ?_) (fun h9 => absurd h9 (by decide))
              refine fr_il3 dX11_fences_89 ?_
              refine fr_is3 dX11_fences_90 rfl (Nat.le_of_ble_eq_true rfl) ?_
              refine fr_ii4 dX11_fences_91 rfl (Nat.le_of_ble_eq_true rfl) ?_
              refine fr_goto (tgt := 30) dX11_fences_94 (by decide) ?_
              exact fr_wk (ih30 _ _ (⟨hm.1, hm.2.1, hm.2.2.keep (by assumption) (by omega)⟩)) ⟨rfl, rfl, rfl, rfl, rfl, trivial⟩
            · skip
              refine fr_iconst dX11_fences_61 ?_
              refine fr_goto (tgt := 66) dX11_fences_62 (by decide) ?_
              refine fr_is5 dX11_fences_66 rfl (Nat.le_of_ble_eq_true rfl) ?_
              refine fr_il5 dX11_fences_68 ?_
              refine fr_if_eq (tgt := 89) dX11_fences_70 (by decide) (by decide) (fun h10 => absurd h10 (by decide)) (fun _ => ?_)
              refine fr_al0 dX11_fences_73 ?_
              refine fr_il1 dX11_fences_74 ?_
              refine fr_il4 dX11_fences_75 ?_
              refine fr_cVP (mi' := fmX11_bestOf) dX11_fences_77 mlX11_187 mvX11_bestOf ⟨11, _, ⟨by decide, by decide, rfl⟩, rfl, rfl⟩ (Nat.le_of_ble_eq_true rfl) (kcX11_bestOf (by rw [hw]; exact hI)) rfl rfl (Nat.le_of_ble_eq_true rfl) (fun z1 m1 h1 => ?_)
              rw [hw] at h1
              obtain ⟨b1, b2, b3⟩ := h1
              have hz1 := b3.rg hI (by have := sp_p6_rg (μ 67 0).toNat (by omega); omega)
              refine fr_il2 dX11_fences_80 ?_
              refine fr_icmp_gt (tgt := 89) dX11_fences_81 (by decide) (by omega) (by omega) (fun h11 => ?_) (fun h11 => ?_)
              · skip
                refine fr_il3 dX11_fences_89 ?_
                refine fr_is3 dX11_fences_90 rfl (Nat.le_of_ble_eq_true rfl) ?_
                refine fr_ii4 dX11_fences_91 rfl (Nat.le_of_ble_eq_true rfl) ?_
                refine fr_goto (tgt := 30) dX11_fences_94 (by decide) ?_
                exact fr_wk (ih30 _ _ (⟨fun c g1 g2 g3 => by rw [b1 c g1 g2 g3]; exact hm.1 c g1 g2 g3, fun k hk => by rw [b2 k hk]; exact hm.2.1 k hk, hm.2.2.no (fun ⟨a1, a2, a3, a4⟩ => by have := (a3.uniq b3).1; omega)⟩)) ⟨rfl, rfl, rfl, rfl, rfl, trivial⟩
              · skip
                refine fr_il4 dX11_fences_84 ?_
                refine fr_goto (tgt := 90) dX11_fences_86 (by decide) ?_
                refine fr_is3 dX11_fences_90 rfl (Nat.le_of_ble_eq_true rfl) ?_
                refine fr_ii4 dX11_fences_91 rfl (Nat.le_of_ble_eq_true rfl) ?_
                refine fr_goto (tgt := 30) dX11_fences_94 (by decide) ?_
                exact fr_wk (ih30 _ _ (⟨fun c g1 g2 g3 => by rw [b1 c g1 g2 g3]; exact hm.1 c g1 g2 g3, fun k hk => by rw [b2 k hk]; exact hm.2.1 k hk, hm.2.2.up (by omega) ⟨_, _, b3, by assumption⟩ (by omega)⟩)) ⟨rfl, rfl, rfl, rfl, rfl, trivial⟩
    · skip
      refine fr_iconst dX11_fences_22 ?_
      exact fr_iret dX11_fences_23 rfl (fr_pi ⟨fun c _ _ _ => rfl, fun k _ => rfl, Or.inl ⟨by omega, rfl⟩⟩)
