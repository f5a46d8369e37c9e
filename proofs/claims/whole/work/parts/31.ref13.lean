/-! a game's states: taken trees (64), used climbers (32 times 64), whose turn (2048) -/
def sp_own (w : Int → Int) (set st c : Int) : Prop := (0 ≤ c ∧ c < w 43) ∧ (sp_in set c ↔ st < 2048)
def sp_cs (w : Int → Int) (set st way : Int) : Prop := sp_own w set st (way.tmod 5) ∧ way.tdiv 5 < w 0 ∧ ¬ sp_in (fr_and st 63) (way.tdiv 5) ∧ ¬ sp_in (w (37 + way.tdiv 5)) (way.tmod 5) ∧ (w (44 + way.tmod 5) = 2 ∨ ¬ sp_in (fr_and (fr_shr st 6) 31) (way.tmod 5))
def sp_ca (w : Int → Int) (set st : Int) : Prop := ∃ y, 0 ≤ y ∧ y < 30 ∧ sp_cs w set st y
def sp_bh (st way : Int) : Int := if way = 30 then fr_xor st 2048 else fr_or (fr_or (fr_xor st 2048) (fr_shl 1 (way.tdiv 5))) (fr_shl 64 (way.tmod 5))
theorem fr_d5 {y : Int} (h : 0 ≤ y ∧ y ≤ 30) : (0 ≤ y.tdiv 5 ∧ y.tdiv 5 ≤ 6) ∧ (0 ≤ y.tmod 5 ∧ y.tmod 5 ≤ 4) ∧ y = 5 * y.tdiv 5 + y.tmod 5 ∧ (y < 30 → y.tdiv 5 ≤ 5) := by
  rw [Int.tdiv_eq_ediv_of_nonneg h.1, Int.tmod_eq_emod_of_nonneg h.1]
  omega
set_option maxRecDepth 20000 in
theorem kcX11_takenOf {l : Launch} {κ : fr_Ka} {μ : fr_Me} {st : Int} : fr_C l κ fmX11_takenOf 1 [fr_i st] μ (fr_Ei (fr_and st 63) μ) := by
  refine fr_enter (by decide +kernel) (ls := [some (fr_i st)]) rfl (Nat.le_of_ble_eq_true rfl) ?_
  refine fr_il0 dX11_takenOf_0 ?_
  refine fr_bipush dX11_takenOf_1 (by decide) ?_
  refine fr_iand dX11_takenOf_3 ?_
  exact fr_iret dX11_takenOf_4 rfl (fr_e rfl rfl)
set_option maxRecDepth 20000 in
theorem kcX11_usedOf {l : Launch} {κ : fr_Ka} {μ : fr_Me} {st : Int} : fr_C l κ fmX11_usedOf 1 [fr_i st] μ (fr_Ei (fr_and (fr_shr st 6) 31) μ) := by
  refine fr_enter (by decide +kernel) (ls := [some (fr_i st)]) rfl (Nat.le_of_ble_eq_true rfl) ?_
  refine fr_il0 dX11_usedOf_0 ?_
  refine fr_bipush dX11_usedOf_1 (by decide) ?_
  refine fr_ishr dX11_usedOf_3 ?_
  refine fr_bipush dX11_usedOf_4 (by decide) ?_
  refine fr_iand dX11_usedOf_6 ?_
  exact fr_iret dX11_usedOf_7 rfl (fr_e rfl rfl)
set_option maxRecDepth 20000 in
theorem kcX11_canSend {l : Launch} {κ : fr_Ka} {μ : fr_Me} (hI : fr_I (μ 67)) {st set y : Int} (hst : 0 ≤ st ∧ st < 4096) (hy : 0 ≤ y ∧ y < 30) : fr_C l κ fmX11_canSend 3 [fr_r κ 66, fr_i st, fr_i set, fr_i y] μ (fr_Ei (fr_b (sp_cs (μ 67) set st y)) μ) := by
  have iN := hI.n
  have iM := hI.many
  obtain ⟨d1, d2, d3, d4⟩ := fr_d5 (y := y) (by omega)
  have hb9 := fr_bR (sp_in set (y.tmod 5))
  refine fr_enter (by decide +kernel) (ls := [some (fr_r κ 66), some (fr_i st), some (fr_i set), some (fr_i y), none, none, none]) rfl (Nat.le_of_ble_eq_true rfl) ?_
  refine fr_il3 dX11_canSend_0 ?_
  refine fr_iconst dX11_canSend_1 ?_
  refine fr_idiv dX11_canSend_2 (by omega) (by omega) (by omega) (by omega) ?_
  refine fr_is4 dX11_canSend_3 rfl (Nat.le_of_ble_eq_true rfl) ?_
  refine fr_il3 dX11_canSend_5 ?_
  refine fr_iconst dX11_canSend_6 ?_
  refine fr_irem dX11_canSend_7 (by omega) (by omega) (by omega) ?_
  refine fr_is5 dX11_canSend_8 rfl (Nat.le_of_ble_eq_true rfl) ?_
  refine fr_al0 dX11_canSend_10 ?_
  refine fr_il5 dX11_canSend_11 ?_
  refine fr_cVi (mi' := fmX11_isClimber) dX11_canSend_13 mlX11_71 mvX11_isClimber ⟨11, _, ⟨by decide, by decide, rfl⟩, rfl, rfl⟩ (Nat.le_of_ble_eq_true rfl) (kcX11_isClimber hI (by omega)) rfl rfl (Nat.le_of_ble_eq_true rfl) ?_
  refine fr_ifb_eq (tgt := 44) dX11_canSend_16 (by decide) (fun h1 => ?_) (fun h1 => ?_)
  · skip
    have hio : ¬ sp_own (μ 67) set st (y.tmod 5) := by first | exact fun h => absurd h.1 (by assumption) | (intro h; have e := fr_bT (h.2.mpr (by omega)); omega) | (intro h; have e := fr_bF (c := sp_in set (y.tmod 5)) (fun e => by have := h.2.mp e; omega); omega)
    refine fr_iconst dX11_canSend_44 ?_
    refine fr_is6 dX11_canSend_45 rfl (Nat.le_of_ble_eq_true rfl) ?_
    refine fr_il6 dX11_canSend_47 ?_
    refine fr_if_eq (tgt := 123) dX11_canSend_49 (by decide) (by decide) (fun _ => ?_) (fun h2 => absurd h2 (by decide))
    refine fr_iconst dX11_canSend_123 ?_
    exact fr_zret dX11_canSend_124 rfl (Or.inl rfl) (fr_e (fr_bF (by first | exact fun h => hio h.1 | exact fun h => by have := h.2.1; omega | exact fun h => h.2.2.1 (by assumption) | exact fun h => h.2.2.2.1 (by assumption) | exact fun h => h.2.2.2.2.elim (fun e => by omega) (fun e => e (by assumption)))).symm rfl)
  · skip
    refine fr_il2 dX11_canSend_19 ?_
    refine fr_il5 dX11_canSend_20 ?_
    refine fr_cSi (mi' := fmX11_has) dX11_canSend_22 mlX11_88 msX11_has (Nat.le_of_ble_eq_true rfl) (kcX11_has) rfl rfl (Nat.le_of_ble_eq_true rfl) ?_
    refine fr_il1 dX11_canSend_25 ?_
    refine fr_sipush dX11_canSend_26 (by decide) ?_
    refine fr_icmp_ge (tgt := 36) dX11_canSend_29 (by decide) (by omega) (by omega) (fun h3 => ?_) (fun h3 => ?_)
    · skip
      refine fr_iconst dX11_canSend_36 ?_
      refine fr_icmp_ne (tgt := 44) dX11_canSend_37 (by decide) (by omega) (by omega) (fun h4 => ?_) (fun h4 => ?_)
      · skip
        have hio : ¬ sp_own (μ 67) set st (y.tmod 5) := by first | exact fun h => absurd h.1 (by assumption) | (intro h; have e := fr_bT (h.2.mpr (by omega)); omega) | (intro h; have e := fr_bF (c := sp_in set (y.tmod 5)) (fun e => by have := h.2.mp e; omega); omega)
        refine fr_iconst dX11_canSend_44 ?_
        refine fr_is6 dX11_canSend_45 rfl (Nat.le_of_ble_eq_true rfl) ?_
        refine fr_il6 dX11_canSend_47 ?_
        refine fr_if_eq (tgt := 123) dX11_canSend_49 (by decide) (by decide) (fun _ => ?_) (fun h5 => absurd h5 (by decide))
        refine fr_iconst dX11_canSend_123 ?_
        exact fr_zret dX11_canSend_124 rfl (Or.inl rfl) (fr_e (fr_bF (by first | exact fun h => hio h.1 | exact fun h => by have := h.2.1; omega | exact fun h => h.2.2.1 (by assumption) | exact fun h => h.2.2.2.1 (by assumption) | exact fun h => h.2.2.2.2.elim (fun e => by omega) (fun e => e (by assumption)))).symm rfl)
      · skip
        have hio : sp_own (μ 67) set st (y.tmod 5) := ⟨by omega, by first | exact ⟨fun _ => by omega, fun _ => fr_b1.mp (by assumption)⟩ | exact ⟨fun h => absurd h (fr_b0.mp (by assumption)), fun h => by omega⟩⟩
        refine fr_iconst dX11_canSend_40 ?_
        refine fr_goto (tgt := 45) dX11_canSend_41 (by decide) ?_
        refine fr_is6 dX11_canSend_45 rfl (Nat.le_of_ble_eq_true rfl) ?_
        refine fr_il6 dX11_canSend_47 ?_
        refine fr_if_eq (tgt := 123) dX11_canSend_49 (by decide) (by decide) (fun h6 => absurd h6 (by decide)) (fun _ => ?_)
        refine fr_il4 dX11_canSend_52 ?_
        refine fr_al0 dX11_canSend_54 ?_
        refine fr_getr (cz := 67) dX11_canSend_55 flX11_7 ⟨by decide, by decide, rfl⟩ rfl rfl ?_
        refine fr_iconst dX11_canSend_58 ?_
        refine fr_iald dX11_canSend_59 ⟨by decide, by decide, rfl, by decide⟩ (by omega) (by omega) ?_
        refine fr_icmp_ge (tgt := 123) dX11_canSend_60 (by decide) (by omega) (by omega) (fun h7 => ?_) (fun h7 => ?_)
        · skip
          refine fr_iconst dX11_canSend_123 ?_
          exact fr_zret dX11_canSend_124 rfl (Or.inl rfl) (fr_e (fr_bF (by first | exact fun h => hio h.1 | exact fun h => by have := h.2.1; omega | exact fun h => h.2.2.1 (by assumption) | exact fun h => h.2.2.2.1 (by assumption) | exact fun h => h.2.2.2.2.elim (fun e => by omega) (fun e => e (by assumption)))).symm rfl)
        · skip
          refine fr_il1 dX11_canSend_63 ?_
          refine fr_cSi (mi' := fmX11_takenOf) dX11_canSend_64 mlX11_190 msX11_takenOf (Nat.le_of_ble_eq_true rfl) (kcX11_takenOf) rfl rfl (Nat.le_of_ble_eq_true rfl) ?_
          refine fr_il4 dX11_canSend_67 ?_
          refine fr_cSi (mi' := fmX11_has) dX11_canSend_69 mlX11_88 msX11_has (Nat.le_of_ble_eq_true rfl) (kcX11_has) rfl rfl (Nat.le_of_ble_eq_true rfl) ?_
          refine fr_ifb_ne (tgt := 123) dX11_canSend_72 (by decide) (fun h8 => ?_) (fun h8 => ?_)
          · skip
            refine fr_iconst dX11_canSend_123 ?_
            exact fr_zret dX11_canSend_124 rfl (Or.inl rfl) (fr_e (fr_bF (by first | exact fun h => hio h.1 | exact fun h => by have := h.2.1; omega | exact fun h => h.2.2.1 (by assumption) | exact fun h => h.2.2.2.1 (by assumption) | exact fun h => h.2.2.2.2.elim (fun e => by omega) (fun e => e (by assumption)))).symm rfl)
          · skip
            refine fr_al0 dX11_canSend_75 ?_
            refine fr_getr (cz := 67) dX11_canSend_76 flX11_7 ⟨by decide, by decide, rfl⟩ rfl rfl ?_
            refine fr_bipush dX11_canSend_79 (by decide) ?_
            refine fr_il4 dX11_canSend_81 ?_
            refine fr_iadd dX11_canSend_83 ?_
            refine fr_iald dX11_canSend_84 ⟨by decide, by decide, rfl, by decide⟩ (by omega) (by omega) ?_
            refine fr_il5 dX11_canSend_85 ?_
            refine fr_cSi (mi' := fmX11_has) dX11_canSend_87 mlX11_88 msX11_has (Nat.le_of_ble_eq_true rfl) (kcX11_has) rfl rfl (Nat.le_of_ble_eq_true rfl) ?_
            refine fr_ifb_ne (tgt := 123) dX11_canSend_90 (by decide) (fun h9 => ?_) (fun h9 => ?_)
            · skip
              refine fr_iconst dX11_canSend_123 ?_
              exact fr_zret dX11_canSend_124 rfl (Or.inl rfl) (fr_e (fr_bF (by first | exact fun h => hio h.1 | exact fun h => by have := h.2.1; omega | exact fun h => h.2.2.1 (by assumption) | exact fun h => h.2.2.2.1 (by assumption) | exact fun h => h.2.2.2.2.elim (fun e => by omega) (fun e => e (by assumption)))).symm rfl)
            · skip
              refine fr_al0 dX11_canSend_93 ?_
              refine fr_getr (cz := 67) dX11_canSend_94 flX11_7 ⟨by decide, by decide, rfl⟩ rfl rfl ?_
              refine fr_bipush dX11_canSend_97 (by decide) ?_
              refine fr_il5 dX11_canSend_99 ?_
              refine fr_iadd dX11_canSend_101 ?_
              have iC := hI.cl (c := y.tmod 5) (by omega) (by omega)
              unfold fr_Ic at iC
              refine fr_iald dX11_canSend_102 ⟨by decide, by decide, rfl, by decide⟩ (by omega) (by omega) ?_
              refine fr_iconst dX11_canSend_103 ?_
              refine fr_icmp_eq (tgt := 119) dX11_canSend_104 (by decide) (by omega) (by omega) (fun h10 => ?_) (fun h10 => ?_)
              · skip
                refine fr_iconst dX11_canSend_119 ?_
                refine fr_goto (tgt := 124) dX11_canSend_120 (by decide) ?_
                exact fr_zret dX11_canSend_124 rfl (Or.inr rfl) (fr_e (fr_bT ⟨hio, by omega, by assumption, by assumption, by first | exact Or.inl (by assumption) | exact Or.inr (by assumption)⟩).symm rfl)
              · skip
                refine fr_il1 dX11_canSend_107 ?_
                refine fr_cSi (mi' := fmX11_usedOf) dX11_canSend_108 mlX11_193 msX11_usedOf (Nat.le_of_ble_eq_true rfl) (kcX11_usedOf) rfl rfl (Nat.le_of_ble_eq_true rfl) ?_
                refine fr_il5 dX11_canSend_111 ?_
                refine fr_cSi (mi' := fmX11_has) dX11_canSend_113 mlX11_88 msX11_has (Nat.le_of_ble_eq_true rfl) (kcX11_has) rfl rfl (Nat.le_of_ble_eq_true rfl) ?_
                refine fr_ifb_ne (tgt := 123) dX11_canSend_116 (by decide) (fun h11 => ?_) (fun h11 => ?_)
                · skip
                  refine fr_iconst dX11_canSend_123 ?_
                  exact fr_zret dX11_canSend_124 rfl (Or.inl rfl) (fr_e (fr_bF (by first | exact fun h => hio h.1 | exact fun h => by have := h.2.1; omega | exact fun h => h.2.2.1 (by assumption) | exact fun h => h.2.2.2.1 (by assumption) | exact fun h => h.2.2.2.2.elim (fun e => by omega) (fun e => e (by assumption)))).symm rfl)
                · skip
                  refine fr_iconst dX11_canSend_119 ?_
                  refine fr_goto (tgt := 124) dX11_canSend_120 (by decide) ?_
                  exact fr_zret dX11_canSend_124 rfl (Or.inr rfl) (fr_e (fr_bT ⟨hio, by omega, by assumption, by assumption, by first | exact Or.inl (by assumption) | exact Or.inr (by assumption)⟩).symm rfl)
    · skip
      refine fr_iconst dX11_canSend_32 ?_
      refine fr_goto (tgt := 37) dX11_canSend_33 (by decide) ?_
      refine fr_icmp_ne (tgt := 44) dX11_canSend_37 (by decide) (by omega) (by omega) (fun h12 => ?_) (fun h12 => ?_)
      · skip
        have hio : ¬ sp_own (μ 67) set st (y.tmod 5) := by first | exact fun h => absurd h.1 (by assumption) | (intro h; have e := fr_bT (h.2.mpr (by omega)); omega) | (intro h; have e := fr_bF (c := sp_in set (y.tmod 5)) (fun e => by have := h.2.mp e; omega); omega)
        refine fr_iconst dX11_canSend_44 ?_
        refine fr_is6 dX11_canSend_45 rfl (Nat.le_of_ble_eq_true rfl) ?_
        refine fr_il6 dX11_canSend_47 ?_
        refine fr_if_eq (tgt := 123) dX11_canSend_49 (by decide) (by decide) (fun _ => ?_) (fun h13 => absurd h13 (by decide))
        refine fr_iconst dX11_canSend_123 ?_
        exact fr_zret dX11_canSend_124 rfl (Or.inl rfl) (fr_e (fr_bF (by first | exact fun h => hio h.1 | exact fun h => by have := h.2.1; omega | exact fun h => h.2.2.1 (by assumption) | exact fun h => h.2.2.2.1 (by assumption) | exact fun h => h.2.2.2.2.elim (fun e => by omega) (fun e => e (by assumption)))).symm rfl)
      · skip
        have hio : sp_own (μ 67) set st (y.tmod 5) := ⟨by omega, by first | exact ⟨fun _ => by omega, fun _ => fr_b1.mp (by assumption)⟩ | exact ⟨fun h => absurd h (fr_b0.mp (by assumption)), fun h => by omega⟩⟩
        refine fr_iconst dX11_canSend_40 ?_
        refine fr_goto (tgt := 45) dX11_canSend_41 (by decide) ?_
        refine fr_is6 dX11_canSend_45 rfl (Nat.le_of_ble_eq_true rfl) ?_
        refine fr_il6 dX11_canSend_47 ?_
        refine fr_if_eq (tgt := 123) dX11_canSend_49 (by decide) (by decide) (fun h14 => absurd h14 (by decide)) (fun _ => ?_)
        refine fr_il4 dX11_canSend_52 ?_
        refine fr_al0 dX11_canSend_54 ?_
        refine fr_getr (cz := 67) dX11_canSend_55 flX11_7 ⟨by decide, by decide, rfl⟩ rfl rfl ?_
        refine fr_iconst dX11_canSend_58 ?_
        refine fr_iald dX11_canSend_59 ⟨by decide, by decide, rfl, by decide⟩ (by omega) (by omega) ?_
        refine fr_icmp_ge (tgt := 123) dX11_canSend_60 (by decide) (by omega) (by omega) (fun h15 => ?_) (fun h15 => ?_)
        · skip
          refine fr_iconst dX11_canSend_123 ?_
          exact fr_zret dX11_canSend_124 rfl (Or.inl rfl) (fr_e (fr_bF (by first | exact fun h => hio h.1 | exact fun h => by have := h.2.1; omega | exact fun h => h.2.2.1 (by assumption) | exact fun h => h.2.2.2.1 (by assumption) | exact fun h => h.2.2.2.2.elim (fun e => by omega) (fun e => e (by assumption)))).symm rfl)
        · skip
          refine fr_il1 dX11_canSend_63 ?_
          refine fr_cSi (mi' := fmX11_takenOf) dX11_canSend_64 mlX11_190 msX11_takenOf (Nat.le_of_ble_eq_true rfl) (kcX11_takenOf) rfl rfl (Nat.le_of_ble_eq_true rfl) ?_
          refine fr_il4 dX11_canSend_67 ?_
          refine fr_cSi (mi' := fmX11_has) dX11_canSend_69 mlX11_88 msX11_has (Nat.le_of_ble_eq_true rfl) (kcX11_has) rfl rfl (Nat.le_of_ble_eq_true rfl) ?_
          refine fr_ifb_ne (tgt := 123) dX11_canSend_72 (by decide) (fun h16 => ?_) (fun h16 => ?_)
          · skip
            refine fr_iconst dX11_canSend_123 ?_
            exact fr_zret dX11_canSend_124 rfl (Or.inl rfl) (fr_e (fr_bF (by first | exact fun h => hio h.1 | exact fun h => by have := h.2.1; omega | exact fun h => h.2.2.1 (by assumption) | exact fun h => h.2.2.2.1 (by assumption) | exact fun h => h.2.2.2.2.elim (fun e => by omega) (fun e => e (by assumption)))).symm rfl)
          · skip
            refine fr_al0 dX11_canSend_75 ?_
            refine fr_getr (cz := 67) dX11_canSend_76 flX11_7 ⟨by decide, by decide, rfl⟩ rfl rfl ?_
            refine fr_bipush dX11_canSend_79 (by decide) ?_
            refine fr_il4 dX11_canSend_81 ?_
            refine fr_iadd dX11_canSend_83 ?_
            refine fr_iald dX11_canSend_84 ⟨by decide, by decide, rfl, by decide⟩ (by omega) (by omega) ?_
            refine fr_il5 dX11_canSend_85 ?_
            refine fr_cSi (mi' := fmX11_has) dX11_canSend_87 mlX11_88 msX11_has (Nat.le_of_ble_eq_true rfl) (kcX11_has) rfl rfl (Nat.le_of_ble_eq_true rfl) ?_
            refine fr_ifb_ne (tgt := 123) dX11_canSend_90 (by decide) (fun h17 => ?_) (fun h17 => ?_)
            · skip
              refine fr_iconst dX11_canSend_123 ?_
              exact fr_zret dX11_canSend_124 rfl (Or.inl rfl) (fr_e (fr_bF (by first | exact fun h => hio h.1 | exact fun h => by have := h.2.1; omega | exact fun h => h.2.2.1 (by assumption) | exact fun h => h.2.2.2.1 (by assumption) | exact fun h => h.2.2.2.2.elim (fun e => by omega) (fun e => e (by assumption)))).symm rfl)
            · skip
              refine fr_al0 dX11_canSend_93 ?_
              refine fr_getr (cz := 67) dX11_canSend_94 flX11_7 ⟨by decide, by decide, rfl⟩ rfl rfl ?_
              refine fr_bipush dX11_canSend_97 (by decide) ?_
              refine fr_il5 dX11_canSend_99 ?_
              refine fr_iadd dX11_canSend_101 ?_
              have iC := hI.cl (c := y.tmod 5) (by omega) (by omega)
              unfold fr_Ic at iC
              refine fr_iald dX11_canSend_102 ⟨by decide, by decide, rfl, by decide⟩ (by omega) (by omega) ?_
              refine fr_iconst dX11_canSend_103 ?_
              refine fr_icmp_eq (tgt := 119) dX11_canSend_104 (by decide) (by omega) (by omega) (fun h18 => ?_) (fun h18 => ?_)
              · skip
                refine fr_iconst dX11_canSend_119 ?_
                refine fr_goto (tgt := 124) dX11_canSend_120 (by decide) ?_
                exact fr_zret dX11_canSend_124 rfl (Or.inr rfl) (fr_e (fr_bT ⟨hio, by omega, by assumption, by assumption, by first | exact Or.inl (by assumption) | exact Or.inr (by assumption)⟩).symm rfl)
              · skip
                refine fr_il1 dX11_canSend_107 ?_
                refine fr_cSi (mi' := fmX11_usedOf) dX11_canSend_108 mlX11_193 msX11_usedOf (Nat.le_of_ble_eq_true rfl) (kcX11_usedOf) rfl rfl (Nat.le_of_ble_eq_true rfl) ?_
                refine fr_il5 dX11_canSend_111 ?_
                refine fr_cSi (mi' := fmX11_has) dX11_canSend_113 mlX11_88 msX11_has (Nat.le_of_ble_eq_true rfl) (kcX11_has) rfl rfl (Nat.le_of_ble_eq_true rfl) ?_
                refine fr_ifb_ne (tgt := 123) dX11_canSend_116 (by decide) (fun h19 => ?_) (fun h19 => ?_)
                · skip
                  refine fr_iconst dX11_canSend_123 ?_
                  exact fr_zret dX11_canSend_124 rfl (Or.inl rfl) (fr_e (fr_bF (by first | exact fun h => hio h.1 | exact fun h => by have := h.2.1; omega | exact fun h => h.2.2.1 (by assumption) | exact fun h => h.2.2.2.1 (by assumption) | exact fun h => h.2.2.2.2.elim (fun e => by omega) (fun e => e (by assumption)))).symm rfl)
                · skip
                  refine fr_iconst dX11_canSend_119 ?_
                  refine fr_goto (tgt := 124) dX11_canSend_120 (by decide) ?_
                  exact fr_zret dX11_canSend_124 rfl (Or.inr rfl) (fr_e (fr_bT ⟨hio, by omega, by assumption, by assumption, by first | exact Or.inl (by assumption) | exact Or.inr (by assumption)⟩).symm rfl)
set_option maxRecDepth 20000 in
theorem kcX11_canAny {l : Launch} {κ : fr_Ka} {μ : fr_Me} (hI : fr_I (μ 67)) {st set : Int} (hst : 0 ≤ st ∧ st < 4096) : fr_C l κ fmX11_canAny 4 [fr_r κ 66, fr_i st, fr_i set] μ (fr_Ei (fr_b (sp_ca (μ 67) set st)) μ) := by
  refine fr_enter (by decide +kernel) (ls := [some (fr_r κ 66), some (fr_i st), some (fr_i set), none, none]) rfl (Nat.le_of_ble_eq_true rfl) ?_
  refine fr_iconst dX11_canAny_0 ?_
  refine fr_is3 dX11_canAny_1 rfl (Nat.le_of_ble_eq_true rfl) ?_
  refine fr_iconst dX11_canAny_2 ?_
  refine fr_is4 dX11_canAny_3 rfl (Nat.le_of_ble_eq_true rfl) ?_
  refine fr_wk ?_ (ls := [some (fr_r κ 66), some (fr_i st), some (fr_i set), some (fr_i _), some (fr_i (0 : Int))]) ⟨rfl, rfl, rfl, rfl, rfl, trivial⟩
  refine (fr_down (P := fun j : Nat => ∀ (x : Int), (x = fr_b (∃ y, 0 ≤ y ∧ y < (j : Int) ∧ sp_cs (μ 67) set st y)) → fr_A l κ fmX11_canAny 4 (fr_Ei (fr_b (sp_ca (μ 67) set st)) μ) 5 [some (fr_r κ 66), some (fr_i st), some (fr_i set), some (fr_i x), some (fr_i (j : Int))] [] μ) 30 ?_ (fun j hj5 ih5 => ?_)) _ ((fr_bF (fun ⟨y, h0, h1, h2⟩ => by omega)).symm)
  · skip
    intro x hx
    rcases Classical.em (∃ y, 0 ≤ y ∧ y < ((30 : Nat) : Int) ∧ sp_cs (μ 67) set st y) with hP | hP
    · skip
      rw [fr_bT hP] at hx
      subst hx
      refine fr_il4 dX11_canAny_5 ?_
      refine fr_bipush dX11_canAny_7 (by decide) ?_
      refine fr_icmp_ge (tgt := 39) dX11_canAny_9 (by decide) (by omega) (by omega) (fun h1 => ?_) (fun h1 => ?_)
      · skip
        refine fr_il3 dX11_canAny_39 ?_
        exact fr_zret dX11_canAny_40 rfl (Or.inr rfl) (fr_e (by first | exact (fr_bT hP).symm | exact (fr_bF hP).symm) rfl)
      · skip
        exfalso; omega
    · skip
      rw [fr_bF hP] at hx
      subst hx
      refine fr_il4 dX11_canAny_5 ?_
      refine fr_bipush dX11_canAny_7 (by decide) ?_
      refine fr_icmp_ge (tgt := 39) dX11_canAny_9 (by decide) (by omega) (by omega) (fun h2 => ?_) (fun h2 => ?_)
      · skip
        refine fr_il3 dX11_canAny_39 ?_
        exact fr_zret dX11_canAny_40 rfl (Or.inl rfl) (fr_e (by first | exact (fr_bT hP).symm | exact (fr_bF hP).symm) rfl)
      · skip
        exfalso; omega
  · skip
    intro x hx
    rcases Classical.em (∃ y, 0 ≤ y ∧ y < (j : Int) ∧ sp_cs (μ 67) set st y) with hP | hP
    · skip
      rw [fr_bT hP] at hx
      subst hx
      refine fr_il4 dX11_canAny_5 ?_
      refine fr_bipush dX11_canAny_7 (by decide) ?_
      refine fr_icmp_ge (tgt := 39) dX11_canAny_9 (by decide) (by omega) (by omega) (fun h3 => ?_) (fun h3 => ?_)
      · skip
        exfalso; omega
      · skip
        refine fr_il3 dX11_canAny_12 ?_
        refine fr_if_ne (tgt := 27) dX11_canAny_13 (by decide) (by decide) (fun _ => ?_) (fun h4 => absurd h4 (by decide))
        refine fr_iconst dX11_canAny_27 ?_
        refine fr_goto (tgt := 32) dX11_canAny_28 (by decide) ?_
        refine fr_is3 dX11_canAny_32 rfl (Nat.le_of_ble_eq_true rfl) ?_
        refine fr_ii4 dX11_canAny_33 rfl (Nat.le_of_ble_eq_true rfl) ?_
        refine fr_goto (tgt := 5) dX11_canAny_36 (by decide) ?_
        exact fr_wk (ih5 _ ((fr_bT (by first | exact hP.elim (fun y h => ⟨y, h.1, by omega, h.2.2⟩) | exact ⟨(j : Int), by omega, by omega, by assumption⟩)).symm)) ⟨rfl, rfl, rfl, rfl, rfl, trivial⟩
    · skip
      rw [fr_bF hP] at hx
      subst hx
      refine fr_il4 dX11_canAny_5 ?_
      refine fr_bipush dX11_canAny_7 (by decide) ?_
      refine fr_icmp_ge (tgt := 39) dX11_canAny_9 (by decide) (by omega) (by omega) (fun h5 => ?_) (fun h5 => ?_)
      · skip
        exfalso; omega
      · skip
        refine fr_il3 dX11_canAny_12 ?_
        refine fr_if_ne (tgt := 27) dX11_canAny_13 (by decide) (by decide) (fun h6 => absurd h6 (by decide)) (fun _ => ?_)
        refine fr_al0 dX11_canAny_16 ?_
        refine fr_il1 dX11_canAny_17 ?_
        refine fr_il2 dX11_canAny_18 ?_
        refine fr_il4 dX11_canAny_19 ?_
        refine fr_cVi (mi' := fmX11_canSend) dX11_canAny_21 mlX11_196 mvX11_canSend ⟨11, _, ⟨by decide, by decide, rfl⟩, rfl, rfl⟩ (Nat.le_of_ble_eq_true rfl) (kcX11_canSend hI (by omega) (by omega)) rfl rfl (Nat.le_of_ble_eq_true rfl) ?_
        refine fr_ifb_eq (tgt := 31) dX11_canAny_24 (by decide) (fun h7 => ?_) (fun h7 => ?_)
        · skip
          refine fr_iconst dX11_canAny_31 ?_
          refine fr_is3 dX11_canAny_32 rfl (Nat.le_of_ble_eq_true rfl) ?_
          refine fr_ii4 dX11_canAny_33 rfl (Nat.le_of_ble_eq_true rfl) ?_
          refine fr_goto (tgt := 5) dX11_canAny_36 (by decide) ?_
          exact fr_wk (ih5 _ ((fr_bF (fun ⟨y, h0, h1, h2⟩ => (by omega : y < (j : Int) ∨ y = (j : Int)).elim (fun e => hP ⟨y, h0, e, h2⟩) (fun e => by subst e; exact absurd h2 (by assumption)))).symm)) ⟨rfl, rfl, rfl, rfl, rfl, trivial⟩
        · skip
          refine fr_iconst dX11_canAny_27 ?_
          refine fr_goto (tgt := 32) dX11_canAny_28 (by decide) ?_
          refine fr_is3 dX11_canAny_32 rfl (Nat.le_of_ble_eq_true rfl) ?_
          refine fr_ii4 dX11_canAny_33 rfl (Nat.le_of_ble_eq_true rfl) ?_
          refine fr_goto (tgt := 5) dX11_canAny_36 (by decide) ?_
          exact fr_wk (ih5 _ ((fr_bT (by first | exact hP.elim (fun y h => ⟨y, h.1, by omega, h.2.2⟩) | exact ⟨(j : Int), by omega, by omega, by assumption⟩)).symm)) ⟨rfl, rfl, rfl, rfl, rfl, trivial⟩
set_option maxRecDepth 20000 in
theorem kcX11_behind {l : Launch} {κ : fr_Ka} {μ : fr_Me} {st y : Int} (hy : 0 ≤ y ∧ y ≤ 30) : fr_C l κ fmX11_behind 1 [fr_i st, fr_i y] μ (fr_Ei (sp_bh st y) μ) := by
  obtain ⟨d1, d2, d3, d4⟩ := fr_d5 hy
  refine fr_enter (by decide +kernel) (ls := [some (fr_i st), some (fr_i y), none]) rfl (Nat.le_of_ble_eq_true rfl) ?_
  refine fr_il0 dX11_behind_0 ?_
  refine fr_sipush dX11_behind_1 (by decide) ?_
  refine fr_ixor dX11_behind_4 ?_
  refine fr_is2 dX11_behind_5 rfl (Nat.le_of_ble_eq_true rfl) ?_
  refine fr_il1 dX11_behind_6 ?_
  refine fr_bipush dX11_behind_7 (by decide) ?_
  refine fr_icmp_ne (tgt := 16) dX11_behind_9 (by decide) (by omega) (by omega) (fun h1 => ?_) (fun h1 => ?_)
  · skip
    refine fr_il2 dX11_behind_16 ?_
    refine fr_iconst dX11_behind_17 ?_
    refine fr_il1 dX11_behind_18 ?_
    refine fr_iconst dX11_behind_19 ?_
    refine fr_idiv dX11_behind_20 (by omega) (by omega) (by omega) (by omega) ?_
    refine fr_ishl dX11_behind_21 ?_
    refine fr_ior dX11_behind_22 ?_
    refine fr_bipush dX11_behind_23 (by decide) ?_
    refine fr_il1 dX11_behind_25 ?_
    refine fr_iconst dX11_behind_26 ?_
    refine fr_irem dX11_behind_27 (by omega) (by omega) (by omega) ?_
    refine fr_ishl dX11_behind_28 ?_
    refine fr_ior dX11_behind_29 ?_
    exact fr_iret dX11_behind_30 rfl (fr_e (by unfold sp_bh; first | rw [if_pos (by assumption)] | rw [if_neg (by assumption)]) rfl)
  · skip
    refine fr_il2 dX11_behind_12 ?_
    refine fr_goto (tgt := 30) dX11_behind_13 (by decide) ?_
    exact fr_iret dX11_behind_30 rfl (fr_e (by unfold sp_bh; first | rw [if_pos (by assumption)] | rw [if_neg (by assumption)]) rfl)
set_option maxRecDepth 20000 in
theorem kcX11_sentFor {l : Launch} {κ : fr_Ka} {μ : fr_Me} {st y : Int} (hst : 0 ≤ st ∧ st < 4096) (hy : 0 ≤ y ∧ y < 30) : fr_C l κ fmX11_sentFor 1 [fr_r κ 66, fr_i st, fr_i y] μ (fr_Ei (if st < 2048 then μ 71 (6 * y.tdiv 5 + y.tmod 5) else -μ 71 (6 * y.tdiv 5 + y.tmod 5)) μ) := by
  obtain ⟨d1, d2, d3, d4⟩ := fr_d5 (y := y) (by omega)
  refine fr_enter (by decide +kernel) (ls := [some (fr_r κ 66), some (fr_i st), some (fr_i y), none]) rfl (Nat.le_of_ble_eq_true rfl) ?_
  refine fr_al0 dX11_sentFor_0 ?_
  refine fr_getr (cz := 71) dX11_sentFor_1 flX11_22 ⟨by decide, by decide, rfl⟩ rfl rfl ?_
  refine fr_bipush dX11_sentFor_4 (by decide) ?_
  refine fr_il2 dX11_sentFor_6 ?_
  refine fr_iconst dX11_sentFor_7 ?_
  refine fr_idiv dX11_sentFor_8 (by omega) (by omega) (by omega) (by omega) ?_
  refine fr_imul dX11_sentFor_9 ?_
  refine fr_il2 dX11_sentFor_10 ?_
  refine fr_iconst dX11_sentFor_11 ?_
  refine fr_irem dX11_sentFor_12 (by omega) (by omega) (by omega) ?_
  refine fr_iadd dX11_sentFor_13 ?_
  refine fr_iald dX11_sentFor_14 ⟨by decide, by decide, rfl, by decide⟩ (by omega) (by omega) ?_
  refine fr_is3 dX11_sentFor_15 rfl (Nat.le_of_ble_eq_true rfl) ?_
  refine fr_il1 dX11_sentFor_16 ?_
  refine fr_sipush dX11_sentFor_17 (by decide) ?_
  refine fr_icmp_ge (tgt := 27) dX11_sentFor_20 (by decide) (by omega) (by omega) (fun h1 => ?_) (fun h1 => ?_)
  · skip
    refine fr_il3 dX11_sentFor_27 ?_
    refine fr_ineg dX11_sentFor_28 ?_
    exact fr_iret dX11_sentFor_29 rfl (fr_e (by split <;> omega) rfl)
  · skip
    refine fr_il3 dX11_sentFor_23 ?_
    refine fr_goto (tgt := 29) dX11_sentFor_24 (by decide) ?_
    exact fr_iret dX11_sentFor_29 rfl (fr_e (by split <;> omega) rfl)
