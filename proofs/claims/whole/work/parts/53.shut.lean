/-! the class: the fewest trees to be shut -/
theorem od_vr_all {w : Int → Int} (hN : 0 ≤ w 0 ∧ w 0 ≤ 6) {S s : Int} {o : Int → Int} : ∀ j : Nat, (j : Int) ≤ w 0 → sp_vr w S (fr_shl 1 (w 0) - 1) o j → sp_vr w S s o j := by
  intro j
  induction j with
  | zero => intro _ _; trivial
  | succ j ih =>
    intro hj h
    simp only [sp_vr] at h ⊢
    refine ⟨ih (by omega) h.1, ?_⟩
    rcases h.2 with q | q
    · exact Or.inl q
    · exact absurd ((bx_all (c := w 0) (k := w 0 - 1 - j) hN (by omega)).mpr (by omega)) q.2.2.2.1
theorem od_V_all {w : Int → Int} (hI : fr_I w) (S s : Int) : od_V w S (fr_shl 1 (w 0) - 1) (w 0).toNat 0 ≤ od_V w S s (w 0).toNat 0 := by
  have hN := hI.n
  have h1 := (od_bst hI S (fr_shl 1 (w 0) - 1)).some hI
  have h2 := od_bst hI S s
  have hv : sp_V w S s (od_R w S (fr_shl 1 (w 0) - 1) (w 0).toNat 0) := od_vr_all hN _ (by omega) h1.2.2.1
  rcases h2 with ⟨a, b, c⟩ | ⟨a, b, c, d, e, f⟩
  · exact absurd hv (c _ h1.1 h1.2.1)
  · have := e _ h1.1 h1.2.1 hv
    omega
theorem od_Fk {w : Int → Int} (hI : fr_I w) (S gain s : Int) : sp_Fk w S gain s ↔ od_V w S s (w 0).toNat 0 ≤ gain := by
  constructor
  · rintro ⟨most, bc, h, hg⟩
    rw [(sp_bi.uniq (od_bst hI S s) h).1]; exact hg
  · intro h; exact ⟨_, _, od_bst hI S s, h⟩
theorem sp_sz_all : ∀ n : Fin 7, ∀ s : Fin 64, ((s.val : Nat) : Int) < fr_shl 1 (n.val : Nat) → sp_sz (s.val : Nat) ≤ (n.val : Nat) ∧ (sp_sz (s.val : Nat) = (n.val : Nat) → ((s.val : Nat) : Int) = fr_shl 1 (n.val : Nat) - 1) := by decide +kernel
theorem sp_sz_al {n s : Int} (hn : 0 ≤ n ∧ n ≤ 6) (hs : 0 ≤ s ∧ s < fr_shl 1 n) (h64 : fr_shl 1 n ≤ 64) : sp_sz s ≤ n ∧ (sp_sz s = n → s = fr_shl 1 n - 1) := by
  have := sp_sz_all ⟨n.toNat, by omega⟩ ⟨s.toNat, by omega⟩
  simp only [Int.toNat_of_nonneg hn.1, Int.toNat_of_nonneg hs.1] at this
  exact this hs.2
theorem bc_eq : ∀ s : Fin 64, fr_and (((fr_and ((fr_and (((s.val : Nat) : Int) - fr_and (fr_ushr ((s.val : Nat) : Int) 1) (1431655765)) (858993459) + fr_and (fr_ushr (((s.val : Nat) : Int) - fr_and (fr_ushr ((s.val : Nat) : Int) 1) (1431655765)) 2) (858993459)) + fr_ushr (fr_and (((s.val : Nat) : Int) - fr_and (fr_ushr ((s.val : Nat) : Int) 1) (1431655765)) (858993459) + fr_and (fr_ushr (((s.val : Nat) : Int) - fr_and (fr_ushr ((s.val : Nat) : Int) 1) (1431655765)) 2) (858993459)) 4) (252645135)) + fr_ushr (fr_and ((fr_and (((s.val : Nat) : Int) - fr_and (fr_ushr ((s.val : Nat) : Int) 1) (1431655765)) (858993459) + fr_and (fr_ushr (((s.val : Nat) : Int) - fr_and (fr_ushr ((s.val : Nat) : Int) 1) (1431655765)) 2) (858993459)) + fr_ushr (fr_and (((s.val : Nat) : Int) - fr_and (fr_ushr ((s.val : Nat) : Int) 1) (1431655765)) (858993459) + fr_and (fr_ushr (((s.val : Nat) : Int) - fr_and (fr_ushr ((s.val : Nat) : Int) 1) (1431655765)) 2) (858993459)) 4) (252645135)) 8) + fr_ushr ((fr_and ((fr_and (((s.val : Nat) : Int) - fr_and (fr_ushr ((s.val : Nat) : Int) 1) (1431655765)) (858993459) + fr_and (fr_ushr (((s.val : Nat) : Int) - fr_and (fr_ushr ((s.val : Nat) : Int) 1) (1431655765)) 2) (858993459)) + fr_ushr (fr_and (((s.val : Nat) : Int) - fr_and (fr_ushr ((s.val : Nat) : Int) 1) (1431655765)) (858993459) + fr_and (fr_ushr (((s.val : Nat) : Int) - fr_and (fr_ushr ((s.val : Nat) : Int) 1) (1431655765)) 2) (858993459)) 4) (252645135)) + fr_ushr (fr_and ((fr_and (((s.val : Nat) : Int) - fr_and (fr_ushr ((s.val : Nat) : Int) 1) (1431655765)) (858993459) + fr_and (fr_ushr (((s.val : Nat) : Int) - fr_and (fr_ushr ((s.val : Nat) : Int) 1) (1431655765)) 2) (858993459)) + fr_ushr (fr_and (((s.val : Nat) : Int) - fr_and (fr_ushr ((s.val : Nat) : Int) 1) (1431655765)) (858993459) + fr_and (fr_ushr (((s.val : Nat) : Int) - fr_and (fr_ushr ((s.val : Nat) : Int) 1) (1431655765)) 2) (858993459)) 4) (252645135)) 8) 16) 63 = sp_sz (s.val : Nat) := by decide +kernel
set_option maxRecDepth 20000 in
theorem kcJ6_bitCount_0f7a4 {l : Launch} {κ : fr_Ka} {μ : fr_Me} {s : Int} (hs : 0 ≤ s ∧ s < 64)  : fr_C l κ fmJ6_bitCount_0f7a4 1 [fr_i s] μ (fr_Ei (sp_sz s) μ) := by
  have e := bc_eq ⟨s.toNat, by omega⟩
  simp only [Int.toNat_of_nonneg hs.1] at e
  refine fr_enter (by decide +kernel) (ls := [some (fr_i s)]) rfl (Nat.le_of_ble_eq_true rfl) ?_
  refine fr_il0 dJ6_bitCount_0f7a4_0 ?_
  refine fr_il0 dJ6_bitCount_0f7a4_1 ?_
  refine fr_iconst dJ6_bitCount_0f7a4_2 ?_
  refine fr_iushr dJ6_bitCount_0f7a4_3 ?_
  refine fr_ldcw dJ6_bitCount_0f7a4_4 cnJ6_265 ?_
  refine fr_iand dJ6_bitCount_0f7a4_7 ?_
  refine fr_isub dJ6_bitCount_0f7a4_8 ?_
  refine fr_is0 dJ6_bitCount_0f7a4_9 (Nat.le_of_ble_eq_true rfl) ?_
  refine fr_il0 dJ6_bitCount_0f7a4_10 ?_
  refine fr_ldcw dJ6_bitCount_0f7a4_11 cnJ6_266 ?_
  refine fr_iand dJ6_bitCount_0f7a4_14 ?_
  refine fr_il0 dJ6_bitCount_0f7a4_15 ?_
  refine fr_iconst dJ6_bitCount_0f7a4_16 ?_
  refine fr_iushr dJ6_bitCount_0f7a4_17 ?_
  refine fr_ldcw dJ6_bitCount_0f7a4_18 cnJ6_266 ?_
  refine fr_iand dJ6_bitCount_0f7a4_21 ?_
  refine fr_iadd dJ6_bitCount_0f7a4_22 ?_
  refine fr_is0 dJ6_bitCount_0f7a4_23 (Nat.le_of_ble_eq_true rfl) ?_
  refine fr_il0 dJ6_bitCount_0f7a4_24 ?_
  refine fr_il0 dJ6_bitCount_0f7a4_25 ?_
  refine fr_iconst dJ6_bitCount_0f7a4_26 ?_
  refine fr_iushr dJ6_bitCount_0f7a4_27 ?_
  refine fr_iadd dJ6_bitCount_0f7a4_28 ?_
  refine fr_ldcw dJ6_bitCount_0f7a4_29 cnJ6_267 ?_
  refine fr_iand dJ6_bitCount_0f7a4_32 ?_
  refine fr_is0 dJ6_bitCount_0f7a4_33 (Nat.le_of_ble_eq_true rfl) ?_
  refine fr_il0 dJ6_bitCount_0f7a4_34 ?_
  refine fr_il0 dJ6_bitCount_0f7a4_35 ?_
  refine fr_bipush dJ6_bitCount_0f7a4_36 (by decide) ?_
  refine fr_iushr dJ6_bitCount_0f7a4_38 ?_
  refine fr_iadd dJ6_bitCount_0f7a4_39 ?_
  refine fr_is0 dJ6_bitCount_0f7a4_40 (Nat.le_of_ble_eq_true rfl) ?_
  refine fr_il0 dJ6_bitCount_0f7a4_41 ?_
  refine fr_il0 dJ6_bitCount_0f7a4_42 ?_
  refine fr_bipush dJ6_bitCount_0f7a4_43 (by decide) ?_
  refine fr_iushr dJ6_bitCount_0f7a4_45 ?_
  refine fr_iadd dJ6_bitCount_0f7a4_46 ?_
  refine fr_is0 dJ6_bitCount_0f7a4_47 (Nat.le_of_ble_eq_true rfl) ?_
  refine fr_il0 dJ6_bitCount_0f7a4_48 ?_
  refine fr_bipush dJ6_bitCount_0f7a4_49 (by decide) ?_
  refine fr_iand dJ6_bitCount_0f7a4_51 ?_
  exact fr_iret dJ6_bitCount_0f7a4_52 rfl (fr_e e rfl)
set_option maxRecDepth 20000 in
theorem kcX2_fewestShut {l : Launch} {κ : fr_Ka} {w : Int → Int} {μ : fr_Me} (hP : pl_P w μ) (hI : fr_I w) {S gain : Int} (hg : -2147483648 ≤ gain ∧ gain ≤ 2147483647)  : fr_C l κ fmX2_fewestShut 6 [fr_r κ 24, fr_i S, fr_i gain] μ (fr_Pi (fun z n => sp_fi (fun s => od_V w S s (w 0).toNat 0 ≤ gain) (fr_shl 1 (w 0)) z ∧ (∀ c, c ≠ 24 → c ≠ 25 → n c = μ c) ∧ (∀ k, k ≠ 5 → k ≠ 6 → n 24 k = μ 24 k))) := by
  have iN := hI.n
  have hA := fr_shl1_rg (m := w 0) iN
  have eN := hP.n
  refine fr_enter (by decide +kernel) (ls := [some (fr_r κ 24), some (fr_i S), some (fr_i gain), none, none, none]) rfl (Nat.le_of_ble_eq_true rfl) ?_
  refine fr_iconst dX2_fewestShut_0 ?_
  refine fr_al0 dX2_fewestShut_1 ?_
  refine fr_getr (cz := 15) dX2_fewestShut_2 flX2_18 ⟨by decide, by decide, rfl⟩ rfl rfl ?_
  refine fr_geti (kz := 8) dX2_fewestShut_5 flX2_35 ⟨by decide, by decide, rfl⟩ rfl rfl ?_
  refine fr_ishl dX2_fewestShut_8 ?_
  refine fr_iconst dX2_fewestShut_9 ?_
  refine fr_isub dX2_fewestShut_10 ?_
  refine fr_is3 dX2_fewestShut_11 rfl (Nat.le_of_ble_eq_true rfl) ?_
  refine fr_al0 dX2_fewestShut_12 ?_
  refine fr_il1 dX2_fewestShut_13 ?_
  refine fr_il3 dX2_fewestShut_14 ?_
  refine fr_cVP (mi' := fmX2_mostGain) dX2_fewestShut_15 mlX2_78 mvX2_mostGain ⟨2, _, ⟨by decide, by decide, rfl⟩, rfl, rfl⟩ (Nat.le_of_ble_eq_true rfl) (kcX2_mostGain hP hI) rfl rfl (Nat.le_of_ble_eq_true rfl) (fun z m hm => ?_)
  have hV1 := od_V_rg hI S (fr_shl 1 (w 0) - 1) (w 0).toNat 0
  have eall : μ 15 8 = w 0 := hP.n
  rw [eall] at hm ⊢
  refine fr_il2 dX2_fewestShut_18 ?_
  refine fr_icmp_le (tgt := 25) dX2_fewestShut_19 (by decide) (by omega) (by omega) (fun h1 => ?_) (fun h1 => ?_)
  · skip
    have hall : od_V w S (fr_shl 1 (w 0) - 1) (w 0).toNat 0 ≤ gain := by rw [← hm.1]; exact h1
    refine fr_iconst dX2_fewestShut_25 ?_
    refine fr_is4 dX2_fewestShut_26 rfl (Nat.le_of_ble_eq_true rfl) ?_
    refine fr_wk ?_ (ls := [some (fr_r κ 24), some (fr_i S), some (fr_i gain), some (fr_i (fr_shl 1 (w 0) - 1)), some (fr_i (0 : Int)), none]) ⟨rfl, rfl, rfl, rfl, rfl, trivial⟩
    refine (fr_down (P := fun j : Nat => ∀ (n : fr_Me), ((∀ s, 0 ≤ s → s < fr_shl 1 (w 0) → sp_sz s < (j : Int) → ¬ od_V w S s (w 0).toNat 0 ≤ gain) ∧ (∀ c, c ≠ 24 → c ≠ 25 → n c = μ c) ∧ (∀ k, k ≠ 5 → k ≠ 6 → n 24 k = μ 24 k)) → fr_A l κ fmX2_fewestShut 6 (fr_Pi (fun z n => sp_fi (fun s => od_V w S s (w 0).toNat 0 ≤ gain) (fr_shl 1 (w 0)) z ∧ (∀ c, c ≠ 24 → c ≠ 25 → n c = μ c) ∧ (∀ k, k ≠ 5 → k ≠ 6 → n 24 k = μ 24 k))) 28 [some (fr_r κ 24), some (fr_i S), some (fr_i gain), some (fr_i (fr_shl 1 (w 0) - 1)), some (fr_i (j : Int)), none] [] n) (w 0).toNat ?_ (fun j hj28 ih28 => ?_)) _ (⟨fun s s0 s1 h => by have := sp_sz_rg s; omega, hm.2.2⟩)
    · skip
      intro n hn
      have hPn : pl_P w n := hP.keep (fun c c0 c1 => hn.2.1 c (by omega) (by omega))
      have eNn := hPn.n
      refine fr_il4 dX2_fewestShut_28 ?_
      refine fr_al0 dX2_fewestShut_30 ?_
      refine fr_getr (cz := 15) dX2_fewestShut_31 flX2_18 ⟨by decide, by decide, rfl⟩ rfl rfl ?_
      refine fr_geti (kz := 8) dX2_fewestShut_34 flX2_35 ⟨by decide, by decide, rfl⟩ rfl rfl ?_
      refine fr_icmp_ge (tgt := 85) dX2_fewestShut_37 (by decide) (by omega) (by omega) (fun h2 => ?_) (fun h2 => ?_)
      · skip
        refine fr_il3 dX2_fewestShut_85 ?_
        exact fr_iret dX2_fewestShut_86 rfl (fr_pi ⟨Or.inr ⟨by omega, by omega, hall, fun s s0 s1 h => by have ha := sp_sz_al iN (s := fr_shl 1 (w 0) - 1) (by omega) (by omega); have hb := sp_sz_al iN (s := s) (by omega) (by omega); rcases (by omega : sp_sz s < w 0 ∨ sp_sz s = w 0) with q | q; (· exact absurd h (hn.1 s s0 s1 (by omega))); (· refine Or.inr ⟨?_, ?_⟩; (· rw [hb.2 q]); (· have := hb.2 q; omega))⟩, hn.2⟩)
      · skip
        exfalso; omega
    · skip
      intro n hn
      have hPn : pl_P w n := hP.keep (fun c c0 c1 => hn.2.1 c (by omega) (by omega))
      have eNn := hPn.n
      refine fr_il4 dX2_fewestShut_28 ?_
      refine fr_al0 dX2_fewestShut_30 ?_
      refine fr_getr (cz := 15) dX2_fewestShut_31 flX2_18 ⟨by decide, by decide, rfl⟩ rfl rfl ?_
      refine fr_geti (kz := 8) dX2_fewestShut_34 flX2_35 ⟨by decide, by decide, rfl⟩ rfl rfl ?_
      refine fr_icmp_ge (tgt := 85) dX2_fewestShut_37 (by decide) (by omega) (by omega) (fun h3 => ?_) (fun h3 => ?_)
      · skip
        exfalso; omega
      · skip
        refine fr_iconst dX2_fewestShut_40 ?_
        refine fr_is5 dX2_fewestShut_41 rfl (Nat.le_of_ble_eq_true rfl) ?_
        refine fr_wk ?_ (ls := [some (fr_r κ 24), some (fr_i S), some (fr_i gain), some (fr_i (fr_shl 1 (w 0) - 1)), some (fr_i (j : Int)), some (fr_i (0 : Int))]) ⟨rfl, rfl, rfl, rfl, rfl, rfl, trivial⟩
        refine (fr_down (P := fun k : Nat => ∀ (n : fr_Me), (((∀ s, 0 ≤ s → s < fr_shl 1 (w 0) → sp_sz s < (j : Int) → ¬ od_V w S s (w 0).toNat 0 ≤ gain) ∧ ∀ s, 0 ≤ s → s < (k : Int) → sp_sz s = (j : Int) → ¬ od_V w S s (w 0).toNat 0 ≤ gain) ∧ (∀ c, c ≠ 24 → c ≠ 25 → n c = μ c) ∧ (∀ k, k ≠ 5 → k ≠ 6 → n 24 k = μ 24 k)) → fr_A l κ fmX2_fewestShut 6 (fr_Pi (fun z n => sp_fi (fun s => od_V w S s (w 0).toNat 0 ≤ gain) (fr_shl 1 (w 0)) z ∧ (∀ c, c ≠ 24 → c ≠ 25 → n c = μ c) ∧ (∀ k, k ≠ 5 → k ≠ 6 → n 24 k = μ 24 k))) 43 [some (fr_r κ 24), some (fr_i S), some (fr_i gain), some (fr_i (fr_shl 1 (w 0) - 1)), some (fr_i (j : Int)), some (fr_i (k : Int))] [] n) (fr_shl 1 (w 0)).toNat ?_ (fun k hj43 ih43 => ?_)) _ (⟨⟨hn.1, fun s s0 s1 => by omega⟩, hn.2⟩)
        · skip
          intro n hn
          have hPn : pl_P w n := hP.keep (fun c c0 c1 => hn.2.1 c (by omega) (by omega))
          refine fr_il5 dX2_fewestShut_43 ?_
          refine fr_il3 dX2_fewestShut_45 ?_
          refine fr_icmp_gt (tgt := 79) dX2_fewestShut_46 (by decide) (by omega) (by omega) (fun h4 => ?_) (fun h4 => ?_)
          · skip
            refine fr_ii4 dX2_fewestShut_79 rfl (Nat.le_of_ble_eq_true rfl) ?_
            refine fr_goto (tgt := 28) dX2_fewestShut_82 (by decide) ?_
            exact fr_wk (ih28 _ (⟨fun s s0 s1 h => by rcases (by omega : sp_sz s < (j : Int) ∨ sp_sz s = (j : Int)) with q | q; (· exact hn.1.1 s s0 s1 q); (· exact hn.1.2 s s0 (by omega) q), hn.2⟩)) ⟨rfl, rfl, rfl, rfl, rfl, trivial⟩
          · skip
            exfalso; omega
        · skip
          intro n hn
          have hPn : pl_P w n := hP.keep (fun c c0 c1 => hn.2.1 c (by omega) (by omega))
          refine fr_il5 dX2_fewestShut_43 ?_
          refine fr_il3 dX2_fewestShut_45 ?_
          refine fr_icmp_gt (tgt := 79) dX2_fewestShut_46 (by decide) (by omega) (by omega) (fun h5 => ?_) (fun h5 => ?_)
          · skip
            exfalso; omega
          · skip
            refine fr_il5 dX2_fewestShut_49 ?_
            refine fr_cSi (mi' := fmJ6_bitCount_0f7a4) dX2_fewestShut_51 mlX2_81 msJ6_bitCount_0f7a4 (Nat.le_of_ble_eq_true rfl) (kcJ6_bitCount_0f7a4 (by omega)) rfl rfl (Nat.le_of_ble_eq_true rfl) ?_
            have hsz := sp_sz_rg (k : Int)
            refine fr_il4 dX2_fewestShut_54 ?_
            refine fr_icmp_ne (tgt := 73) dX2_fewestShut_56 (by decide) (by omega) (by omega) (fun h6 => ?_) (fun h6 => ?_)
            · skip
              have hne := h6
              refine fr_ii5 dX2_fewestShut_73 rfl (Nat.le_of_ble_eq_true rfl) ?_
              refine fr_goto (tgt := 43) dX2_fewestShut_76 (by decide) ?_
              exact fr_wk (ih43 _ (⟨⟨hn.1.1, fun s s0 s1 h => by rcases (by omega : s < (k : Int) ∨ s = (k : Int)) with q | q; (· exact hn.1.2 s s0 q h); (· subst q; exact absurd h hne)⟩, hn.2⟩)) ⟨rfl, rfl, rfl, rfl, rfl, rfl, trivial⟩
            · skip
              have heq := h6
              refine fr_al0 dX2_fewestShut_59 ?_
              refine fr_il1 dX2_fewestShut_60 ?_
              refine fr_il5 dX2_fewestShut_61 ?_
              refine fr_cVP (mi' := fmX2_mostGain) dX2_fewestShut_63 mlX2_78 mvX2_mostGain ⟨2, _, ⟨by decide, by decide, rfl⟩, rfl, rfl⟩ (Nat.le_of_ble_eq_true rfl) (kcX2_mostGain hPn hI) rfl rfl (Nat.le_of_ble_eq_true rfl) (fun z m hm2 => ?_)
              have hV2 := od_V_rg hI S (k : Int) (w 0).toNat 0
              have ez := hm2.1
              refine fr_il2 dX2_fewestShut_66 ?_
              refine fr_icmp_gt (tgt := 73) dX2_fewestShut_67 (by decide) (by omega) (by omega) (fun h7 => ?_) (fun h7 => ?_)
              · skip
                have hgt := h7
                refine fr_ii5 dX2_fewestShut_73 rfl (Nat.le_of_ble_eq_true rfl) ?_
                refine fr_goto (tgt := 43) dX2_fewestShut_76 (by decide) ?_
                exact fr_wk (ih43 _ (⟨⟨hn.1.1, fun s s0 s1 h => by rcases (by omega : s < (k : Int) ∨ s = (k : Int)) with q | q; (· exact hn.1.2 s s0 q h); (· subst q; exact fun h => by omega)⟩, ⟨fun c a b => (hm2.2.2.1 c a b).trans (hn.2.1 c a b), fun k a b => (hm2.2.2.2 k a b).trans (hn.2.2 k a b)⟩⟩)) ⟨rfl, rfl, rfl, rfl, rfl, rfl, trivial⟩
              · skip
                have hle := h7
                refine fr_il5 dX2_fewestShut_70 ?_
                exact fr_iret dX2_fewestShut_72 rfl (fr_pi ⟨Or.inr ⟨by omega, by omega, by dsimp only; rw [← ez]; exact hle, fun s s0 s1 h => by rcases (by omega : sp_sz s < (j : Int) ∨ sp_sz s = (j : Int) ∨ (j : Int) < sp_sz s) with q | q | q; (· exact absurd h (hn.1.1 s s0 s1 q)); (· refine Or.inr ⟨by omega, ?_⟩; rcases (by omega : s < (k : Int) ∨ (k : Int) ≤ s) with r | r; (· exact absurd h (hn.1.2 s s0 r q)); (· exact r)); (· exact Or.inl (by omega))⟩, ⟨fun c a b => (hm2.2.2.1 c a b).trans (hn.2.1 c a b), fun k a b => (hm2.2.2.2 k a b).trans (hn.2.2 k a b)⟩⟩)
  · skip
    have hall : gain < od_V w S (fr_shl 1 (w 0) - 1) (w 0).toNat 0 := by rw [← hm.1]; exact h1
    refine fr_bipush dX2_fewestShut_22 (by decide) ?_
    exact fr_iret dX2_fewestShut_24 rfl (fr_pi ⟨Or.inl ⟨rfl, fun s s0 s1 h => by have := od_V_all hI S s; omega⟩, hm.2.2⟩)
