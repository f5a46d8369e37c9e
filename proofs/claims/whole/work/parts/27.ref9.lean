/-! the best of all orders -/
def sp_V (w : Int → Int) (set shut code : Int) : Prop := sp_vr w set shut (sp_dg (w 0) code) (w 0).toNat
def sp_Gn (w : Int → Int) (code : Int) : Int := -sp_wg w (sp_cr (sp_dg (w 0) code) (w 0) (w 0).toNat) + sp_sum (w 0).toNat (fun t => sp_wt w t (sp_dg (w 0) code t))
def sp_bi (V : Int → Prop) (G : Int → Int) (j most bc : Int) : Prop := (most = -1000000000 ∧ bc = 0 ∧ ∀ c, 0 ≤ c → c < j → ¬ V c) ∨ (0 ≤ bc ∧ bc < j ∧ V bc ∧ G bc = most ∧ (∀ c, 0 ≤ c → c < j → V c → G c ≤ most) ∧ ∀ c, 0 ≤ c → c < bc → V c → G c < most)
theorem sp_bi.skip {V : Int → Prop} {G : Int → Int} {j most bc : Int} (h : sp_bi V G j most bc) (hv : ¬ V j) : sp_bi V G (j + 1) most bc := by
  rcases h with ⟨h1, h2, h3⟩ | ⟨h1, h2, h3, h4, h5, h6⟩
  · refine Or.inl ⟨h1, h2, fun c c0 c1 => ?_⟩
    rcases (by omega : c < j ∨ c = j) with e | e
    · exact h3 c c0 e
    · rw [e]; exact hv
  · refine Or.inr ⟨h1, by omega, h3, h4, fun c c0 c1 cv => ?_, h6⟩
    rcases (by omega : c < j ∨ c = j) with e | e
    · exact h5 c c0 e cv
    · rw [e] at cv; exact absurd cv hv
theorem sp_bi.up {V : Int → Prop} {G : Int → Int} {j most bc : Int} (h : sp_bi V G j most bc) (hj : 0 ≤ j) (hv : V j) (hg : most < G j) : sp_bi V G (j + 1) (G j) j := by
  have hlt : ∀ c, 0 ≤ c → c < j → V c → G c < G j := by
    intro c c0 c1 cv
    rcases h with ⟨h1, h2, h3⟩ | ⟨h1, h2, h3, h4, h5, h6⟩
    · exact absurd cv (h3 c c0 c1)
    · have := h5 c c0 c1 cv; omega
  refine Or.inr ⟨hj, by omega, hv, rfl, fun c c0 c1 cv => ?_, hlt⟩
  rcases (by omega : c < j ∨ c = j) with e | e
  · have := hlt c c0 e cv; omega
  · rw [e]; exact Int.le_refl _
theorem sp_bi.no {V : Int → Prop} {G : Int → Int} {j most bc : Int} (h : sp_bi V G j most bc) (hg : G j ≤ most) (hr : -1000000000 < G j) : sp_bi V G (j + 1) most bc := by
  rcases h with ⟨h1, h2, h3⟩ | ⟨h1, h2, h3, h4, h5, h6⟩
  · omega
  · refine Or.inr ⟨h1, by omega, h3, h4, fun c c0 c1 cv => ?_, h6⟩
    rcases (by omega : c < j ∨ c = j) with e | e
    · exact h5 c c0 e cv
    · rw [e]; exact hg
theorem sp_bi.uniq {V : Int → Prop} {G : Int → Int} {j most bc most' bc' : Int} (h : sp_bi V G j most bc) (h' : sp_bi V G j most' bc') : most = most' ∧ bc = bc' := by
  rcases h with ⟨h1, h2, h3⟩ | ⟨h1, h2, h3, h4, h5, h6⟩
  · rcases h' with ⟨g1, g2, g3⟩ | ⟨g1, g2, g3, g4, g5, g6⟩
    · omega
    · exact absurd g3 (h3 bc' g1 g2)
  · rcases h' with ⟨g1, g2, g3⟩ | ⟨g1, g2, g3, g4, g5, g6⟩
    · exact absurd h3 (g3 bc h1 h2)
    · have a1 := h5 bc' g1 g2 g3
      have a2 := g5 bc h1 h2 h3
      refine ⟨by omega, ?_⟩
      rcases Int.lt_trichotomy bc bc' with e | e | e
      · have := g6 bc h1 e h3; omega
      · exact e
      · have := h6 bc' g1 e g3; omega
theorem sp_wg_rg {w : Int → Int} (hI : fr_I w) (S : Int) : 0 ≤ sp_wg w S ∧ sp_wg w S ≤ 495 := by
  have hm := hI.many
  have h := sp_sum_rg (F := fun c => if fr_and (fr_shr S c) 1 = 1 then w (54 + c) else 0) (a := 0) (b := 99) (w 43).toNat (fun i h0 h1 => by
    have hc := hI.cl (c := i) h0 (by omega)
    unfold fr_Ic at hc
    split <;> omega)
  unfold sp_wg
  omega
theorem sp_wt_rg {w : Int → Int} (hI : fr_I w) (t c : Int) : -540 ≤ sp_wt w t c ∧ sp_wt w t c ≤ 5940 := by
  have := sp_wn_rg hI t c 0
  unfold sp_wt
  split <;> omega
theorem sp_Gn_rg {w : Int → Int} (hI : fr_I w) (code : Int) : -3735 ≤ sp_Gn w code ∧ sp_Gn w code ≤ 35640 := by
  have h1 := sp_wg_rg hI (sp_cr (sp_dg (w 0) code) (w 0) (w 0).toNat)
  have h2 := sp_sum_rg (F := fun t => sp_wt w t (sp_dg (w 0) code t)) (a := -540) (b := 5940) (w 0).toNat (fun i _ _ => sp_wt_rg hI i _)
  have hn := hI.n
  unfold sp_Gn
  omega
theorem sp_bi.rg {w : Int → Int} (hI : fr_I w) {set shut j most bc : Int} (h : sp_bi (sp_V w set shut) (sp_Gn w) j most bc) (hj : 0 ≤ j) : (-1000000000 ≤ most ∧ most ≤ 35640) ∧ (0 ≤ bc ∧ bc ≤ j) := by
  rcases h with ⟨h1, h2, h3⟩ | ⟨h1, h2, h3, h4, h5, h6⟩
  · omega
  · have := sp_Gn_rg hI bc; omega
/-- the order in which nobody climbs -/
theorem sp_dg5 : ∀ n : Fin 7, ∀ k : Fin 6, k.val < n.val → (sp_p6 n.val - 1) / sp_p6 k.val % 6 = 5 := by decide +kernel
theorem sp_V_nobody {w : Int → Int} (hI : fr_I w) (set shut : Int) : sp_V w set shut (sp_p6 (w 0).toNat - 1) := by
  have hn := hI.n
  have key : ∀ j : Nat, j ≤ (w 0).toNat → sp_vr w set shut (sp_dg (w 0) (sp_p6 (w 0).toNat - 1)) j := by
    intro j
    induction j with
    | zero => intro _; trivial
    | succ j ih =>
      intro hj
      refine ⟨ih (by omega), Or.inl ?_⟩
      rw [sp_dg_at]
      exact sp_dg5 ⟨(w 0).toNat, by omega⟩ ⟨j, by omega⟩ (by show j < (w 0).toNat; omega)
  exact key _ (Nat.le_refl _)
def sp_bst (w : Int → Int) (set shut most bc : Int) : Prop := sp_bi (sp_V w set shut) (sp_Gn w) (sp_p6 (w 0).toNat) most bc
theorem sp_bst.some {w : Int → Int} (hI : fr_I w) {set shut most bc : Int} (h : sp_bst w set shut most bc) : 0 ≤ bc ∧ bc < sp_p6 (w 0).toNat ∧ sp_V w set shut bc ∧ sp_Gn w bc = most := by
  have hn := hI.n
  have hp := sp_p6_rg (w 0).toNat (by omega)
  rcases h with ⟨h1, h2, h3⟩ | ⟨h1, h2, h3, h4, h5, h6⟩
  · exact absurd (sp_V_nobody hI set shut) (h3 _ (by omega) (by omega))
  · exact ⟨h1, h2, h3, h4⟩
set_option maxRecDepth 20000 in
theorem kcX11_bestOf {l : Launch} {κ : fr_Ka} {μ : fr_Me} (hI : fr_I (μ 67)) {set shut : Int} : fr_C l κ fmX11_bestOf 6 [fr_r κ 66, fr_i set, fr_i shut] μ (fr_Pi (fun z m => (∀ c, c ≠ 66 → c ≠ 70 → c ≠ 71 → m c = μ c) ∧ (∀ k, k ≠ 9 → m 66 k = μ 66 k) ∧ sp_bst (μ 67) set shut z (m 66 9))) := by
  have iN := hI.n
  have iM := hI.many
  have hp := sp_p6_rg (μ 67 0).toNat (by omega)
  refine fr_enter (by decide +kernel) (ls := [some (fr_r κ 66), some (fr_i set), some (fr_i shut), none, none, none, none, none]) rfl (Nat.le_of_ble_eq_true rfl) ?_
  refine fr_al0 dX11_bestOf_0 ?_
  refine fr_cVQ (mi' := fmX11_layWorths) dX11_bestOf_1 mlX11_166 mvX11_layWorths ⟨11, _, ⟨by decide, by decide, rfl⟩, rfl, rfl⟩ (Nat.le_of_ble_eq_true rfl) (kcX11_layWorths hI) rfl rfl (Nat.le_of_ble_eq_true rfl) (fun m0 hm0 => ?_)
  refine fr_ldc dX11_bestOf_4 cnX11_169 ?_
  refine fr_is3 dX11_bestOf_6 rfl (Nat.le_of_ble_eq_true rfl) ?_
  refine fr_al0 dX11_bestOf_7 ?_
  refine fr_iconst dX11_bestOf_8 ?_
  refine fr_put (kz := 9) dX11_bestOf_9 fpX11_170 ⟨by decide, by decide, rfl⟩ rfl rfl (fun h => by cases h) ?_
  refine fr_iconst dX11_bestOf_12 ?_
  refine fr_is4 dX11_bestOf_13 rfl (Nat.le_of_ble_eq_true rfl) ?_
  refine fr_wk ?_ (ls := [some (fr_r κ 66), some (fr_i set), some (fr_i shut), some (fr_i _), some (fr_i (0 : Int)), none, none, none]) ⟨rfl, rfl, rfl, rfl, rfl, trivial⟩
  refine (fr_down (P := fun j : Nat => ∀ (x : Int) (m : fr_Me), ((∀ c, c ≠ 66 → c ≠ 70 → c ≠ 71 → m c = μ c) ∧ (∀ k, k ≠ 9 → m 66 k = μ 66 k) ∧ (∀ t c, 0 ≤ t → t < μ 67 0 → 0 ≤ c → c < 6 → m 71 (6 * t + c) = sp_wt (μ 67) t c) ∧ sp_bi (sp_V (μ 67) set shut) (sp_Gn (μ 67)) j x (m 66 9)) → fr_A l κ fmX11_bestOf 6 (fr_Pi (fun z m => (∀ c, c ≠ 66 → c ≠ 70 → c ≠ 71 → m c = μ c) ∧ (∀ k, k ≠ 9 → m 66 k = μ 66 k) ∧ sp_bst (μ 67) set shut z (m 66 9))) 15 [some (fr_r κ 66), some (fr_i set), some (fr_i shut), some (fr_i x), some (fr_i (j : Int)), none, none, none] [] m) (sp_p6 (μ 67 0).toNat).toNat ?_ (fun j hj15 ih15 => ?_)) _ _ (⟨fun c h1 h2 h3 => by rw [fr_up_nc _ _ _ h1]; exact hm0.2 c h3, fun k hk => by rw [fr_up_nk _ _ _ hk]; rw [hm0.2 66 (by decide)], fun t c h0 h1 h2 h3 => by rw [fr_up_nc _ _ _ (by decide)]; exact hm0.1 t c h0 h1 h2 h3, Or.inl ⟨rfl, fr_up_eq _ _ _ _, fun c c0 c1 => by omega⟩⟩)
  · skip
    intro x m hm
    have hw : m 67 = μ 67 := hm.1 67 (by decide) (by decide) (by decide)
    obtain ⟨hxr, hbr⟩ := hm.2.2.2.rg hI (by omega)
    refine fr_il4 dX11_bestOf_15 ?_
    refine fr_al0 dX11_bestOf_17 ?_
    refine fr_cVi (mi' := fmX11_orders) dX11_bestOf_18 mlX11_173 mvX11_orders ⟨11, _, ⟨by decide, by decide, rfl⟩, rfl, rfl⟩ (Nat.le_of_ble_eq_true rfl) (kcX11_orders (by rw [hw]; exact iN)) rfl rfl (Nat.le_of_ble_eq_true rfl) ?_
    rw [hw]
    refine fr_icmp_ge (tgt := 129) dX11_bestOf_21 (by decide) (by omega) (by omega) (fun h1 => ?_) (fun h1 => ?_)
    · skip
      refine fr_il3 dX11_bestOf_129 ?_
      exact fr_iret dX11_bestOf_130 rfl (fr_pi ⟨hm.1, hm.2.1, by have := hm.2.2.2; rw [show (((sp_p6 (μ 67 0).toNat).toNat : Nat) : Int) = sp_p6 (μ 67 0).toNat by omega] at this; exact this⟩)
    · skip
      exfalso; omega
  · skip
    intro x m hm
    have hw : m 67 = μ 67 := hm.1 67 (by decide) (by decide) (by decide)
    obtain ⟨hxr, hbr⟩ := hm.2.2.2.rg hI (by omega)
    refine fr_il4 dX11_bestOf_15 ?_
    refine fr_al0 dX11_bestOf_17 ?_
    refine fr_cVi (mi' := fmX11_orders) dX11_bestOf_18 mlX11_173 mvX11_orders ⟨11, _, ⟨by decide, by decide, rfl⟩, rfl, rfl⟩ (Nat.le_of_ble_eq_true rfl) (kcX11_orders (by rw [hw]; exact iN)) rfl rfl (Nat.le_of_ble_eq_true rfl) ?_
    rw [hw]
    refine fr_icmp_ge (tgt := 129) dX11_bestOf_21 (by decide) (by omega) (by omega) (fun h2 => ?_) (fun h2 => ?_)
    · skip
      exfalso; omega
    · skip
      refine fr_al0 dX11_bestOf_24 ?_
      refine fr_il4 dX11_bestOf_25 ?_
      refine fr_il1 dX11_bestOf_27 ?_
      refine fr_il2 dX11_bestOf_28 ?_
      refine fr_cVP (mi' := fmX11_layOrder) dX11_bestOf_29 mlX11_176 mvX11_layOrder ⟨11, _, ⟨by decide, by decide, rfl⟩, rfl, rfl⟩ (Nat.le_of_ble_eq_true rfl) (kcX11_layOrder (by rw [hw]; exact hI) (by omega)) rfl rfl (Nat.le_of_ble_eq_true rfl) (fun z1 m1 h1 => ?_)
      rw [hw] at h1
      obtain ⟨f70, hz1⟩ := h1
      have hw1 : m1 67 = μ 67 := (f70 67 (by decide)).trans hw
      rcases hz1 with ⟨ez, hv, hwho⟩ | ⟨rfl, hnv⟩
      · skip
        have hzr := sp_cr_rg (N := μ 67 0) (fun t => sp_dg_rg (μ 67 0) (j : Int) t) (μ 67 0).toNat
        rw [← ez] at hzr
        have hGr := sp_Gn_rg hI (j : Int)
        refine fr_is5 dX11_bestOf_32 rfl (Nat.le_of_ble_eq_true rfl) ?_
        refine fr_il5 dX11_bestOf_34 ?_
        refine fr_if_lt (tgt := 123) dX11_bestOf_36 (by decide) (by omega) (fun h3 => ?_) (fun h3 => ?_)
        · skip
          exfalso; omega
        · skip
          refine fr_al0 dX11_bestOf_39 ?_
          refine fr_il5 dX11_bestOf_40 ?_
          refine fr_cVi (mi' := fmX11_wagesOf) dX11_bestOf_42 mlX11_179 mvX11_wagesOf ⟨11, _, ⟨by decide, by decide, rfl⟩, rfl, rfl⟩ (Nat.le_of_ble_eq_true rfl) (kcX11_wagesOf (by rw [hw1]; exact iM)) rfl rfl (Nat.le_of_ble_eq_true rfl) ?_
          rw [hw1]
          refine fr_ineg dX11_bestOf_45 ?_
          refine fr_is6 dX11_bestOf_46 rfl (Nat.le_of_ble_eq_true rfl) ?_
          refine fr_iconst dX11_bestOf_48 ?_
          refine fr_is7 dX11_bestOf_49 rfl (Nat.le_of_ble_eq_true rfl) ?_
          refine fr_wk ?_ (ls := [some (fr_r κ 66), some (fr_i set), some (fr_i shut), some (fr_i x), some (fr_i (j : Int)), none, some (fr_i _), some (fr_i (0 : Int))]) ⟨rfl, rfl, rfl, rfl, rfl, rfl, rfl, trivial⟩
          refine (fr_down (P := fun i : Nat => ∀ (g : Int), (g = -sp_wg (μ 67) z1 + sp_sum i (fun t => sp_wt (μ 67) t (sp_dg (μ 67 0) j t))) → fr_A l κ fmX11_bestOf 6 (fr_Pi (fun z m => (∀ c, c ≠ 66 → c ≠ 70 → c ≠ 71 → m c = μ c) ∧ (∀ k, k ≠ 9 → m 66 k = μ 66 k) ∧ sp_bst (μ 67) set shut z (m 66 9))) 51 [some (fr_r κ 66), some (fr_i set), some (fr_i shut), some (fr_i x), some (fr_i (j : Int)), none, some (fr_i g), some (fr_i (i : Int))] [] m1) (μ 67 0).toNat ?_ (fun i hj51 ih51 => ?_)) _ (by simp [sp_sum])
          · skip
            intro g hg
            have hg9 : g = sp_Gn (μ 67) j := by rw [hg, ez]; rfl
            have hw10 : m1 67 0 = μ 67 0 := by rw [hw1]
            refine fr_il7 dX11_bestOf_51 ?_
            refine fr_al0 dX11_bestOf_53 ?_
            refine fr_getr (cz := 67) dX11_bestOf_54 flX11_7 ⟨by decide, by decide, rfl⟩ rfl rfl ?_
            refine fr_iconst dX11_bestOf_57 ?_
            refine fr_iald dX11_bestOf_58 ⟨by decide, by decide, rfl, by decide⟩ (by omega) (by omega) ?_
            refine fr_icmp_ge (tgt := 91) dX11_bestOf_59 (by decide) (by omega) (by omega) (fun h4 => ?_) (fun h4 => ?_)
            · skip
              refine fr_al0 dX11_bestOf_91 ?_
              refine fr_il6 dX11_bestOf_92 ?_
              refine fr_il3 dX11_bestOf_94 ?_
              refine fr_icmp_le (tgt := 103) dX11_bestOf_95 (by decide) (by omega) (by omega) (fun h5 => ?_) (fun h5 => ?_)
              · skip
                refine fr_al0 dX11_bestOf_103 ?_
                refine fr_geti (kz := 9) dX11_bestOf_104 flX11_170 ⟨by decide, by decide, rfl⟩ rfl rfl ?_
                refine fr_put (kz := 9) dX11_bestOf_107 fpX11_170 ⟨by decide, by decide, rfl⟩ rfl rfl (fun h => by cases h) ?_
                refine fr_il6 dX11_bestOf_110 ?_
                refine fr_il3 dX11_bestOf_112 ?_
                refine fr_icmp_le (tgt := 121) dX11_bestOf_113 (by decide) (by omega) (by omega) (fun h6 => ?_) (fun h6 => ?_)
                · skip
                  refine fr_il3 dX11_bestOf_121 ?_
                  refine fr_is3 dX11_bestOf_122 rfl (Nat.le_of_ble_eq_true rfl) ?_
                  refine fr_ii4 dX11_bestOf_123 rfl (Nat.le_of_ble_eq_true rfl) ?_
                  refine fr_goto (tgt := 15) dX11_bestOf_126 (by decide) ?_
                  exact fr_wk (ih15 _ _ (⟨fun c h1 h2 h3 => by rw [fr_up_nc _ _ _ h1, f70 c h2]; exact hm.1 c h1 h2 h3, fun k hk => by rw [fr_up_nk _ _ _ hk, f70 66 (by decide)]; exact hm.2.1 k hk, fun t c h0 h1 h2 h3 => by rw [fr_up_nc _ _ _ (by decide), f70 71 (by decide)]; exact hm.2.2.1 t c h0 h1 h2 h3, by rw [fr_up_eq, f70 66 (by decide)]; exact hm.2.2.2.no (by omega) (by omega)⟩)) ⟨rfl, rfl, rfl, rfl, rfl, trivial⟩
                · skip
                  exfalso; omega
              · skip
                refine fr_il4 dX11_bestOf_98 ?_
                refine fr_goto (tgt := 107) dX11_bestOf_100 (by decide) ?_
                refine fr_put (kz := 9) dX11_bestOf_107 fpX11_170 ⟨by decide, by decide, rfl⟩ rfl rfl (fun h => by cases h) ?_
                refine fr_il6 dX11_bestOf_110 ?_
                refine fr_il3 dX11_bestOf_112 ?_
                refine fr_icmp_le (tgt := 121) dX11_bestOf_113 (by decide) (by omega) (by omega) (fun h7 => ?_) (fun h7 => ?_)
                · skip
                  exfalso; omega
                · skip
                  refine fr_il6 dX11_bestOf_116 ?_
                  refine fr_goto (tgt := 122) dX11_bestOf_118 (by decide) ?_
                  refine fr_is3 dX11_bestOf_122 rfl (Nat.le_of_ble_eq_true rfl) ?_
                  refine fr_ii4 dX11_bestOf_123 rfl (Nat.le_of_ble_eq_true rfl) ?_
                  refine fr_goto (tgt := 15) dX11_bestOf_126 (by decide) ?_
                  exact fr_wk (ih15 _ _ (⟨fun c h1 h2 h3 => by rw [fr_up_nc _ _ _ h1, f70 c h2]; exact hm.1 c h1 h2 h3, fun k hk => by rw [fr_up_nk _ _ _ hk, f70 66 (by decide)]; exact hm.2.1 k hk, fun t c h0 h1 h2 h3 => by rw [fr_up_nc _ _ _ (by decide), f70 71 (by decide)]; exact hm.2.2.1 t c h0 h1 h2 h3, by rw [fr_up_eq, hg9]; exact hm.2.2.2.up (by omega) hv (by omega)⟩)) ⟨rfl, rfl, rfl, rfl, rfl, trivial⟩
            · skip
              exfalso; omega
          · skip
            intro g hg
            have e70 := hwho (i : Int) (by omega) (by omega)
            have d70 := sp_dg_rg (μ 67 0) (j : Int) (i : Int)
            have e71 : m1 71 (6 * (i : Int) + m1 70 i) = sp_wt (μ 67) i (sp_dg (μ 67 0) j i) := by rw [e70, f70 71 (by decide)]; exact hm.2.2.1 i _ (by omega) (by omega) d70.1 (by omega)
            have hw10 : m1 67 0 = μ 67 0 := by rw [hw1]
            refine fr_il7 dX11_bestOf_51 ?_
            refine fr_al0 dX11_bestOf_53 ?_
            refine fr_getr (cz := 67) dX11_bestOf_54 flX11_7 ⟨by decide, by decide, rfl⟩ rfl rfl ?_
            refine fr_iconst dX11_bestOf_57 ?_
            refine fr_iald dX11_bestOf_58 ⟨by decide, by decide, rfl, by decide⟩ (by omega) (by omega) ?_
            refine fr_icmp_ge (tgt := 91) dX11_bestOf_59 (by decide) (by omega) (by omega) (fun h8 => ?_) (fun h8 => ?_)
            · skip
              exfalso; omega
            · skip
              refine fr_il6 dX11_bestOf_62 ?_
              refine fr_al0 dX11_bestOf_64 ?_
              refine fr_getr (cz := 71) dX11_bestOf_65 flX11_22 ⟨by decide, by decide, rfl⟩ rfl rfl ?_
              refine fr_bipush dX11_bestOf_68 (by decide) ?_
              refine fr_il7 dX11_bestOf_70 ?_
              refine fr_imul dX11_bestOf_72 ?_
              refine fr_al0 dX11_bestOf_73 ?_
              refine fr_getr (cz := 70) dX11_bestOf_74 flX11_19 ⟨by decide, by decide, rfl⟩ rfl rfl ?_
              refine fr_il7 dX11_bestOf_77 ?_
              refine fr_iald dX11_bestOf_79 ⟨by decide, by decide, rfl, by decide⟩ (by omega) (by omega) ?_
              refine fr_iadd dX11_bestOf_80 ?_
              refine fr_iald dX11_bestOf_81 ⟨by decide, by decide, rfl, by decide⟩ (by omega) (by omega) ?_
              refine fr_iadd dX11_bestOf_82 ?_
              refine fr_is6 dX11_bestOf_83 rfl (Nat.le_of_ble_eq_true rfl) ?_
              refine fr_ii7 dX11_bestOf_85 rfl (Nat.le_of_ble_eq_true rfl) ?_
              refine fr_goto (tgt := 51) dX11_bestOf_88 (by decide) ?_
              exact fr_wk (ih51 _ (by rw [hg, e71, Int.add_assoc]; rfl)) ⟨rfl, rfl, rfl, rfl, rfl, rfl, rfl, trivial⟩
      · skip
        refine fr_is5 dX11_bestOf_32 rfl (Nat.le_of_ble_eq_true rfl) ?_
        refine fr_il5 dX11_bestOf_34 ?_
        refine fr_if_lt (tgt := 123) dX11_bestOf_36 (by decide) (by decide) (fun _ => ?_) (fun h9 => absurd h9 (by decide))
        refine fr_ii4 dX11_bestOf_123 rfl (Nat.le_of_ble_eq_true rfl) ?_
        refine fr_goto (tgt := 15) dX11_bestOf_126 (by decide) ?_
        exact fr_wk (ih15 _ _ (⟨fun c h1 h2 h3 => by rw [f70 c h2]; exact hm.1 c h1 h2 h3, fun k hk => by rw [f70 66 (by decide)]; exact hm.2.1 k hk, fun t c h0 h1 h2 h3 => by rw [f70 71 (by decide)]; exact hm.2.2.1 t c h0 h1 h2 h3, by rw [f70 66 (by decide)]; exact hm.2.2.2.skip hnv⟩)) ⟨rfl, rfl, rfl, rfl, rfl, trivial⟩
