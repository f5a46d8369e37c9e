/-! a commons' text: where its trees begin; whether one more is told of behind a tree -/
def sp_po (m : Int) (tp : Int → Int) (n : Int) : Nat → Int
  | 0 => 0
  | i + 1 => sp_skp tp n (sp_te m tp n (sp_po m tp n i)) + 1
def sp_se (m : Int) (tp : Int → Int) (n : Int) (i : Nat) : Int := sp_skp tp n (sp_te m tp n (sp_po m tp n i))
def sp_ok1 (m : Int) (tp : Int → Int) (n : Int) (i : Nat) : Prop := 0 ≤ sp_tk tp n (sp_po m tp n i)
def sp_cm (m : Int) (tp : Int → Int) (n : Int) (i : Nat) : Prop := sp_ok1 m tp n i ∧ sp_ch tp n (sp_se m tp n i) = 44
theorem sp_po_rg {m : Int} {tp : Int → Int} {n : Int} (hn : 0 ≤ n) : ∀ i : Nat, (∀ q, q < i → sp_cm m tp n q) → 0 ≤ sp_po m tp n i ∧ sp_po m tp n i ≤ n := by
  intro i
  induction i with
  | zero => intro _; exact ⟨Int.le_refl 0, hn⟩
  | succ i ih =>
    intro h
    have hi := ih (fun q hq => h q (by omega))
    have hc := h i (by omega)
    have ht := sp_te_rg (m := m) hi hc.1
    have hs := sp_skp_ok tp ht.2
    have hlt : sp_se m tp n i < n := by
      apply Classical.byContradiction
      intro hge
      have := hc.2
      unfold sp_ch at this
      rw [if_neg hge] at this
      omega
    have he : sp_po m tp n (i + 1) = sp_se m tp n i + 1 := rfl
    have he2 : sp_se m tp n i = sp_skp tp n (sp_te m tp n (sp_po m tp n i)) := rfl
    omega
/-- what has been read of the first cnt trees -/
def sp_rd (m : Int) (tp : Int → Int) (n : Int) (rt : Int → Int) (cnt : Nat) : Prop := ∀ q : Nat, q < cnt → rt (3 * (q : Int)) = sp_tk tp n (sp_po m tp n q) ∧ rt (3 * (q : Int) + 1) = sp_tl m tp n (sp_po m tp n q) ∧ rt (3 * (q : Int) + 2) = sp_tb m tp n (sp_po m tp n q)
def sp_out0 (m : Int) (tp : Int → Int) (n : Int) (i : Nat) (at' : Int) : Prop := (sp_tk tp n (sp_po m tp n i) < 0 ∧ at' = sp_r0 tp n (sp_po m tp n i)) ∨ (sp_ok1 m tp n i ∧ sp_se m tp n i < n ∧ (sp_ch tp n (sp_se m tp n i) ≠ 44 ∨ i = 5) ∧ at' = sp_se m tp n i)
theorem sp_ch_neg {tp : Int → Int} {n r : Int} (h : sp_let tp n) (hr : 0 ≤ r) : sp_ch tp n r < 0 ↔ n ≤ r := by
  unfold sp_ch
  split
  · have := h.2 r hr (by omega); omega
  · omega
def sp_addw (w : Int → Int) (k l b f g : Int) : Int → Int := sp_u (sp_u (sp_u (sp_u (sp_u (sp_u (sp_u (sp_u w (1 + w 0) k) (7 + w 0) 5) (13 + w 0) l) (19 + w 0) b) (25 + w 0) f) (31 + w 0) g) (37 + w 0) 0) 0 (w 0 + 1)
theorem sp_addm_67 (μ : fr_Me) (k l b f g : Int) : sp_addm μ k l b f g 67 = sp_addw (μ 67) k l b f g := by
  unfold sp_addm sp_addw
  simp only [fr_up_u]
theorem sp_addm_nc (μ : fr_Me) (k l b f g : Int) {c : Int} (h : c ≠ 67) : sp_addm μ k l b f g c = μ c := by unfold sp_addm; simp only [fr_up_nc _ _ _ h]
def sp_cw (m : Int) (tp : Int → Int) (n : Int) (w : Int → Int) : Nat → Int → Int
  | 0 => sp_u w 0 0
  | j + 1 => sp_addw (sp_cw m tp n w j) (sp_tk tp n (sp_po m tp n j)) (sp_tl m tp n (sp_po m tp n j)) (sp_tb m tp n (sp_po m tp n j)) 0 0
theorem sp_addw_0 (w : Int → Int) (k l b f g : Int) : sp_addw w k l b f g 0 = w 0 + 1 := by unfold sp_addw sp_u; simp
theorem sp_cw_0 (m : Int) (tp : Int → Int) (n : Int) (w : Int → Int) (j : Nat) : sp_cw m tp n w j 0 = j := by
  induction j with
  | zero => simp [sp_cw, sp_u]
  | succ j ih => simp only [sp_cw]; rw [sp_addw_0, ih]; omega
set_option maxRecDepth 20000 in
theorem kcX11_isCommons {l : Launch} {κ : fr_Ka} {μ : fr_Me} (hI : fr_I (μ 67)) {tp : Int → Int} {n : Int} (e1 : μ 68 = tp) (e2 : μ 66 3 = n) (hl : sp_let tp n)  : fr_C l κ fmX11_isCommons 5 [fr_r κ 66] μ (fr_Pi (fun z m => (∀ k, k ≠ 4 → k ≠ 5 → m 66 k = μ 66 k) ∧ (∀ c, c ≠ 66 → c ≠ 69 → m c = μ c) ∧ ∃ i : Nat, i < 6 ∧ (∀ q, q < i → sp_cm (μ 67 43) tp n q) ∧ ((z = 0 ∧ sp_out0 (μ 67 43) tp n i (m 66 4)) ∨ (z = 1 ∧ sp_ok1 (μ 67 43) tp n i ∧ sp_se (μ 67 43) tp n i = n ∧ m 66 5 = i + 1 ∧ sp_rd (μ 67 43) tp n (m 69) (i + 1))))) := by
  have iN := hI.n
  have iM := hI.many
  have hn := hl.1
  refine fr_enter (by decide +kernel) (ls := [some (fr_r κ 66), none]) rfl (Nat.le_of_ble_eq_true rfl) ?_
  refine fr_al0 dX11_isCommons_0 ?_
  refine fr_iconst dX11_isCommons_1 ?_
  refine fr_put (kz := 4) dX11_isCommons_2 fpX11_100 ⟨by decide, by decide, rfl⟩ rfl rfl (fun h => by cases h) ?_
  refine fr_al0 dX11_isCommons_5 ?_
  refine fr_iconst dX11_isCommons_6 ?_
  refine fr_put (kz := 5) dX11_isCommons_7 fpX11_111 ⟨by decide, by decide, rfl⟩ rfl rfl (fun h => by cases h) ?_
  refine fr_al0 dX11_isCommons_10 ?_
  refine fr_cVP (mi' := fmX11_takesTree) dX11_isCommons_11 mlX11_117 mvX11_takesTree ⟨11, _, ⟨by decide, by decide, rfl⟩, rfl, rfl⟩ (Nat.le_of_ble_eq_true rfl) (kcX11_takesTree (tp := tp) (n := n) (a := 0) (by simp only [fr_up_nc _ _ _ (by decide : (67 : Int) ≠ 66)]; exact hI) (by simp only [fr_up_nc _ _ _ (by decide : (68 : Int) ≠ 66)]; exact e1) (by simp [fr_up_get, e2]) (by simp [fr_up_get]) hl (by omega) (by simp [fr_up_get])) rfl rfl (Nat.le_of_ble_eq_true rfl) (fun z0 m0 hz0 => ?_)
  rcases hz0 with ⟨hk, rfl, rfl⟩ | ⟨hk, rfl, hrel⟩
  · skip
    refine fr_is1 dX11_isCommons_14 rfl (Nat.le_of_ble_eq_true rfl) ?_
    refine fr_il1 dX11_isCommons_15 ?_
    refine fr_if_eq (tgt := 55) dX11_isCommons_16 (by decide) (by decide) (fun _ => ?_) (fun h1 => absurd h1 (by decide))
    refine fr_il1 dX11_isCommons_55 ?_
    refine fr_if_eq (tgt := 70) dX11_isCommons_56 (by decide) (by decide) (fun _ => ?_) (fun h2 => absurd h2 (by decide))
    refine fr_iconst dX11_isCommons_70 ?_
    exact fr_zret dX11_isCommons_71 rfl (Or.inl rfl) (fr_pi ⟨fun k h1 h2 => by simp [fr_up_get, h1, h2], fun c h1 h2 => by simp only [fr_up_nc _ _ _ h1], 0, by decide, fun q hq => by omega, Or.inl ⟨rfl, Or.inl ⟨hk, fr_up_eq _ _ _ _⟩⟩⟩)
  · skip
    simp only [fr_up_nc _ _ _ (by decide : (67 : Int) ≠ 66)] at hrel
    obtain ⟨t4, t5, tk0, tl0, tb0, tf9, tf6, tfc⟩ := hrel
    have r5 : fr_up (fr_up μ 66 4 0) 66 5 0 66 5 = 0 := fr_up_eq _ _ _ _
    rw [r5] at t5 tk0 tl0 tb0 tf9
    refine fr_is1 dX11_isCommons_14 rfl (Nat.le_of_ble_eq_true rfl) ?_
    refine fr_wk ?_ (ls := [some (fr_r κ 66), some (fr_i 1)]) ⟨rfl, rfl, trivial⟩
    refine (fr_down (P := fun j : Nat => ∀ (m : fr_Me), (m 66 4 = sp_te (μ 67 43) tp n (sp_po (μ 67 43) tp n j) ∧ m 66 5 = j + 1 ∧ sp_ok1 (μ 67 43) tp n j ∧ (∀ q, q < j → sp_cm (μ 67 43) tp n q) ∧ sp_rd (μ 67 43) tp n (m 69) (j + 1) ∧ (∀ k, k ≠ 4 → k ≠ 5 → m 66 k = μ 66 k) ∧ (∀ c, c ≠ 66 → c ≠ 69 → m c = μ c)) → fr_A l κ fmX11_isCommons 5 (fr_Pi (fun z m => (∀ k, k ≠ 4 → k ≠ 5 → m 66 k = μ 66 k) ∧ (∀ c, c ≠ 66 → c ≠ 69 → m c = μ c) ∧ ∃ i : Nat, i < 6 ∧ (∀ q, q < i → sp_cm (μ 67 43) tp n q) ∧ ((z = 0 ∧ sp_out0 (μ 67 43) tp n i (m 66 4)) ∨ (z = 1 ∧ sp_ok1 (μ 67 43) tp n i ∧ sp_se (μ 67 43) tp n i = n ∧ m 66 5 = i + 1 ∧ sp_rd (μ 67 43) tp n (m 69) (i + 1))))) 15 [some (fr_r κ 66), some (fr_i 1)] [] m) 5 ?_ (fun j hj15 ih15 => ?_)) _ (⟨t4, by omega, hk, fun q hq => by omega, fun q hq => by (obtain rfl : q = 0 := by omega); exact ⟨tk0, tl0, tb0⟩, fun k h1 h2 => by rw [tf6 k h1 h2, fr_up_nk _ _ _ h2, fr_up_nk _ _ _ h1], fun c h1 h2 => by rw [tfc c h1 h2, fr_up_nc _ _ _ h1, fr_up_nc _ _ _ h1]⟩)
    · skip
      intro m hm
      obtain ⟨m4, m5, mok, mcm, mrd, mf6, mfc⟩ := hm
      have hpo := sp_po_rg hn.1 5 mcm
      have hte := sp_te_rg (m := μ 67 43) hpo mok
      have hse := sp_skp_ok tp hte.2
      have hsd : sp_se (μ 67 43) tp n 5 = sp_skp tp n (sp_te (μ 67 43) tp n (sp_po (μ 67 43) tp n 5)) := rfl
      have hch := sp_ch_rg hl (show 0 ≤ sp_se (μ 67 43) tp n 5 by omega)
      have hcn := sp_ch_neg hl (show 0 ≤ sp_se (μ 67 43) tp n 5 by omega)
      refine fr_il1 dX11_isCommons_15 ?_
      refine fr_if_eq (tgt := 55) dX11_isCommons_16 (by decide) (by decide) (fun h3 => absurd h3 (by decide)) (fun _ => ?_)
      refine fr_al0 dX11_isCommons_19 ?_
      refine fr_geti (kz := 5) dX11_isCommons_20 flX11_111 ⟨by decide, by decide, rfl⟩ rfl rfl ?_
      refine fr_bipush dX11_isCommons_23 (by decide) ?_
      refine fr_icmp_ge (tgt := 55) dX11_isCommons_25 (by decide) (by omega) (by omega) (fun h4 => ?_) (fun h4 => ?_)
      · skip
        refine fr_il1 dX11_isCommons_55 ?_
        refine fr_if_eq (tgt := 70) dX11_isCommons_56 (by decide) (by decide) (fun h5 => absurd h5 (by decide)) (fun _ => ?_)
        refine fr_al0 dX11_isCommons_59 ?_
        refine fr_cVi (mi' := fmX11_ahead) dX11_isCommons_60 mlX11_107 mvX11_ahead ⟨11, _, ⟨by decide, by decide, rfl⟩, rfl, rfl⟩ (Nat.le_of_ble_eq_true rfl) (kcX11_ahead (tp := tp) (n := n) (a := sp_te (μ 67 43) tp n (sp_po (μ 67 43) tp n 5)) (by rw [mfc 68 (by decide) (by decide)]; exact e1) (by rw [mf6 3 (by decide) (by decide)]; exact e2) m4 hl (by omega)) rfl rfl (Nat.le_of_ble_eq_true rfl) ?_
        rw [show sp_skp tp n (sp_te (μ 67 43) tp n (sp_po (μ 67 43) tp n 5)) = sp_se (μ 67 43) tp n 5 from rfl]
        refine fr_if_ge (tgt := 70) dX11_isCommons_63 (by decide) (by omega) (fun h6 => ?_) (fun h6 => ?_)
        · skip
          refine fr_iconst dX11_isCommons_70 ?_
          exact fr_zret dX11_isCommons_71 rfl (Or.inl rfl) (fr_pi ⟨fun k h1 h2 => by simp only [fr_up_nk _ _ _ h1]; exact mf6 k h1 h2, fun c h1 h2 => by simp only [fr_up_nc _ _ _ h1]; exact mfc c h1 h2, 5, by omega, mcm, Or.inl ⟨rfl, Or.inr ⟨mok, by omega, Or.inr rfl, fr_up_eq _ _ _ _⟩⟩⟩)
        · skip
          refine fr_iconst dX11_isCommons_66 ?_
          refine fr_goto (tgt := 71) dX11_isCommons_67 (by decide) ?_
          exact fr_zret dX11_isCommons_71 rfl (Or.inr rfl) (fr_pi ⟨fun k h1 h2 => by simp only [fr_up_nk _ _ _ h1]; exact mf6 k h1 h2, fun c h1 h2 => by simp only [fr_up_nc _ _ _ h1]; exact mfc c h1 h2, 5, by omega, mcm, Or.inr ⟨rfl, mok, by omega, by rw [fr_up_nk _ _ _ (by decide)]; exact m5, fun q hq => by simp only [fr_up_nc _ _ _ (by decide : (69 : Int) ≠ 66)]; exact mrd q hq⟩⟩)
      · skip
        exfalso; omega
    · skip
      intro m hm
      obtain ⟨m4, m5, mok, mcm, mrd, mf6, mfc⟩ := hm
      have hpo := sp_po_rg hn.1 j mcm
      have hte := sp_te_rg (m := μ 67 43) hpo mok
      have hse := sp_skp_ok tp hte.2
      have hsd : sp_se (μ 67 43) tp n j = sp_skp tp n (sp_te (μ 67 43) tp n (sp_po (μ 67 43) tp n j)) := rfl
      have hch := sp_ch_rg hl (show 0 ≤ sp_se (μ 67 43) tp n j by omega)
      have hcn := sp_ch_neg hl (show 0 ≤ sp_se (μ 67 43) tp n j by omega)
      refine fr_il1 dX11_isCommons_15 ?_
      refine fr_if_eq (tgt := 55) dX11_isCommons_16 (by decide) (by decide) (fun h7 => absurd h7 (by decide)) (fun _ => ?_)
      refine fr_al0 dX11_isCommons_19 ?_
      refine fr_geti (kz := 5) dX11_isCommons_20 flX11_111 ⟨by decide, by decide, rfl⟩ rfl rfl ?_
      refine fr_bipush dX11_isCommons_23 (by decide) ?_
      refine fr_icmp_ge (tgt := 55) dX11_isCommons_25 (by decide) (by omega) (by omega) (fun h8 => ?_) (fun h8 => ?_)
      · skip
        exfalso; omega
      · skip
        refine fr_al0 dX11_isCommons_28 ?_
        refine fr_cVi (mi' := fmX11_ahead) dX11_isCommons_29 mlX11_107 mvX11_ahead ⟨11, _, ⟨by decide, by decide, rfl⟩, rfl, rfl⟩ (Nat.le_of_ble_eq_true rfl) (kcX11_ahead (tp := tp) (n := n) (a := sp_te (μ 67 43) tp n (sp_po (μ 67 43) tp n j)) (by rw [mfc 68 (by decide) (by decide)]; exact e1) (by rw [mf6 3 (by decide) (by decide)]; exact e2) m4 hl (by omega)) rfl rfl (Nat.le_of_ble_eq_true rfl) ?_
        rw [show sp_skp tp n (sp_te (μ 67 43) tp n (sp_po (μ 67 43) tp n j)) = sp_se (μ 67 43) tp n j from rfl]
        refine fr_bipush dX11_isCommons_32 (by decide) ?_
        refine fr_icmp_ne (tgt := 55) dX11_isCommons_34 (by decide) (by omega) (by omega) (fun h9 => ?_) (fun h9 => ?_)
        · skip
          refine fr_il1 dX11_isCommons_55 ?_
          refine fr_if_eq (tgt := 70) dX11_isCommons_56 (by decide) (by decide) (fun h10 => absurd h10 (by decide)) (fun _ => ?_)
          refine fr_al0 dX11_isCommons_59 ?_
          refine fr_cVi (mi' := fmX11_ahead) dX11_isCommons_60 mlX11_107 mvX11_ahead ⟨11, _, ⟨by decide, by decide, rfl⟩, rfl, rfl⟩ (Nat.le_of_ble_eq_true rfl) (kcX11_ahead (tp := tp) (n := n) (a := sp_se (μ 67 43) tp n j) (by rw [fr_up_nc _ _ _ (by decide), mfc 68 (by decide) (by decide)]; exact e1) (by rw [fr_up_nk _ _ _ (by decide), mf6 3 (by decide) (by decide)]; exact e2) (fr_up_eq _ _ _ _) hl (by omega)) rfl rfl (Nat.le_of_ble_eq_true rfl) ?_
          rw [show sp_skp tp n (sp_se (μ 67 43) tp n j) = sp_se (μ 67 43) tp n j from sp_skp_idem tp hte.2, fr_up_up]
          refine fr_if_ge (tgt := 70) dX11_isCommons_63 (by decide) (by omega) (fun h11 => ?_) (fun h11 => ?_)
          · skip
            refine fr_iconst dX11_isCommons_70 ?_
            exact fr_zret dX11_isCommons_71 rfl (Or.inl rfl) (fr_pi ⟨fun k h1 h2 => by simp only [fr_up_nk _ _ _ h1]; exact mf6 k h1 h2, fun c h1 h2 => by simp only [fr_up_nc _ _ _ h1]; exact mfc c h1 h2, j, by omega, mcm, Or.inl ⟨rfl, Or.inr ⟨mok, by omega, Or.inl (by assumption), fr_up_eq _ _ _ _⟩⟩⟩)
          · skip
            refine fr_iconst dX11_isCommons_66 ?_
            refine fr_goto (tgt := 71) dX11_isCommons_67 (by decide) ?_
            exact fr_zret dX11_isCommons_71 rfl (Or.inr rfl) (fr_pi ⟨fun k h1 h2 => by simp only [fr_up_nk _ _ _ h1]; exact mf6 k h1 h2, fun c h1 h2 => by simp only [fr_up_nc _ _ _ h1]; exact mfc c h1 h2, j, by omega, mcm, Or.inr ⟨rfl, mok, by omega, by rw [fr_up_nk _ _ _ (by decide)]; exact m5, fun q hq => by simp only [fr_up_nc _ _ _ (by decide : (69 : Int) ≠ 66)]; exact mrd q hq⟩⟩)
        · skip
          refine fr_al0 dX11_isCommons_37 ?_
          refine fr_dup dX11_isCommons_38 rfl ?_
          refine fr_geti (kz := 4) dX11_isCommons_39 flX11_100 ⟨by decide, by decide, rfl⟩ rfl rfl ?_
          refine fr_iconst dX11_isCommons_42 ?_
          refine fr_iadd dX11_isCommons_43 ?_
          refine fr_put (kz := 4) dX11_isCommons_44 fpX11_100 ⟨by decide, by decide, rfl⟩ rfl rfl (fun h => by cases h) ?_
          have hlt : sp_se (μ 67 43) tp n j < n := by omega
          refine fr_al0 dX11_isCommons_47 ?_
          refine fr_cVP (mi' := fmX11_takesTree) dX11_isCommons_48 mlX11_117 mvX11_takesTree ⟨11, _, ⟨by decide, by decide, rfl⟩, rfl, rfl⟩ (Nat.le_of_ble_eq_true rfl) (kcX11_takesTree (tp := tp) (n := n) (a := sp_se (μ 67 43) tp n j + 1) (by simp only [fr_up_nc _ _ _ (by decide : (67 : Int) ≠ 66), mfc 67 (by decide) (by decide)]; exact hI) (by simp only [fr_up_nc _ _ _ (by decide : (68 : Int) ≠ 66), mfc 68 (by decide) (by decide)]; exact e1) (by rw [fr_up_nk _ _ _ (by decide), fr_up_nk _ _ _ (by decide), mf6 3 (by decide) (by decide)]; exact e2) (by rw [fr_up_eq, fr_up_eq]) hl (by omega) (by rw [fr_up_nk _ _ _ (by decide), fr_up_nk _ _ _ (by decide), m5]; omega)) rfl rfl (Nat.le_of_ble_eq_true rfl) (fun z0 m0 hz0 => ?_)
          rcases hz0 with ⟨hk, rfl, rfl⟩ | ⟨hk, rfl, hrel⟩
          · skip
            have hcs : ∀ q, q < j + 1 → sp_cm (μ 67 43) tp n q := fun q hq => (by omega : q < j ∨ q = j).elim (mcm q) (fun e => by subst e; exact ⟨mok, by assumption⟩)
            refine fr_is1 dX11_isCommons_51 rfl (Nat.le_of_ble_eq_true rfl) ?_
            refine fr_goto (tgt := 15) dX11_isCommons_52 (by decide) ?_
            refine fr_il1 dX11_isCommons_15 ?_
            refine fr_if_eq (tgt := 55) dX11_isCommons_16 (by decide) (by decide) (fun _ => ?_) (fun h12 => absurd h12 (by decide))
            refine fr_il1 dX11_isCommons_55 ?_
            refine fr_if_eq (tgt := 70) dX11_isCommons_56 (by decide) (by decide) (fun _ => ?_) (fun h13 => absurd h13 (by decide))
            refine fr_iconst dX11_isCommons_70 ?_
            exact fr_zret dX11_isCommons_71 rfl (Or.inl rfl) (fr_pi ⟨fun k h1 h2 => by simp only [fr_up_nk _ _ _ h1]; exact mf6 k h1 h2, fun c h1 h2 => by simp only [fr_up_nc _ _ _ h1]; exact mfc c h1 h2, j + 1, by omega, hcs, Or.inl ⟨rfl, Or.inl ⟨hk, fr_up_eq _ _ _ _⟩⟩⟩)
          · skip
            have hcs : ∀ q, q < j + 1 → sp_cm (μ 67 43) tp n q := fun q hq => (by omega : q < j ∨ q = j).elim (mcm q) (fun e => by subst e; exact ⟨mok, by assumption⟩)
            simp only [fr_up_nc _ _ _ (by decide : (67 : Int) ≠ 66), mfc 67 (by decide) (by decide)] at hrel
            obtain ⟨t4, t5, tk0, tl0, tb0, tf9, tf6, tfc⟩ := hrel
            have r5 : fr_up (fr_up m 66 4 (sp_se (μ 67 43) tp n j)) 66 4 (fr_up m 66 4 (sp_se (μ 67 43) tp n j) 66 4 + 1) 66 5 = j + 1 := by rw [fr_up_nk _ _ _ (by decide), fr_up_nk _ _ _ (by decide)]; exact m5
            rw [r5] at t5 tk0 tl0 tb0 tf9
            refine fr_is1 dX11_isCommons_51 rfl (Nat.le_of_ble_eq_true rfl) ?_
            refine fr_goto (tgt := 15) dX11_isCommons_52 (by decide) ?_
            exact fr_wk (ih15 _ (⟨t4, by omega, hk, hcs, fun q hq => (by omega : q < j + 1 ∨ q = j + 1).elim (fun h => by rw [tf9 _ (by omega), tf9 _ (by omega), tf9 _ (by omega)]; simp only [fr_up_nc _ _ _ (by decide : (69 : Int) ≠ 66)]; exact mrd q h) (fun h => by subst h; exact ⟨tk0, tl0, tb0⟩), fun k h1 h2 => by rw [tf6 k h1 h2, fr_up_nk _ _ _ h1, fr_up_nk _ _ _ h1]; exact mf6 k h1 h2, fun c h1 h2 => by rw [tfc c h1 h2, fr_up_nc _ _ _ h1, fr_up_nc _ _ _ h1]; exact mfc c h1 h2⟩)) ⟨rfl, rfl, trivial⟩
set_option maxRecDepth 20000 in
theorem kcX11_commons {l : Launch} {κ : fr_Ka} {μ : fr_Me} (hI : fr_I (μ 67)) {tp : Int → Int} {n : Int} (e1 : μ 68 = tp) (e2 : μ 66 3 = n) (hl : sp_let tp n)  : fr_C l κ fmX11_commons 6 [fr_r κ 66] μ (fr_Pi (fun z m => (∀ k, k ≠ 3 → k ≠ 4 → k ≠ 5 → m 66 k = μ 66 k) ∧ m 66 3 = 0 ∧ (∀ c, c ≠ 66 → c ≠ 67 → c ≠ 69 → m c = μ c) ∧ ∃ i : Nat, i < 6 ∧ (∀ q, q < i → sp_cm (μ 67 43) tp n q) ∧ ((∃ at9, sp_out0 (μ 67 43) tp n i at9 ∧ z = -20 - at9 ∧ m 67 = μ 67) ∨ (sp_ok1 (μ 67 43) tp n i ∧ sp_se (μ 67 43) tp n i = n ∧ z = i + 1 ∧ m 67 = sp_cw (μ 67 43) tp n (μ 67) (i + 1))))) := by
  have iN := hI.n
  have iM := hI.many
  have hn := hl.1
  refine fr_enter (by decide +kernel) (ls := [some (fr_r κ 66), none, none, none]) rfl (Nat.le_of_ble_eq_true rfl) ?_
  refine fr_al0 dX11_commons_0 ?_
  refine fr_cVP (mi' := fmX11_isCommons) dX11_commons_1 mlX11_121 mvX11_isCommons ⟨11, _, ⟨by decide, by decide, rfl⟩, rfl, rfl⟩ (Nat.le_of_ble_eq_true rfl) (kcX11_isCommons hI e1 e2 hl) rfl rfl (Nat.le_of_ble_eq_true rfl) (fun z0 m0 hz0 => ?_)
  obtain ⟨f6, fc, i, hi6, hcm, hz0⟩ := hz0
  rcases hz0 with ⟨rfl, ho⟩ | ⟨rfl, hok, hse, h5, hrd⟩
  · skip
    have hat : 0 ≤ m0 66 4 ∧ m0 66 4 ≤ n := by have hpo := sp_po_rg hn.1 i hcm; rcases ho with ⟨_, e⟩ | ⟨ho1, ho2, _, e⟩; (· rw [e]; have := sp_r0_rg tp hpo.2; omega); (· have ht := sp_te_rg (m := μ 67 43) hpo ho1; have hs := sp_skp_ok tp ht.2; rw [e]; unfold sp_se at ho2 ⊢; omega)
    refine fr_is1 dX11_commons_4 rfl (Nat.le_of_ble_eq_true rfl) ?_
    refine fr_al0 dX11_commons_5 ?_
    refine fr_iconst dX11_commons_6 ?_
    refine fr_put (kz := 3) dX11_commons_7 fpX11_96 ⟨by decide, by decide, rfl⟩ rfl rfl (fun h => by cases h) ?_
    refine fr_il1 dX11_commons_10 ?_
    refine fr_if_ne (tgt := 22) dX11_commons_11 (by decide) (by decide) (fun h1 => absurd h1 (by decide)) (fun _ => ?_)
    refine fr_bipush dX11_commons_14 (by decide) ?_
    refine fr_al0 dX11_commons_16 ?_
    refine fr_geti (kz := 4) dX11_commons_17 flX11_100 ⟨by decide, by decide, rfl⟩ rfl rfl ?_
    refine fr_isub dX11_commons_20 ?_
    exact fr_iret dX11_commons_21 rfl (fr_pi ⟨fun k h1 h2 h3 => by rw [fr_up_nk _ _ _ h1]; exact f6 k h2 h3, fr_up_eq _ _ _ _, fun c h1 h2 h3 => by rw [fr_up_nc _ _ _ h1]; exact fc c h1 h3, i, hi6, hcm, Or.inl ⟨m0 66 4, ho, by rw [fr_up_nk _ _ _ (by decide)], by rw [fr_up_nc _ _ _ (by decide)]; exact fc 67 (by decide) (by decide)⟩⟩)
  · skip
    refine fr_is1 dX11_commons_4 rfl (Nat.le_of_ble_eq_true rfl) ?_
    refine fr_al0 dX11_commons_5 ?_
    refine fr_iconst dX11_commons_6 ?_
    refine fr_put (kz := 3) dX11_commons_7 fpX11_96 ⟨by decide, by decide, rfl⟩ rfl rfl (fun h => by cases h) ?_
    refine fr_il1 dX11_commons_10 ?_
    refine fr_if_ne (tgt := 22) dX11_commons_11 (by decide) (by decide) (fun _ => ?_) (fun h2 => absurd h2 (by decide))
    refine fr_al0 dX11_commons_22 ?_
    refine fr_getr (cz := 67) dX11_commons_23 flX11_7 ⟨by decide, by decide, rfl⟩ rfl rfl ?_
    refine fr_iconst dX11_commons_26 ?_
    refine fr_iconst dX11_commons_27 ?_
    refine fr_iast dX11_commons_28 ⟨by decide, by decide, rfl, by decide⟩ (by omega) (by omega) ?_
    refine fr_iconst dX11_commons_29 ?_
    refine fr_is2 dX11_commons_30 rfl (Nat.le_of_ble_eq_true rfl) ?_
    refine fr_iconst dX11_commons_31 ?_
    refine fr_is3 dX11_commons_32 rfl (Nat.le_of_ble_eq_true rfl) ?_
    refine fr_wk ?_ (ls := [some (fr_r κ 66), none, some (fr_i ((0 : Int) - 1)), some (fr_i (0 : Int))]) ⟨rfl, rfl, rfl, trivial⟩
    refine (fr_down (P := fun j : Nat => ∀ (m : fr_Me), (m 67 = sp_cw (μ 67 43) tp n (μ 67) j ∧ ∀ c, c ≠ 67 → m c = fr_up m0 66 3 0 c) → fr_A l κ fmX11_commons 6 (fr_Pi (fun z m => (∀ k, k ≠ 3 → k ≠ 4 → k ≠ 5 → m 66 k = μ 66 k) ∧ m 66 3 = 0 ∧ (∀ c, c ≠ 66 → c ≠ 67 → c ≠ 69 → m c = μ c) ∧ ∃ i : Nat, i < 6 ∧ (∀ q, q < i → sp_cm (μ 67 43) tp n q) ∧ ((∃ at9, sp_out0 (μ 67 43) tp n i at9 ∧ z = -20 - at9 ∧ m 67 = μ 67) ∨ (sp_ok1 (μ 67 43) tp n i ∧ sp_se (μ 67 43) tp n i = n ∧ z = i + 1 ∧ m 67 = sp_cw (μ 67 43) tp n (μ 67) (i + 1))))) 33 [some (fr_r κ 66), none, some (fr_i ((j : Int) - 1)), some (fr_i (j : Int))] [] m) (i + 1) ?_ (fun j hj33 ih33 => ?_)) _ (⟨by rw [fr_up_u, fr_up_nc _ _ _ (by decide), fc 67 (by decide) (by decide)]; rfl, fun c hc => fr_up_nc _ _ _ hc⟩)
    · skip
      intro m hm
      obtain ⟨mw, mf⟩ := hm
      have g5 : m 66 5 = i + 1 := by rw [mf 66 (by decide), fr_up_nk _ _ _ (by decide)]; exact h5
      have gN := sp_cw_0 (μ 67 43) tp n (μ 67) (i + 1)
      refine fr_il3 dX11_commons_33 ?_
      refine fr_al0 dX11_commons_34 ?_
      refine fr_geti (kz := 5) dX11_commons_35 flX11_111 ⟨by decide, by decide, rfl⟩ rfl rfl ?_
      refine fr_icmp_ge (tgt := 82) dX11_commons_38 (by decide) (by omega) (by omega) (fun h3 => ?_) (fun h3 => ?_)
      · skip
        refine fr_il2 dX11_commons_82 ?_
        refine fr_iconst dX11_commons_83 ?_
        refine fr_iadd dX11_commons_84 ?_
        exact fr_iret dX11_commons_85 rfl (fr_pi ⟨fun k h1 h2 h3 => by rw [mf 66 (by decide), fr_up_nk _ _ _ h1]; exact f6 k h2 h3, by rw [mf 66 (by decide)]; exact fr_up_eq _ _ _ _, fun c h1 h2 h3 => by rw [mf c h2, fr_up_nc _ _ _ h1]; exact fc c h1 h3, i, hi6, hcm, Or.inr ⟨hok, hse, by omega, mw⟩⟩)
      · skip
        exfalso; omega
    · skip
      intro m hm
      obtain ⟨mw, mf⟩ := hm
      have g5 : m 66 5 = i + 1 := by rw [mf 66 (by decide), fr_up_nk _ _ _ (by decide)]; exact h5
      have gN := sp_cw_0 (μ 67 43) tp n (μ 67) j
      refine fr_il3 dX11_commons_33 ?_
      refine fr_al0 dX11_commons_34 ?_
      refine fr_geti (kz := 5) dX11_commons_35 flX11_111 ⟨by decide, by decide, rfl⟩ rfl rfl ?_
      refine fr_icmp_ge (tgt := 82) dX11_commons_38 (by decide) (by omega) (by omega) (fun h4 => ?_) (fun h4 => ?_)
      · skip
        exfalso; omega
      · skip
        refine fr_al0 dX11_commons_41 ?_
        refine fr_al0 dX11_commons_42 ?_
        refine fr_getr (cz := 69) dX11_commons_43 flX11_16 ⟨by decide, by decide, rfl⟩ rfl rfl ?_
        refine fr_iconst dX11_commons_46 ?_
        refine fr_il3 dX11_commons_47 ?_
        refine fr_imul dX11_commons_48 ?_
        have g9 : m 69 = m0 69 := by rw [mf 69 (by decide), fr_up_nc _ _ _ (by decide)]
        have hr9 := hrd j (by omega)
        rw [← g9] at hr9
        refine fr_iald dX11_commons_49 ⟨by decide, by decide, rfl, by decide⟩ (by omega) (by omega) ?_
        refine fr_al0 dX11_commons_50 ?_
        refine fr_getr (cz := 69) dX11_commons_51 flX11_16 ⟨by decide, by decide, rfl⟩ rfl rfl ?_
        refine fr_iconst dX11_commons_54 ?_
        refine fr_il3 dX11_commons_55 ?_
        refine fr_imul dX11_commons_56 ?_
        refine fr_iconst dX11_commons_57 ?_
        refine fr_iadd dX11_commons_58 ?_
        refine fr_iald dX11_commons_59 ⟨by decide, by decide, rfl, by decide⟩ (by omega) (by omega) ?_
        refine fr_al0 dX11_commons_60 ?_
        refine fr_getr (cz := 69) dX11_commons_61 flX11_16 ⟨by decide, by decide, rfl⟩ rfl rfl ?_
        refine fr_iconst dX11_commons_64 ?_
        refine fr_il3 dX11_commons_65 ?_
        refine fr_imul dX11_commons_66 ?_
        refine fr_iconst dX11_commons_67 ?_
        refine fr_iadd dX11_commons_68 ?_
        refine fr_iald dX11_commons_69 ⟨by decide, by decide, rfl, by decide⟩ (by omega) (by omega) ?_
        refine fr_iconst dX11_commons_70 ?_
        refine fr_iconst dX11_commons_71 ?_
        refine fr_cVi (mi' := fmX11_add) dX11_commons_72 mlX11_57 mvX11_add ⟨11, _, ⟨by decide, by decide, rfl⟩, rfl, rfl⟩ (Nat.le_of_ble_eq_true rfl) (kcX11_add (by rw [mw, sp_cw_0]; omega)) rfl rfl (Nat.le_of_ble_eq_true rfl) ?_
        refine fr_is2 dX11_commons_75 rfl (Nat.le_of_ble_eq_true rfl) ?_
        refine fr_ii3 dX11_commons_76 rfl (Nat.le_of_ble_eq_true rfl) ?_
        refine fr_goto (tgt := 33) dX11_commons_79 (by decide) ?_
        rw [show m 67 0 = ((j + 1 : Nat) : Int) - 1 by rw [mw, sp_cw_0]; omega, hr9.1, hr9.2.1, hr9.2.2]
        exact fr_wk (ih33 _ (⟨by rw [sp_addm_67, mw]; rfl, fun c hc => by rw [sp_addm_nc _ _ _ _ _ _ hc]; exact mf c hc⟩)) ⟨rfl, rfl, rfl, trivial⟩
