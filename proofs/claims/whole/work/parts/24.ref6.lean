/-! texts: the place behind blanks; the letter there; kinds, climbers by letters; a tree's text from place a on -/
def sp_sk (tp : Int → Int) (n : Int) : Nat → Int → Int
  | 0, a => a
  | k + 1, a => if a < n ∧ tp a = 32 then sp_sk tp n k (a + 1) else a
def sp_skp (tp : Int → Int) (n a : Int) : Int := sp_sk tp n (n - a).toNat a
theorem sp_sk_ok (tp : Int → Int) (n : Int) : ∀ (k : Nat) (a : Int), a ≤ n → n - a ≤ k → a ≤ sp_sk tp n k a ∧ sp_sk tp n k a ≤ n ∧ (∀ x, a ≤ x → x < sp_sk tp n k a → tp x = 32) ∧ (sp_sk tp n k a < n → tp (sp_sk tp n k a) ≠ 32) := by
  intro k
  induction k with
  | zero =>
    intro a h1 h2
    simp only [sp_sk]
    exact ⟨by omega, by omega, fun x _ _ => by omega, fun h => by omega⟩
  | succ k ih =>
    intro a h1 h2
    simp only [sp_sk]
    split
    · rename_i hc
      obtain ⟨g1, g2, g3, g4⟩ := ih (a + 1) (by omega) (by omega)
      refine ⟨by omega, g2, fun x x0 x1 => ?_, g4⟩
      by_cases hx : x = a
      · rw [hx]; exact hc.2
      · exact g3 x (by omega) x1
    · rename_i hc
      exact ⟨by omega, h1, fun x _ _ => by omega, fun h e => hc ⟨h, e⟩⟩
theorem sp_skp_ok (tp : Int → Int) {n a : Int} (h : a ≤ n) : a ≤ sp_skp tp n a ∧ sp_skp tp n a ≤ n ∧ (∀ x, a ≤ x → x < sp_skp tp n a → tp x = 32) ∧ (sp_skp tp n a < n → tp (sp_skp tp n a) ≠ 32) := sp_sk_ok tp n _ a h (by omega)
theorem sp_skp_idem (tp : Int → Int) {n a : Int} (h : a ≤ n) : sp_skp tp n (sp_skp tp n a) = sp_skp tp n a := by
  obtain ⟨h1, h2, h3, h4⟩ := sp_skp_ok tp h
  obtain ⟨g1, g2, g3, g4⟩ := sp_skp_ok tp h2
  apply Classical.byContradiction
  intro hne
  exact h4 (by omega) (g3 _ (Int.le_refl _) (by omega))
def sp_ch (tp : Int → Int) (n r : Int) : Int := if r < n then tp r else -1
def sp_kd (c : Int) : Int := if c = 80 then 0 else if c = 71 then 1 else if c = 68 then 2 else if c = 83 then 3 else -1
def sp_wh (m c : Int) : Int := if c = 102 then 5 else if (97 ≤ c ∧ c ≤ 101) ∧ c - 97 < m then c - 97 else -1
theorem sp_wh_rg {m : Int} (hm : 0 ≤ m ∧ m ≤ 5) (c : Int) : -1 ≤ sp_wh m c ∧ sp_wh m c ≤ 5 := by unfold sp_wh; (repeat' split) <;> omega
def sp_r0 (tp : Int → Int) (n a : Int) : Int := sp_skp tp n a
def sp_r1 (tp : Int → Int) (n a : Int) : Int := sp_skp tp n (sp_r0 tp n a + 1)
def sp_r2 (tp : Int → Int) (n a : Int) : Int := sp_skp tp n (sp_r1 tp n a + 1)
def sp_tk (tp : Int → Int) (n a : Int) : Int := sp_kd (sp_ch tp n (sp_r0 tp n a))
def sp_u1 (m : Int) (tp : Int → Int) (n a : Int) : Int := sp_wh m (sp_ch tp n (sp_r1 tp n a))
def sp_u2 (m : Int) (tp : Int → Int) (n a : Int) : Int := sp_wh m (sp_ch tp n (sp_r2 tp n a))
def sp_tl (m : Int) (tp : Int → Int) (n a : Int) : Int := if sp_u1 m tp n a < 0 then 5 else sp_u1 m tp n a
def sp_tb (m : Int) (tp : Int → Int) (n a : Int) : Int := if sp_u1 m tp n a < 0 then 5 else if sp_u2 m tp n a < 0 then 5 else sp_u2 m tp n a
def sp_te (m : Int) (tp : Int → Int) (n a : Int) : Int := if sp_u1 m tp n a < 0 then sp_r1 tp n a else if sp_u2 m tp n a < 0 then sp_r2 tp n a else sp_r2 tp n a + 1
/-- letters as they may be typed -/
def sp_let (tp : Int → Int) (n : Int) : Prop := (0 ≤ n ∧ n ≤ 60) ∧ ∀ k, 0 ≤ k → k < n → 32 ≤ tp k ∧ tp k ≤ 126
theorem sp_ch_rg {tp : Int → Int} {n r : Int} (h : sp_let tp n) (hr : 0 ≤ r) : -1 ≤ sp_ch tp n r ∧ sp_ch tp n r ≤ 126 := by
  unfold sp_ch
  split
  · have := h.2 r hr (by omega); omega
  · omega
theorem fr_up_self (μ : fr_Me) (c k : Int) : fr_up μ c k (μ c k) = μ := by
  funext c' k'
  simp only [fr_up]
  split
  · rename_i h; rw [h.1, h.2]
  · rfl
theorem fr_up_up (μ : fr_Me) (c k z z' : Int) : fr_up (fr_up μ c k z) c k z' = fr_up μ c k z' := by
  funext c' k'
  simp only [fr_up]
  split <;> rfl
set_option maxRecDepth 20000 in
theorem kcX11_ahead {l : Launch} {κ : fr_Ka} {μ : fr_Me} {tp : Int → Int} {n a : Int} (e1 : μ 68 = tp) (e2 : μ 66 3 = n) (e3 : μ 66 4 = a) (hl : sp_let tp n) (ha : 0 ≤ a ∧ a ≤ n)  : fr_C l κ fmX11_ahead 1 [fr_r κ 66] μ (fr_Ei (sp_ch tp n (sp_skp tp n a)) (fr_up μ 66 4 (sp_skp tp n a))) := by
  obtain ⟨q1, q2, q3, q4⟩ := sp_skp_ok tp ha.2
  have hn := hl.1
  refine fr_enter (by decide +kernel) (ls := [some (fr_r κ 66)]) rfl (Nat.le_of_ble_eq_true rfl) ?_
  refine fr_mu (μ' := fr_up μ 66 4 (a + ((0 : Nat) : Int))) (by rw [show a + ((0 : Nat) : Int) = μ 66 4 by omega]; exact fr_up_self μ 66 4) ?_
  refine fr_wk ?_ (ls := [some (fr_r κ 66)]) ⟨rfl, trivial⟩
  refine fr_down (P := fun j : Nat => fr_A l κ fmX11_ahead 1 (fr_Ei (sp_ch tp n (sp_skp tp n a)) (fr_up μ 66 4 (sp_skp tp n a))) 0 [some (fr_r κ 66)] [] (fr_up μ 66 4 (a + (j : Int)))) (sp_skp tp n a - a).toNat ?_ (fun j hj0 ih0 => ?_)
  · skip
    have ej : a + (((sp_skp tp n a - a).toNat : Nat) : Int) = sp_skp tp n a := by omega
    rw [ej]
    have g1 : fr_up μ 66 4 (sp_skp tp n a) 66 4 = sp_skp tp n a := fr_up_eq _ _ _ _
    have g2 : fr_up μ 66 4 (sp_skp tp n a) 66 3 = n := by rw [fr_up_nk _ _ _ (by decide)]; exact e2
    have g3 : fr_up μ 66 4 (sp_skp tp n a) 68 (sp_skp tp n a) = tp (sp_skp tp n a) := by rw [fr_up_nc _ _ _ (by decide), e1]
    have g4 : sp_skp tp n a < n → 32 ≤ tp (sp_skp tp n a) ∧ tp (sp_skp tp n a) ≤ 126 := fun h => hl.2 _ (by omega) h
    refine fr_al0 dX11_ahead_0 ?_
    refine fr_geti (kz := 4) dX11_ahead_1 flX11_100 ⟨by decide, by decide, rfl⟩ rfl rfl ?_
    refine fr_al0 dX11_ahead_4 ?_
    refine fr_geti (kz := 3) dX11_ahead_5 flX11_96 ⟨by decide, by decide, rfl⟩ rfl rfl ?_
    rw [g1, g2]
    refine fr_icmp_ge (tgt := 38) dX11_ahead_8 (by decide) (by omega) (by omega) (fun h1 => ?_) (fun h1 => ?_)
    · skip
      refine fr_al0 dX11_ahead_38 ?_
      refine fr_geti (kz := 4) dX11_ahead_39 flX11_100 ⟨by decide, by decide, rfl⟩ rfl rfl ?_
      refine fr_al0 dX11_ahead_42 ?_
      refine fr_geti (kz := 3) dX11_ahead_43 flX11_96 ⟨by decide, by decide, rfl⟩ rfl rfl ?_
      rw [g1, g2]
      refine fr_icmp_ge (tgt := 61) dX11_ahead_46 (by decide) (by omega) (by omega) (fun h2 => ?_) (fun h2 => ?_)
      · skip
        refine fr_iconst dX11_ahead_61 ?_
        exact fr_iret dX11_ahead_62 rfl (fr_e (by unfold sp_ch; split <;> omega) rfl)
      · skip
        refine fr_al0 dX11_ahead_49 ?_
        refine fr_getr (cz := 68) dX11_ahead_50 flX11_13 ⟨by decide, by decide, rfl⟩ rfl rfl ?_
        refine fr_al0 dX11_ahead_53 ?_
        refine fr_geti (kz := 4) dX11_ahead_54 flX11_100 ⟨by decide, by decide, rfl⟩ rfl rfl ?_
        rw [g1]
        refine fr_iald dX11_ahead_57 ⟨by decide, by decide, rfl, by decide⟩ (by omega) (by omega) ?_
        rw [g3]
        refine fr_goto (tgt := 62) dX11_ahead_58 (by decide) ?_
        exact fr_iret dX11_ahead_62 rfl (fr_e (by unfold sp_ch; split <;> omega) rfl)
    · skip
      refine fr_al0 dX11_ahead_11 ?_
      refine fr_getr (cz := 68) dX11_ahead_12 flX11_13 ⟨by decide, by decide, rfl⟩ rfl rfl ?_
      refine fr_al0 dX11_ahead_15 ?_
      refine fr_geti (kz := 4) dX11_ahead_16 flX11_100 ⟨by decide, by decide, rfl⟩ rfl rfl ?_
      rw [g1]
      refine fr_iald dX11_ahead_19 ⟨by decide, by decide, rfl, by decide⟩ (by omega) (by omega) ?_
      rw [g3]
      refine fr_bipush dX11_ahead_20 (by decide) ?_
      refine fr_icmp_ne (tgt := 38) dX11_ahead_22 (by decide) (by omega) (by omega) (fun h3 => ?_) (fun h3 => ?_)
      · skip
        refine fr_al0 dX11_ahead_38 ?_
        refine fr_geti (kz := 4) dX11_ahead_39 flX11_100 ⟨by decide, by decide, rfl⟩ rfl rfl ?_
        refine fr_al0 dX11_ahead_42 ?_
        refine fr_geti (kz := 3) dX11_ahead_43 flX11_96 ⟨by decide, by decide, rfl⟩ rfl rfl ?_
        rw [g1, g2]
        refine fr_icmp_ge (tgt := 61) dX11_ahead_46 (by decide) (by omega) (by omega) (fun h4 => ?_) (fun h4 => ?_)
        · skip
          refine fr_iconst dX11_ahead_61 ?_
          exact fr_iret dX11_ahead_62 rfl (fr_e (by unfold sp_ch; split <;> omega) rfl)
        · skip
          refine fr_al0 dX11_ahead_49 ?_
          refine fr_getr (cz := 68) dX11_ahead_50 flX11_13 ⟨by decide, by decide, rfl⟩ rfl rfl ?_
          refine fr_al0 dX11_ahead_53 ?_
          refine fr_geti (kz := 4) dX11_ahead_54 flX11_100 ⟨by decide, by decide, rfl⟩ rfl rfl ?_
          rw [g1]
          refine fr_iald dX11_ahead_57 ⟨by decide, by decide, rfl, by decide⟩ (by omega) (by omega) ?_
          rw [g3]
          refine fr_goto (tgt := 62) dX11_ahead_58 (by decide) ?_
          exact fr_iret dX11_ahead_62 rfl (fr_e (by unfold sp_ch; split <;> omega) rfl)
      · skip
        exfalso; omega
  · skip
    have g1 : fr_up μ 66 4 (a + (j : Int)) 66 4 = a + j := fr_up_eq _ _ _ _
    have g2 : fr_up μ 66 4 (a + (j : Int)) 66 3 = n := by rw [fr_up_nk _ _ _ (by decide)]; exact e2
    have g3 : fr_up μ 66 4 (a + (j : Int)) 68 (a + j) = 32 := by rw [fr_up_nc _ _ _ (by decide), e1]; exact q3 (a + j) (by omega) (by omega)
    refine fr_al0 dX11_ahead_0 ?_
    refine fr_geti (kz := 4) dX11_ahead_1 flX11_100 ⟨by decide, by decide, rfl⟩ rfl rfl ?_
    refine fr_al0 dX11_ahead_4 ?_
    refine fr_geti (kz := 3) dX11_ahead_5 flX11_96 ⟨by decide, by decide, rfl⟩ rfl rfl ?_
    rw [g1, g2]
    refine fr_icmp_ge (tgt := 38) dX11_ahead_8 (by decide) (by omega) (by omega) (fun h5 => ?_) (fun h5 => ?_)
    · skip
      exfalso; omega
    · skip
      refine fr_al0 dX11_ahead_11 ?_
      refine fr_getr (cz := 68) dX11_ahead_12 flX11_13 ⟨by decide, by decide, rfl⟩ rfl rfl ?_
      refine fr_al0 dX11_ahead_15 ?_
      refine fr_geti (kz := 4) dX11_ahead_16 flX11_100 ⟨by decide, by decide, rfl⟩ rfl rfl ?_
      rw [g1]
      refine fr_iald dX11_ahead_19 ⟨by decide, by decide, rfl, by decide⟩ (by omega) (by omega) ?_
      rw [g3]
      refine fr_bipush dX11_ahead_20 (by decide) ?_
      refine fr_icmp_ne (tgt := 38) dX11_ahead_22 (by decide) (by omega) (by omega) (fun h6 => ?_) (fun h6 => ?_)
      · skip
        exfalso; omega
      · skip
        refine fr_al0 dX11_ahead_25 ?_
        refine fr_dup dX11_ahead_26 rfl ?_
        refine fr_geti (kz := 4) dX11_ahead_27 flX11_100 ⟨by decide, by decide, rfl⟩ rfl rfl ?_
        refine fr_iconst dX11_ahead_30 ?_
        refine fr_iadd dX11_ahead_31 ?_
        refine fr_put (kz := 4) dX11_ahead_32 fpX11_100 ⟨by decide, by decide, rfl⟩ rfl rfl (fun h => by cases h) ?_
        refine fr_goto (tgt := 0) dX11_ahead_35 (by decide) ?_
        refine fr_mu (μ' := fr_up μ 66 4 (a + ((j + 1 : Nat) : Int))) (by rw [fr_up_up, g1]; congr 1; omega) ?_
        exact fr_wk (ih0) ⟨rfl, trivial⟩
set_option maxRecDepth 20000 in
theorem kcX11_whoIs {l : Launch} {κ : fr_Ka} {μ : fr_Me} (hI : fr_I (μ 67)) {c : Int} (rc : -1 ≤ c ∧ c ≤ 126) : fr_C l κ fmX11_whoIs 3 [fr_r κ 66, fr_i c] μ (fr_Ei (sp_wh (μ 67 43) c) μ) := by
  have iN := hI.n
  have iM := hI.many
  refine fr_enter (by decide +kernel) (ls := [some (fr_r κ 66), some (fr_i c)]) rfl (Nat.le_of_ble_eq_true rfl) ?_
  refine fr_il1 dX11_whoIs_0 ?_
  refine fr_bipush dX11_whoIs_1 (by decide) ?_
  refine fr_icmp_ne (tgt := 10) dX11_whoIs_3 (by decide) (by omega) (by omega) (fun h1 => ?_) (fun h1 => ?_)
  · skip
    refine fr_il1 dX11_whoIs_10 ?_
    refine fr_i2l dX11_whoIs_11 (by omega) ?_
    refine fr_ldc2 dX11_whoIs_12 clX11_103 ?_
    refine fr_ldc2 dX11_whoIs_15 clX11_105 ?_
    refine fr_cSi (mi' := fmX11_in) dX11_whoIs_18 mlX11_51 msX11_in (Nat.le_of_ble_eq_true rfl) (kcX11_in (by omega) (by omega) (by omega)) rfl rfl (Nat.le_of_ble_eq_true rfl) ?_
    refine fr_ifb_eq (tgt := 42) dX11_whoIs_21 (by decide) (fun h2 => ?_) (fun h2 => ?_)
    · skip
      refine fr_iconst dX11_whoIs_42 ?_
      exact fr_iret dX11_whoIs_43 rfl (fr_e (by unfold sp_wh; (repeat' split) <;> first | rfl | omega) rfl)
    · skip
      refine fr_al0 dX11_whoIs_24 ?_
      refine fr_il1 dX11_whoIs_25 ?_
      refine fr_bipush dX11_whoIs_26 (by decide) ?_
      refine fr_isub dX11_whoIs_28 ?_
      refine fr_cVi (mi' := fmX11_isClimber) dX11_whoIs_29 mlX11_71 mvX11_isClimber ⟨11, _, ⟨by decide, by decide, rfl⟩, rfl, rfl⟩ (Nat.le_of_ble_eq_true rfl) (kcX11_isClimber hI (by omega)) rfl rfl (Nat.le_of_ble_eq_true rfl) ?_
      refine fr_ifb_eq (tgt := 42) dX11_whoIs_32 (by decide) (fun h3 => ?_) (fun h3 => ?_)
      · skip
        refine fr_iconst dX11_whoIs_42 ?_
        exact fr_iret dX11_whoIs_43 rfl (fr_e (by unfold sp_wh; (repeat' split) <;> first | rfl | omega) rfl)
      · skip
        refine fr_il1 dX11_whoIs_35 ?_
        refine fr_bipush dX11_whoIs_36 (by decide) ?_
        refine fr_isub dX11_whoIs_38 ?_
        refine fr_goto (tgt := 43) dX11_whoIs_39 (by decide) ?_
        exact fr_iret dX11_whoIs_43 rfl (fr_e (by unfold sp_wh; (repeat' split) <;> first | rfl | omega) rfl)
  · skip
    refine fr_iconst dX11_whoIs_6 ?_
    refine fr_goto (tgt := 43) dX11_whoIs_7 (by decide) ?_
    exact fr_iret dX11_whoIs_43 rfl (fr_e (by unfold sp_wh; (repeat' split) <;> first | rfl | omega) rfl)
