/-! texts: the place behind blanks; the letter there; kinds, climbers by letters; a tree's text from place a on -/
def sp_sk (tp : Int → Int) (n : Int) : Nat → Int → Int
  | 0, a => a
  | k + 1, a => if a < n ∧ tp a = 32 then sp_sk tp n k (a + 1) else a
def sp_skp (tp : Int → Int) (n a : Int) : Int := sp_sk tp n (n - a).toNat a
theorem sp_sk_ok (tp : Int → Int) (n : Int) : ∀ (k : Nat) (a : Int), a ≤ n → n - a ≤ k → a ≤ sp_sk tp n k a ∧ sp_sk tp n k a ≤ n ∧ (∀ x, a ≤ x → x < sp_sk tp n k a → tp x = 32) ∧ (sp_sk tp n k a < n → tp (sp_sk tp n k a) ≠ 32) := by
  intro k
  induction k with
  | zero =>
    intro a h1 h2
    simp only [sp_sk]
    exact ⟨by omega, by omega, fun x _ _ => by omega, fun h => by omega⟩
  | succ k ih =>
    intro a h1 h2
    simp only [sp_sk]
    split
    · rename_i hc
      obtain ⟨g1, g2, g3, g4⟩ := ih (a + 1) (by omega) (by omega)
      refine ⟨by omega, g2, fun x x0 x1 => ?_, g4⟩
      by_cases hx : x = a
      · rw [hx]; exact hc.2
      · exact g3 x (by omega) x1
    · rename_i hc
      exact ⟨by omega, h1, fun x _ _ => by omega, fun h e => hc ⟨h, e⟩⟩
theorem sp_skp_ok (tp : Int → Int) {n a : Int} (h : a ≤ n) : a ≤ sp_skp tp n a ∧ sp_skp tp n a ≤ n ∧ (∀ x, a ≤ x → x < sp_skp tp n a → tp x = 32) ∧ (sp_skp tp n a < n → tp (sp_skp tp n a) ≠ 32) := sp_sk_ok tp n _ a h (by omega)
theorem sp_skp_idem (tp : Int → Int) {n a : Int} (h : a ≤ n) : sp_skp tp n (sp_skp tp n a) = sp_skp tp n a := by
  obtain ⟨h1, h2, h3, h4⟩ := sp_skp_ok tp h
  obtain ⟨g1, g2, g3, g4⟩ := sp_skp_ok tp h2
  apply Classical.byContradiction
  intro hne
  exact h4 (by omega) (g3 _ (Int.le_refl _) (by omega))
def sp_ch (tp : Int → Int) (n r : Int) : Int := if r < n then tp r else -1
def sp_kd (c : Int) : Int := if c = 80 then 0 else if c = 71 then 1 else if c = 68 then 2 else if c = 83 then 3 else -1
def sp_wh (m c : Int) : Int := if c = 102 then 5 else if (97 ≤ c ∧ c ≤ 101) ∧ c - 97 < m then c - 97 else -1
theorem sp_wh_rg {m : Int} (hm : 0 ≤ m ∧ m ≤ 5) (c : Int) : -1 ≤ sp_wh m c ∧ sp_wh m c ≤ 5 := by unfold sp_wh; (repeat' split) <;> omega
def sp_r0 (tp : Int → Int) (n a : Int) : Int := sp_skp tp n a
def sp_r1 (tp : Int → Int) (n a : Int) : Int := sp_skp tp n (sp_r0 tp n a + 1)
def sp_r2 (tp : Int → Int) (n a : Int) : Int := sp_skp tp n (sp_r1 tp n a + 1)
def sp_tk (tp : Int → Int) (n a : Int) : Int := sp_kd (sp_ch tp n (sp_r0 tp n a))
def sp_u1 (m : Int) (tp : Int → Int) (n a : Int) : Int := sp_wh m (sp_ch tp n (sp_r1 tp n a))
def sp_u2 (m : Int) (tp : Int → Int) (n a : Int) : Int := sp_wh m (sp_ch tp n (sp_r2 tp n a))
def sp_tl (m : Int) (tp : Int → Int) (n a : Int) : Int := if sp_u1 m tp n a < 0 then 5 else sp_u1 m tp n a
def sp_tb (m : Int) (tp : Int → Int) (n a : Int) : Int := if sp_u1 m tp n a < 0 then 5 else if sp_u2 m tp n a < 0 then 5 else sp_u2 m tp n a
def sp_te (m : Int) (tp : Int → Int) (n a : Int) : Int := if sp_u1 m tp n a < 0 then sp_r1 tp n a else if sp_u2 m tp n a < 0 then sp_r2 tp n a else sp_r2 tp n a + 1
/-- letters as they may be typed -/
def sp_let (tp : Int → Int) (n : Int) : Prop := (0 ≤ n ∧ n ≤ 60) ∧ ∀ k, 0 ≤ k → k < n → 32 ≤ tp k ∧ tp k ≤ 126
theorem sp_ch_rg {tp : Int → Int} {n r : Int} (h : sp_let tp n) (hr : 0 ≤ r) : -1 ≤ sp_ch tp n r ∧ sp_ch tp n r ≤ 126 := by
  unfold sp_ch
  split
  · have := h.2 r hr (by omega); omega
  · omega
theorem fr_up_self (μ : fr_Me) (c k : Int) : fr_up μ c k (μ c k) = μ := by
  funext c' k'
  simp only [fr_up]
  split
  · rename_i h; rw [h.1, h.2]
  · rfl
theorem fr_up_up (μ : fr_Me) (c k z z' : Int) : fr_up (fr_up μ c k z) c k z' = fr_up μ c k z' := by
  funext c' k'
  simp only [fr_up]
  split <;> rfl
set_option maxRecDepth 20000 in
theorem kcX11_ahead {l : Launch} {κ : fr_Ka} {μ : fr_Me} {tp : Int → Int} {n a : Int} (e1 : μ 68 = tp) (e2 : μ 66 3 = n) (e3 : μ 66 4 = a) (hl : sp_let tp n) (ha : 0 ≤ a ∧ a ≤ n)  : fr_C l κ fmX11_ahead 1 [fr_r κ 66] μ (fr_Ei (sp_ch tp n (sp_skp tp n a)) (fr_up μ 66 4 (sp_skp tp n a))) := by
  obtain ⟨q1, q2, q3, q4⟩ := sp_skp_ok tp ha.2
  have hn := hl.1
  refine fr_enter (by decide +kernel) (ls := [some (fr_r κ 66)]) rfl (Nat.le_of_ble_eq_true rfl) ?_
  refine fr_mu (μ' := fr_up μ 66 4 (a + ((0 : Nat) : Int))) (by rw [show a + ((0 : Nat) : Int) = μ 66 4 by omega]; exact fr_up_self μ 66 4) ?_
  refine fr_wk ?_ (ls := [some (fr_r κ 66)]) ⟨rfl, trivial⟩
  refine fr_down (P := fun j : Nat => fr_A l κ fmX11_ahead 1 (fr_Ei (sp_ch tp n (sp_skp tp n a)) (fr_up μ 66 4 (sp_skp tp n a))) 0 [some (fr_r κ 66)] [] (fr_up μ 66 4 (a + (j : Int)))) (sp_skp tp n a - a).toNat ?_ (fun j hj0 ih0 => ?_)
  · skip
    have ej : a + (((sp_skp tp n a - a).toNat : Nat) : Int) = sp_skp tp n a := by omega
    rw [ej]
    have g1 : fr_up μ 66 4 (sp_skp tp n a) 66 4 = sp_skp tp n a := fr_up_eq _ _ _ _
    have g2 : fr_up μ 66 4 (sp_skp tp n a) 66 3 = n := by rw [fr_up_nk _ _ _ (by decide)]; exact e2
    have g3 : fr_up μ 66 4 (sp_skp tp n a) 68 (sp_skp tp n a) = tp (sp_skp tp n a) := by rw [fr_up_nc _ _ _ (by decide), e1]
    have g4 : sp_skp tp n a < n → 32 ≤ tp (sp_skp tp n a) ∧ tp (sp_skp tp n a) ≤ 126 := fun h => hl.2 _ (by omega) h
    refine fr_al0 dX11_ahead_0 ?_
    refine fr_geti (kz := 4) dX11_ahead_1 flX11_100 ⟨by decide, by decide, rfl⟩ rfl rfl ?_
    refine fr_al0 dX11_ahead_4 ?_
    refine fr_geti (kz := 3) dX11_ahead_5 flX11_96 ⟨by decide, by decide, rfl⟩ rfl rfl ?_
    rw [g1, g2]
    refine fr_icmp_ge (tgt := 38) dX11_ahead_8 (by decide) (by omega) (by omega) (fun h1 => ?_) (fun h1 => ?_)
    · skip
      refine fr_al0 dX11_ahead_38 ?_
      refine fr_geti (kz := 4) dX11_ahead_39 flX11_100 ⟨by decide, by decide, rfl⟩ rfl rfl ?_
      refine fr_al0 dX11_ahead_42 ?_
      refine fr_geti (kz := 3) dX11_ahead_43 flX11_96 ⟨by decide, by decide, rfl⟩ rfl rfl ?_
      rw [g1, g2]
      refine fr_icmp_ge (tgt := 61) dX11_ahead_46 (by decide) (by omega) (by omega) (fun h2 => ?_) (fun h2 => ?_)
      · skip
        refine fr_iconst dX11_ahead_61 ?_
        exact fr_iret dX11_ahead_62 rfl (fr_e (by unfold sp_ch; split <;> omega) rfl)
      · skip
        refine fr_al0 dX11_ahead_49 ?_
        refine fr_getr (cz := 68) dX11_ahead_50 flX11_13 ⟨by decide, by decide, rfl⟩ rfl rfl ?_
        refine fr_al0 dX11_ahead_53 ?_
        refine fr_geti (kz := 4) dX11_ahead_54 flX11_100 ⟨by decide, by decide, rfl⟩ rfl rfl ?_
        rw [g1]
        refine fr_iald dX11_ahead_57 ⟨by decide, by decide, rfl, by decide⟩ (by omega) (by omega) ?_
        rw [g3]
        refine fr_goto (tgt := 62) dX11_ahead_58 (by decide) ?_
        exact fr_iret dX11_ahead_62 rfl (fr_e (by unfold sp_ch; split <;> omega) rfl)
    · skip
      refine fr_al0 dX11_ahead_11 ?_
      refine fr_getr (cz := 68) dX11_ahead_12 flX11_13 ⟨by decide, by decide, rfl⟩ rfl rfl ?_
      refine fr_al0 dX11_ahead_15 ?_
      refine fr_geti (kz := 4) dX11_ahead_16 flX11_100 ⟨by decide, by decide, rfl⟩ rfl rfl ?_
      rw [g1]
      refine fr_iald dX11_ahead_19 ⟨by decide, by decide, rfl, by decide⟩ (by omega) (by omega) ?_
      rw [g3]
      refine fr_bipush dX11_ahead_20 (by decide) ?_
      refine fr_icmp_ne (tgt := 38) dX11_ahead_22 (by decide) (by omega) (by omega) (fun h3 => ?_) (fun h3 => ?_)
      · skip
        refine fr_al0 dX11_ahead_38 ?_
        refine fr_geti (kz := 4) dX11_ahead_39 flX11_100 ⟨by decide, by decide, rfl⟩ rfl rfl ?_
        refine fr_al0 dX11_ahead_42 ?_
        refine fr_geti (kz := 3) dX11_ahead_43 flX11_96 ⟨by decide, by decide, rfl⟩ rfl rfl ?_
        rw [g1, g2]
        refine fr_icmp_ge (tgt := 61) dX11_ahead_46 (by decide) (by omega) (by omega) (fun h4 => ?_) (fun h4 => ?_)
        · skip
          refine fr_iconst dX11_ahead_61 ?_
          exact fr_iret dX11_ahead_62 rfl (fr_e (by unfold sp_ch; split <;> omega) rfl)
        · skip
          refine fr_al0 dX11_ahead_49 ?_
          refine fr_getr (cz := 68) dX11_ahead_50 flX11_13 ⟨by decide, by decide, rfl⟩ rfl rfl ?_
          refine fr_al0 dX11_ahead_53 ?_
          refine fr_geti (kz := 4) dX11_ahead_54 flX11_100 ⟨by decide, by decide, rfl⟩ rfl rfl ?_
          rw [g1]
          refine fr_iald dX11_ahead_57 ⟨by decide, by decide, rfl, by decide⟩ (by omega) (by omega) ?_
          rw [g3]
          refine fr_goto (tgt := 62) dX11_ahead_58 (by decide) ?_
          exact fr_iret dX11_ahead_62 rfl (fr_e (by unfold sp_ch; split <;> omega) rfl)
      · skip
        exfalso; omega
  · skip
    have g1 : fr_up μ 66 4 (a + (j : Int)) 66 4 = a + j := fr_up_eq _ _ _ _
    have g2 : fr_up μ 66 4 (a + (j : Int)) 66 3 = n := by rw [fr_up_nk _ _ _ (by decide)]; exact e2
    have g3 : fr_up μ 66 4 (a + (j : Int)) 68 (a + j) = 32 := by rw [fr_up_nc _ _ _ (by decide), e1]; exact q3 (a + j) (by omega) (by omega)
    refine fr_al0 dX11_ahead_0 ?_
    refine fr_geti (kz := 4) dX11_ahead_1 flX11_100 ⟨by decide, by decide, rfl⟩ rfl rfl ?_
    refine fr_al0 dX11_ahead_4 ?_
    refine fr_geti (kz := 3) dX11_ahead_5 flX11_96 ⟨by decide, by decide, rfl⟩ rfl rfl ?_
    rw [g1, g2]
    refine fr_icmp_ge (tgt := 38) dX11_ahead_8 (by decide) (by omega) (by omega) (fun h5 => ?_) (fun h5 => ?_)
    · skip
      exfalso; omega
    · skip
      refine fr_al0 dX11_ahead_11 ?_
      refine fr_getr (cz := 68) dX11_ahead_12 flX11_13 ⟨by decide, by decide, rfl⟩ rfl rfl ?_
      refine fr_al0 dX11_ahead_15 ?_
      refine fr_geti (kz := 4) dX11_ahead_16 flX11_100 ⟨by decide, by decide, rfl⟩ rfl rfl ?_
      rw [g1]
      refine fr_iald dX11_ahead_19 ⟨by decide, by decide, rfl, by decide⟩ (by omega) (by omega) ?_
      rw [g3]
      refine fr_bipush dX11_ahead_20 (by decide) ?_
      refine fr_icmp_ne (tgt := 38) dX11_ahead_22 (by decide) (by omega) (by omega) (fun h6 => ?_) (fun h6 => ?_)
      · skip
        exfalso; omega
      · skip
        refine fr_al0 dX11_ahead_25 ?_
        refine fr_dup dX11_ahead_26 rfl ?_
        refine fr_geti (kz := 4) dX11_ahead_27 flX11_100 ⟨by decide, by decide, rfl⟩ rfl rfl ?_
        refine fr_iconst dX11_ahead_30 ?_
        refine fr_iadd dX11_ahead_31 ?_
        refine fr_put (kz := 4) dX11_ahead_32 fpX11_100 ⟨by decide, by decide, rfl⟩ rfl rfl (fun h => by cases h) ?_
        refine fr_goto (tgt := 0) dX11_ahead_35 (by decide) ?_
        refine fr_mu (μ' := fr_up μ 66 4 (a + ((j + 1 : Nat) : Int))) (by rw [fr_up_up, g1]; congr 1; omega) ?_
        exact fr_wk (ih0) ⟨rfl, trivial⟩
set_option maxRecDepth 20000 in
theorem kcX11_whoIs {l : Launch} {κ : fr_Ka} {μ : fr_Me} (hI : fr_I (μ 67)) {c : Int} (rc : -1 ≤ c ∧ c ≤ 126) : fr_C l κ fmX11_whoIs 3 [fr_r κ 66, fr_i c] μ (fr_Ei (sp_wh (μ 67 43) c) μ) := by
  have iN := hI.n
  have iM := hI.many
  refine fr_enter (by decide +kernel) (ls := [some (fr_r κ 66), some (fr_i c)]) rfl (Nat.le_of_ble_eq_true rfl) ?_
  refine fr_il1 dX11_whoIs_0 ?_
  refine fr_bipush dX11_whoIs_1 (by decide) ?_
  refine fr_icmp_ne (tgt := 10) dX11_whoIs_3 (by decide) (by omega) (by omega) (fun h1 => ?_) (fun h1 => ?_)
  · skip
    refine fr_il1 dX11_whoIs_10 ?_
    refine fr_i2l dX11_whoIs_11 (by omega) ?_
    refine fr_ldc2 dX11_whoIs_12 clX11_103 ?_
    refine fr_ldc2 dX11_whoIs_15 clX11_105 ?_
    refine fr_cSi (mi' := fmX11_in) dX11_whoIs_18 mlX11_51 msX11_in (Nat.le_of_ble_eq_true rfl) (kcX11_in (by omega) (by omega) (by omega)) rfl rfl (Nat.le_of_ble_eq_true rfl) ?_
    refine fr_ifb_eq (tgt := 42) dX11_whoIs_21 (by decide) (fun h2 => ?_) (fun h2 => ?_)
    · skip
      refine fr_iconst dX11_whoIs_42 ?_
      exact fr_iret dX11_whoIs_43 rfl (fr_e (by unfold sp_wh; (repeat' split) <;> first | rfl | omega) rfl)
    · skip
      refine fr_al0 dX11_whoIs_24 ?_
      refine fr_il1 dX11_whoIs_25 ?_
      refine fr_bipush dX11_whoIs_26 (by decide) ?_
      refine fr_isub dX11_whoIs_28 ?_
      refine fr_cVi (mi' := fmX11_isClimber) dX11_whoIs_29 mlX11_71 mvX11_isClimber ⟨11, _, ⟨by decide, by decide, rfl⟩, rfl, rfl⟩ (Nat.le_of_ble_eq_true rfl) (kcX11_isClimber hI (by omega)) rfl rfl (Nat.le_of_ble_eq_true rfl) ?_
      refine fr_ifb_eq (tgt := 42) dX11_whoIs_32 (by decide) (fun h3 => ?_) (fun h3 => ?_)
      · skip
        refine fr_iconst dX11_whoIs_42 ?_
        exact fr_iret dX11_whoIs_43 rfl (fr_e (by unfold sp_wh; (repeat' split) <;> first | rfl | omega) rfl)
      · skip
        refine fr_il1 dX11_whoIs_35 ?_
        refine fr_bipush dX11_whoIs_36 (by decide) ?_
        refine fr_isub dX11_whoIs_38 ?_
        refine fr_goto (tgt := 43) dX11_whoIs_39 (by decide) ?_
        exact fr_iret dX11_whoIs_43 rfl (fr_e (by unfold sp_wh; (repeat' split) <;> first | rfl | omega) rfl)
  · skip
    refine fr_iconst dX11_whoIs_6 ?_
    refine fr_goto (tgt := 43) dX11_whoIs_7 (by decide) ?_
    exact fr_iret dX11_whoIs_43 rfl (fr_e (by unfold sp_wh; (repeat' split) <;> first | rfl | omega) rfl)
theorem sp_r0_rg (tp : Int → Int) {n a : Int} (h : a ≤ n) : a ≤ sp_r0 tp n a ∧ sp_r0 tp n a ≤ n := ⟨(sp_skp_ok tp h).1, (sp_skp_ok tp h).2.1⟩
theorem sp_r1_rg (tp : Int → Int) {n a : Int} (h : sp_r0 tp n a < n) : sp_r0 tp n a + 1 ≤ sp_r1 tp n a ∧ sp_r1 tp n a ≤ n := ⟨(sp_skp_ok tp (by omega)).1, (sp_skp_ok tp (by omega)).2.1⟩
theorem sp_r2_rg (tp : Int → Int) {n a : Int} (h : sp_r1 tp n a < n) : sp_r1 tp n a + 1 ≤ sp_r2 tp n a ∧ sp_r2 tp n a ≤ n := ⟨(sp_skp_ok tp (by omega)).1, (sp_skp_ok tp (by omega)).2.1⟩
theorem sp_kd_lt {tp : Int → Int} {n r : Int} (h : 0 ≤ sp_kd (sp_ch tp n r)) : r < n := by
  apply Classical.byContradiction
  intro hn
  unfold sp_ch at h
  rw [if_neg hn] at h
  exact absurd h (by decide)
theorem sp_wh_lt {m : Int} {tp : Int → Int} {n r : Int} (h : 0 ≤ sp_wh m (sp_ch tp n r)) : r < n := by
  apply Classical.byContradiction
  intro hn
  unfold sp_ch at h
  rw [if_neg hn] at h
  unfold sp_wh at h
  rw [if_neg (by decide), if_neg (by omega)] at h
  omega
theorem sp_te_rg {m : Int} {tp : Int → Int} {n a : Int} (ha : 0 ≤ a ∧ a ≤ n) (hk : 0 ≤ sp_tk tp n a) : a < sp_te m tp n a ∧ sp_te m tp n a ≤ n := by
  have h0 := sp_r0_rg tp ha.2
  have h0n := sp_kd_lt hk
  have h1 := sp_r1_rg tp h0n
  unfold sp_te
  split
  · omega
  · rename_i hu
    have h1n : sp_r1 tp n a < n := sp_wh_lt (m := m) (show 0 ≤ sp_u1 m tp n a by omega)
    have h2 := sp_r2_rg tp h1n
    split
    · omega
    · rename_i hv
      have h2n : sp_r2 tp n a < n := sp_wh_lt (m := m) (show 0 ≤ sp_u2 m tp n a by omega)
      omega
set_option maxRecDepth 20000 in
theorem kcX11_takesTree {l : Launch} {κ : fr_Ka} {μ : fr_Me} (hI : fr_I (μ 67)) {tp : Int → Int} {n a : Int} (e1 : μ 68 = tp) (e2 : μ 66 3 = n) (e3 : μ 66 4 = a) (hl : sp_let tp n) (ha : 0 ≤ a ∧ a ≤ n) (hr : 0 ≤ μ 66 5 ∧ μ 66 5 < 6) : fr_C l κ fmX11_takesTree 4 [fr_r κ 66] μ (fr_Pi (fun z m => (sp_tk tp n a < 0 ∧ z = 0 ∧ m = fr_up μ 66 4 (sp_r0 tp n a)) ∨ (0 ≤ sp_tk tp n a ∧ z = 1 ∧ m 66 4 = sp_te (μ 67 43) tp n a ∧ m 66 5 = μ 66 5 + 1 ∧ m 69 (3 * μ 66 5) = sp_tk tp n a ∧ m 69 (3 * μ 66 5 + 1) = sp_tl (μ 67 43) tp n a ∧ m 69 (3 * μ 66 5 + 2) = sp_tb (μ 67 43) tp n a ∧ (∀ k, (k < 3 * μ 66 5 ∨ 3 * μ 66 5 + 3 ≤ k) → m 69 k = μ 69 k) ∧ (∀ k, k ≠ 4 → k ≠ 5 → m 66 k = μ 66 k) ∧ ∀ c, c ≠ 66 → c ≠ 69 → m c = μ c))) := by
  have iN := hI.n
  have iM := hI.many
  have hn := hl.1
  have z0 := sp_r0_rg tp ha.2
  have c0 := sp_ch_rg hl (show 0 ≤ sp_r0 tp n a by omega)
  refine fr_enter (by decide +kernel) (ls := [some (fr_r κ 66), none, none, none]) rfl (Nat.le_of_ble_eq_true rfl) ?_
  refine fr_al0 dX11_takesTree_0 ?_
  refine fr_cVi (mi' := fmX11_ahead) dX11_takesTree_1 mlX11_107 mvX11_ahead ⟨11, _, ⟨by decide, by decide, rfl⟩, rfl, rfl⟩ (Nat.le_of_ble_eq_true rfl) (kcX11_ahead (tp := tp) (n := n) (a := a) e1 e2 e3 hl ha) rfl rfl (Nat.le_of_ble_eq_true rfl) ?_
  refine fr_is1 dX11_takesTree_4 rfl (Nat.le_of_ble_eq_true rfl) ?_
  rw [show sp_skp tp n a = sp_r0 tp n a from rfl]
  refine fr_il1 dX11_takesTree_5 ?_
  refine fr_bipush dX11_takesTree_6 (by decide) ?_
  refine fr_icmp_ne (tgt := 15) dX11_takesTree_8 (by decide) (by omega) (by omega) (fun h1 => ?_) (fun h1 => ?_)
  · skip
    refine fr_il1 dX11_takesTree_15 ?_
    refine fr_bipush dX11_takesTree_16 (by decide) ?_
    refine fr_icmp_ne (tgt := 25) dX11_takesTree_18 (by decide) (by omega) (by omega) (fun h2 => ?_) (fun h2 => ?_)
    · skip
      refine fr_il1 dX11_takesTree_25 ?_
      refine fr_bipush dX11_takesTree_26 (by decide) ?_
      refine fr_icmp_ne (tgt := 35) dX11_takesTree_28 (by decide) (by omega) (by omega) (fun h3 => ?_) (fun h3 => ?_)
      · skip
        refine fr_il1 dX11_takesTree_35 ?_
        refine fr_bipush dX11_takesTree_36 (by decide) ?_
        refine fr_icmp_ne (tgt := 45) dX11_takesTree_38 (by decide) (by omega) (by omega) (fun h4 => ?_) (fun h4 => ?_)
        · skip
          refine fr_iconst dX11_takesTree_45 ?_
          refine fr_is2 dX11_takesTree_46 rfl (Nat.le_of_ble_eq_true rfl) ?_
          refine fr_il2 dX11_takesTree_47 ?_
          refine fr_if_ge (tgt := 53) dX11_takesTree_48 (by decide) (by decide) (fun h5 => absurd h5 (by decide)) (fun _ => ?_)
          refine fr_iconst dX11_takesTree_51 ?_
          exact fr_zret dX11_takesTree_52 rfl (Or.inl rfl) (fr_pi (Or.inl ⟨by unfold sp_tk sp_kd; (repeat' split) <;> omega, rfl, rfl⟩))
        · skip
          refine fr_iconst dX11_takesTree_41 ?_
          refine fr_goto (tgt := 46) dX11_takesTree_42 (by decide) ?_
          refine fr_is2 dX11_takesTree_46 rfl (Nat.le_of_ble_eq_true rfl) ?_
          refine fr_il2 dX11_takesTree_47 ?_
          refine fr_if_ge (tgt := 53) dX11_takesTree_48 (by decide) (by decide) (fun _ => ?_) (fun h6 => absurd h6 (by decide))
          refine fr_al0 dX11_takesTree_53 ?_
          refine fr_getr (cz := 69) dX11_takesTree_54 flX11_16 ⟨by decide, by decide, rfl⟩ rfl rfl ?_
          have u5 : fr_up μ 66 4 (sp_r0 tp n a) 66 5 = μ 66 5 := fr_up_nk _ _ _ (by decide)
          have kp9 : 0 ≤ sp_tk tp n a := by unfold sp_tk sp_kd; (repeat' split) <;> omega
          have z0n : sp_r0 tp n a < n := sp_kd_lt kp9
          refine fr_iconst dX11_takesTree_57 ?_
          refine fr_al0 dX11_takesTree_58 ?_
          refine fr_geti (kz := 5) dX11_takesTree_59 flX11_111 ⟨by decide, by decide, rfl⟩ rfl rfl ?_
          rw [u5]
          refine fr_imul dX11_takesTree_62 ?_
          refine fr_il2 dX11_takesTree_63 ?_
          refine fr_iast dX11_takesTree_64 ⟨by decide, by decide, rfl, by decide⟩ (by omega) (by omega) ?_
          refine fr_al0 dX11_takesTree_65 ?_
          refine fr_getr (cz := 69) dX11_takesTree_66 flX11_16 ⟨by decide, by decide, rfl⟩ rfl rfl ?_
          refine fr_iconst dX11_takesTree_69 ?_
          refine fr_al0 dX11_takesTree_70 ?_
          refine fr_geti (kz := 5) dX11_takesTree_71 flX11_111 ⟨by decide, by decide, rfl⟩ rfl rfl ?_
          rw [fr_up_nc _ _ _ (by decide : (66 : Int) ≠ 69), u5]
          refine fr_imul dX11_takesTree_74 ?_
          refine fr_iconst dX11_takesTree_75 ?_
          refine fr_iadd dX11_takesTree_76 ?_
          refine fr_iconst dX11_takesTree_77 ?_
          refine fr_iast dX11_takesTree_78 ⟨by decide, by decide, rfl, by decide⟩ (by omega) (by omega) ?_
          refine fr_al0 dX11_takesTree_79 ?_
          refine fr_getr (cz := 69) dX11_takesTree_80 flX11_16 ⟨by decide, by decide, rfl⟩ rfl rfl ?_
          refine fr_iconst dX11_takesTree_83 ?_
          refine fr_al0 dX11_takesTree_84 ?_
          refine fr_geti (kz := 5) dX11_takesTree_85 flX11_111 ⟨by decide, by decide, rfl⟩ rfl rfl ?_
          rw [fr_up_nc _ _ _ (by decide : (66 : Int) ≠ 69), fr_up_nc _ _ _ (by decide : (66 : Int) ≠ 69), u5]
          refine fr_imul dX11_takesTree_88 ?_
          refine fr_iconst dX11_takesTree_89 ?_
          refine fr_iadd dX11_takesTree_90 ?_
          refine fr_iconst dX11_takesTree_91 ?_
          refine fr_iast dX11_takesTree_92 ⟨by decide, by decide, rfl, by decide⟩ (by omega) (by omega) ?_
          refine fr_al0 dX11_takesTree_93 ?_
          refine fr_dup dX11_takesTree_94 rfl ?_
          refine fr_geti (kz := 4) dX11_takesTree_95 flX11_100 ⟨by decide, by decide, rfl⟩ rfl rfl ?_
          refine fr_iconst dX11_takesTree_98 ?_
          refine fr_iadd dX11_takesTree_99 ?_
          refine fr_put (kz := 4) dX11_takesTree_100 fpX11_100 ⟨by decide, by decide, rfl⟩ rfl rfl (fun h => by cases h) ?_
          refine fr_iconst dX11_takesTree_103 ?_
          refine fr_is3 dX11_takesTree_104 rfl (Nat.le_of_ble_eq_true rfl) ?_
          refine fr_wk ?_ (ls := [some (fr_r κ 66), none, none, some (fr_i (1 + (0 : Int)))]) ⟨rfl, rfl, trivial⟩
          refine (fr_down (P := fun j : Nat => ∀ (m : fr_Me), (m 66 4 = (if j = 0 then sp_r0 tp n a + 1 else if j = 1 then sp_r1 tp n a + 1 else sp_r2 tp n a + 1) ∧ m 66 5 = μ 66 5 ∧ m 69 (3 * μ 66 5) = sp_tk tp n a ∧ m 69 (3 * μ 66 5 + 1) = (if j = 0 then 5 else sp_u1 (μ 67 43) tp n a) ∧ m 69 (3 * μ 66 5 + 2) = (if j < 2 then 5 else sp_u2 (μ 67 43) tp n a) ∧ (1 ≤ j → 0 ≤ sp_u1 (μ 67 43) tp n a) ∧ (2 ≤ j → 0 ≤ sp_u2 (μ 67 43) tp n a) ∧ (∀ k, (k < 3 * μ 66 5 ∨ 3 * μ 66 5 + 3 ≤ k) → m 69 k = μ 69 k) ∧ (∀ k, k ≠ 4 → k ≠ 5 → m 66 k = μ 66 k) ∧ ∀ c, c ≠ 66 → c ≠ 69 → m c = μ c) → fr_A l κ fmX11_takesTree 4 (fr_Pi (fun z m => (sp_tk tp n a < 0 ∧ z = 0 ∧ m = fr_up μ 66 4 (sp_r0 tp n a)) ∨ (0 ≤ sp_tk tp n a ∧ z = 1 ∧ m 66 4 = sp_te (μ 67 43) tp n a ∧ m 66 5 = μ 66 5 + 1 ∧ m 69 (3 * μ 66 5) = sp_tk tp n a ∧ m 69 (3 * μ 66 5 + 1) = sp_tl (μ 67 43) tp n a ∧ m 69 (3 * μ 66 5 + 2) = sp_tb (μ 67 43) tp n a ∧ (∀ k, (k < 3 * μ 66 5 ∨ 3 * μ 66 5 + 3 ≤ k) → m 69 k = μ 69 k) ∧ (∀ k, k ≠ 4 → k ≠ 5 → m 66 k = μ 66 k) ∧ ∀ c, c ≠ 66 → c ≠ 69 → m c = μ c))) 105 [some (fr_r κ 66), none, none, some (fr_i (1 + (j : Int)))] [] m) 2 ?_ (fun j hj105 ih105 => ?_)) _ (⟨by simp [fr_up_get], by simp [fr_up_get], by rw [fr_up_nc _ _ _ (by decide), fr_up_nk _ _ _ (by omega), fr_up_nk _ _ _ (by omega), fr_up_eq]; unfold sp_tk sp_kd; (repeat' split) <;> omega, by rw [fr_up_nc _ _ _ (by decide), fr_up_nk _ _ _ (by omega), fr_up_eq]; rfl, by rw [fr_up_nc _ _ _ (by decide), fr_up_eq]; rfl, fun h => absurd h (by decide), fun h => absurd h (by decide), fun k hk => by rw [fr_up_nc _ _ _ (by decide), fr_up_nk _ _ _ (by omega), fr_up_nk _ _ _ (by omega), fr_up_nk _ _ _ (by omega), fr_up_nc _ _ _ (by decide)], fun k h1 h2 => by rw [fr_up_nk _ _ _ h1, fr_up_nc _ _ _ (by decide), fr_up_nc _ _ _ (by decide), fr_up_nc _ _ _ (by decide), fr_up_nk _ _ _ h1], fun c h1 h2 => by rw [fr_up_nc _ _ _ h1, fr_up_nc _ _ _ h2, fr_up_nc _ _ _ h2, fr_up_nc _ _ _ h2, fr_up_nc _ _ _ h1]⟩)
          · skip
            intro m hm
            have u1p := hm.2.2.2.2.2.1 (by decide)
            have u2p := hm.2.2.2.2.2.2.1 (by decide)
            obtain ⟨m4, m5, mk, ml, mb, mu1, mu2, mf9, mf6, mfc⟩ := hm
            refine fr_il3 dX11_takesTree_105 ?_
            refine fr_iconst dX11_takesTree_106 ?_
            refine fr_icmp_ge (tgt := 158) dX11_takesTree_107 (by decide) (by omega) (by omega) (fun h7 => ?_) (fun h7 => ?_)
            · skip
              refine fr_al0 dX11_takesTree_158 ?_
              refine fr_dup dX11_takesTree_159 rfl ?_
              refine fr_geti (kz := 5) dX11_takesTree_160 flX11_111 ⟨by decide, by decide, rfl⟩ rfl rfl ?_
              refine fr_iconst dX11_takesTree_163 ?_
              refine fr_iadd dX11_takesTree_164 ?_
              refine fr_put (kz := 5) dX11_takesTree_165 fpX11_111 ⟨by decide, by decide, rfl⟩ rfl rfl (fun h => by cases h) ?_
              refine fr_iconst dX11_takesTree_168 ?_
              exact fr_zret dX11_takesTree_169 rfl (Or.inr rfl) (fr_pi (Or.inr ⟨kp9, rfl, by rw [fr_up_nk _ _ _ (by decide)]; unfold sp_te; rw [if_neg (by omega), if_neg (by omega)]; exact m4, by rw [fr_up_eq, m5], by simp only [fr_up_nc _ _ _ (by decide : (69 : Int) ≠ 66)]; exact mk, by simp only [fr_up_nc _ _ _ (by decide : (69 : Int) ≠ 66)]; unfold sp_tl; rw [if_neg (by omega)]; exact ml, by simp only [fr_up_nc _ _ _ (by decide : (69 : Int) ≠ 66)]; unfold sp_tb; rw [if_neg (by omega), if_neg (by omega)]; exact mb, fun k hk => by simp only [fr_up_nc _ _ _ (by decide : (69 : Int) ≠ 66)]; exact mf9 k hk, fun k h1 h2 => by simp only [fr_up_nk _ _ _ h1, fr_up_nk _ _ _ h2]; exact mf6 k h1 h2, fun c h1 h2 => by simp only [fr_up_nc _ _ _ h1]; exact mfc c h1 h2⟩))
            · skip
              exfalso; omega
          · skip
            intro m hm
            obtain ⟨m4, m5, mk, ml, mb, mu1, mu2, mf9, mf6, mfc⟩ := hm
            rcases (by omega : j = 0 ∨ j = 1) with hj0 | hj0
            · skip
              subst hj0
              simp only [if_true, if_false, if_neg (by decide : ¬ (1 : Nat) = 0), if_pos (by decide : (0 : Nat) < 2), if_pos (by decide : (1 : Nat) < 2)] at m4 ml mb
              obtain ⟨pj, epj⟩ : ∃ x, x = sp_r0 tp n a + 1 := ⟨_, rfl⟩
              rw [← epj] at m4
              obtain ⟨rj, erj0⟩ : ∃ x, x = sp_r1 tp n a := ⟨_, rfl⟩
              obtain ⟨uj, euj⟩ : ∃ x, x = sp_u1 (μ 67 43) tp n a := ⟨_, rfl⟩
              have zj := sp_r1_rg tp z0n
              have erj : sp_skp tp n pj = rj := by rw [epj, erj0]; rfl
              have eij : sp_skp tp n rj = rj := by rw [← erj]; exact sp_skp_idem tp (by omega)
              have ewj : sp_wh (μ 67 43) (sp_ch tp n rj) = uj := by rw [erj0, euj]; rfl
              have cj := sp_ch_rg hl (show 0 ≤ rj by omega)
              have wj := sp_wh_rg iM (sp_ch tp n rj)
              rw [ewj] at wj
              have g5 : fr_up m 66 4 rj 66 5 = μ 66 5 := by rw [fr_up_nk _ _ _ (by decide)]; exact m5
              refine fr_il3 dX11_takesTree_105 ?_
              refine fr_iconst dX11_takesTree_106 ?_
              refine fr_icmp_ge (tgt := 158) dX11_takesTree_107 (by decide) (by omega) (by omega) (fun h8 => ?_) (fun h8 => ?_)
              · skip
                exfalso; omega
              · skip
                refine fr_al0 dX11_takesTree_110 ?_
                refine fr_al0 dX11_takesTree_111 ?_
                refine fr_cVi (mi' := fmX11_ahead) dX11_takesTree_112 mlX11_107 mvX11_ahead ⟨11, _, ⟨by decide, by decide, rfl⟩, rfl, rfl⟩ (Nat.le_of_ble_eq_true rfl) (kcX11_ahead (tp := tp) (n := n) (a := pj) (by rw [mfc 68 (by decide) (by decide)]; exact e1) (by rw [mf6 3 (by decide) (by decide)]; exact e2) m4 hl (by omega)) rfl rfl (Nat.le_of_ble_eq_true rfl) ?_
                rw [erj]
                refine fr_cVi (mi' := fmX11_whoIs) dX11_takesTree_115 mlX11_114 mvX11_whoIs ⟨11, _, ⟨by decide, by decide, rfl⟩, rfl, rfl⟩ (Nat.le_of_ble_eq_true rfl) (kcX11_whoIs (by simp only [fr_up_nc _ _ _ (by decide : (67 : Int) ≠ 66), mfc 67 (by decide) (by decide)]; exact hI) cj) rfl rfl (Nat.le_of_ble_eq_true rfl) ?_
                rw [fr_up_nc _ _ _ (by decide : (67 : Int) ≠ 66), mfc 67 (by decide) (by decide), ewj]
                refine fr_if_lt (tgt := 158) dX11_takesTree_118 (by decide) (by omega) (fun h9 => ?_) (fun h9 => ?_)
                · skip
                  refine fr_al0 dX11_takesTree_158 ?_
                  refine fr_dup dX11_takesTree_159 rfl ?_
                  refine fr_geti (kz := 5) dX11_takesTree_160 flX11_111 ⟨by decide, by decide, rfl⟩ rfl rfl ?_
                  refine fr_iconst dX11_takesTree_163 ?_
                  refine fr_iadd dX11_takesTree_164 ?_
                  refine fr_put (kz := 5) dX11_takesTree_165 fpX11_111 ⟨by decide, by decide, rfl⟩ rfl rfl (fun h => by cases h) ?_
                  refine fr_iconst dX11_takesTree_168 ?_
                  exact fr_zret dX11_takesTree_169 rfl (Or.inr rfl) (fr_pi (Or.inr ⟨kp9, rfl, by rw [fr_up_nk _ _ _ (by decide), fr_up_eq]; unfold sp_te; rw [if_pos (by omega)]; exact erj0, by rw [fr_up_eq, g5], by simp only [fr_up_nc _ _ _ (by decide : (69 : Int) ≠ 66)]; exact mk, by simp only [fr_up_nc _ _ _ (by decide : (69 : Int) ≠ 66)]; unfold sp_tl; rw [if_pos (by omega)]; exact ml, by simp only [fr_up_nc _ _ _ (by decide : (69 : Int) ≠ 66)]; unfold sp_tb; rw [if_pos (by omega)]; exact mb, fun k hk => by simp only [fr_up_nc _ _ _ (by decide : (69 : Int) ≠ 66)]; exact mf9 k hk, fun k h1 h2 => by simp only [fr_up_nk _ _ _ h1, fr_up_nk _ _ _ h2]; exact mf6 k h1 h2, fun c h1 h2 => by simp only [fr_up_nc _ _ _ h1]; exact mfc c h1 h2⟩))
                · skip
                  refine fr_al0 dX11_takesTree_121 ?_
                  refine fr_getr (cz := 69) dX11_takesTree_122 flX11_16 ⟨by decide, by decide, rfl⟩ rfl rfl ?_
                  refine fr_iconst dX11_takesTree_125 ?_
                  refine fr_al0 dX11_takesTree_126 ?_
                  refine fr_geti (kz := 5) dX11_takesTree_127 flX11_111 ⟨by decide, by decide, rfl⟩ rfl rfl ?_
                  rw [g5]
                  refine fr_imul dX11_takesTree_130 ?_
                  refine fr_il3 dX11_takesTree_131 ?_
                  refine fr_iadd dX11_takesTree_132 ?_
                  refine fr_al0 dX11_takesTree_133 ?_
                  refine fr_al0 dX11_takesTree_134 ?_
                  refine fr_cVi (mi' := fmX11_ahead) dX11_takesTree_135 mlX11_107 mvX11_ahead ⟨11, _, ⟨by decide, by decide, rfl⟩, rfl, rfl⟩ (Nat.le_of_ble_eq_true rfl) (kcX11_ahead (tp := tp) (n := n) (a := rj) (by rw [fr_up_nc _ _ _ (by decide), mfc 68 (by decide) (by decide)]; exact e1) (by rw [fr_up_nk _ _ _ (by decide), mf6 3 (by decide) (by decide)]; exact e2) (fr_up_eq _ _ _ _) hl (by omega)) rfl rfl (Nat.le_of_ble_eq_true rfl) ?_
                  rw [eij, fr_up_up]
                  refine fr_cVi (mi' := fmX11_whoIs) dX11_takesTree_138 mlX11_114 mvX11_whoIs ⟨11, _, ⟨by decide, by decide, rfl⟩, rfl, rfl⟩ (Nat.le_of_ble_eq_true rfl) (kcX11_whoIs (by simp only [fr_up_nc _ _ _ (by decide : (67 : Int) ≠ 66), mfc 67 (by decide) (by decide)]; exact hI) cj) rfl rfl (Nat.le_of_ble_eq_true rfl) ?_
                  rw [fr_up_nc _ _ _ (by decide : (67 : Int) ≠ 66), mfc 67 (by decide) (by decide), ewj]
                  refine fr_iast dX11_takesTree_141 ⟨by decide, by decide, rfl, by decide⟩ (by omega) (by omega) ?_
                  refine fr_al0 dX11_takesTree_142 ?_
                  refine fr_dup dX11_takesTree_143 rfl ?_
                  refine fr_geti (kz := 4) dX11_takesTree_144 flX11_100 ⟨by decide, by decide, rfl⟩ rfl rfl ?_
                  refine fr_iconst dX11_takesTree_147 ?_
                  refine fr_iadd dX11_takesTree_148 ?_
                  refine fr_put (kz := 4) dX11_takesTree_149 fpX11_100 ⟨by decide, by decide, rfl⟩ rfl rfl (fun h => by cases h) ?_
                  refine fr_ii3 dX11_takesTree_152 rfl (Nat.le_of_ble_eq_true rfl) ?_
                  refine fr_goto (tgt := 105) dX11_takesTree_155 (by decide) ?_
                  exact fr_wk (ih105 _ ((by first | exact ⟨by simp [fr_up_get, erj0], by simp [fr_up_get, m5], by rw [fr_up_nc _ _ _ (by decide), fr_up_nk _ _ _ (by omega), fr_up_nc _ _ _ (by decide)]; exact mk, by rw [fr_up_nc _ _ _ (by decide)]; simp [fr_up_get, euj], by rw [fr_up_nc _ _ _ (by decide), fr_up_nk _ _ _ (by omega), fr_up_nc _ _ _ (by decide)]; simp [mb], fun _ => by rw [← euj]; omega, fun h => absurd h (by decide), fun k hk => by rw [fr_up_nc _ _ _ (by decide), fr_up_nk _ _ _ (by omega), fr_up_nc _ _ _ (by decide)]; exact mf9 k hk, fun k h1 h2 => by rw [fr_up_nk _ _ _ h1, fr_up_nc _ _ _ (by decide), fr_up_nk _ _ _ h1]; exact mf6 k h1 h2, fun c h1 h2 => by rw [fr_up_nc _ _ _ h1, fr_up_nc _ _ _ h2, fr_up_nc _ _ _ h1]; exact mfc c h1 h2⟩ | exact ⟨by simp [fr_up_get, erj0], by simp [fr_up_get, m5], by rw [fr_up_nc _ _ _ (by decide), fr_up_nk _ _ _ (by omega), fr_up_nc _ _ _ (by decide)]; exact mk, by rw [fr_up_nc _ _ _ (by decide), fr_up_nk _ _ _ (by omega), fr_up_nc _ _ _ (by decide)]; simp [ml], by rw [fr_up_nc _ _ _ (by decide)]; simp [fr_up_get, euj], fun _ => u1p, fun _ => by rw [← euj]; omega, fun k hk => by rw [fr_up_nc _ _ _ (by decide), fr_up_nk _ _ _ (by omega), fr_up_nc _ _ _ (by decide)]; exact mf9 k hk, fun k h1 h2 => by rw [fr_up_nk _ _ _ h1, fr_up_nc _ _ _ (by decide), fr_up_nk _ _ _ h1]; exact mf6 k h1 h2, fun c h1 h2 => by rw [fr_up_nc _ _ _ h1, fr_up_nc _ _ _ h2, fr_up_nc _ _ _ h1]; exact mfc c h1 h2⟩))) ⟨rfl, rfl, trivial⟩
            · skip
              subst hj0
              simp only [if_true, if_false, if_neg (by decide : ¬ (1 : Nat) = 0), if_pos (by decide : (0 : Nat) < 2), if_pos (by decide : (1 : Nat) < 2)] at m4 ml mb
              have u1p := mu1 (by decide)
              have z1n := sp_wh_lt (m := μ 67 43) u1p
              have z1 := sp_r1_rg tp z0n
              obtain ⟨pj, epj⟩ : ∃ x, x = sp_r1 tp n a + 1 := ⟨_, rfl⟩
              rw [← epj] at m4
              obtain ⟨rj, erj0⟩ : ∃ x, x = sp_r2 tp n a := ⟨_, rfl⟩
              obtain ⟨uj, euj⟩ : ∃ x, x = sp_u2 (μ 67 43) tp n a := ⟨_, rfl⟩
              have zj := sp_r2_rg tp z1n
              have erj : sp_skp tp n pj = rj := by rw [epj, erj0]; rfl
              have eij : sp_skp tp n rj = rj := by rw [← erj]; exact sp_skp_idem tp (by omega)
              have ewj : sp_wh (μ 67 43) (sp_ch tp n rj) = uj := by rw [erj0, euj]; rfl
              have cj := sp_ch_rg hl (show 0 ≤ rj by omega)
              have wj := sp_wh_rg iM (sp_ch tp n rj)
              rw [ewj] at wj
              have g5 : fr_up m 66 4 rj 66 5 = μ 66 5 := by rw [fr_up_nk _ _ _ (by decide)]; exact m5
              refine fr_il3 dX11_takesTree_105 ?_
              refine fr_iconst dX11_takesTree_106 ?_
              refine fr_icmp_ge (tgt := 158) dX11_takesTree_107 (by decide) (by omega) (by omega) (fun h10 => ?_) (fun h10 => ?_)
              · skip
                exfalso; omega
              · skip
                refine fr_al0 dX11_takesTree_110 ?_
                refine fr_al0 dX11_takesTree_111 ?_
                refine fr_cVi (mi' := fmX11_ahead) dX11_takesTree_112 mlX11_107 mvX11_ahead ⟨11, _, ⟨by decide, by decide, rfl⟩, rfl, rfl⟩ (Nat.le_of_ble_eq_true rfl) (kcX11_ahead (tp := tp) (n := n) (a := pj) (by rw [mfc 68 (by decide) (by decide)]; exact e1) (by rw [mf6 3 (by decide) (by decide)]; exact e2) m4 hl (by omega)) rfl rfl (Nat.le_of_ble_eq_true rfl) ?_
                rw [erj]
                refine fr_cVi (mi' := fmX11_whoIs) dX11_takesTree_115 mlX11_114 mvX11_whoIs ⟨11, _, ⟨by decide, by decide, rfl⟩, rfl, rfl⟩ (Nat.le_of_ble_eq_true rfl) (kcX11_whoIs (by simp only [fr_up_nc _ _ _ (by decide : (67 : Int) ≠ 66), mfc 67 (by decide) (by decide)]; exact hI) cj) rfl rfl (Nat.le_of_ble_eq_true rfl) ?_
                rw [fr_up_nc _ _ _ (by decide : (67 : Int) ≠ 66), mfc 67 (by decide) (by decide), ewj]
                refine fr_if_lt (tgt := 158) dX11_takesTree_118 (by decide) (by omega) (fun h11 => ?_) (fun h11 => ?_)
                · skip
                  refine fr_al0 dX11_takesTree_158 ?_
                  refine fr_dup dX11_takesTree_159 rfl ?_
                  refine fr_geti (kz := 5) dX11_takesTree_160 flX11_111 ⟨by decide, by decide, rfl⟩ rfl rfl ?_
                  refine fr_iconst dX11_takesTree_163 ?_
                  refine fr_iadd dX11_takesTree_164 ?_
                  refine fr_put (kz := 5) dX11_takesTree_165 fpX11_111 ⟨by decide, by decide, rfl⟩ rfl rfl (fun h => by cases h) ?_
                  refine fr_iconst dX11_takesTree_168 ?_
                  exact fr_zret dX11_takesTree_169 rfl (Or.inr rfl) (fr_pi (Or.inr ⟨kp9, rfl, by rw [fr_up_nk _ _ _ (by decide), fr_up_eq]; unfold sp_te; rw [if_neg (by omega), if_pos (by omega)]; exact erj0, by rw [fr_up_eq, g5], by simp only [fr_up_nc _ _ _ (by decide : (69 : Int) ≠ 66)]; exact mk, by simp only [fr_up_nc _ _ _ (by decide : (69 : Int) ≠ 66)]; unfold sp_tl; rw [if_neg (by omega)]; exact ml, by simp only [fr_up_nc _ _ _ (by decide : (69 : Int) ≠ 66)]; unfold sp_tb; rw [if_neg (by omega), if_pos (by omega)]; exact mb, fun k hk => by simp only [fr_up_nc _ _ _ (by decide : (69 : Int) ≠ 66)]; exact mf9 k hk, fun k h1 h2 => by simp only [fr_up_nk _ _ _ h1, fr_up_nk _ _ _ h2]; exact mf6 k h1 h2, fun c h1 h2 => by simp only [fr_up_nc _ _ _ h1]; exact mfc c h1 h2⟩))
                · skip
                  refine fr_al0 dX11_takesTree_121 ?_
                  refine fr_getr (cz := 69) dX11_takesTree_122 flX11_16 ⟨by decide, by decide, rfl⟩ rfl rfl ?_
                  refine fr_iconst dX11_takesTree_125 ?_
                  refine fr_al0 dX11_takesTree_126 ?_
                  refine fr_geti (kz := 5) dX11_takesTree_127 flX11_111 ⟨by decide, by decide, rfl⟩ rfl rfl ?_
                  rw [g5]
                  refine fr_imul dX11_takesTree_130 ?_
                  refine fr_il3 dX11_takesTree_131 ?_
                  refine fr_iadd dX11_takesTree_132 ?_
                  refine fr_al0 dX11_takesTree_133 ?_
                  refine fr_al0 dX11_takesTree_134 ?_
                  refine fr_cVi (mi' := fmX11_ahead) dX11_takesTree_135 mlX11_107 mvX11_ahead ⟨11, _, ⟨by decide, by decide, rfl⟩, rfl, rfl⟩ (Nat.le_of_ble_eq_true rfl) (kcX11_ahead (tp := tp) (n := n) (a := rj) (by rw [fr_up_nc _ _ _ (by decide), mfc 68 (by decide) (by decide)]; exact e1) (by rw [fr_up_nk _ _ _ (by decide), mf6 3 (by decide) (by decide)]; exact e2) (fr_up_eq _ _ _ _) hl (by omega)) rfl rfl (Nat.le_of_ble_eq_true rfl) ?_
                  rw [eij, fr_up_up]
                  refine fr_cVi (mi' := fmX11_whoIs) dX11_takesTree_138 mlX11_114 mvX11_whoIs ⟨11, _, ⟨by decide, by decide, rfl⟩, rfl, rfl⟩ (Nat.le_of_ble_eq_true rfl) (kcX11_whoIs (by simp only [fr_up_nc _ _ _ (by decide : (67 : Int) ≠ 66), mfc 67 (by decide) (by decide)]; exact hI) cj) rfl rfl (Nat.le_of_ble_eq_true rfl) ?_
                  rw [fr_up_nc _ _ _ (by decide : (67 : Int) ≠ 66), mfc 67 (by decide) (by decide), ewj]
                  refine fr_iast dX11_takesTree_141 ⟨by decide, by decide, rfl, by decide⟩ (by omega) (by omega) ?_
                  refine fr_al0 dX11_takesTree_142 ?_
                  refine fr_dup dX11_takesTree_143 rfl ?_
                  refine fr_geti (kz := 4) dX11_takesTree_144 flX11_100 ⟨by decide, by decide, rfl⟩ rfl rfl ?_
                  refine fr_iconst dX11_takesTree_147 ?_
                  refine fr_iadd dX11_takesTree_148 ?_
                  refine fr_put (kz := 4) dX11_takesTree_149 fpX11_100 ⟨by decide, by decide, rfl⟩ rfl rfl (fun h => by cases h) ?_
                  refine fr_ii3 dX11_takesTree_152 rfl (Nat.le_of_ble_eq_true rfl) ?_
                  refine fr_goto (tgt := 105) dX11_takesTree_155 (by decide) ?_
                  exact fr_wk (ih105 _ ((by first | exact ⟨by simp [fr_up_get, erj0], by simp [fr_up_get, m5], by rw [fr_up_nc _ _ _ (by decide), fr_up_nk _ _ _ (by omega), fr_up_nc _ _ _ (by decide)]; exact mk, by rw [fr_up_nc _ _ _ (by decide)]; simp [fr_up_get, euj], by rw [fr_up_nc _ _ _ (by decide), fr_up_nk _ _ _ (by omega), fr_up_nc _ _ _ (by decide)]; simp [mb], fun _ => by rw [← euj]; omega, fun h => absurd h (by decide), fun k hk => by rw [fr_up_nc _ _ _ (by decide), fr_up_nk _ _ _ (by omega), fr_up_nc _ _ _ (by decide)]; exact mf9 k hk, fun k h1 h2 => by rw [fr_up_nk _ _ _ h1, fr_up_nc _ _ _ (by decide), fr_up_nk _ _ _ h1]; exact mf6 k h1 h2, fun c h1 h2 => by rw [fr_up_nc _ _ _ h1, fr_up_nc _ _ _ h2, fr_up_nc _ _ _ h1]; exact mfc c h1 h2⟩ | exact ⟨by simp [fr_up_get, erj0], by simp [fr_up_get, m5], by rw [fr_up_nc _ _ _ (by decide), fr_up_nk _ _ _ (by omega), fr_up_nc _ _ _ (by decide)]; exact mk, by rw [fr_up_nc _ _ _ (by decide), fr_up_nk _ _ _ (by omega), fr_up_nc _ _ _ (by decide)]; simp [ml], by rw [fr_up_nc _ _ _ (by decide)]; simp [fr_up_get, euj], fun _ => u1p, fun _ => by rw [← euj]; omega, fun k hk => by rw [fr_up_nc _ _ _ (by decide), fr_up_nk _ _ _ (by omega), fr_up_nc _ _ _ (by decide)]; exact mf9 k hk, fun k h1 h2 => by rw [fr_up_nk _ _ _ h1, fr_up_nc _ _ _ (by decide), fr_up_nk _ _ _ h1]; exact mf6 k h1 h2, fun c h1 h2 => by rw [fr_up_nc _ _ _ h1, fr_up_nc _ _ _ h2, fr_up_nc _ _ _ h1]; exact mfc c h1 h2⟩))) ⟨rfl, rfl, trivial⟩
      · skip
        refine fr_iconst dX11_takesTree_31 ?_
        refine fr_goto (tgt := 46) dX11_takesTree_32 (by decide) ?_
        refine fr_is2 dX11_takesTree_46 rfl (Nat.le_of_ble_eq_true rfl) ?_
        refine fr_il2 dX11_takesTree_47 ?_
        refine fr_if_ge (tgt := 53) dX11_takesTree_48 (by decide) (by decide) (fun _ => ?_) (fun h12 => absurd h12 (by decide))
        refine fr_al0 dX11_takesTree_53 ?_
        refine fr_getr (cz := 69) dX11_takesTree_54 flX11_16 ⟨by decide, by decide, rfl⟩ rfl rfl ?_
        have u5 : fr_up μ 66 4 (sp_r0 tp n a) 66 5 = μ 66 5 := fr_up_nk _ _ _ (by decide)
        have kp9 : 0 ≤ sp_tk tp n a := by unfold sp_tk sp_kd; (repeat' split) <;> omega
        have z0n : sp_r0 tp n a < n := sp_kd_lt kp9
        refine fr_iconst dX11_takesTree_57 ?_
        refine fr_al0 dX11_takesTree_58 ?_
        refine fr_geti (kz := 5) dX11_takesTree_59 flX11_111 ⟨by decide, by decide, rfl⟩ rfl rfl ?_
        rw [u5]
        refine fr_imul dX11_takesTree_62 ?_
        refine fr_il2 dX11_takesTree_63 ?_
        refine fr_iast dX11_takesTree_64 ⟨by decide, by decide, rfl, by decide⟩ (by omega) (by omega) ?_
        refine fr_al0 dX11_takesTree_65 ?_
        refine fr_getr (cz := 69) dX11_takesTree_66 flX11_16 ⟨by decide, by decide, rfl⟩ rfl rfl ?_
        refine fr_iconst dX11_takesTree_69 ?_
        refine fr_al0 dX11_takesTree_70 ?_
        refine fr_geti (kz := 5) dX11_takesTree_71 flX11_111 ⟨by decide, by decide, rfl⟩ rfl rfl ?_
        rw [fr_up_nc _ _ _ (by decide : (66 : Int) ≠ 69), u5]
        refine fr_imul dX11_takesTree_74 ?_
        refine fr_iconst dX11_takesTree_75 ?_
        refine fr_iadd dX11_takesTree_76 ?_
        refine fr_iconst dX11_takesTree_77 ?_
        refine fr_iast dX11_takesTree_78 ⟨by decide, by decide, rfl, by decide⟩ (by omega) (by omega) ?_
        refine fr_al0 dX11_takesTree_79 ?_
        refine fr_getr (cz := 69) dX11_takesTree_80 flX11_16 ⟨by decide, by decide, rfl⟩ rfl rfl ?_
        refine fr_iconst dX11_takesTree_83 ?_
        refine fr_al0 dX11_takesTree_84 ?_
        refine fr_geti (kz := 5) dX11_takesTree_85 flX11_111 ⟨by decide, by decide, rfl⟩ rfl rfl ?_
        rw [fr_up_nc _ _ _ (by decide : (66 : Int) ≠ 69), fr_up_nc _ _ _ (by decide : (66 : Int) ≠ 69), u5]
        refine fr_imul dX11_takesTree_88 ?_
        refine fr_iconst dX11_takesTree_89 ?_
        refine fr_iadd dX11_takesTree_90 ?_
        refine fr_iconst dX11_takesTree_91 ?_
        refine fr_iast dX11_takesTree_92 ⟨by decide, by decide, rfl, by decide⟩ (by omega) (by omega) ?_
        refine fr_al0 dX11_takesTree_93 ?_
        refine fr_dup dX11_takesTree_94 rfl ?_
        refine fr_geti (kz := 4) dX11_takesTree_95 flX11_100 ⟨by decide, by decide, rfl⟩ rfl rfl ?_
        refine fr_iconst dX11_takesTree_98 ?_
        refine fr_iadd dX11_takesTree_99 ?_
        refine fr_put (kz := 4) dX11_takesTree_100 fpX11_100 ⟨by decide, by decide, rfl⟩ rfl rfl (fun h => by cases h) ?_
        refine fr_iconst dX11_takesTree_103 ?_
        refine fr_is3 dX11_takesTree_104 rfl (Nat.le_of_ble_eq_true rfl) ?_
        refine fr_wk ?_ (ls := [some (fr_r κ 66), none, none, some (fr_i (1 + (0 : Int)))]) ⟨rfl, rfl, trivial⟩
        refine (fr_down (P := fun j : Nat => ∀ (m : fr_Me), (m 66 4 = (if j = 0 then sp_r0 tp n a + 1 else if j = 1 then sp_r1 tp n a + 1 else sp_r2 tp n a + 1) ∧ m 66 5 = μ 66 5 ∧ m 69 (3 * μ 66 5) = sp_tk tp n a ∧ m 69 (3 * μ 66 5 + 1) = (if j = 0 then 5 else sp_u1 (μ 67 43) tp n a) ∧ m 69 (3 * μ 66 5 + 2) = (if j < 2 then 5 else sp_u2 (μ 67 43) tp n a) ∧ (1 ≤ j → 0 ≤ sp_u1 (μ 67 43) tp n a) ∧ (2 ≤ j → 0 ≤ sp_u2 (μ 67 43) tp n a) ∧ (∀ k, (k < 3 * μ 66 5 ∨ 3 * μ 66 5 + 3 ≤ k) → m 69 k = μ 69 k) ∧ (∀ k, k ≠ 4 → k ≠ 5 → m 66 k = μ 66 k) ∧ ∀ c, c ≠ 66 → c ≠ 69 → m c = μ c) → fr_A l κ fmX11_takesTree 4 (fr_Pi (fun z m => (sp_tk tp n a < 0 ∧ z = 0 ∧ m = fr_up μ 66 4 (sp_r0 tp n a)) ∨ (0 ≤ sp_tk tp n a ∧ z = 1 ∧ m 66 4 = sp_te (μ 67 43) tp n a ∧ m 66 5 = μ 66 5 + 1 ∧ m 69 (3 * μ 66 5) = sp_tk tp n a ∧ m 69 (3 * μ 66 5 + 1) = sp_tl (μ 67 43) tp n a ∧ m 69 (3 * μ 66 5 + 2) = sp_tb (μ 67 43) tp n a ∧ (∀ k, (k < 3 * μ 66 5 ∨ 3 * μ 66 5 + 3 ≤ k) → m 69 k = μ 69 k) ∧ (∀ k, k ≠ 4 → k ≠ 5 → m 66 k = μ 66 k) ∧ ∀ c, c ≠ 66 → c ≠ 69 → m c = μ c))) 105 [some (fr_r κ 66), none, none, some (fr_i (1 + (j : Int)))] [] m) 2 ?_ (fun j hj105 ih105 => ?_)) _ (⟨by simp [fr_up_get], by simp [fr_up_get], by rw [fr_up_nc _ _ _ (by decide), fr_up_nk _ _ _ (by omega), fr_up_nk _ _ _ (by omega), fr_up_eq]; unfold sp_tk sp_kd; (repeat' split) <;> omega, by rw [fr_up_nc _ _ _ (by decide), fr_up_nk _ _ _ (by omega), fr_up_eq]; rfl, by rw [fr_up_nc _ _ _ (by decide), fr_up_eq]; rfl, fun h => absurd h (by decide), fun h => absurd h (by decide), fun k hk => by rw [fr_up_nc _ _ _ (by decide), fr_up_nk _ _ _ (by omega), fr_up_nk _ _ _ (by omega), fr_up_nk _ _ _ (by omega), fr_up_nc _ _ _ (by decide)], fun k h1 h2 => by rw [fr_up_nk _ _ _ h1, fr_up_nc _ _ _ (by decide), fr_up_nc _ _ _ (by decide), fr_up_nc _ _ _ (by decide), fr_up_nk _ _ _ h1], fun c h1 h2 => by rw [fr_up_nc _ _ _ h1, fr_up_nc _ _ _ h2, fr_up_nc _ _ _ h2, fr_up_nc _ _ _ h2, fr_up_nc _ _ _ h1]⟩)
        · skip
          intro m hm
          have u1p := hm.2.2.2.2.2.1 (by decide)
          have u2p := hm.2.2.2.2.2.2.1 (by decide)
          obtain ⟨m4, m5, mk, ml, mb, mu1, mu2, mf9, mf6, mfc⟩ := hm
          refine fr_il3 dX11_takesTree_105 ?_
          refine fr_iconst dX11_takesTree_106 ?_
          refine fr_icmp_ge (tgt := 158) dX11_takesTree_107 (by decide) (by omega) (by omega) (fun h13 => ?_) (fun h13 => ?_)
          · skip
            refine fr_al0 dX11_takesTree_158 ?_
            refine fr_dup dX11_takesTree_159 rfl ?_
            refine fr_geti (kz := 5) dX11_takesTree_160 flX11_111 ⟨by decide, by decide, rfl⟩ rfl rfl ?_
            refine fr_iconst dX11_takesTree_163 ?_
            refine fr_iadd dX11_takesTree_164 ?_
            refine fr_put (kz := 5) dX11_takesTree_165 fpX11_111 ⟨by decide, by decide, rfl⟩ rfl rfl (fun h => by cases h) ?_
            refine fr_iconst dX11_takesTree_168 ?_
            exact fr_zret dX11_takesTree_169 rfl (Or.inr rfl) (fr_pi (Or.inr ⟨kp9, rfl, by rw [fr_up_nk _ _ _ (by decide)]; unfold sp_te; rw [if_neg (by omega), if_neg (by omega)]; exact m4, by rw [fr_up_eq, m5], by simp only [fr_up_nc _ _ _ (by decide : (69 : Int) ≠ 66)]; exact mk, by simp only [fr_up_nc _ _ _ (by decide : (69 : Int) ≠ 66)]; unfold sp_tl; rw [if_neg (by omega)]; exact ml, by simp only [fr_up_nc _ _ _ (by decide : (69 : Int) ≠ 66)]; unfold sp_tb; rw [if_neg (by omega), if_neg (by omega)]; exact mb, fun k hk => by simp only [fr_up_nc _ _ _ (by decide : (69 : Int) ≠ 66)]; exact mf9 k hk, fun k h1 h2 => by simp only [fr_up_nk _ _ _ h1, fr_up_nk _ _ _ h2]; exact mf6 k h1 h2, fun c h1 h2 => by simp only [fr_up_nc _ _ _ h1]; exact mfc c h1 h2⟩))
          · skip
            exfalso; omega
        · skip
          intro m hm
          obtain ⟨m4, m5, mk, ml, mb, mu1, mu2, mf9, mf6, mfc⟩ := hm
          rcases (by omega : j = 0 ∨ j = 1) with hj0 | hj0
          · skip
            subst hj0
            simp only [if_true, if_false, if_neg (by decide : ¬ (1 : Nat) = 0), if_pos (by decide : (0 : Nat) < 2), if_pos (by decide : (1 : Nat) < 2)] at m4 ml mb
            obtain ⟨pj, epj⟩ : ∃ x, x = sp_r0 tp n a + 1 := ⟨_, rfl⟩
            rw [← epj] at m4
            obtain ⟨rj, erj0⟩ : ∃ x, x = sp_r1 tp n a := ⟨_, rfl⟩
            obtain ⟨uj, euj⟩ : ∃ x, x = sp_u1 (μ 67 43) tp n a := ⟨_, rfl⟩
            have zj := sp_r1_rg tp z0n
            have erj : sp_skp tp n pj = rj := by rw [epj, erj0]; rfl
            have eij : sp_skp tp n rj = rj := by rw [← erj]; exact sp_skp_idem tp (by omega)
            have ewj : sp_wh (μ 67 43) (sp_ch tp n rj) = uj := by rw [erj0, euj]; rfl
            have cj := sp_ch_rg hl (show 0 ≤ rj by omega)
            have wj := sp_wh_rg iM (sp_ch tp n rj)
            rw [ewj] at wj
            have g5 : fr_up m 66 4 rj 66 5 = μ 66 5 := by rw [fr_up_nk _ _ _ (by decide)]; exact m5
            refine fr_il3 dX11_takesTree_105 ?_
            refine fr_iconst dX11_takesTree_106 ?_
            refine fr_icmp_ge (tgt := 158) dX11_takesTree_107 (by decide) (by omega) (by omega) (fun h14 => ?_) (fun h14 => ?_)
            · skip
              exfalso; omega
            · skip
              refine fr_al0 dX11_takesTree_110 ?_
              refine fr_al0 dX11_takesTree_111 ?_
              refine fr_cVi (mi' := fmX11_ahead) dX11_takesTree_112 mlX11_107 mvX11_ahead ⟨11, _, ⟨by decide, by decide, rfl⟩, rfl, rfl⟩ (Nat.le_of_ble_eq_true rfl) (kcX11_ahead (tp := tp) (n := n) (a := pj) (by rw [mfc 68 (by decide) (by decide)]; exact e1) (by rw [mf6 3 (by decide) (by decide)]; exact e2) m4 hl (by omega)) rfl rfl (Nat.le_of_ble_eq_true rfl) ?_
              rw [erj]
              refine fr_cVi (mi' := fmX11_whoIs) dX11_takesTree_115 mlX11_114 mvX11_whoIs ⟨11, _, ⟨by decide, by decide, rfl⟩, rfl, rfl⟩ (Nat.le_of_ble_eq_true rfl) (kcX11_whoIs (by simp only [fr_up_nc _ _ _ (by decide : (67 : Int) ≠ 66), mfc 67 (by decide) (by decide)]; exact hI) cj) rfl rfl (Nat.le_of_ble_eq_true rfl) ?_
              rw [fr_up_nc _ _ _ (by decide : (67 : Int) ≠ 66), mfc 67 (by decide) (by decide), ewj]
              refine fr_if_lt (tgt := 158) dX11_takesTree_118 (by decide) (by omega) (fun h15 => ?_) (fun h15 => ?_)
              · skip
                refine fr_al0 dX11_takesTree_158 ?_
                refine fr_dup dX11_takesTree_159 rfl ?_
                refine fr_geti (kz := 5) dX11_takesTree_160 flX11_111 ⟨by decide, by decide, rfl⟩ rfl rfl ?_
                refine fr_iconst dX11_takesTree_163 ?_
                refine fr_iadd dX11_takesTree_164 ?_
                refine fr_put (kz := 5) dX11_takesTree_165 fpX11_111 ⟨by decide, by decide, rfl⟩ rfl rfl (fun h => by cases h) ?_
                refine fr_iconst dX11_takesTree_168 ?_
                exact fr_zret dX11_takesTree_169 rfl (Or.inr rfl) (fr_pi (Or.inr ⟨kp9, rfl, by rw [fr_up_nk _ _ _ (by decide), fr_up_eq]; unfold sp_te; rw [if_pos (by omega)]; exact erj0, by rw [fr_up_eq, g5], by simp only [fr_up_nc _ _ _ (by decide : (69 : Int) ≠ 66)]; exact mk, by simp only [fr_up_nc _ _ _ (by decide : (69 : Int) ≠ 66)]; unfold sp_tl; rw [if_pos (by omega)]; exact ml, by simp only [fr_up_nc _ _ _ (by decide : (69 : Int) ≠ 66)]; unfold sp_tb; rw [if_pos (by omega)]; exact mb, fun k hk => by simp only [fr_up_nc _ _ _ (by decide : (69 : Int) ≠ 66)]; exact mf9 k hk, fun k h1 h2 => by simp only [fr_up_nk _ _ _ h1, fr_up_nk _ _ _ h2]; exact mf6 k h1 h2, fun c h1 h2 => by simp only [fr_up_nc _ _ _ h1]; exact mfc c h1 h2⟩))
              · skip
                refine fr_al0 dX11_takesTree_121 ?_
                refine fr_getr (cz := 69) dX11_takesTree_122 flX11_16 ⟨by decide, by decide, rfl⟩ rfl rfl ?_
                refine fr_iconst dX11_takesTree_125 ?_
                refine fr_al0 dX11_takesTree_126 ?_
                refine fr_geti (kz := 5) dX11_takesTree_127 flX11_111 ⟨by decide, by decide, rfl⟩ rfl rfl ?_
                rw [g5]
                refine fr_imul dX11_takesTree_130 ?_
                refine fr_il3 dX11_takesTree_131 ?_
                refine fr_iadd dX11_takesTree_132 ?_
                refine fr_al0 dX11_takesTree_133 ?_
                refine fr_al0 dX11_takesTree_134 ?_
                refine fr_cVi (mi' := fmX11_ahead) dX11_takesTree_135 mlX11_107 mvX11_ahead ⟨11, _, ⟨by decide, by decide, rfl⟩, rfl, rfl⟩ (Nat.le_of_ble_eq_true rfl) (kcX11_ahead (tp := tp) (n := n) (a := rj) (by rw [fr_up_nc _ _ _ (by decide), mfc 68 (by decide) (by decide)]; exact e1) (by rw [fr_up_nk _ _ _ (by decide), mf6 3 (by decide) (by decide)]; exact e2) (fr_up_eq _ _ _ _) hl (by omega)) rfl rfl (Nat.le_of_ble_eq_true rfl) ?_
                rw [eij, fr_up_up]
                refine fr_cVi (mi' := fmX11_whoIs) dX11_takesTree_138 mlX11_114 mvX11_whoIs ⟨11, _, ⟨by decide, by decide, rfl⟩, rfl, rfl⟩ (Nat.le_of_ble_eq_true rfl) (kcX11_whoIs (by simp only [fr_up_nc _ _ _ (by decide : (67 : Int) ≠ 66), mfc 67 (by decide) (by decide)]; exact hI) cj) rfl rfl (Nat.le_of_ble_eq_true rfl) ?_
                rw [fr_up_nc _ _ _ (by decide : (67 : Int) ≠ 66), mfc 67 (by decide) (by decide), ewj]
                refine fr_iast dX11_takesTree_141 ⟨by decide, by decide, rfl, by decide⟩ (by omega) (by omega) ?_
                refine fr_al0 dX11_takesTree_142 ?_
                refine fr_dup dX11_takesTree_143 rfl ?_
                refine fr_geti (kz := 4) dX11_takesTree_144 flX11_100 ⟨by decide, by decide, rfl⟩ rfl rfl ?_
                refine fr_iconst dX11_takesTree_147 ?_
                refine fr_iadd dX11_takesTree_148 ?_
                refine fr_put (kz := 4) dX11_takesTree_149 fpX11_100 ⟨by decide, by decide, rfl⟩ rfl rfl (fun h => by cases h) ?_
                refine fr_ii3 dX11_takesTree_152 rfl (Nat.le_of_ble_eq_true rfl) ?_
                refine fr_goto (tgt := 105) dX11_takesTree_155 (by decide) ?_
                exact fr_wk (ih105 _ ((by first | exact ⟨by simp [fr_up_get, erj0], by simp [fr_up_get, m5], by rw [fr_up_nc _ _ _ (by decide), fr_up_nk _ _ _ (by omega), fr_up_nc _ _ _ (by decide)]; exact mk, by rw [fr_up_nc _ _ _ (by decide)]; simp [fr_up_get, euj], by rw [fr_up_nc _ _ _ (by decide), fr_up_nk _ _ _ (by omega), fr_up_nc _ _ _ (by decide)]; simp [mb], fun _ => by rw [← euj]; omega, fun h => absurd h (by decide), fun k hk => by rw [fr_up_nc _ _ _ (by decide), fr_up_nk _ _ _ (by omega), fr_up_nc _ _ _ (by decide)]; exact mf9 k hk, fun k h1 h2 => by rw [fr_up_nk _ _ _ h1, fr_up_nc _ _ _ (by decide), fr_up_nk _ _ _ h1]; exact mf6 k h1 h2, fun c h1 h2 => by rw [fr_up_nc _ _ _ h1, fr_up_nc _ _ _ h2, fr_up_nc _ _ _ h1]; exact mfc c h1 h2⟩ | exact ⟨by simp [fr_up_get, erj0], by simp [fr_up_get, m5], by rw [fr_up_nc _ _ _ (by decide), fr_up_nk _ _ _ (by omega), fr_up_nc _ _ _ (by decide)]; exact mk, by rw [fr_up_nc _ _ _ (by decide), fr_up_nk _ _ _ (by omega), fr_up_nc _ _ _ (by decide)]; simp [ml], by rw [fr_up_nc _ _ _ (by decide)]; simp [fr_up_get, euj], fun _ => u1p, fun _ => by rw [← euj]; omega, fun k hk => by rw [fr_up_nc _ _ _ (by decide), fr_up_nk _ _ _ (by omega), fr_up_nc _ _ _ (by decide)]; exact mf9 k hk, fun k h1 h2 => by rw [fr_up_nk _ _ _ h1, fr_up_nc _ _ _ (by decide), fr_up_nk _ _ _ h1]; exact mf6 k h1 h2, fun c h1 h2 => by rw [fr_up_nc _ _ _ h1, fr_up_nc _ _ _ h2, fr_up_nc _ _ _ h1]; exact mfc c h1 h2⟩))) ⟨rfl, rfl, trivial⟩
          · skip
            subst hj0
            simp only [if_true, if_false, if_neg (by decide : ¬ (1 : Nat) = 0), if_pos (by decide : (0 : Nat) < 2), if_pos (by decide : (1 : Nat) < 2)] at m4 ml mb
            have u1p := mu1 (by decide)
            have z1n := sp_wh_lt (m := μ 67 43) u1p
            have z1 := sp_r1_rg tp z0n
            obtain ⟨pj, epj⟩ : ∃ x, x = sp_r1 tp n a + 1 := ⟨_, rfl⟩
            rw [← epj] at m4
            obtain ⟨rj, erj0⟩ : ∃ x, x = sp_r2 tp n a := ⟨_, rfl⟩
            obtain ⟨uj, euj⟩ : ∃ x, x = sp_u2 (μ 67 43) tp n a := ⟨_, rfl⟩
            have zj := sp_r2_rg tp z1n
            have erj : sp_skp tp n pj = rj := by rw [epj, erj0]; rfl
            have eij : sp_skp tp n rj = rj := by rw [← erj]; exact sp_skp_idem tp (by omega)
            have ewj : sp_wh (μ 67 43) (sp_ch tp n rj) = uj := by rw [erj0, euj]; rfl
            have cj := sp_ch_rg hl (show 0 ≤ rj by omega)
            have wj := sp_wh_rg iM (sp_ch tp n rj)
            rw [ewj] at wj
            have g5 : fr_up m 66 4 rj 66 5 = μ 66 5 := by rw [fr_up_nk _ _ _ (by decide)]; exact m5
            refine fr_il3 dX11_takesTree_105 ?_
            refine fr_iconst dX11_takesTree_106 ?_
            refine fr_icmp_ge (tgt := 158) dX11_takesTree_107 (by decide) (by omega) (by omega) (fun h16 => ?_) (fun h16 => ?_)
            · skip
              exfalso; omega
            · skip
              refine fr_al0 dX11_takesTree_110 ?_
              refine fr_al0 dX11_takesTree_111 ?_
              refine fr_cVi (mi' := fmX11_ahead) dX11_takesTree_112 mlX11_107 mvX11_ahead ⟨11, _, ⟨by decide, by decide, rfl⟩, rfl, rfl⟩ (Nat.le_of_ble_eq_true rfl) (kcX11_ahead (tp := tp) (n := n) (a := pj) (by rw [mfc 68 (by decide) (by decide)]; exact e1) (by rw [mf6 3 (by decide) (by decide)]; exact e2) m4 hl (by omega)) rfl rfl (Nat.le_of_ble_eq_true rfl) ?_
              rw [erj]
              refine fr_cVi (mi' := fmX11_whoIs) dX11_takesTree_115 mlX11_114 mvX11_whoIs ⟨11, _, ⟨by decide, by decide, rfl⟩, rfl, rfl⟩ (Nat.le_of_ble_eq_true rfl) (kcX11_whoIs (by simp only [fr_up_nc _ _ _ (by decide : (67 : Int) ≠ 66), mfc 67 (by decide) (by decide)]; exact hI) cj) rfl rfl (Nat.le_of_ble_eq_true rfl) ?_
              rw [fr_up_nc _ _ _ (by decide : (67 : Int) ≠ 66), mfc 67 (by decide) (by decide), ewj]
              refine fr_if_lt (tgt := 158) dX11_takesTree_118 (by decide) (by omega) (fun h17 => ?_) (fun h17 => ?_)
              · skip
                refine fr_al0 dX11_takesTree_158 ?_
                refine fr_dup dX11_takesTree_159 rfl ?_
                refine fr_geti (kz := 5) dX11_takesTree_160 flX11_111 ⟨by decide, by decide, rfl⟩ rfl rfl ?_
                refine fr_iconst dX11_takesTree_163 ?_
                refine fr_iadd dX11_takesTree_164 ?_
                refine fr_put (kz := 5) dX11_takesTree_165 fpX11_111 ⟨by decide, by decide, rfl⟩ rfl rfl (fun h => by cases h) ?_
                refine fr_iconst dX11_takesTree_168 ?_
                exact fr_zret dX11_takesTree_169 rfl (Or.inr rfl) (fr_pi (Or.inr ⟨kp9, rfl, by rw [fr_up_nk _ _ _ (by decide), fr_up_eq]; unfold sp_te; rw [if_neg (by omega), if_pos (by omega)]; exact erj0, by rw [fr_up_eq, g5], by simp only [fr_up_nc _ _ _ (by decide : (69 : Int) ≠ 66)]; exact mk, by simp only [fr_up_nc _ _ _ (by decide : (69 : Int) ≠ 66)]; unfold sp_tl; rw [if_neg (by omega)]; exact ml, by simp only [fr_up_nc _ _ _ (by decide : (69 : Int) ≠ 66)]; unfold sp_tb; rw [if_neg (by omega), if_pos (by omega)]; exact mb, fun k hk => by simp only [fr_up_nc _ _ _ (by decide : (69 : Int) ≠ 66)]; exact mf9 k hk, fun k h1 h2 => by simp only [fr_up_nk _ _ _ h1, fr_up_nk _ _ _ h2]; exact mf6 k h1 h2, fun c h1 h2 => by simp only [fr_up_nc _ _ _ h1]; exact mfc c h1 h2⟩))
              · skip
                refine fr_al0 dX11_takesTree_121 ?_
                refine fr_getr (cz := 69) dX11_takesTree_122 flX11_16 ⟨by decide, by decide, rfl⟩ rfl rfl ?_
                refine fr_iconst dX11_takesTree_125 ?_
                refine fr_al0 dX11_takesTree_126 ?_
                refine fr_geti (kz := 5) dX11_takesTree_127 flX11_111 ⟨by decide, by decide, rfl⟩ rfl rfl ?_
                rw [g5]
                refine fr_imul dX11_takesTree_130 ?_
                refine fr_il3 dX11_takesTree_131 ?_
                refine fr_iadd dX11_takesTree_132 ?_
                refine fr_al0 dX11_takesTree_133 ?_
                refine fr_al0 dX11_takesTree_134 ?_
                refine fr_cVi (mi' := fmX11_ahead) dX11_takesTree_135 mlX11_107 mvX11_ahead ⟨11, _, ⟨by decide, by decide, rfl⟩, rfl, rfl⟩ (Nat.le_of_ble_eq_true rfl) (kcX11_ahead (tp := tp) (n := n) (a := rj) (by rw [fr_up_nc _ _ _ (by decide), mfc 68 (by decide) (by decide)]; exact e1) (by rw [fr_up_nk _ _ _ (by decide), mf6 3 (by decide) (by decide)]; exact e2) (fr_up_eq _ _ _ _) hl (by omega)) rfl rfl (Nat.le_of_ble_eq_true rfl) ?_
                rw [eij, fr_up_up]
                refine fr_cVi (mi' := fmX11_whoIs) dX11_takesTree_138 mlX11_114 mvX11_whoIs ⟨11, _, ⟨by decide, by decide, rfl⟩, rfl, rfl⟩ (Nat.le_of_ble_eq_true rfl) (kcX11_whoIs (by simp only [fr_up_nc _ _ _ (by decide : (67 : Int) ≠ 66), mfc 67 (by decide) (by decide)]; exact hI) cj) rfl rfl (Nat.le_of_ble_eq_true rfl) ?_
                rw [fr_up_nc _ _ _ (by decide : (67 : Int) ≠ 66), mfc 67 (by decide) (by decide), ewj]
                refine fr_iast dX11_takesTree_141 ⟨by decide, by decide, rfl, by decide⟩ (by omega) (by omega) ?_
                refine fr_al0 dX11_takesTree_142 ?_
                refine fr_dup dX11_takesTree_143 rfl ?_
                refine fr_geti (kz := 4) dX11_takesTree_144 flX11_100 ⟨by decide, by decide, rfl⟩ rfl rfl ?_
                refine fr_iconst dX11_takesTree_147 ?_
                refine fr_iadd dX11_takesTree_148 ?_
                refine fr_put (kz := 4) dX11_takesTree_149 fpX11_100 ⟨by decide, by decide, rfl⟩ rfl rfl (fun h => by cases h) ?_
                refine fr_ii3 dX11_takesTree_152 rfl (Nat.le_of_ble_eq_true rfl) ?_
                refine fr_goto (tgt := 105) dX11_takesTree_155 (by decide) ?_
                exact fr_wk (ih105 _ ((by first | exact ⟨by simp [fr_up_get, erj0], by simp [fr_up_get, m5], by rw [fr_up_nc _ _ _ (by decide), fr_up_nk _ _ _ (by omega), fr_up_nc _ _ _ (by decide)]; exact mk, by rw [fr_up_nc _ _ _ (by decide)]; simp [fr_up_get, euj], by rw [fr_up_nc _ _ _ (by decide), fr_up_nk _ _ _ (by omega), fr_up_nc _ _ _ (by decide)]; simp [mb], fun _ => by rw [← euj]; omega, fun h => absurd h (by decide), fun k hk => by rw [fr_up_nc _ _ _ (by decide), fr_up_nk _ _ _ (by omega), fr_up_nc _ _ _ (by decide)]; exact mf9 k hk, fun k h1 h2 => by rw [fr_up_nk _ _ _ h1, fr_up_nc _ _ _ (by decide), fr_up_nk _ _ _ h1]; exact mf6 k h1 h2, fun c h1 h2 => by rw [fr_up_nc _ _ _ h1, fr_up_nc _ _ _ h2, fr_up_nc _ _ _ h1]; exact mfc c h1 h2⟩ | exact ⟨by simp [fr_up_get, erj0], by simp [fr_up_get, m5], by rw [fr_up_nc _ _ _ (by decide), fr_up_nk _ _ _ (by omega), fr_up_nc _ _ _ (by decide)]; exact mk, by rw [fr_up_nc _ _ _ (by decide), fr_up_nk _ _ _ (by omega), fr_up_nc _ _ _ (by decide)]; simp [ml], by rw [fr_up_nc _ _ _ (by decide)]; simp [fr_up_get, euj], fun _ => u1p, fun _ => by rw [← euj]; omega, fun k hk => by rw [fr_up_nc _ _ _ (by decide), fr_up_nk _ _ _ (by omega), fr_up_nc _ _ _ (by decide)]; exact mf9 k hk, fun k h1 h2 => by rw [fr_up_nk _ _ _ h1, fr_up_nc _ _ _ (by decide), fr_up_nk _ _ _ h1]; exact mf6 k h1 h2, fun c h1 h2 => by rw [fr_up_nc _ _ _ h1, fr_up_nc _ _ _ h2, fr_up_nc _ _ _ h1]; exact mfc c h1 h2⟩))) ⟨rfl, rfl, trivial⟩
    · skip
      refine fr_iconst dX11_takesTree_21 ?_
      refine fr_goto (tgt := 46) dX11_takesTree_22 (by decide) ?_
      refine fr_is2 dX11_takesTree_46 rfl (Nat.le_of_ble_eq_true rfl) ?_
      refine fr_il2 dX11_takesTree_47 ?_
      refine fr_if_ge (tgt := 53) dX11_takesTree_48 (by decide) (by decide) (fun _ => ?_) (fun h18 => absurd h18 (by decide))
      refine fr_al0 dX11_takesTree_53 ?_
      refine fr_getr (cz := 69) dX11_takesTree_54 flX11_16 ⟨by decide, by decide, rfl⟩ rfl rfl ?_
      have u5 : fr_up μ 66 4 (sp_r0 tp n a) 66 5 = μ 66 5 := fr_up_nk _ _ _ (by decide)
      have kp9 : 0 ≤ sp_tk tp n a := by unfold sp_tk sp_kd; (repeat' split) <;> omega
      have z0n : sp_r0 tp n a < n := sp_kd_lt kp9
      refine fr_iconst dX11_takesTree_57 ?_
      refine fr_al0 dX11_takesTree_58 ?_
      refine fr_geti (kz := 5) dX11_takesTree_59 flX11_111 ⟨by decide, by decide, rfl⟩ rfl rfl ?_
      rw [u5]
      refine fr_imul dX11_takesTree_62 ?_
      refine fr_il2 dX11_takesTree_63 ?_
      refine fr_iast dX11_takesTree_64 ⟨by decide, by decide, rfl, by decide⟩ (by omega) (by omega) ?_
      refine fr_al0 dX11_takesTree_65 ?_
      refine fr_getr (cz := 69) dX11_takesTree_66 flX11_16 ⟨by decide, by decide, rfl⟩ rfl rfl ?_
      refine fr_iconst dX11_takesTree_69 ?_
      refine fr_al0 dX11_takesTree_70 ?_
      refine fr_geti (kz := 5) dX11_takesTree_71 flX11_111 ⟨by decide, by decide, rfl⟩ rfl rfl ?_
      rw [fr_up_nc _ _ _ (by decide : (66 : Int) ≠ 69), u5]
      refine fr_imul dX11_takesTree_74 ?_
      refine fr_iconst dX11_takesTree_75 ?_
      refine fr_iadd dX11_takesTree_76 ?_
      refine fr_iconst dX11_takesTree_77 ?_
      refine fr_iast dX11_takesTree_78 ⟨by decide, by decide, rfl, by decide⟩ (by omega) (by omega) ?_
      refine fr_al0 dX11_takesTree_79 ?_
      refine fr_getr (cz := 69) dX11_takesTree_80 flX11_16 ⟨by decide, by decide, rfl⟩ rfl rfl ?_
      refine fr_iconst dX11_takesTree_83 ?_
      refine fr_al0 dX11_takesTree_84 ?_
      refine fr_geti (kz := 5) dX11_takesTree_85 flX11_111 ⟨by decide, by decide, rfl⟩ rfl rfl ?_
      rw [fr_up_nc _ _ _ (by decide : (66 : Int) ≠ 69), fr_up_nc _ _ _ (by decide : (66 : Int) ≠ 69), u5]
      refine fr_imul dX11_takesTree_88 ?_
      refine fr_iconst dX11_takesTree_89 ?_
      refine fr_iadd dX11_takesTree_90 ?_
      refine fr_iconst dX11_takesTree_91 ?_
      refine fr_iast dX11_takesTree_92 ⟨by decide, by decide, rfl, by decide⟩ (by omega) (by omega) ?_
      refine fr_al0 dX11_takesTree_93 ?_
      refine fr_dup dX11_takesTree_94 rfl ?_
      refine fr_geti (kz := 4) dX11_takesTree_95 flX11_100 ⟨by decide, by decide, rfl⟩ rfl rfl ?_
      refine fr_iconst dX11_takesTree_98 ?_
      refine fr_iadd dX11_takesTree_99 ?_
      refine fr_put (kz := 4) dX11_takesTree_100 fpX11_100 ⟨by decide, by decide, rfl⟩ rfl rfl (fun h => by cases h) ?_
      refine fr_iconst dX11_takesTree_103 ?_
      refine fr_is3 dX11_takesTree_104 rfl (Nat.le_of_ble_eq_true rfl) ?_
      refine fr_wk ?_ (ls := [some (fr_r κ 66), none, none, some (fr_i (1 + (0 : Int)))]) ⟨rfl, rfl, trivial⟩
      refine (fr_down (P := fun j : Nat => ∀ (m : fr_Me), (m 66 4 = (if j = 0 then sp_r0 tp n a + 1 else if j = 1 then sp_r1 tp n a + 1 else sp_r2 tp n a + 1) ∧ m 66 5 = μ 66 5 ∧ m 69 (3 * μ 66 5) = sp_tk tp n a ∧ m 69 (3 * μ 66 5 + 1) = (if j = 0 then 5 else sp_u1 (μ 67 43) tp n a) ∧ m 69 (3 * μ 66 5 + 2) = (if j < 2 then 5 else sp_u2 (μ 67 43) tp n a) ∧ (1 ≤ j → 0 ≤ sp_u1 (μ 67 43) tp n a) ∧ (2 ≤ j → 0 ≤ sp_u2 (μ 67 43) tp n a) ∧ (∀ k, (k < 3 * μ 66 5 ∨ 3 * μ 66 5 + 3 ≤ k) → m 69 k = μ 69 k) ∧ (∀ k, k ≠ 4 → k ≠ 5 → m 66 k = μ 66 k) ∧ ∀ c, c ≠ 66 → c ≠ 69 → m c = μ c) → fr_A l κ fmX11_takesTree 4 (fr_Pi (fun z m => (sp_tk tp n a < 0 ∧ z = 0 ∧ m = fr_up μ 66 4 (sp_r0 tp n a)) ∨ (0 ≤ sp_tk tp n a ∧ z = 1 ∧ m 66 4 = sp_te (μ 67 43) tp n a ∧ m 66 5 = μ 66 5 + 1 ∧ m 69 (3 * μ 66 5) = sp_tk tp n a ∧ m 69 (3 * μ 66 5 + 1) = sp_tl (μ 67 43) tp n a ∧ m 69 (3 * μ 66 5 + 2) = sp_tb (μ 67 43) tp n a ∧ (∀ k, (k < 3 * μ 66 5 ∨ 3 * μ 66 5 + 3 ≤ k) → m 69 k = μ 69 k) ∧ (∀ k, k ≠ 4 → k ≠ 5 → m 66 k = μ 66 k) ∧ ∀ c, c ≠ 66 → c ≠ 69 → m c = μ c))) 105 [some (fr_r κ 66), none, none, some (fr_i (1 + (j : Int)))] [] m) 2 ?_ (fun j hj105 ih105 => ?_)) _ (⟨by simp [fr_up_get], by simp [fr_up_get], by rw [fr_up_nc _ _ _ (by decide), fr_up_nk _ _ _ (by omega), fr_up_nk _ _ _ (by omega), fr_up_eq]; unfold sp_tk sp_kd; (repeat' split) <;> omega, by rw [fr_up_nc _ _ _ (by decide), fr_up_nk _ _ _ (by omega), fr_up_eq]; rfl, by rw [fr_up_nc _ _ _ (by decide), fr_up_eq]; rfl, fun h => absurd h (by decide), fun h => absurd h (by decide), fun k hk => by rw [fr_up_nc _ _ _ (by decide), fr_up_nk _ _ _ (by omega), fr_up_nk _ _ _ (by omega), fr_up_nk _ _ _ (by omega), fr_up_nc _ _ _ (by decide)], fun k h1 h2 => by rw [fr_up_nk _ _ _ h1, fr_up_nc _ _ _ (by decide), fr_up_nc _ _ _ (by decide), fr_up_nc _ _ _ (by decide), fr_up_nk _ _ _ h1], fun c h1 h2 => by rw [fr_up_nc _ _ _ h1, fr_up_nc _ _ _ h2, fr_up_nc _ _ _ h2, fr_up_nc _ _ _ h2, fr_up_nc _ _ _ h1]⟩)
      · skip
        intro m hm
        have u1p := hm.2.2.2.2.2.1 (by decide)
        have u2p := hm.2.2.2.2.2.2.1 (by decide)
        obtain ⟨m4, m5, mk, ml, mb, mu1, mu2, mf9, mf6, mfc⟩ := hm
        refine fr_il3 dX11_takesTree_105 ?_
        refine fr_iconst dX11_takesTree_106 ?_
        refine fr_icmp_ge (tgt := 158) dX11_takesTree_107 (by decide) (by omega) (by omega) (fun h19 => ?_) (fun h19 => ?_)
        · skip
          refine fr_al0 dX11_takesTree_158 ?_
          refine fr_dup dX11_takesTree_159 rfl ?_
          refine fr_geti (kz := 5) dX11_takesTree_160 flX11_111 ⟨by decide, by decide, rfl⟩ rfl rfl ?_
          refine fr_iconst dX11_takesTree_163 ?_
          refine fr_iadd dX11_takesTree_164 ?_
          refine fr_put (kz := 5) dX11_takesTree_165 fpX11_111 ⟨by decide, by decide, rfl⟩ rfl rfl (fun h => by cases h) ?_
          refine fr_iconst dX11_takesTree_168 ?_
          exact fr_zret dX11_takesTree_169 rfl (Or.inr rfl) (fr_pi (Or.inr ⟨kp9, rfl, by rw [fr_up_nk _ _ _ (by decide)]; unfold sp_te; rw [if_neg (by omega), if_neg (by omega)]; exact m4, by rw [fr_up_eq, m5], by simp only [fr_up_nc _ _ _ (by decide : (69 : Int) ≠ 66)]; exact mk, by simp only [fr_up_nc _ _ _ (by decide : (69 : Int) ≠ 66)]; unfold sp_tl; rw [if_neg (by omega)]; exact ml, by simp only [fr_up_nc _ _ _ (by decide : (69 : Int) ≠ 66)]; unfold sp_tb; rw [if_neg (by omega), if_neg (by omega)]; exact mb, fun k hk => by simp only [fr_up_nc _ _ _ (by decide : (69 : Int) ≠ 66)]; exact mf9 k hk, fun k h1 h2 => by simp only [fr_up_nk _ _ _ h1, fr_up_nk _ _ _ h2]; exact mf6 k h1 h2, fun c h1 h2 => by simp only [fr_up_nc _ _ _ h1]; exact mfc c h1 h2⟩))
        · skip
          exfalso; omega
      · skip
        intro m hm
        obtain ⟨m4, m5, mk, ml, mb, mu1, mu2, mf9, mf6, mfc⟩ := hm
        rcases (by omega : j = 0 ∨ j = 1) with hj0 | hj0
        · skip
          subst hj0
          simp only [if_true, if_false, if_neg (by decide : ¬ (1 : Nat) = 0), if_pos (by decide : (0 : Nat) < 2), if_pos (by decide : (1 : Nat) < 2)] at m4 ml mb
          obtain ⟨pj, epj⟩ : ∃ x, x = sp_r0 tp n a + 1 := ⟨_, rfl⟩
          rw [← epj] at m4
          obtain ⟨rj, erj0⟩ : ∃ x, x = sp_r1 tp n a := ⟨_, rfl⟩
          obtain ⟨uj, euj⟩ : ∃ x, x = sp_u1 (μ 67 43) tp n a := ⟨_, rfl⟩
          have zj := sp_r1_rg tp z0n
          have erj : sp_skp tp n pj = rj := by rw [epj, erj0]; rfl
          have eij : sp_skp tp n rj = rj := by rw [← erj]; exact sp_skp_idem tp (by omega)
          have ewj : sp_wh (μ 67 43) (sp_ch tp n rj) = uj := by rw [erj0, euj]; rfl
          have cj := sp_ch_rg hl (show 0 ≤ rj by omega)
          have wj := sp_wh_rg iM (sp_ch tp n rj)
          rw [ewj] at wj
          have g5 : fr_up m 66 4 rj 66 5 = μ 66 5 := by rw [fr_up_nk _ _ _ (by decide)]; exact m5
          refine fr_il3 dX11_takesTree_105 ?_
          refine fr_iconst dX11_takesTree_106 ?_
          refine fr_icmp_ge (tgt := 158) dX11_takesTree_107 (by decide) (by omega) (by omega) (fun h20 => ?_) (fun h20 => ?_)
          · skip
            exfalso; omega
          · skip
            refine fr_al0 dX11_takesTree_110 ?_
            refine fr_al0 dX11_takesTree_111 ?_
            refine fr_cVi (mi' := fmX11_ahead) dX11_takesTree_112 mlX11_107 mvX11_ahead ⟨11, _, ⟨by decide, by decide, rfl⟩, rfl, rfl⟩ (Nat.le_of_ble_eq_true rfl) (kcX11_ahead (tp := tp) (n := n) (a := pj) (by rw [mfc 68 (by decide) (by decide)]; exact e1) (by rw [mf6 3 (by decide) (by decide)]; exact e2) m4 hl (by omega)) rfl rfl (Nat.le_of_ble_eq_true rfl) ?_
            rw [erj]
            refine fr_cVi (mi' := fmX11_whoIs) dX11_takesTree_115 mlX11_114 mvX11_whoIs ⟨11, _, ⟨by decide, by decide, rfl⟩, rfl, rfl⟩ (Nat.le_of_ble_eq_true rfl) (kcX11_whoIs (by simp only [fr_up_nc _ _ _ (by decide : (67 : Int) ≠ 66), mfc 67 (by decide) (by decide)]; exact hI) cj) rfl rfl (Nat.le_of_ble_eq_true rfl) ?_
            rw [fr_up_nc _ _ _ (by decide : (67 : Int) ≠ 66), mfc 67 (by decide) (by decide), ewj]
            refine fr_if_lt (tgt := 158) dX11_takesTree_118 (by decide) (by omega) (fun h21 => ?_) (fun h21 => ?_)
            · skip
              refine fr_al0 dX11_takesTree_158 ?_
              refine fr_dup dX11_takesTree_159 rfl ?_
              refine fr_geti (kz := 5) dX11_takesTree_160 flX11_111 ⟨by decide, by decide, rfl⟩ rfl rfl ?_
              refine fr_iconst dX11_takesTree_163 ?_
              refine fr_iadd dX11_takesTree_164 ?_
              refine fr_put (kz := 5) dX11_takesTree_165 fpX11_111 ⟨by decide, by decide, rfl⟩ rfl rfl (fun h => by cases h) ?_
              refine fr_iconst dX11_takesTree_168 ?_
              exact fr_zret dX11_takesTree_169 rfl (Or.inr rfl) (fr_pi (Or.inr ⟨kp9, rfl, by rw [fr_up_nk _ _ _ (by decide), fr_up_eq]; unfold sp_te; rw [if_pos (by omega)]; exact erj0, by rw [fr_up_eq, g5], by simp only [fr_up_nc _ _ _ (by decide : (69 : Int) ≠ 66)]; exact mk, by simp only [fr_up_nc _ _ _ (by decide : (69 : Int) ≠ 66)]; unfold sp_tl; rw [if_pos (by omega)]; exact ml, by simp only [fr_up_nc _ _ _ (by decide : (69 : Int) ≠ 66)]; unfold sp_tb; rw [if_pos (by omega)]; exact mb, fun k hk => by simp only [fr_up_nc _ _ _ (by decide : (69 : Int) ≠ 66)]; exact mf9 k hk, fun k h1 h2 => by simp only [fr_up_nk _ _ _ h1, fr_up_nk _ _ _ h2]; exact mf6 k h1 h2, fun c h1 h2 => by simp only [fr_up_nc _ _ _ h1]; exact mfc c h1 h2⟩))
            · skip
              refine fr_al0 dX11_takesTree_121 ?_
              refine fr_getr (cz := 69) dX11_takesTree_122 flX11_16 ⟨by decide, by decide, rfl⟩ rfl rfl ?_
              refine fr_iconst dX11_takesTree_125 ?_
              refine fr_al0 dX11_takesTree_126 ?_
              refine fr_geti (kz := 5) dX11_takesTree_127 flX11_111 ⟨by decide, by decide, rfl⟩ rfl rfl ?_
              rw [g5]
              refine fr_imul dX11_takesTree_130 ?_
              refine fr_il3 dX11_takesTree_131 ?_
              refine fr_iadd dX11_takesTree_132 ?_
              refine fr_al0 dX11_takesTree_133 ?_
              refine fr_al0 dX11_takesTree_134 ?_
              refine fr_cVi (mi' := fmX11_ahead) dX11_takesTree_135 mlX11_107 mvX11_ahead ⟨11, _, ⟨by decide, by decide, rfl⟩, rfl, rfl⟩ (Nat.le_of_ble_eq_true rfl) (kcX11_ahead (tp := tp) (n := n) (a := rj) (by rw [fr_up_nc _ _ _ (by decide), mfc 68 (by decide) (by decide)]; exact e1) (by rw [fr_up_nk _ _ _ (by decide), mf6 3 (by decide) (by decide)]; exact e2) (fr_up_eq _ _ _ _) hl (by omega)) rfl rfl (Nat.le_of_ble_eq_true rfl) ?_
              rw [eij, fr_up_up]
              refine fr_cVi (mi' := fmX11_whoIs) dX11_takesTree_138 mlX11_114 mvX11_whoIs ⟨11, _, ⟨by decide, by decide, rfl⟩, rfl, rfl⟩ (Nat.le_of_ble_eq_true rfl) (kcX11_whoIs (by simp only [fr_up_nc _ _ _ (by decide : (67 : Int) ≠ 66), mfc 67 (by decide) (by decide)]; exact hI) cj) rfl rfl (Nat.le_of_ble_eq_true rfl) ?_
              rw [fr_up_nc _ _ _ (by decide : (67 : Int) ≠ 66), mfc 67 (by decide) (by decide), ewj]
              refine fr_iast dX11_takesTree_141 ⟨by decide, by decide, rfl, by decide⟩ (by omega) (by omega) ?_
              refine fr_al0 dX11_takesTree_142 ?_
              refine fr_dup dX11_takesTree_143 rfl ?_
              refine fr_geti (kz := 4) dX11_takesTree_144 flX11_100 ⟨by decide, by decide, rfl⟩ rfl rfl ?_
              refine fr_iconst dX11_takesTree_147 ?_
              refine fr_iadd dX11_takesTree_148 ?_
              refine fr_put (kz := 4) dX11_takesTree_149 fpX11_100 ⟨by decide, by decide, rfl⟩ rfl rfl (fun h => by cases h) ?_
              refine fr_ii3 dX11_takesTree_152 rfl (Nat.le_of_ble_eq_true rfl) ?_
              refine fr_goto (tgt := 105) dX11_takesTree_155 (by decide) ?_
              exact fr_wk (ih105 _ ((by first | exact ⟨by simp [fr_up_get, erj0], by simp [fr_up_get, m5], by rw [fr_up_nc _ _ _ (by decide), fr_up_nk _ _ _ (by omega), fr_up_nc _ _ _ (by decide)]; exact mk, by rw [fr_up_nc _ _ _ (by decide)]; simp [fr_up_get, euj], by rw [fr_up_nc _ _ _ (by decide), fr_up_nk _ _ _ (by omega), fr_up_nc _ _ _ (by decide)]; simp [mb], fun _ => by rw [← euj]; omega, fun h => absurd h (by decide), fun k hk => by rw [fr_up_nc _ _ _ (by decide), fr_up_nk _ _ _ (by omega), fr_up_nc _ _ _ (by decide)]; exact mf9 k hk, fun k h1 h2 => by rw [fr_up_nk _ _ _ h1, fr_up_nc _ _ _ (by decide), fr_up_nk _ _ _ h1]; exact mf6 k h1 h2, fun c h1 h2 => by rw [fr_up_nc _ _ _ h1, fr_up_nc _ _ _ h2, fr_up_nc _ _ _ h1]; exact mfc c h1 h2⟩ | exact ⟨by simp [fr_up_get, erj0], by simp [fr_up_get, m5], by rw [fr_up_nc _ _ _ (by decide), fr_up_nk _ _ _ (by omega), fr_up_nc _ _ _ (by decide)]; exact mk, by rw [fr_up_nc _ _ _ (by decide), fr_up_nk _ _ _ (by omega), fr_up_nc _ _ _ (by decide)]; simp [ml], by rw [fr_up_nc _ _ _ (by decide)]; simp [fr_up_get, euj], fun _ => u1p, fun _ => by rw [← euj]; omega, fun k hk => by rw [fr_up_nc _ _ _ (by decide), fr_up_nk _ _ _ (by omega), fr_up_nc _ _ _ (by decide)]; exact mf9 k hk, fun k h1 h2 => by rw [fr_up_nk _ _ _ h1, fr_up_nc _ _ _ (by decide), fr_up_nk _ _ _ h1]; exact mf6 k h1 h2, fun c h1 h2 => by rw [fr_up_nc _ _ _ h1, fr_up_nc _ _ _ h2, fr_up_nc _ _ _ h1]; exact mfc c h1 h2⟩))) ⟨rfl, rfl, trivial⟩
        · skip
          subst hj0
          simp only [if_true, if_false, if_neg (by decide : ¬ (1 : Nat) = 0), if_pos (by decide : (0 : Nat) < 2), if_pos (by decide : (1 : Nat) < 2)] at m4 ml mb
          have u1p := mu1 (by decide)
          have z1n := sp_wh_lt (m := μ 67 43) u1p
          have z1 := sp_r1_rg tp z0n
          obtain ⟨pj, epj⟩ : ∃ x, x = sp_r1 tp n a + 1 := ⟨_, rfl⟩
          rw [← epj] at m4
          obtain ⟨rj, erj0⟩ : ∃ x, x = sp_r2 tp n a := ⟨_, rfl⟩
          obtain ⟨uj, euj⟩ : ∃ x, x = sp_u2 (μ 67 43) tp n a := ⟨_, rfl⟩
          have zj := sp_r2_rg tp z1n
          have erj : sp_skp tp n pj = rj := by rw [epj, erj0]; rfl
          have eij : sp_skp tp n rj = rj := by rw [← erj]; exact sp_skp_idem tp (by omega)
          have ewj : sp_wh (μ 67 43) (sp_ch tp n rj) = uj := by rw [erj0, euj]; rfl
          have cj := sp_ch_rg hl (show 0 ≤ rj by omega)
          have wj := sp_wh_rg iM (sp_ch tp n rj)
          rw [ewj] at wj
          have g5 : fr_up m 66 4 rj 66 5 = μ 66 5 := by rw [fr_up_nk _ _ _ (by decide)]; exact m5
          refine fr_il3 dX11_takesTree_105 ?_
          refine fr_iconst dX11_takesTree_106 ?_
          refine fr_icmp_ge (tgt := 158) dX11_takesTree_107 (by decide) (by omega) (by omega) (fun h22 => ?_) (fun h22 => ?_)
          · skip
            exfalso; omega
          · skip
            refine fr_al0 dX11_takesTree_110 ?_
            refine fr_al0 dX11_takesTree_111 ?_
            refine fr_cVi (mi' := fmX11_ahead) dX11_takesTree_112 mlX11_107 mvX11_ahead ⟨11, _, ⟨by decide, by decide, rfl⟩, rfl, rfl⟩ (Nat.le_of_ble_eq_true rfl) (kcX11_ahead (tp := tp) (n := n) (a := pj) (by rw [mfc 68 (by decide) (by decide)]; exact e1) (by rw [mf6 3 (by decide) (by decide)]; exact e2) m4 hl (by omega)) rfl rfl (Nat.le_of_ble_eq_true rfl) ?_
            rw [erj]
            refine fr_cVi (mi' := fmX11_whoIs) dX11_takesTree_115 mlX11_114 mvX11_whoIs ⟨11, _, ⟨by decide, by decide, rfl⟩, rfl, rfl⟩ (Nat.le_of_ble_eq_true rfl) (kcX11_whoIs (by simp only [fr_up_nc _ _ _ (by decide : (67 : Int) ≠ 66), mfc 67 (by decide) (by decide)]; exact hI) cj) rfl rfl (Nat.le_of_ble_eq_true rfl) ?_
            rw [fr_up_nc _ _ _ (by decide : (67 : Int) ≠ 66), mfc 67 (by decide) (by decide), ewj]
            refine fr_if_lt (tgt := 158) dX11_takesTree_118 (by decide) (by omega) (fun h23 => ?_) (fun h23 => ?_)
            · skip
              refine fr_al0 dX11_takesTree_158 ?_
              refine fr_dup dX11_takesTree_159 rfl ?_
              refine fr_geti (kz := 5) dX11_takesTree_160 flX11_111 ⟨by decide, by decide, rfl⟩ rfl rfl ?_
              refine fr_iconst dX11_takesTree_163 ?_
              refine fr_iadd dX11_takesTree_164 ?_
              refine fr_put (kz := 5) dX11_takesTree_165 fpX11_111 ⟨by decide, by decide, rfl⟩ rfl rfl (fun h => by cases h) ?_
              refine fr_iconst dX11_takesTree_168 ?_
              exact fr_zret dX11_takesTree_169 rfl (Or.inr rfl) (fr_pi (Or.inr ⟨kp9, rfl, by rw [fr_up_nk _ _ _ (by decide), fr_up_eq]; unfold sp_te; rw [if_neg (by omega), if_pos (by omega)]; exact erj0, by rw [fr_up_eq, g5], by simp only [fr_up_nc _ _ _ (by decide : (69 : Int) ≠ 66)]; exact mk, by simp only [fr_up_nc _ _ _ (by decide : (69 : Int) ≠ 66)]; unfold sp_tl; rw [if_neg (by omega)]; exact ml, by simp only [fr_up_nc _ _ _ (by decide : (69 : Int) ≠ 66)]; unfold sp_tb; rw [if_neg (by omega), if_pos (by omega)]; exact mb, fun k hk => by simp only [fr_up_nc _ _ _ (by decide : (69 : Int) ≠ 66)]; exact mf9 k hk, fun k h1 h2 => by simp only [fr_up_nk _ _ _ h1, fr_up_nk _ _ _ h2]; exact mf6 k h1 h2, fun c h1 h2 => by simp only [fr_up_nc _ _ _ h1]; exact mfc c h1 h2⟩))
            · skip
              refine fr_al0 dX11_takesTree_121 ?_
              refine fr_getr (cz := 69) dX11_takesTree_122 flX11_16 ⟨by decide, by decide, rfl⟩ rfl rfl ?_
              refine fr_iconst dX11_takesTree_125 ?_
              refine fr_al0 dX11_takesTree_126 ?_
              refine fr_geti (kz := 5) dX11_takesTree_127 flX11_111 ⟨by decide, by decide, rfl⟩ rfl rfl ?_
              rw [g5]
              refine fr_imul dX11_takesTree_130 ?_
              refine fr_il3 dX11_takesTree_131 ?_
              refine fr_iadd dX11_takesTree_132 ?_
              refine fr_al0 dX11_takesTree_133 ?_
              refine fr_al0 dX11_takesTree_134 ?_
              refine fr_cVi (mi' := fmX11_ahead) dX11_takesTree_135 mlX11_107 mvX11_ahead ⟨11, _, ⟨by decide, by decide, rfl⟩, rfl, rfl⟩ (Nat.le_of_ble_eq_true rfl) (kcX11_ahead (tp := tp) (n := n) (a := rj) (by rw [fr_up_nc _ _ _ (by decide), mfc 68 (by decide) (by decide)]; exact e1) (by rw [fr_up_nk _ _ _ (by decide), mf6 3 (by decide) (by decide)]; exact e2) (fr_up_eq _ _ _ _) hl (by omega)) rfl rfl (Nat.le_of_ble_eq_true rfl) ?_
              rw [eij, fr_up_up]
              refine fr_cVi (mi' := fmX11_whoIs) dX11_takesTree_138 mlX11_114 mvX11_whoIs ⟨11, _, ⟨by decide, by decide, rfl⟩, rfl, rfl⟩ (Nat.le_of_ble_eq_true rfl) (kcX11_whoIs (by simp only [fr_up_nc _ _ _ (by decide : (67 : Int) ≠ 66), mfc 67 (by decide) (by decide)]; exact hI) cj) rfl rfl (Nat.le_of_ble_eq_true rfl) ?_
              rw [fr_up_nc _ _ _ (by decide : (67 : Int) ≠ 66), mfc 67 (by decide) (by decide), ewj]
              refine fr_iast dX11_takesTree_141 ⟨by decide, by decide, rfl, by decide⟩ (by omega) (by omega) ?_
              refine fr_al0 dX11_takesTree_142 ?_
              refine fr_dup dX11_takesTree_143 rfl ?_
              refine fr_geti (kz := 4) dX11_takesTree_144 flX11_100 ⟨by decide, by decide, rfl⟩ rfl rfl ?_
              refine fr_iconst dX11_takesTree_147 ?_
              refine fr_iadd dX11_takesTree_148 ?_
              refine fr_put (kz := 4) dX11_takesTree_149 fpX11_100 ⟨by decide, by decide, rfl⟩ rfl rfl (fun h => by cases h) ?_
              refine fr_ii3 dX11_takesTree_152 rfl (Nat.le_of_ble_eq_true rfl) ?_
              refine fr_goto (tgt := 105) dX11_takesTree_155 (by decide) ?_
              exact fr_wk (ih105 _ ((by first | exact ⟨by simp [fr_up_get, erj0], by simp [fr_up_get, m5], by rw [fr_up_nc _ _ _ (by decide), fr_up_nk _ _ _ (by omega), fr_up_nc _ _ _ (by decide)]; exact mk, by rw [fr_up_nc _ _ _ (by decide)]; simp [fr_up_get, euj], by rw [fr_up_nc _ _ _ (by decide), fr_up_nk _ _ _ (by omega), fr_up_nc _ _ _ (by decide)]; simp [mb], fun _ => by rw [← euj]; omega, fun h => absurd h (by decide), fun k hk => by rw [fr_up_nc _ _ _ (by decide), fr_up_nk _ _ _ (by omega), fr_up_nc _ _ _ (by decide)]; exact mf9 k hk, fun k h1 h2 => by rw [fr_up_nk _ _ _ h1, fr_up_nc _ _ _ (by decide), fr_up_nk _ _ _ h1]; exact mf6 k h1 h2, fun c h1 h2 => by rw [fr_up_nc _ _ _ h1, fr_up_nc _ _ _ h2, fr_up_nc _ _ _ h1]; exact mfc c h1 h2⟩ | exact ⟨by simp [fr_up_get, erj0], by simp [fr_up_get, m5], by rw [fr_up_nc _ _ _ (by decide), fr_up_nk _ _ _ (by omega), fr_up_nc _ _ _ (by decide)]; exact mk, by rw [fr_up_nc _ _ _ (by decide), fr_up_nk _ _ _ (by omega), fr_up_nc _ _ _ (by decide)]; simp [ml], by rw [fr_up_nc _ _ _ (by decide)]; simp [fr_up_get, euj], fun _ => u1p, fun _ => by rw [← euj]; omega, fun k hk => by rw [fr_up_nc _ _ _ (by decide), fr_up_nk _ _ _ (by omega), fr_up_nc _ _ _ (by decide)]; exact mf9 k hk, fun k h1 h2 => by rw [fr_up_nk _ _ _ h1, fr_up_nc _ _ _ (by decide), fr_up_nk _ _ _ h1]; exact mf6 k h1 h2, fun c h1 h2 => by rw [fr_up_nc _ _ _ h1, fr_up_nc _ _ _ h2, fr_up_nc _ _ _ h1]; exact mfc c h1 h2⟩))) ⟨rfl, rfl, trivial⟩
  · skip
    refine fr_iconst dX11_takesTree_11 ?_
    refine fr_goto (tgt := 46) dX11_takesTree_12 (by decide) ?_
    refine fr_is2 dX11_takesTree_46 rfl (Nat.le_of_ble_eq_true rfl) ?_
    refine fr_il2 dX11_takesTree_47 ?_
    refine fr_if_ge (tgt := 53) dX11_takesTree_48 (by decide) (by decide) (fun _ => ?_) (fun h24 => absurd h24 (by decide))
    refine fr_al0 dX11_takesTree_53 ?_
    refine fr_getr (cz := 69) dX11_takesTree_54 flX11_16 ⟨by decide, by decide, rfl⟩ rfl rfl ?_
    have u5 : fr_up μ 66 4 (sp_r0 tp n a) 66 5 = μ 66 5 := fr_up_nk _ _ _ (by decide)
    have kp9 : 0 ≤ sp_tk tp n a := by unfold sp_tk sp_kd; (repeat' split) <;> omega
    have z0n : sp_r0 tp n a < n := sp_kd_lt kp9
    refine fr_iconst dX11_takesTree_57 ?_
    refine fr_al0 dX11_takesTree_58 ?_
    refine fr_geti (kz := 5) dX11_takesTree_59 flX11_111 ⟨by decide, by decide, rfl⟩ rfl rfl ?_
    rw [u5]
    refine fr_imul dX11_takesTree_62 ?_
    refine fr_il2 dX11_takesTree_63 ?_
    refine fr_iast dX11_takesTree_64 ⟨by decide, by decide, rfl, by decide⟩ (by omega) (by omega) ?_
    refine fr_al0 dX11_takesTree_65 ?_
    refine fr_getr (cz := 69) dX11_takesTree_66 flX11_16 ⟨by decide, by decide, rfl⟩ rfl rfl ?_
    refine fr_iconst dX11_takesTree_69 ?_
    refine fr_al0 dX11_takesTree_70 ?_
    refine fr_geti (kz := 5) dX11_takesTree_71 flX11_111 ⟨by decide, by decide, rfl⟩ rfl rfl ?_
    rw [fr_up_nc _ _ _ (by decide : (66 : Int) ≠ 69), u5]
    refine fr_imul dX11_takesTree_74 ?_
    refine fr_iconst dX11_takesTree_75 ?_
    refine fr_iadd dX11_takesTree_76 ?_
    refine fr_iconst dX11_takesTree_77 ?_
    refine fr_iast dX11_takesTree_78 ⟨by decide, by decide, rfl, by decide⟩ (by omega) (by omega) ?_
    refine fr_al0 dX11_takesTree_79 ?_
    refine fr_getr (cz := 69) dX11_takesTree_80 flX11_16 ⟨by decide, by decide, rfl⟩ rfl rfl ?_
    refine fr_iconst dX11_takesTree_83 ?_
    refine fr_al0 dX11_takesTree_84 ?_
    refine fr_geti (kz := 5) dX11_takesTree_85 flX11_111 ⟨by decide, by decide, rfl⟩ rfl rfl ?_
    rw [fr_up_nc _ _ _ (by decide : (66 : Int) ≠ 69), fr_up_nc _ _ _ (by decide : (66 : Int) ≠ 69), u5]
    refine fr_imul dX11_takesTree_88 ?_
    refine fr_iconst dX11_takesTree_89 ?_
    refine fr_iadd dX11_takesTree_90 ?_
    refine fr_iconst dX11_takesTree_91 ?_
    refine fr_iast dX11_takesTree_92 ⟨by decide, by decide, rfl, by decide⟩ (by omega) (by omega) ?_
    refine fr_al0 dX11_takesTree_93 ?_
    refine fr_dup dX11_takesTree_94 rfl ?_
    refine fr_geti (kz := 4) dX11_takesTree_95 flX11_100 ⟨by decide, by decide, rfl⟩ rfl rfl ?_
    refine fr_iconst dX11_takesTree_98 ?_
    refine fr_iadd dX11_takesTree_99 ?_
    refine fr_put (kz := 4) dX11_takesTree_100 fpX11_100 ⟨by decide, by decide, rfl⟩ rfl rfl (fun h => by cases h) ?_
    refine fr_iconst dX11_takesTree_103 ?_
    refine fr_is3 dX11_takesTree_104 rfl (Nat.le_of_ble_eq_true rfl) ?_
    refine fr_wk ?_ (ls := [some (fr_r κ 66), none, none, some (fr_i (1 + (0 : Int)))]) ⟨rfl, rfl, trivial⟩
    refine (fr_down (P := fun j : Nat => ∀ (m : fr_Me), (m 66 4 = (if j = 0 then sp_r0 tp n a + 1 else if j = 1 then sp_r1 tp n a + 1 else sp_r2 tp n a + 1) ∧ m 66 5 = μ 66 5 ∧ m 69 (3 * μ 66 5) = sp_tk tp n a ∧ m 69 (3 * μ 66 5 + 1) = (if j = 0 then 5 else sp_u1 (μ 67 43) tp n a) ∧ m 69 (3 * μ 66 5 + 2) = (if j < 2 then 5 else sp_u2 (μ 67 43) tp n a) ∧ (1 ≤ j → 0 ≤ sp_u1 (μ 67 43) tp n a) ∧ (2 ≤ j → 0 ≤ sp_u2 (μ 67 43) tp n a) ∧ (∀ k, (k < 3 * μ 66 5 ∨ 3 * μ 66 5 + 3 ≤ k) → m 69 k = μ 69 k) ∧ (∀ k, k ≠ 4 → k ≠ 5 → m 66 k = μ 66 k) ∧ ∀ c, c ≠ 66 → c ≠ 69 → m c = μ c) → fr_A l κ fmX11_takesTree 4 (fr_Pi (fun z m => (sp_tk tp n a < 0 ∧ z = 0 ∧ m = fr_up μ 66 4 (sp_r0 tp n a)) ∨ (0 ≤ sp_tk tp n a ∧ z = 1 ∧ m 66 4 = sp_te (μ 67 43) tp n a ∧ m 66 5 = μ 66 5 + 1 ∧ m 69 (3 * μ 66 5) = sp_tk tp n a ∧ m 69 (3 * μ 66 5 + 1) = sp_tl (μ 67 43) tp n a ∧ m 69 (3 * μ 66 5 + 2) = sp_tb (μ 67 43) tp n a ∧ (∀ k, (k < 3 * μ 66 5 ∨ 3 * μ 66 5 + 3 ≤ k) → m 69 k = μ 69 k) ∧ (∀ k, k ≠ 4 → k ≠ 5 → m 66 k = μ 66 k) ∧ ∀ c, c ≠ 66 → c ≠ 69 → m c = μ c))) 105 [some (fr_r κ 66), none, none, some (fr_i (1 + (j : Int)))] [] m) 2 ?_ (fun j hj105 ih105 => ?_)) _ (⟨by simp [fr_up_get], by simp [fr_up_get], by rw [fr_up_nc _ _ _ (by decide), fr_up_nk _ _ _ (by omega), fr_up_nk _ _ _ (by omega), fr_up_eq]; unfold sp_tk sp_kd; (repeat' split) <;> omega, by rw [fr_up_nc _ _ _ (by decide), fr_up_nk _ _ _ (by omega), fr_up_eq]; rfl, by rw [fr_up_nc _ _ _ (by decide), fr_up_eq]; rfl, fun h => absurd h (by decide), fun h => absurd h (by decide), fun k hk => by rw [fr_up_nc _ _ _ (by decide), fr_up_nk _ _ _ (by omega), fr_up_nk _ _ _ (by omega), fr_up_nk _ _ _ (by omega), fr_up_nc _ _ _ (by decide)], fun k h1 h2 => by rw [fr_up_nk _ _ _ h1, fr_up_nc _ _ _ (by decide), fr_up_nc _ _ _ (by decide), fr_up_nc _ _ _ (by decide), fr_up_nk _ _ _ h1], fun c h1 h2 => by rw [fr_up_nc _ _ _ h1, fr_up_nc _ _ _ h2, fr_up_nc _ _ _ h2, fr_up_nc _ _ _ h2, fr_up_nc _ _ _ h1]⟩)
    · skip
      intro m hm
      have u1p := hm.2.2.2.2.2.1 (by decide)
      have u2p := hm.2.2.2.2.2.2.1 (by decide)
      obtain ⟨m4, m5, mk, ml, mb, mu1, mu2, mf9, mf6, mfc⟩ := hm
      refine fr_il3 dX11_takesTree_105 ?_
      refine fr_iconst dX11_takesTree_106 ?_
      refine fr_icmp_ge (tgt := 158) dX11_takesTree_107 (by decide) (by omega) (by omega) (fun h25 => ?_) (fun h25 => ?_)
      · skip
        refine fr_al0 dX11_takesTree_158 ?_
        refine fr_dup dX11_takesTree_159 rfl ?_
        refine fr_geti (kz := 5) dX11_takesTree_160 flX11_111 ⟨by decide, by decide, rfl⟩ rfl rfl ?_
        refine fr_iconst dX11_takesTree_163 ?_
        refine fr_iadd dX11_takesTree_164 ?_
        refine fr_put (kz := 5) dX11_takesTree_165 fpX11_111 ⟨by decide, by decide, rfl⟩ rfl rfl (fun h => by cases h) ?_
        refine fr_iconst dX11_takesTree_168 ?_
        exact fr_zret dX11_takesTree_169 rfl (Or.inr rfl) (fr_pi (Or.inr ⟨kp9, rfl, by rw [fr_up_nk _ _ _ (by decide)]; unfold sp_te; rw [if_neg (by omega), if_neg (by omega)]; exact m4, by rw [fr_up_eq, m5], by simp only [fr_up_nc _ _ _ (by decide : (69 : Int) ≠ 66)]; exact mk, by simp only [fr_up_nc _ _ _ (by decide : (69 : Int) ≠ 66)]; unfold sp_tl; rw [if_neg (by omega)]; exact ml, by simp only [fr_up_nc _ _ _ (by decide : (69 : Int) ≠ 66)]; unfold sp_tb; rw [if_neg (by omega), if_neg (by omega)]; exact mb, fun k hk => by simp only [fr_up_nc _ _ _ (by decide : (69 : Int) ≠ 66)]; exact mf9 k hk, fun k h1 h2 => by simp only [fr_up_nk _ _ _ h1, fr_up_nk _ _ _ h2]; exact mf6 k h1 h2, fun c h1 h2 => by simp only [fr_up_nc _ _ _ h1]; exact mfc c h1 h2⟩))
      · skip
        exfalso; omega
    · skip
      intro m hm
      obtain ⟨m4, m5, mk, ml, mb, mu1, mu2, mf9, mf6, mfc⟩ := hm
      rcases (by omega : j = 0 ∨ j = 1) with hj0 | hj0
      · skip
        subst hj0
        simp only [if_true, if_false, if_neg (by decide : ¬ (1 : Nat) = 0), if_pos (by decide : (0 : Nat) < 2), if_pos (by decide : (1 : Nat) < 2)] at m4 ml mb
        obtain ⟨pj, epj⟩ : ∃ x, x = sp_r0 tp n a + 1 := ⟨_, rfl⟩
        rw [← epj] at m4
        obtain ⟨rj, erj0⟩ : ∃ x, x = sp_r1 tp n a := ⟨_, rfl⟩
        obtain ⟨uj, euj⟩ : ∃ x, x = sp_u1 (μ 67 43) tp n a := ⟨_, rfl⟩
        have zj := sp_r1_rg tp z0n
        have erj : sp_skp tp n pj = rj := by rw [epj, erj0]; rfl
        have eij : sp_skp tp n rj = rj := by rw [← erj]; exact sp_skp_idem tp (by omega)
        have ewj : sp_wh (μ 67 43) (sp_ch tp n rj) = uj := by rw [erj0, euj]; rfl
        have cj := sp_ch_rg hl (show 0 ≤ rj by omega)
        have wj := sp_wh_rg iM (sp_ch tp n rj)
        rw [ewj] at wj
        have g5 : fr_up m 66 4 rj 66 5 = μ 66 5 := by rw [fr_up_nk _ _ _ (by decide)]; exact m5
        refine fr_il3 dX11_takesTree_105 ?_
        refine fr_iconst dX11_takesTree_106 ?_
        refine fr_icmp_ge (tgt := 158) dX11_takesTree_107 (by decide) (by omega) (by omega) (fun h26 => ?_) (fun h26 => ?_)
        · skip
          exfalso; omega
        · skip
          refine fr_al0 dX11_takesTree_110 ?_
          refine fr_al0 dX11_takesTree_111 ?_
          refine fr_cVi (mi' := fmX11_ahead) dX11_takesTree_112 mlX11_107 mvX11_ahead ⟨11, _, ⟨by decide, by decide, rfl⟩, rfl, rfl⟩ (Nat.le_of_ble_eq_true rfl) (kcX11_ahead (tp := tp) (n := n) (a := pj) (by rw [mfc 68 (by decide) (by decide)]; exact e1) (by rw [mf6 3 (by decide) (by decide)]; exact e2) m4 hl (by omega)) rfl rfl (Nat.le_of_ble_eq_true rfl) ?_
          rw [erj]
          refine fr_cVi (mi' := fmX11_whoIs) dX11_takesTree_115 mlX11_114 mvX11_whoIs ⟨11, _, ⟨by decide, by decide, rfl⟩, rfl, rfl⟩ (Nat.le_of_ble_eq_true rfl) (kcX11_whoIs (by simp only [fr_up_nc _ _ _ (by decide : (67 : Int) ≠ 66), mfc 67 (by decide) (by decide)]; exact hI) cj) rfl rfl (Nat.le_of_ble_eq_true rfl) ?_
          rw [fr_up_nc _ _ _ (by decide : (67 : Int) ≠ 66), mfc 67 (by decide) (by decide), ewj]
          refine fr_if_lt (tgt := 158) dX11_takesTree_118 (by decide) (by omega) (fun h27 => ?_) (fun h27 => ?_)
          · skip
            refine fr_al0 dX11_takesTree_158 ?_
            refine fr_dup dX11_takesTree_159 rfl ?_
            refine fr_geti (kz := 5) dX11_takesTree_160 flX11_111 ⟨by decide, by decide, rfl⟩ rfl rfl ?_
            refine fr_iconst dX11_takesTree_163 ?_
            refine fr_iadd dX11_takesTree_164 ?_
            refine fr_put (kz := 5) dX11_takesTree_165 fpX11_111 ⟨by decide, by decide, rfl⟩ rfl rfl (fun h => by cases h) ?_
            refine fr_iconst dX11_takesTree_168 ?_
            exact fr_zret dX11_takesTree_169 rfl (Or.inr rfl) (fr_pi (Or.inr ⟨kp9, rfl, by rw [fr_up_nk _ _ _ (by decide), fr_up_eq]; unfold sp_te; rw [if_pos (by omega)]; exact erj0, by rw [fr_up_eq, g5], by simp only [fr_up_nc _ _ _ (by decide : (69 : Int) ≠ 66)]; exact mk, by simp only [fr_up_nc _ _ _ (by decide : (69 : Int) ≠ 66)]; unfold sp_tl; rw [if_pos (by omega)]; exact ml, by simp only [fr_up_nc _ _ _ (by decide : (69 : Int) ≠ 66)]; unfold sp_tb; rw [if_pos (by omega)]; exact mb, fun k hk => by simp only [fr_up_nc _ _ _ (by decide : (69 : Int) ≠ 66)]; exact mf9 k hk, fun k h1 h2 => by simp only [fr_up_nk _ _ _ h1, fr_up_nk _ _ _ h2]; exact mf6 k h1 h2, fun c h1 h2 => by simp only [fr_up_nc _ _ _ h1]; exact mfc c h1 h2⟩))
          · skip
            refine fr_al0 dX11_takesTree_121 ?_
            refine fr_getr (cz := 69) dX11_takesTree_122 flX11_16 ⟨by decide, by decide, rfl⟩ rfl rfl ?_
            refine fr_iconst dX11_takesTree_125 ?_
            refine fr_al0 dX11_takesTree_126 ?_
            refine fr_geti (kz := 5) dX11_takesTree_127 flX11_111 ⟨by decide, by decide, rfl⟩ rfl rfl ?_
            rw [g5]
            refine fr_imul dX11_takesTree_130 ?_
            refine fr_il3 dX11_takesTree_131 ?_
            refine fr_iadd dX11_takesTree_132 ?_
            refine fr_al0 dX11_takesTree_133 ?_
            refine fr_al0 dX11_takesTree_134 ?_
            refine fr_cVi (mi' := fmX11_ahead) dX11_takesTree_135 mlX11_107 mvX11_ahead ⟨11, _, ⟨by decide, by decide, rfl⟩, rfl, rfl⟩ (Nat.le_of_ble_eq_true rfl) (kcX11_ahead (tp := tp) (n := n) (a := rj) (by rw [fr_up_nc _ _ _ (by decide), mfc 68 (by decide) (by decide)]; exact e1) (by rw [fr_up_nk _ _ _ (by decide), mf6 3 (by decide) (by decide)]; exact e2) (fr_up_eq _ _ _ _) hl (by omega)) rfl rfl (Nat.le_of_ble_eq_true rfl) ?_
            rw [eij, fr_up_up]
            refine fr_cVi (mi' := fmX11_whoIs) dX11_takesTree_138 mlX11_114 mvX11_whoIs ⟨11, _, ⟨by decide, by decide, rfl⟩, rfl, rfl⟩ (Nat.le_of_ble_eq_true rfl) (kcX11_whoIs (by simp only [fr_up_nc _ _ _ (by decide : (67 : Int) ≠ 66), mfc 67 (by decide) (by decide)]; exact hI) cj) rfl rfl (Nat.le_of_ble_eq_true rfl) ?_
            rw [fr_up_nc _ _ _ (by decide : (67 : Int) ≠ 66), mfc 67 (by decide) (by decide), ewj]
            refine fr_iast dX11_takesTree_141 ⟨by decide, by decide, rfl, by decide⟩ (by omega) (by omega) ?_
            refine fr_al0 dX11_takesTree_142 ?_
            refine fr_dup dX11_takesTree_143 rfl ?_
            refine fr_geti (kz := 4) dX11_takesTree_144 flX11_100 ⟨by decide, by decide, rfl⟩ rfl rfl ?_
            refine fr_iconst dX11_takesTree_147 ?_
            refine fr_iadd dX11_takesTree_148 ?_
            refine fr_put (kz := 4) dX11_takesTree_149 fpX11_100 ⟨by decide, by decide, rfl⟩ rfl rfl (fun h => by cases h) ?_
            refine fr_ii3 dX11_takesTree_152 rfl (Nat.le_of_ble_eq_true rfl) ?_
            refine fr_goto (tgt := 105) dX11_takesTree_155 (by decide) ?_
            exact fr_wk (ih105 _ ((by first | exact ⟨by simp [fr_up_get, erj0], by simp [fr_up_get, m5], by rw [fr_up_nc _ _ _ (by decide), fr_up_nk _ _ _ (by omega), fr_up_nc _ _ _ (by decide)]; exact mk, by rw [fr_up_nc _ _ _ (by decide)]; simp [fr_up_get, euj], by rw [fr_up_nc _ _ _ (by decide), fr_up_nk _ _ _ (by omega), fr_up_nc _ _ _ (by decide)]; simp [mb], fun _ => by rw [← euj]; omega, fun h => absurd h (by decide), fun k hk => by rw [fr_up_nc _ _ _ (by decide), fr_up_nk _ _ _ (by omega), fr_up_nc _ _ _ (by decide)]; exact mf9 k hk, fun k h1 h2 => by rw [fr_up_nk _ _ _ h1, fr_up_nc _ _ _ (by decide), fr_up_nk _ _ _ h1]; exact mf6 k h1 h2, fun c h1 h2 => by rw [fr_up_nc _ _ _ h1, fr_up_nc _ _ _ h2, fr_up_nc _ _ _ h1]; exact mfc c h1 h2⟩ | exact ⟨by simp [fr_up_get, erj0], by simp [fr_up_get, m5], by rw [fr_up_nc _ _ _ (by decide), fr_up_nk _ _ _ (by omega), fr_up_nc _ _ _ (by decide)]; exact mk, by rw [fr_up_nc _ _ _ (by decide), fr_up_nk _ _ _ (by omega), fr_up_nc _ _ _ (by decide)]; simp [ml], by rw [fr_up_nc _ _ _ (by decide)]; simp [fr_up_get, euj], fun _ => u1p, fun _ => by rw [← euj]; omega, fun k hk => by rw [fr_up_nc _ _ _ (by decide), fr_up_nk _ _ _ (by omega), fr_up_nc _ _ _ (by decide)]; exact mf9 k hk, fun k h1 h2 => by rw [fr_up_nk _ _ _ h1, fr_up_nc _ _ _ (by decide), fr_up_nk _ _ _ h1]; exact mf6 k h1 h2, fun c h1 h2 => by rw [fr_up_nc _ _ _ h1, fr_up_nc _ _ _ h2, fr_up_nc _ _ _ h1]; exact mfc c h1 h2⟩))) ⟨rfl, rfl, trivial⟩
      · skip
        subst hj0
        simp only [if_true, if_false, if_neg (by decide : ¬ (1 : Nat) = 0), if_pos (by decide : (0 : Nat) < 2), if_pos (by decide : (1 : Nat) < 2)] at m4 ml mb
        have u1p := mu1 (by decide)
        have z1n := sp_wh_lt (m := μ 67 43) u1p
        have z1 := sp_r1_rg tp z0n
        obtain ⟨pj, epj⟩ : ∃ x, x = sp_r1 tp n a + 1 := ⟨_, rfl⟩
        rw [← epj] at m4
        obtain ⟨rj, erj0⟩ : ∃ x, x = sp_r2 tp n a := ⟨_, rfl⟩
        obtain ⟨uj, euj⟩ : ∃ x, x = sp_u2 (μ 67 43) tp n a := ⟨_, rfl⟩
        have zj := sp_r2_rg tp z1n
        have erj : sp_skp tp n pj = rj := by rw [epj, erj0]; rfl
        have eij : sp_skp tp n rj = rj := by rw [← erj]; exact sp_skp_idem tp (by omega)
        have ewj : sp_wh (μ 67 43) (sp_ch tp n rj) = uj := by rw [erj0, euj]; rfl
        have cj := sp_ch_rg hl (show 0 ≤ rj by omega)
        have wj := sp_wh_rg iM (sp_ch tp n rj)
        rw [ewj] at wj
        have g5 : fr_up m 66 4 rj 66 5 = μ 66 5 := by rw [fr_up_nk _ _ _ (by decide)]; exact m5
        refine fr_il3 dX11_takesTree_105 ?_
        refine fr_iconst dX11_takesTree_106 ?_
        refine fr_icmp_ge (tgt := 158) dX11_takesTree_107 (by decide) (by omega) (by omega) (fun h28 => ?_) (fun h28 => ?_)
        · skip
          exfalso; omega
        · skip
          refine fr_al0 dX11_takesTree_110 ?_
          refine fr_al0 dX11_takesTree_111 ?_
          refine fr_cVi (mi' := fmX11_ahead) dX11_takesTree_112 mlX11_107 mvX11_ahead ⟨11, _, ⟨by decide, by decide, rfl⟩, rfl, rfl⟩ (Nat.le_of_ble_eq_true rfl) (kcX11_ahead (tp := tp) (n := n) (a := pj) (by rw [mfc 68 (by decide) (by decide)]; exact e1) (by rw [mf6 3 (by decide) (by decide)]; exact e2) m4 hl (by omega)) rfl rfl (Nat.le_of_ble_eq_true rfl) ?_
          rw [erj]
          refine fr_cVi (mi' := fmX11_whoIs) dX11_takesTree_115 mlX11_114 mvX11_whoIs ⟨11, _, ⟨by decide, by decide, rfl⟩, rfl, rfl⟩ (Nat.le_of_ble_eq_true rfl) (kcX11_whoIs (by simp only [fr_up_nc _ _ _ (by decide : (67 : Int) ≠ 66), mfc 67 (by decide) (by decide)]; exact hI) cj) rfl rfl (Nat.le_of_ble_eq_true rfl) ?_
          rw [fr_up_nc _ _ _ (by decide : (67 : Int) ≠ 66), mfc 67 (by decide) (by decide), ewj]
          refine fr_if_lt (tgt := 158) dX11_takesTree_118 (by decide) (by omega) (fun h29 => ?_) (fun h29 => ?_)
          · skip
            refine fr_al0 dX11_takesTree_158 ?_
            refine fr_dup dX11_takesTree_159 rfl ?_
            refine fr_geti (kz := 5) dX11_takesTree_160 flX11_111 ⟨by decide, by decide, rfl⟩ rfl rfl ?_
            refine fr_iconst dX11_takesTree_163 ?_
            refine fr_iadd dX11_takesTree_164 ?_
            refine fr_put (kz := 5) dX11_takesTree_165 fpX11_111 ⟨by decide, by decide, rfl⟩ rfl rfl (fun h => by cases h) ?_
            refine fr_iconst dX11_takesTree_168 ?_
            exact fr_zret dX11_takesTree_169 rfl (Or.inr rfl) (fr_pi (Or.inr ⟨kp9, rfl, by rw [fr_up_nk _ _ _ (by decide), fr_up_eq]; unfold sp_te; rw [if_neg (by omega), if_pos (by omega)]; exact erj0, by rw [fr_up_eq, g5], by simp only [fr_up_nc _ _ _ (by decide : (69 : Int) ≠ 66)]; exact mk, by simp only [fr_up_nc _ _ _ (by decide : (69 : Int) ≠ 66)]; unfold sp_tl; rw [if_neg (by omega)]; exact ml, by simp only [fr_up_nc _ _ _ (by decide : (69 : Int) ≠ 66)]; unfold sp_tb; rw [if_neg (by omega), if_pos (by omega)]; exact mb, fun k hk => by simp only [fr_up_nc _ _ _ (by decide : (69 : Int) ≠ 66)]; exact mf9 k hk, fun k h1 h2 => by simp only [fr_up_nk _ _ _ h1, fr_up_nk _ _ _ h2]; exact mf6 k h1 h2, fun c h1 h2 => by simp only [fr_up_nc _ _ _ h1]; exact mfc c h1 h2⟩))
          · skip
            refine fr_al0 dX11_takesTree_121 ?_
            refine fr_getr (cz := 69) dX11_takesTree_122 flX11_16 ⟨by decide, by decide, rfl⟩ rfl rfl ?_
            refine fr_iconst dX11_takesTree_125 ?_
            refine fr_al0 dX11_takesTree_126 ?_
            refine fr_geti (kz := 5) dX11_takesTree_127 flX11_111 ⟨by decide, by decide, rfl⟩ rfl rfl ?_
            rw [g5]
            refine fr_imul dX11_takesTree_130 ?_
            refine fr_il3 dX11_takesTree_131 ?_
            refine fr_iadd dX11_takesTree_132 ?_
            refine fr_al0 dX11_takesTree_133 ?_
            refine fr_al0 dX11_takesTree_134 ?_
            refine fr_cVi (mi' := fmX11_ahead) dX11_takesTree_135 mlX11_107 mvX11_ahead ⟨11, _, ⟨by decide, by decide, rfl⟩, rfl, rfl⟩ (Nat.le_of_ble_eq_true rfl) (kcX11_ahead (tp := tp) (n := n) (a := rj) (by rw [fr_up_nc _ _ _ (by decide), mfc 68 (by decide) (by decide)]; exact e1) (by rw [fr_up_nk _ _ _ (by decide), mf6 3 (by decide) (by decide)]; exact e2) (fr_up_eq _ _ _ _) hl (by omega)) rfl rfl (Nat.le_of_ble_eq_true rfl) ?_
            rw [eij, fr_up_up]
            refine fr_cVi (mi' := fmX11_whoIs) dX11_takesTree_138 mlX11_114 mvX11_whoIs ⟨11, _, ⟨by decide, by decide, rfl⟩, rfl, rfl⟩ (Nat.le_of_ble_eq_true rfl) (kcX11_whoIs (by simp only [fr_up_nc _ _ _ (by decide : (67 : Int) ≠ 66), mfc 67 (by decide) (by decide)]; exact hI) cj) rfl rfl (Nat.le_of_ble_eq_true rfl) ?_
            rw [fr_up_nc _ _ _ (by decide : (67 : Int) ≠ 66), mfc 67 (by decide) (by decide), ewj]
            refine fr_iast dX11_takesTree_141 ⟨by decide, by decide, rfl, by decide⟩ (by omega) (by omega) ?_
            refine fr_al0 dX11_takesTree_142 ?_
            refine fr_dup dX11_takesTree_143 rfl ?_
            refine fr_geti (kz := 4) dX11_takesTree_144 flX11_100 ⟨by decide, by decide, rfl⟩ rfl rfl ?_
            refine fr_iconst dX11_takesTree_147 ?_
            refine fr_iadd dX11_takesTree_148 ?_
            refine fr_put (kz := 4) dX11_takesTree_149 fpX11_100 ⟨by decide, by decide, rfl⟩ rfl rfl (fun h => by cases h) ?_
            refine fr_ii3 dX11_takesTree_152 rfl (Nat.le_of_ble_eq_true rfl) ?_
            refine fr_goto (tgt := 105) dX11_takesTree_155 (by decide) ?_
            exact fr_wk (ih105 _ ((by first | exact ⟨by simp [fr_up_get, erj0], by simp [fr_up_get, m5], by rw [fr_up_nc _ _ _ (by decide), fr_up_nk _ _ _ (by omega), fr_up_nc _ _ _ (by decide)]; exact mk, by rw [fr_up_nc _ _ _ (by decide)]; simp [fr_up_get, euj], by rw [fr_up_nc _ _ _ (by decide), fr_up_nk _ _ _ (by omega), fr_up_nc _ _ _ (by decide)]; simp [mb], fun _ => by rw [← euj]; omega, fun h => absurd h (by decide), fun k hk => by rw [fr_up_nc _ _ _ (by decide), fr_up_nk _ _ _ (by omega), fr_up_nc _ _ _ (by decide)]; exact mf9 k hk, fun k h1 h2 => by rw [fr_up_nk _ _ _ h1, fr_up_nc _ _ _ (by decide), fr_up_nk _ _ _ h1]; exact mf6 k h1 h2, fun c h1 h2 => by rw [fr_up_nc _ _ _ h1, fr_up_nc _ _ _ h2, fr_up_nc _ _ _ h1]; exact mfc c h1 h2⟩ | exact ⟨by simp [fr_up_get, erj0], by simp [fr_up_get, m5], by rw [fr_up_nc _ _ _ (by decide), fr_up_nk _ _ _ (by omega), fr_up_nc _ _ _ (by decide)]; exact mk, by rw [fr_up_nc _ _ _ (by decide), fr_up_nk _ _ _ (by omega), fr_up_nc _ _ _ (by decide)]; simp [ml], by rw [fr_up_nc _ _ _ (by decide)]; simp [fr_up_get, euj], fun _ => u1p, fun _ => by rw [← euj]; omega, fun k hk => by rw [fr_up_nc _ _ _ (by decide), fr_up_nk _ _ _ (by omega), fr_up_nc _ _ _ (by decide)]; exact mf9 k hk, fun k h1 h2 => by rw [fr_up_nk _ _ _ h1, fr_up_nc _ _ _ (by decide), fr_up_nk _ _ _ h1]; exact mf6 k h1 h2, fun c h1 h2 => by rw [fr_up_nc _ _ _ h1, fr_up_nc _ _ _ h2, fr_up_nc _ _ _ h1]; exact mfc c h1 h2⟩))) ⟨rfl, rfl, trivial⟩
