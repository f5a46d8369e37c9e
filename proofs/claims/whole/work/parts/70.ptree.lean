/-! the class: a tree of a text -/
/-- the letter as the class reads it -/
def tp_c (tp : Int → Int) (n r : Int) : Int := if r < n then tp r else 0
theorem tp_kd {tp : Int → Int} {n r : Int} : sp_kd (tp_c tp n r) = sp_kd (sp_ch tp n r) := by
  unfold tp_c sp_ch
  split
  · rfl
  · rfl
theorem tp_wh {m : Int} (hm : 0 ≤ m ∧ m ≤ 5) {tp : Int → Int} {n r : Int} : (tp_c tp n r ≠ 102 ∧ ¬ (97 ≤ tp_c tp n r ∧ tp_c tp n r < 97 + m) → sp_wh m (sp_ch tp n r) = -1) ∧ (tp_c tp n r = 102 ∨ (97 ≤ tp_c tp n r ∧ tp_c tp n r < 97 + m) → sp_wh m (sp_ch tp n r) = tp_c tp n r - 97 ∧ r < n) := by
  unfold tp_c sp_ch sp_wh
  by_cases h : r < n
  · rw [if_pos h, if_pos h]
    generalize tp r = v
    constructor
    · intro q; (repeat' split) <;> omega
    · intro q; (repeat' split) <;> omega
  · rw [if_neg h, if_neg h]
    constructor
    · intro q; (repeat' split) <;> omega
    · intro q; omega
theorem tp_skp {tp : Int → Int} {n a : Int} (h : a ≤ n) : a ≤ sp_skp tp n a ∧ sp_skp tp n a ≤ n ∧ (sp_skp tp n a < n → tp (sp_skp tp n a) ≠ 32) := by
  have := sp_sk_ok tp n (n - a).toNat a h (by omega)
  exact ⟨this.1, this.2.1, this.2.2.2⟩
theorem tp_sk0 {tp : Int → Int} {n b : Int} (hb : ¬ (b < n ∧ tp b = 32)) : ∀ k : Nat, sp_sk tp n k b = b := by
  intro k
  cases k with
  | zero => rfl
  | succ k => simp only [sp_sk]; rw [if_neg hb]
theorem tp_id {tp : Int → Int} {n a : Int} (h : a ≤ n) : sp_skp tp n (sp_skp tp n a) = sp_skp tp n a := by
  have h1 := tp_skp (tp := tp) h
  exact tp_sk0 (fun x => h1.2.2 x.1 x.2) _
theorem tp_r {tp : Int → Int} {n a : Int} (hk : 0 ≤ sp_tk tp n a) : sp_r0 tp n a < n := by
  unfold sp_tk sp_ch at hk
  by_cases h : sp_r0 tp n a < n
  · exact h
  · rw [if_neg h] at hk
    unfold sp_kd at hk
    simp at hk
def tp_v (M c : Int) : Int := if sp_wh M c < 0 then 5 else sp_wh M c
def tp_p (M : Int) (tp : Int → Int) (n a : Int) : Int := if sp_wh M (sp_ch tp n (sp_skp tp n a)) < 0 then sp_skp tp n a else sp_skp tp n a + 1
theorem tp_n {M : Int} (hM : 0 ≤ M ∧ M ≤ 5) {tp : Int → Int} {n a z : Int} {m μ : fr_Me} (h : (tp_c tp n (sp_skp tp n a) ≠ 102 ∧ ¬ (97 ≤ tp_c tp n (sp_skp tp n a) ∧ tp_c tp n (sp_skp tp n a) < 97 + M) ∧ z = 5 ∧ m = fr_up μ 9 5 (sp_skp tp n a)) ∨ ((tp_c tp n (sp_skp tp n a) = 102 ∨ (97 ≤ tp_c tp n (sp_skp tp n a) ∧ tp_c tp n (sp_skp tp n a) < 97 + M)) ∧ z = tp_c tp n (sp_skp tp n a) - 97 ∧ m = fr_up μ 9 5 (sp_skp tp n a + 1))) : z = tp_v M (sp_ch tp n (sp_skp tp n a)) ∧ m = fr_up μ 9 5 (tp_p M tp n a) := by
  have hw := tp_wh hM (tp := tp) (n := n) (r := sp_skp tp n a)
  unfold tp_v tp_p
  rcases h with ⟨h1, h2, h3, h4⟩ | ⟨h1, h2, h3⟩
  · have e := hw.1 ⟨h1, h2⟩
    rw [e]
    exact ⟨h3, h4⟩
  · have e := hw.2 h1
    have h0 : 0 ≤ tp_c tp n (sp_skp tp n a) - 97 := by omega
    rw [e.1, if_neg (by omega), if_neg (by omega)]
    exact ⟨h2, h3⟩
theorem tp_p_rg {M : Int} (hM : 0 ≤ M ∧ M ≤ 5) {tp : Int → Int} {n a : Int} (h : a ≤ n) : a ≤ tp_p M tp n a ∧ tp_p M tp n a ≤ n := by
  have h1 := tp_skp (tp := tp) h
  unfold tp_p
  split
  · omega
  · rename_i q
    have hw := tp_wh hM (tp := tp) (n := n) (r := sp_skp tp n a)
    by_cases x : tp_c tp n (sp_skp tp n a) = 102 ∨ (97 ≤ tp_c tp n (sp_skp tp n a) ∧ tp_c tp n (sp_skp tp n a) < 97 + M)
    · have := hw.2 x; omega
    · have := hw.1 (by omega); omega
/-- two climbers' letters behind a kind -/
theorem tp_2 {M : Int} (hM : 0 ≤ M ∧ M ≤ 5) {tp : Int → Int} {n a : Int} (ha : a ≤ n) (hk : 0 ≤ sp_tk tp n a) : tp_v M (sp_ch tp n (sp_skp tp n (sp_r0 tp n a + 1))) = sp_tl M tp n a ∧ tp_v M (sp_ch tp n (sp_skp tp n (tp_p M tp n (sp_r0 tp n a + 1)))) = sp_tb M tp n a ∧ tp_p M tp n (tp_p M tp n (sp_r0 tp n a + 1)) = sp_te M tp n a := by
  have hr := tp_r hk
  have e1 : sp_skp tp n (sp_r0 tp n a + 1) = sp_r1 tp n a := rfl
  refine ⟨rfl, ?_⟩
  unfold sp_tb sp_te
  by_cases q : sp_u1 M tp n a < 0
  · rw [if_pos q, if_pos q]
    have e2 : tp_p M tp n (sp_r0 tp n a + 1) = sp_r1 tp n a := by unfold tp_p; exact if_pos q
    have e3 : sp_skp tp n (sp_r1 tp n a) = sp_r1 tp n a := tp_id (by omega)
    rw [e2]
    refine ⟨?_, ?_⟩
    · rw [e3]; unfold tp_v; exact if_pos q
    · unfold tp_p; rw [e3]; exact if_pos q
  · rw [if_neg q, if_neg q]
    have e2 : tp_p M tp n (sp_r0 tp n a + 1) = sp_r1 tp n a + 1 := by unfold tp_p; exact if_neg q
    rw [e2]
    exact ⟨rfl, rfl⟩
set_option maxRecDepth 20000 in
theorem kcX6_parseTree {l : Launch} {κ : fr_Ka} {μ : fr_Me} (hP : 0 ≤ μ 9 5 ∧ μ 9 5 ≤ μ 9 4 ∧ μ 9 4 ≤ 60) (hT : ∀ i, 0 ≤ i → i < 60 → 0 ≤ μ 10 i ∧ μ 10 i ≤ 1000) {t M : Int} (ht : 0 ≤ t ∧ t < 6) (hM : 0 ≤ M ∧ M ≤ 5)  : fr_C l κ fmX6_parseTree 5 [fr_r κ 9, fr_i t, fr_i M] μ (fr_Pi (fun z m => (sp_tk (μ 10) (μ 9 4) (μ 9 5) < 0 ∧ z = 0 ∧ m = fr_up μ 9 5 (sp_r0 (μ 10) (μ 9 4) (μ 9 5))) ∨ (0 ≤ sp_tk (μ 10) (μ 9 4) (μ 9 5) ∧ z = 1 ∧ (m 9 5 = sp_te M (μ 10) (μ 9 4) (μ 9 5) ∧ m 11 t = sp_tk (μ 10) (μ 9 4) (μ 9 5) ∧ m 12 t = sp_tl M (μ 10) (μ 9 4) (μ 9 5) ∧ m 13 t = sp_tb M (μ 10) (μ 9 4) (μ 9 5) ∧ (∀ k, k ≠ 5 → m 9 k = μ 9 k) ∧ (∀ k, k ≠ t → m 11 k = μ 11 k ∧ m 12 k = μ 12 k ∧ m 13 k = μ 13 k) ∧ ∀ c, c ≠ 9 → c ≠ 11 → c ≠ 12 → c ≠ 13 → m c = μ c)))) := by
  have hs0 := tp_skp (tp := μ 10) hP.2.1
  have hkr : -1 ≤ sp_tk (μ 10) (μ 9 4) (μ 9 5) ∧ sp_tk (μ 10) (μ 9 4) (μ 9 5) ≤ 3 := by unfold sp_tk sp_kd; (repeat' split) <;> omega
  have er0 : (sp_r0 (μ 10) (μ 9 4) (μ 9 5)) = sp_skp (μ 10) (μ 9 4) (μ 9 5) := rfl
  refine fr_enter (by decide +kernel) (ls := [some (fr_r κ 9), some (fr_i t), some (fr_i M), none]) rfl (Nat.le_of_ble_eq_true rfl) ?_
  refine fr_ldcS dX6_parseTree_0 rfl ?_
  refine fr_al0 dX6_parseTree_2 ?_
  refine fr_cVP (mi' := fmX6_peek) dX6_parseTree_3 mlX6_35 mvX6_peek ⟨6, _, ⟨by decide, by decide, rfl⟩, rfl, rfl⟩ (Nat.le_of_ble_eq_true rfl) (kcX6_peek hP hT) rfl rfl (Nat.le_of_ble_eq_true rfl) (fun z m hz => ?_)
  obtain ⟨hz, rfl⟩ := hz
  have hzc : z = tp_c (μ 10) (μ 9 4) (sp_r0 (μ 10) (μ 9 4) (μ 9 5)) := hz
  have hzr : 0 ≤ z ∧ z ≤ 1000 := by rw [hzc]; unfold tp_c; split; (· exact hT _ (by omega) (by omega)); (· omega)
  refine fr_i2c dX6_parseTree_6 (by omega) ?_
  refine fr_cTi (mi' := fmJ0_indexOf_0f7a4) dX6_parseTree_7 slX6_41 mvJ0_indexOf_0f7a4 rfl (Nat.le_of_ble_eq_true rfl) (kcJ0_indexOf_0f7a4 (by omega)) rfl rfl (Nat.le_of_ble_eq_true rfl) ?_
  rw [show sp_kd z = sp_tk (μ 10) (μ 9 4) (μ 9 5) from (by rw [hzc]; exact tp_kd)]
  refine fr_is3 dX6_parseTree_10 rfl (Nat.le_of_ble_eq_true rfl) ?_
  refine fr_il3 dX6_parseTree_11 ?_
  refine fr_if_ge (tgt := 17) dX6_parseTree_12 (by decide) (by omega) (fun h1 => ?_) (fun h1 => ?_)
  · skip
    refine fr_al0 dX6_parseTree_17 ?_
    refine fr_dup dX6_parseTree_18 rfl ?_
    refine fr_geti (kz := 5) dX6_parseTree_19 flX6_28 ⟨by decide, by decide, rfl⟩ rfl rfl ?_
    refine fr_iconst dX6_parseTree_22 ?_
    refine fr_iadd dX6_parseTree_23 ?_
    refine fr_put (kz := 5) dX6_parseTree_24 fpX6_28 ⟨by decide, by decide, rfl⟩ rfl rfl (fun h => by cases h) ?_
    refine fr_al0 dX6_parseTree_27 ?_
    refine fr_getr (cz := 11) dX6_parseTree_28 flX6_15 ⟨by decide, by decide, rfl⟩ rfl rfl ?_
    refine fr_il1 dX6_parseTree_31 ?_
    refine fr_il3 dX6_parseTree_32 ?_
    refine fr_iast dX6_parseTree_33 ⟨by decide, by decide, rfl, by decide⟩ (by omega) (by omega) ?_
    refine fr_al0 dX6_parseTree_34 ?_
    refine fr_getr (cz := 12) dX6_parseTree_35 flX6_18 ⟨by decide, by decide, rfl⟩ rfl rfl ?_
    refine fr_il1 dX6_parseTree_38 ?_
    have hrl := tp_r (by assumption)
    have f95 : (fr_up (fr_up (fr_up μ 9 5 (sp_r0 (μ 10) (μ 9 4) (μ 9 5))) 9 5 ((fr_up μ 9 5 (sp_r0 (μ 10) (μ 9 4) (μ 9 5))) 9 5 + 1)) 11 t (sp_tk (μ 10) (μ 9 4) (μ 9 5))) 9 5 = (sp_r0 (μ 10) (μ 9 4) (μ 9 5)) + 1 := by simp (disch := omega) only [gm_uk, gm_un, gm_uc]
    have f94 : (fr_up (fr_up (fr_up μ 9 5 (sp_r0 (μ 10) (μ 9 4) (μ 9 5))) 9 5 ((fr_up μ 9 5 (sp_r0 (μ 10) (μ 9 4) (μ 9 5))) 9 5 + 1)) 11 t (sp_tk (μ 10) (μ 9 4) (μ 9 5))) 9 4 = μ 9 4 := by simp (disch := omega) only [gm_uk, gm_un, gm_uc]
    have f10 : (fr_up (fr_up (fr_up μ 9 5 (sp_r0 (μ 10) (μ 9 4) (μ 9 5))) 9 5 ((fr_up μ 9 5 (sp_r0 (μ 10) (μ 9 4) (μ 9 5))) 9 5 + 1)) 11 t (sp_tk (μ 10) (μ 9 4) (μ 9 5))) 10 = μ 10 := by simp (disch := omega) only [gm_uk, gm_un, gm_uc]
    refine fr_al0 dX6_parseTree_39 ?_
    refine fr_il2 dX6_parseTree_40 ?_
    refine fr_cVP (mi' := fmX6_parseClimber) dX6_parseTree_41 mlX6_47 mvX6_parseClimber ⟨6, _, ⟨by decide, by decide, rfl⟩, rfl, rfl⟩ (Nat.le_of_ble_eq_true rfl) (kcX6_parseClimber (μ := (fr_up (fr_up (fr_up μ 9 5 (sp_r0 (μ 10) (μ 9 4) (μ 9 5))) 9 5 ((fr_up μ 9 5 (sp_r0 (μ 10) (μ 9 4) (μ 9 5))) 9 5 + 1)) 11 t (sp_tk (μ 10) (μ 9 4) (μ 9 5)))) (by rw [f95, f94]; omega) (by rw [f10]; exact hT) hM) rfl rfl (Nat.le_of_ble_eq_true rfl) (fun z1 m1 h1 => ?_)
    rw [f10, f94, f95] at h1
    obtain ⟨hz1, hm1⟩ := tp_n hM h1
    subst hz1 hm1
    refine fr_iast dX6_parseTree_44 ⟨by decide, by decide, rfl, by decide⟩ (by omega) (by omega) ?_
    refine fr_al0 dX6_parseTree_45 ?_
    refine fr_getr (cz := 13) dX6_parseTree_46 flX6_21 ⟨by decide, by decide, rfl⟩ rfl rfl ?_
    refine fr_il1 dX6_parseTree_49 ?_
    have hp1 := tp_p_rg hM (tp := μ 10) (n := μ 9 4) (a := (sp_r0 (μ 10) (μ 9 4) (μ 9 5)) + 1) (by omega)
    have g95 : (fr_up (fr_up (fr_up (fr_up (fr_up μ 9 5 (sp_r0 (μ 10) (μ 9 4) (μ 9 5))) 9 5 ((fr_up μ 9 5 (sp_r0 (μ 10) (μ 9 4) (μ 9 5))) 9 5 + 1)) 11 t (sp_tk (μ 10) (μ 9 4) (μ 9 5))) 9 5 (tp_p M (μ 10) (μ 9 4) ((sp_r0 (μ 10) (μ 9 4) (μ 9 5)) + 1))) 12 t (tp_v M (sp_ch (μ 10) (μ 9 4) (sp_skp (μ 10) (μ 9 4) ((sp_r0 (μ 10) (μ 9 4) (μ 9 5)) + 1))))) 9 5 = (tp_p M (μ 10) (μ 9 4) ((sp_r0 (μ 10) (μ 9 4) (μ 9 5)) + 1)) := by simp (disch := omega) only [gm_uk, gm_un, gm_uc]
    have g94 : (fr_up (fr_up (fr_up (fr_up (fr_up μ 9 5 (sp_r0 (μ 10) (μ 9 4) (μ 9 5))) 9 5 ((fr_up μ 9 5 (sp_r0 (μ 10) (μ 9 4) (μ 9 5))) 9 5 + 1)) 11 t (sp_tk (μ 10) (μ 9 4) (μ 9 5))) 9 5 (tp_p M (μ 10) (μ 9 4) ((sp_r0 (μ 10) (μ 9 4) (μ 9 5)) + 1))) 12 t (tp_v M (sp_ch (μ 10) (μ 9 4) (sp_skp (μ 10) (μ 9 4) ((sp_r0 (μ 10) (μ 9 4) (μ 9 5)) + 1))))) 9 4 = μ 9 4 := by simp (disch := omega) only [gm_uk, gm_un, gm_uc]
    have g10 : (fr_up (fr_up (fr_up (fr_up (fr_up μ 9 5 (sp_r0 (μ 10) (μ 9 4) (μ 9 5))) 9 5 ((fr_up μ 9 5 (sp_r0 (μ 10) (μ 9 4) (μ 9 5))) 9 5 + 1)) 11 t (sp_tk (μ 10) (μ 9 4) (μ 9 5))) 9 5 (tp_p M (μ 10) (μ 9 4) ((sp_r0 (μ 10) (μ 9 4) (μ 9 5)) + 1))) 12 t (tp_v M (sp_ch (μ 10) (μ 9 4) (sp_skp (μ 10) (μ 9 4) ((sp_r0 (μ 10) (μ 9 4) (μ 9 5)) + 1))))) 10 = μ 10 := by simp (disch := omega) only [gm_uk, gm_un, gm_uc]
    refine fr_al0 dX6_parseTree_50 ?_
    refine fr_il2 dX6_parseTree_51 ?_
    refine fr_cVP (mi' := fmX6_parseClimber) dX6_parseTree_52 mlX6_47 mvX6_parseClimber ⟨6, _, ⟨by decide, by decide, rfl⟩, rfl, rfl⟩ (Nat.le_of_ble_eq_true rfl) (kcX6_parseClimber (μ := (fr_up (fr_up (fr_up (fr_up (fr_up μ 9 5 (sp_r0 (μ 10) (μ 9 4) (μ 9 5))) 9 5 ((fr_up μ 9 5 (sp_r0 (μ 10) (μ 9 4) (μ 9 5))) 9 5 + 1)) 11 t (sp_tk (μ 10) (μ 9 4) (μ 9 5))) 9 5 (tp_p M (μ 10) (μ 9 4) ((sp_r0 (μ 10) (μ 9 4) (μ 9 5)) + 1))) 12 t (tp_v M (sp_ch (μ 10) (μ 9 4) (sp_skp (μ 10) (μ 9 4) ((sp_r0 (μ 10) (μ 9 4) (μ 9 5)) + 1)))))) (by rw [g95, g94]; omega) (by rw [g10]; exact hT) hM) rfl rfl (Nat.le_of_ble_eq_true rfl) (fun z2 m2 h2 => ?_)
    rw [g10, g94, g95] at h2
    obtain ⟨hz2, hm2⟩ := tp_n hM h2
    subst hz2 hm2
    refine fr_iast dX6_parseTree_55 ⟨by decide, by decide, rfl, by decide⟩ (by omega) (by omega) ?_
    have h22 := tp_2 hM hP.2.1 (by assumption)
    refine fr_iconst dX6_parseTree_56 ?_
    exact fr_zret dX6_parseTree_57 rfl (Or.inr rfl) (fr_pi (Or.inr ⟨by assumption, rfl, by simp (disch := omega) only [gm_uk, gm_un, gm_uc]; exact h22.2.2, by simp (disch := omega) only [gm_uk, gm_un, gm_uc], by simp (disch := omega) only [gm_uk, gm_un, gm_uc]; exact h22.1, by simp (disch := omega) only [gm_uk, gm_un, gm_uc]; exact h22.2.1, fun k hk => by simp (disch := omega) only [gm_uk, gm_un, gm_uc], fun k hk => ⟨by simp (disch := omega) only [gm_uk, gm_un, gm_uc], by simp (disch := omega) only [gm_uk, gm_un, gm_uc], by simp (disch := omega) only [gm_uk, gm_un, gm_uc]⟩, fun c h1 h2 h3 h4 => by simp (disch := omega) only [gm_uk, gm_un, gm_uc]⟩))
  · skip
    refine fr_iconst dX6_parseTree_15 ?_
    exact fr_zret dX6_parseTree_16 rfl (Or.inl rfl) (fr_pi (Or.inl ⟨by omega, rfl, rfl⟩))
