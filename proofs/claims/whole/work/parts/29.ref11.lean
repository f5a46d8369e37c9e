def sp_nx (w : Int → Int) (code f : Int) : Int := sp_sum (w 0).toNat (fun t => sp_nxt w t f (sp_dg (w 0) code t) 0)
theorem sp_nx_rg {w : Int → Int} (hI : fr_I w) (code f : Int) : 0 ≤ sp_nx w code f ∧ sp_nx w code f ≤ 36 := by
  have hn := hI.n
  have h := sp_sum_rg (F := fun t => sp_nxt w t f (sp_dg (w 0) code t) 0) (a := 0) (b := 6) (w 0).toNat (fun i _ _ => sp_bn_rg _ _ _ _ _ _ _)
  unfold sp_nx
  omega
theorem sp_vr_folk {w : Int → Int} {set shut : Int} {o : Int → Int} : ∀ {k : Nat}, sp_vr w set shut o k → ∀ t, w 0 - k ≤ t → t < w 0 → o t = 5 ∨ (0 ≤ o t ∧ o t < w 43) := by
  intro k
  induction k with
  | zero => intro _ t h0 h1; omega
  | succ k ih =>
    intro h t h0 h1
    rcases (by omega : w 0 - k ≤ t ∨ t = w 0 - 1 - k) with e | e
    · exact ih h.1 t e h1
    · rw [e]
      rcases h.2 with g | g
      · exact Or.inl g
      · exact Or.inr g.1
theorem sp_V_folk {w : Int → Int} (hn : 0 ≤ w 0) {set shut code : Int} (h : sp_V w set shut code) (t : Int) (h0 : 0 ≤ t) (h1 : t < w 0) : sp_dg (w 0) code t = 5 ∨ (0 ≤ sp_dg (w 0) code t ∧ sp_dg (w 0) code t < w 43) := sp_vr_folk h t (by omega) h1
def sp_wd (it : Int → Int) (f : Int) : Int := if it f < 0 then 0 else it f
def sp_W (w : Int → Int) (code : Int) : Int := sp_wg w (sp_cr (sp_dg (w 0) code) (w 0) (w 0).toNat)
/-- hired; night; a pie: what an order must be -/
def sp_Hk (w it : Int → Int) (ev code : Int) : Prop := sp_V w ev 0 code ∧ ∀ f, 0 ≤ f → f < 10 → sp_wd it f ≤ sp_nx w code f
def sp_Nk (w it : Int → Int) (ev code : Int) : Prop := sp_V w ev 0 code ∧ ∀ t, 0 ≤ t → t < w 0 → it t < 0 ∨ (it t < 10 ∧ 0 < sp_nxt w t (it t) (sp_dg (w 0) code t) 0)
def sp_Pk (w it : Int → Int) (ev code : Int) : Prop := sp_V w ev 0 code ∧ ∀ f, 0 ≤ f → f < 10 → sp_nx w code f = sp_wd it f
noncomputable def sp_cnt (P : Int → Prop) (n : Nat) : Int := sp_sum n (fun c => fr_b (P c))
theorem sp_cnt_rg (P : Int → Prop) (n : Nat) : 0 ≤ sp_cnt P n ∧ sp_cnt P n ≤ n := by
  have h := sp_sum_rg (F := fun c => fr_b (P c)) (a := 0) (b := 1) n (fun i _ _ => fr_bR _)
  unfold sp_cnt
  omega
noncomputable def sp_sr (P : Int → Prop) (cl : Int → Int) (ev : Int) : Nat → Int
  | 0 => ev
  | j + 1 => fr_and (sp_sr P cl ev j) (@ite Int (P j) (Classical.propDecidable _) (cl j) (-1))
theorem sp_sr_T {P : Int → Prop} {cl : Int → Int} {ev : Int} {j : Nat} (h : P j) : sp_sr P cl ev (j + 1) = fr_and (sp_sr P cl ev j) (cl j) := by simp only [sp_sr]; rw [if_pos h]
theorem sp_sr_F {P : Int → Prop} {cl : Int → Int} {ev : Int} {j : Nat} (h : ¬ P j) : sp_sr P cl ev (j + 1) = fr_and (sp_sr P cl ev j) (-1) := by simp only [sp_sr]; rw [if_neg h]
/-- the first of all below j -/
def sp_fst (P : Int → Prop) (j x : Int) : Prop := (x = -4 ∧ ∀ c, 0 ≤ c → c < j → ¬ P c) ∨ (0 ≤ x ∧ x < j ∧ P x ∧ ∀ c, 0 ≤ c → c < x → ¬ P c)
theorem sp_fst.uniq {P : Int → Prop} {j x y : Int} (h : sp_fst P j x) (g : sp_fst P j y) : x = y := by
  rcases h with ⟨h1, h2⟩ | ⟨h1, h2, h3, h4⟩
  · rcases g with ⟨g1, g2⟩ | ⟨g1, g2, g3, g4⟩
    · omega
    · exact absurd g3 (h2 y g1 g2)
  · rcases g with ⟨g1, g2⟩ | ⟨g1, g2, g3, g4⟩
    · exact absurd h3 (g2 x h1 h2)
    · rcases Int.lt_trichotomy x y with e | e | e
      · exact absurd h3 (g4 x h1 e)
      · exact e
      · exact absurd g3 (h4 y g1 e)
theorem sp_fst.no {P : Int → Prop} {j x : Int} (h : sp_fst P j x) (hn : ¬ P j) : sp_fst P (j + 1) x := by
  rcases h with ⟨h1, h2⟩ | ⟨h1, h2, h3, h4⟩
  · exact Or.inl ⟨h1, fun s s0 s1 => (by omega : s < j ∨ s = j).elim (h2 s s0) (fun e => by rw [e]; exact hn)⟩
  · exact Or.inr ⟨h1, by omega, h3, h4⟩
theorem sp_fst.had {P : Int → Prop} {j x : Int} (h : sp_fst P j x) (hx : x ≠ -4) : sp_fst P (j + 1) x := by
  rcases h with ⟨h1, h2⟩ | ⟨h1, h2, h3, h4⟩
  · exact absurd h1 hx
  · exact Or.inr ⟨h1, by omega, h3, h4⟩
theorem sp_fst.new {P : Int → Prop} {j x : Int} (h : sp_fst P j x) (hj : 0 ≤ j) (hx : x = -4) (hp : P j) : sp_fst P (j + 1) j := by
  rcases h with ⟨h1, h2⟩ | ⟨h1, h2, h3, h4⟩
  · exact Or.inr ⟨hj, by omega, hp, h2⟩
  · omega
theorem sp_fst.cnt {P : Int → Prop} {x : Int} : ∀ {j : Nat}, sp_fst P j x → (sp_cnt P j = 0 ↔ x = -4) := by
  intro j h
  have key : ∀ n : Nat, (∀ c, 0 ≤ c → c < (n : Int) → ¬ P c) → sp_cnt P n = 0 := by
    intro n
    induction n with
    | zero => intro _; rfl
    | succ n ih =>
      intro hc
      have e : sp_cnt P (n + 1) = sp_cnt P n + fr_b (P n) := rfl
      rw [e, ih (fun c c0 c1 => hc c c0 (by omega)), fr_bF (hc n (by omega) (by omega))]
      rfl
  have key2 : ∀ n : Nat, 0 ≤ x → x < n → P x → 0 < sp_cnt P n := by
    intro n
    induction n with
    | zero => intro _ _ _; omega
    | succ n ih =>
      intro x0 x1 px
      have e : sp_cnt P (n + 1) = sp_cnt P n + fr_b (P n) := rfl
      have b := fr_bR (P n)
      have c0 := sp_cnt_rg P n
      rcases (by omega : x < n ∨ x = n) with h | h
      · have := ih x0 h px; omega
      · rw [h] at px; rw [e, fr_bT px]; omega
  rcases h with ⟨h1, h2⟩ | ⟨h1, h2, h3, h4⟩
  · exact ⟨fun _ => h1, fun _ => key j h2⟩
  · have := key2 j h1 h2 h3
    exact ⟨fun e => by omega, fun e => by omega⟩
set_option maxRecDepth 20000 in
theorem kcX11_hired {l : Launch} {κ : fr_Ka} {μ : fr_Me} (hI : fr_I (μ 67)) (hS : fr_Sh μ) {s lane i tree : Int} (rs : -2147483648 ≤ s ∧ s ≤ 2147483647) (rlane : -2147483648 ≤ lane ∧ lane ≤ 2147483647) (ri : -2147483648 ≤ i ∧ i ≤ 2147483647) (rtree : -2147483648 ≤ tree ∧ tree ≤ 2147483647) : fr_C l κ fmX11_hired 6 [fr_r κ 66, fr_i s, fr_i lane, fr_i i, fr_i tree] μ (fr_Pi (fun z m => (∀ c, c ≠ 70 → m c = μ c) ∧ ((¬ ((0 ≤ s ∧ s ≤ 3) ∧ (0 ≤ lane ∧ lane ≤ 3) ∧ (-1 ≤ tree ∧ tree ≤ μ 67 0 - 1)) ∧ z = -1) ∨ (((0 ≤ s ∧ s ≤ 3) ∧ (0 ≤ lane ∧ lane ≤ 3) ∧ (-1 ≤ tree ∧ tree ≤ μ 67 0 - 1)) ∧ sp_bars (μ 75 s) (μ 76 s) lane i 10 ≠ 0 ∧ z = sp_bars (μ 75 s) (μ 76 s) lane i 10) ∨ (((0 ≤ s ∧ s ≤ 3) ∧ (0 ≤ lane ∧ lane ≤ 3) ∧ (-1 ≤ tree ∧ tree ≤ μ 67 0 - 1)) ∧ sp_bars (μ 75 s) (μ 76 s) lane i 10 = 0 ∧ ∃ least found, sp_bi (sp_Hk (μ 67) (fun f => μ 77 (16 * s + (i + f))) (fr_shl 1 (μ 67 43) - 1)) (fun c => -sp_W (μ 67) c) (sp_p6 (μ 67 0).toNat) (-least) found ∧ z = if least = 1000000000 then -4 else if tree < 0 then least else sp_dg (μ 67 0) found tree)))) := by
  have iN := hI.n
  have iM := hI.many
  have hp := sp_p6_rg (μ 67 0).toNat (by omega)
  have hbr := sp_bars_rg (μ 75 s) (μ 76 s) lane i 10
  refine fr_enter (by decide +kernel) (ls := [some (fr_r κ 66), some (fr_i s), some (fr_i lane), some (fr_i i), some (fr_i tree), none, none, none, none, none, none, none]) rfl (Nat.le_of_ble_eq_true rfl) ?_
  refine fr_il1 dX11_hired_0 ?_
  refine fr_cSi (mi' := fmX11_isSheet) dX11_hired_1 mlX11_237 msX11_isSheet (Nat.le_of_ble_eq_true rfl) (kcX11_isSheet (by omega)) rfl rfl (Nat.le_of_ble_eq_true rfl) ?_
  refine fr_ifb_eq (tgt := 35) dX11_hired_4 (by decide) (fun h1 => ?_) (fun h1 => ?_)
  · skip
    refine fr_iconst dX11_hired_35 ?_
    exact fr_iret dX11_hired_36 rfl (fr_pi ⟨fun c _ => rfl, Or.inl ⟨by omega, rfl⟩⟩)
  · skip
    refine fr_il2 dX11_hired_7 ?_
    refine fr_cSi (mi' := fmX11_isLane) dX11_hired_8 mlX11_240 msX11_isLane (Nat.le_of_ble_eq_true rfl) (kcX11_isLane (by omega)) rfl rfl (Nat.le_of_ble_eq_true rfl) ?_
    refine fr_ifb_eq (tgt := 35) dX11_hired_11 (by decide) (fun h2 => ?_) (fun h2 => ?_)
    · skip
      refine fr_iconst dX11_hired_35 ?_
      exact fr_iret dX11_hired_36 rfl (fr_pi ⟨fun c _ => rfl, Or.inl ⟨by omega, rfl⟩⟩)
    · skip
      refine fr_il4 dX11_hired_14 ?_
      refine fr_i2l dX11_hired_16 (by omega) ?_
      refine fr_ldc2 dX11_hired_17 clX11_182 ?_
      refine fr_al0 dX11_hired_20 ?_
      refine fr_getr (cz := 67) dX11_hired_21 flX11_7 ⟨by decide, by decide, rfl⟩ rfl rfl ?_
      refine fr_iconst dX11_hired_24 ?_
      refine fr_iald dX11_hired_25 ⟨by decide, by decide, rfl, by decide⟩ (by omega) (by omega) ?_
      refine fr_iconst dX11_hired_26 ?_
      refine fr_isub dX11_hired_27 ?_
      refine fr_i2l dX11_hired_28 (by omega) ?_
      refine fr_cSi (mi' := fmX11_in) dX11_hired_29 mlX11_51 msX11_in (Nat.le_of_ble_eq_true rfl) (kcX11_in (by omega) (by omega) (by omega)) rfl rfl (Nat.le_of_ble_eq_true rfl) ?_
      refine fr_ifb_ne (tgt := 37) dX11_hired_32 (by decide) (fun h3 => ?_) (fun h3 => ?_)
      · skip
        refine fr_al0 dX11_hired_37 ?_
        refine fr_il1 dX11_hired_38 ?_
        refine fr_il2 dX11_hired_39 ?_
        refine fr_il3 dX11_hired_40 ?_
        refine fr_bipush dX11_hired_41 (by decide) ?_
        refine fr_cVi (mi' := fmX11_bars) dX11_hired_43 mlX11_243 mvX11_bars ⟨11, _, ⟨by decide, by decide, rfl⟩, rfl, rfl⟩ (Nat.le_of_ble_eq_true rfl) (kcX11_bars hS (by omega) (by omega) (by omega) (by omega)) rfl rfl (Nat.le_of_ble_eq_true rfl) ?_
        refine fr_is5 dX11_hired_46 rfl (Nat.le_of_ble_eq_true rfl) ?_
        refine fr_il5 dX11_hired_48 ?_
        refine fr_if_eq (tgt := 56) dX11_hired_50 (by decide) (by omega) (fun h4 => ?_) (fun h4 => ?_)
        · skip
          have hb := sp_bars0 h4
          have hsz := hS.1 s (by omega) (by omega)
          refine fr_ldc dX11_hired_56 cnX11_200 ?_
          refine fr_is6 dX11_hired_58 rfl (Nat.le_of_ble_eq_true rfl) ?_
          refine fr_iconst dX11_hired_60 ?_
          refine fr_is7 dX11_hired_61 rfl (Nat.le_of_ble_eq_true rfl) ?_
          refine fr_iconst dX11_hired_63 ?_
          refine fr_is8 dX11_hired_64 rfl (Nat.le_of_ble_eq_true rfl) ?_
          refine fr_wk ?_ (ls := [some (fr_r κ 66), some (fr_i s), some (fr_i lane), some (fr_i i), some (fr_i tree), none, some (fr_i _), some (fr_i _), some (fr_i (0 : Int)), none, none, none]) ⟨rfl, rfl, rfl, rfl, rfl, rfl, rfl, rfl, trivial⟩
          refine (fr_down (P := fun j : Nat => ∀ (x : Int) (y : Int) (m : fr_Me), ((∀ c, c ≠ 70 → m c = μ c) ∧ sp_bi (sp_Hk (μ 67) (fun f => μ 77 (16 * s + (i + f))) (fr_shl 1 (μ 67 43) - 1)) (fun c => -sp_W (μ 67) c) j (-x) y) → fr_A l κ fmX11_hired 6 (fr_Pi (fun z m => (∀ c, c ≠ 70 → m c = μ c) ∧ ((¬ ((0 ≤ s ∧ s ≤ 3) ∧ (0 ≤ lane ∧ lane ≤ 3) ∧ (-1 ≤ tree ∧ tree ≤ μ 67 0 - 1)) ∧ z = -1) ∨ (((0 ≤ s ∧ s ≤ 3) ∧ (0 ≤ lane ∧ lane ≤ 3) ∧ (-1 ≤ tree ∧ tree ≤ μ 67 0 - 1)) ∧ sp_bars (μ 75 s) (μ 76 s) lane i 10 ≠ 0 ∧ z = sp_bars (μ 75 s) (μ 76 s) lane i 10) ∨ (((0 ≤ s ∧ s ≤ 3) ∧ (0 ≤ lane ∧ lane ≤ 3) ∧ (-1 ≤ tree ∧ tree ≤ μ 67 0 - 1)) ∧ sp_bars (μ 75 s) (μ 76 s) lane i 10 = 0 ∧ ∃ least found, sp_bi (sp_Hk (μ 67) (fun f => μ 77 (16 * s + (i + f))) (fr_shl 1 (μ 67 43) - 1)) (fun c => -sp_W (μ 67) c) (sp_p6 (μ 67 0).toNat) (-least) found ∧ z = if least = 1000000000 then -4 else if tree < 0 then least else sp_dg (μ 67 0) found tree)))) 66 [some (fr_r κ 66), some (fr_i s), some (fr_i lane), some (fr_i i), some (fr_i tree), none, some (fr_i x), some (fr_i y), some (fr_i (j : Int)), none, none, none] [] m) (sp_p6 (μ 67 0).toNat).toNat ?_ (fun j hj66 ih66 => ?_)) _ _ _ (⟨fun c _ => rfl, Or.inl ⟨rfl, rfl, fun c c0 c1 => by omega⟩⟩)
          · skip
            intro x y m hm
            have hw : m 67 = μ 67 := hm.1 67 (by decide)
            have hxr : (-36000 ≤ x ∧ x ≤ 1000000000) ∧ 0 ≤ y ∧ y ≤ (((sp_p6 (μ 67 0).toNat).toNat : Nat) : Int) := by rcases hm.2 with h | h; (· omega); (· have g1 : -sp_W (μ 67) y = -x := h.2.2.2.1; have g2 := sp_wg_rg hI (sp_cr (sp_dg (μ 67 0) y) (μ 67 0) (μ 67 0).toNat); unfold sp_W at g1; omega)
            refine fr_il8 dX11_hired_66 ?_
            refine fr_al0 dX11_hired_68 ?_
            refine fr_cVi (mi' := fmX11_orders) dX11_hired_69 mlX11_173 mvX11_orders ⟨11, _, ⟨by decide, by decide, rfl⟩, rfl, rfl⟩ (Nat.le_of_ble_eq_true rfl) (kcX11_orders (by rw [hw]; exact iN)) rfl rfl (Nat.le_of_ble_eq_true rfl) ?_
            rw [hw]
            refine fr_icmp_ge (tgt := 197) dX11_hired_72 (by decide) (by omega) (by omega) (fun h5 => ?_) (fun h5 => ?_)
            · skip
              refine fr_il6 dX11_hired_197 ?_
              refine fr_ldc dX11_hired_199 cnX11_200 ?_
              refine fr_icmp_ne (tgt := 207) dX11_hired_201 (by decide) (by omega) (by omega) (fun h6 => ?_) (fun h6 => ?_)
              · skip
                refine fr_al0 dX11_hired_207 ?_
                refine fr_il7 dX11_hired_208 ?_
                refine fr_al0 dX11_hired_210 ?_
                refine fr_cVi (mi' := fmX11_everybody) dX11_hired_211 mlX11_184 mvX11_everybody ⟨11, _, ⟨by decide, by decide, rfl⟩, rfl, rfl⟩ (Nat.le_of_ble_eq_true rfl) (kcX11_everybody) rfl rfl (Nat.le_of_ble_eq_true rfl) ?_
                rw [hw]
                refine fr_iconst dX11_hired_214 ?_
                refine fr_cVP (mi' := fmX11_layOrder) dX11_hired_215 mlX11_176 mvX11_layOrder ⟨11, _, ⟨by decide, by decide, rfl⟩, rfl, rfl⟩ (Nat.le_of_ble_eq_true rfl) (kcX11_layOrder (by rw [hw]; exact hI) (by rcases hm.2 with h | h; (· exfalso; omega); (· have := h.2.1; omega))) rfl rfl (Nat.le_of_ble_eq_true rfl) (fun z1 m1 h1 => ?_)
                rw [hw] at h1
                obtain ⟨f70, hz1⟩ := h1
                rcases hz1 with ⟨ez, hv, hwho⟩ | ⟨_, hnv⟩
                · skip
                  refine fr_pop dX11_hired_218 rfl ?_
                  refine fr_il4 dX11_hired_219 ?_
                  refine fr_if_ge (tgt := 229) dX11_hired_221 (by decide) (by omega) (fun h7 => ?_) (fun h7 => ?_)
                  · skip
                    refine fr_al0 dX11_hired_229 ?_
                    refine fr_getr (cz := 70) dX11_hired_230 flX11_19 ⟨by decide, by decide, rfl⟩ rfl rfl ?_
                    refine fr_il4 dX11_hired_233 ?_
                    refine fr_iald dX11_hired_235 ⟨by decide, by decide, rfl, by decide⟩ (by omega) (by omega) ?_
                    exact fr_iret dX11_hired_236 rfl (fr_pi ⟨fun c hc => by rw [f70 c hc]; exact hm.1 c hc, Or.inr (Or.inr ⟨by omega, by assumption, x, y, by have := hm.2; rw [show (((sp_p6 (μ 67 0).toNat).toNat : Nat) : Int) = sp_p6 (μ 67 0).toNat by omega] at this; exact this, by rw [if_neg (by assumption), if_neg (by omega)]; exact hwho tree (by omega) (by omega)⟩)⟩)
                  · skip
                    refine fr_il6 dX11_hired_224 ?_
                    refine fr_goto (tgt := 236) dX11_hired_226 (by decide) ?_
                    exact fr_iret dX11_hired_236 rfl (fr_pi ⟨fun c hc => by rw [f70 c hc]; exact hm.1 c hc, Or.inr (Or.inr ⟨by omega, by assumption, x, y, by have := hm.2; rw [show (((sp_p6 (μ 67 0).toNat).toNat : Nat) : Int) = sp_p6 (μ 67 0).toNat by omega] at this; exact this, by rw [if_neg (by assumption), if_pos (by assumption)]⟩)⟩)
                · skip
                  rcases hm.2 with h | h; (· exfalso; omega); (· exact absurd h.2.2.1.1 hnv)
              · skip
                refine fr_bipush dX11_hired_204 (by decide) ?_
                exact fr_iret dX11_hired_206 rfl (fr_pi ⟨hm.1, Or.inr (Or.inr ⟨by omega, by assumption, x, y, by have := hm.2; rw [show (((sp_p6 (μ 67 0).toNat).toNat : Nat) : Int) = sp_p6 (μ 67 0).toNat by omega] at this; exact this, by rw [if_pos (by assumption)]⟩)⟩)
            · skip
              exfalso; omega
          · skip
            intro x y m hm
            have hWr := sp_wg_rg hI (sp_cr (sp_dg (μ 67 0) (j : Int)) (μ 67 0) (μ 67 0).toNat)
            rw [show sp_wg (μ 67) (sp_cr (sp_dg (μ 67 0) (j : Int)) (μ 67 0) (μ 67 0).toNat) = sp_W (μ 67) j from rfl] at hWr
            have hw : m 67 = μ 67 := hm.1 67 (by decide)
            have hxr : (-36000 ≤ x ∧ x ≤ 1000000000) ∧ 0 ≤ y ∧ y ≤ j := by rcases hm.2 with h | h; (· omega); (· have g1 : -sp_W (μ 67) y = -x := h.2.2.2.1; have g2 := sp_wg_rg hI (sp_cr (sp_dg (μ 67 0) y) (μ 67 0) (μ 67 0).toNat); unfold sp_W at g1; omega)
            refine fr_il8 dX11_hired_66 ?_
            refine fr_al0 dX11_hired_68 ?_
            refine fr_cVi (mi' := fmX11_orders) dX11_hired_69 mlX11_173 mvX11_orders ⟨11, _, ⟨by decide, by decide, rfl⟩, rfl, rfl⟩ (Nat.le_of_ble_eq_true rfl) (kcX11_orders (by rw [hw]; exact iN)) rfl rfl (Nat.le_of_ble_eq_true rfl) ?_
            rw [hw]
            refine fr_icmp_ge (tgt := 197) dX11_hired_72 (by decide) (by omega) (by omega) (fun h8 => ?_) (fun h8 => ?_)
            · skip
              exfalso; omega
            · skip
              refine fr_al0 dX11_hired_75 ?_
              refine fr_il8 dX11_hired_76 ?_
              refine fr_al0 dX11_hired_78 ?_
              refine fr_cVi (mi' := fmX11_everybody) dX11_hired_79 mlX11_184 mvX11_everybody ⟨11, _, ⟨by decide, by decide, rfl⟩, rfl, rfl⟩ (Nat.le_of_ble_eq_true rfl) (kcX11_everybody) rfl rfl (Nat.le_of_ble_eq_true rfl) ?_
              rw [hw]
              refine fr_iconst dX11_hired_82 ?_
              refine fr_cVP (mi' := fmX11_layOrder) dX11_hired_83 mlX11_176 mvX11_layOrder ⟨11, _, ⟨by decide, by decide, rfl⟩, rfl, rfl⟩ (Nat.le_of_ble_eq_true rfl) (kcX11_layOrder (by rw [hw]; exact hI) (by omega)) rfl rfl (Nat.le_of_ble_eq_true rfl) (fun z1 m1 h1 => ?_)
              rw [hw] at h1
              obtain ⟨f70, hz1⟩ := h1
              have hw1 : m1 67 = μ 67 := (f70 67 (by decide)).trans hw
              have h77 : m1 77 = μ 77 := by rw [f70 77 (by decide)]; exact hm.1 77 (by decide)
              have hS1 : fr_Sh m1 := by unfold fr_Sh; rw [f70 75 (by decide), f70 76 (by decide), f70 77 (by decide), hm.1 75 (by decide), hm.1 76 (by decide), hm.1 77 (by decide)]; exact hS
              rcases hz1 with ⟨ez, hv, hwho⟩ | ⟨rfl, hnv⟩
              · skip
                have hzr := sp_cr_rg (N := μ 67 0) (fun t => sp_dg_rg (μ 67 0) (j : Int) t) (μ 67 0).toNat
                rw [← ez] at hzr
                have hfk := sp_V_folk iN.1 (code := (j : Int)) hv
                refine fr_is9 dX11_hired_86 rfl (Nat.le_of_ble_eq_true rfl) ?_
                refine fr_il9 dX11_hired_88 ?_
                refine fr_if_lt (tgt := 108) dX11_hired_90 (by decide) (by omega) (fun h9 => ?_) (fun h9 => ?_)
                · skip
                  exfalso; omega
                · skip
                  refine fr_al0 dX11_hired_93 ?_
                  refine fr_il9 dX11_hired_94 ?_
                  refine fr_cVi (mi' := fmX11_wagesOf) dX11_hired_96 mlX11_179 mvX11_wagesOf ⟨11, _, ⟨by decide, by decide, rfl⟩, rfl, rfl⟩ (Nat.le_of_ble_eq_true rfl) (kcX11_wagesOf (by rw [hw1]; exact iM)) rfl rfl (Nat.le_of_ble_eq_true rfl) ?_
                  rw [hw1]
                  have ew : sp_wg (μ 67) z1 = sp_W (μ 67) j := by rw [ez]; rfl
                  rw [ew]
                  refine fr_il6 dX11_hired_99 ?_
                  refine fr_icmp_ge (tgt := 108) dX11_hired_101 (by decide) (by omega) (by omega) (fun h10 => ?_) (fun h10 => ?_)
                  · skip
                    refine fr_iconst dX11_hired_108 ?_
                    refine fr_is10 dX11_hired_109 rfl (Nat.le_of_ble_eq_true rfl) ?_
                    refine fr_iconst dX11_hired_111 ?_
                    refine fr_is11 dX11_hired_112 rfl (Nat.le_of_ble_eq_true rfl) ?_
                    refine fr_il11 dX11_hired_114 ?_
                    refine fr_bipush dX11_hired_116 (by decide) ?_
                    refine fr_icmp_ge (tgt := 159) dX11_hired_118 (by decide) (by decide) (by decide) (fun h11 => absurd h11 (by decide)) (fun _ => ?_)
                    refine fr_il10 dX11_hired_121 ?_
                    refine fr_if_eq (tgt := 159) dX11_hired_123 (by decide) (by decide) (fun _ => ?_) (fun h12 => absurd h12 (by decide))
                    refine fr_il10 dX11_hired_159 ?_
                    refine fr_if_eq (tgt := 169) dX11_hired_161 (by decide) (by decide) (fun _ => ?_) (fun h13 => absurd h13 (by decide))
                    refine fr_il7 dX11_hired_169 ?_
                    refine fr_is7 dX11_hired_171 rfl (Nat.le_of_ble_eq_true rfl) ?_
                    refine fr_il10 dX11_hired_173 ?_
                    refine fr_if_eq (tgt := 187) dX11_hired_175 (by decide) (by decide) (fun _ => ?_) (fun h14 => absurd h14 (by decide))
                    refine fr_il6 dX11_hired_187 ?_
                    refine fr_is6 dX11_hired_189 rfl (Nat.le_of_ble_eq_true rfl) ?_
                    refine fr_ii8 dX11_hired_191 rfl (Nat.le_of_ble_eq_true rfl) ?_
                    refine fr_goto (tgt := 66) dX11_hired_194 (by decide) ?_
                    exact fr_wk (ih66 _ _ _ (⟨fun c hc => by rw [f70 c hc]; exact hm.1 c hc, (Classical.em ((sp_Hk (μ 67) (fun f => μ 77 (16 * s + (i + f))) (fr_shl 1 (μ 67 43) - 1)) j)).elim (fun h => hm.2.no (by omega) (by omega)) (fun h => hm.2.skip h)⟩)) ⟨rfl, rfl, rfl, rfl, rfl, rfl, rfl, rfl, trivial⟩
                  · skip
                    refine fr_iconst dX11_hired_104 ?_
                    refine fr_goto (tgt := 109) dX11_hired_105 (by decide) ?_
                    refine fr_is10 dX11_hired_109 rfl (Nat.le_of_ble_eq_true rfl) ?_
                    refine fr_iconst dX11_hired_111 ?_
                    refine fr_is11 dX11_hired_112 rfl (Nat.le_of_ble_eq_true rfl) ?_
                    refine fr_wk ?_ (ls := [some (fr_r κ 66), some (fr_i s), some (fr_i lane), some (fr_i i), some (fr_i tree), none, some (fr_i x), some (fr_i y), some (fr_i (j : Int)), some (fr_i z1), some (fr_i 1), some (fr_i (0 : Int))]) ⟨rfl, rfl, rfl, rfl, rfl, rfl, rfl, rfl, rfl, rfl, rfl, trivial⟩
                    refine (fr_down (P := fun a : Nat => (∀ f, 0 ≤ f → f < (a : Int) → sp_wd (fun f => μ 77 (16 * s + (i + f))) f ≤ sp_nx (μ 67) j f) → fr_A l κ fmX11_hired 6 (fr_Pi (fun z m => (∀ c, c ≠ 70 → m c = μ c) ∧ ((¬ ((0 ≤ s ∧ s ≤ 3) ∧ (0 ≤ lane ∧ lane ≤ 3) ∧ (-1 ≤ tree ∧ tree ≤ μ 67 0 - 1)) ∧ z = -1) ∨ (((0 ≤ s ∧ s ≤ 3) ∧ (0 ≤ lane ∧ lane ≤ 3) ∧ (-1 ≤ tree ∧ tree ≤ μ 67 0 - 1)) ∧ sp_bars (μ 75 s) (μ 76 s) lane i 10 ≠ 0 ∧ z = sp_bars (μ 75 s) (μ 76 s) lane i 10) ∨ (((0 ≤ s ∧ s ≤ 3) ∧ (0 ≤ lane ∧ lane ≤ 3) ∧ (-1 ≤ tree ∧ tree ≤ μ 67 0 - 1)) ∧ sp_bars (μ 75 s) (μ 76 s) lane i 10 = 0 ∧ ∃ least found, sp_bi (sp_Hk (μ 67) (fun f => μ 77 (16 * s + (i + f))) (fr_shl 1 (μ 67 43) - 1)) (fun c => -sp_W (μ 67) c) (sp_p6 (μ 67 0).toNat) (-least) found ∧ z = if least = 1000000000 then -4 else if tree < 0 then least else sp_dg (μ 67 0) found tree)))) 114 [some (fr_r κ 66), some (fr_i s), some (fr_i lane), some (fr_i i), some (fr_i tree), none, some (fr_i x), some (fr_i y), some (fr_i (j : Int)), some (fr_i z1), some (fr_i 1), some (fr_i (a : Int))] [] m1) 10 ?_ (fun a hj114 ih114 => ?_)) (fun f f0 f1 => by omega)
                    · skip
                      intro hall
                      refine fr_il11 dX11_hired_114 ?_
                      refine fr_bipush dX11_hired_116 (by decide) ?_
                      refine fr_icmp_ge (tgt := 159) dX11_hired_118 (by decide) (by omega) (by omega) (fun h15 => ?_) (fun h15 => ?_)
                      · skip
                        refine fr_il10 dX11_hired_159 ?_
                        refine fr_if_eq (tgt := 169) dX11_hired_161 (by decide) (by decide) (fun h16 => absurd h16 (by decide)) (fun _ => ?_)
                        refine fr_il8 dX11_hired_164 ?_
                        refine fr_goto (tgt := 171) dX11_hired_166 (by decide) ?_
                        refine fr_is7 dX11_hired_171 rfl (Nat.le_of_ble_eq_true rfl) ?_
                        refine fr_il10 dX11_hired_173 ?_
                        refine fr_if_eq (tgt := 187) dX11_hired_175 (by decide) (by decide) (fun h17 => absurd h17 (by decide)) (fun _ => ?_)
                        refine fr_al0 dX11_hired_178 ?_
                        refine fr_il9 dX11_hired_179 ?_
                        refine fr_cVi (mi' := fmX11_wagesOf) dX11_hired_181 mlX11_179 mvX11_wagesOf ⟨11, _, ⟨by decide, by decide, rfl⟩, rfl, rfl⟩ (Nat.le_of_ble_eq_true rfl) (kcX11_wagesOf (by rw [hw1]; exact iM)) rfl rfl (Nat.le_of_ble_eq_true rfl) ?_
                        rw [hw1]
                        have ew : sp_wg (μ 67) z1 = sp_W (μ 67) j := by rw [ez]; rfl
                        rw [ew]
                        refine fr_goto (tgt := 189) dX11_hired_184 (by decide) ?_
                        refine fr_is6 dX11_hired_189 rfl (Nat.le_of_ble_eq_true rfl) ?_
                        refine fr_ii8 dX11_hired_191 rfl (Nat.le_of_ble_eq_true rfl) ?_
                        refine fr_goto (tgt := 66) dX11_hired_194 (by decide) ?_
                        exact fr_wk (ih66 _ _ _ (⟨fun c hc => by rw [f70 c hc]; exact hm.1 c hc, hm.2.up (by omega) ⟨hv, hall⟩ (by omega)⟩)) ⟨rfl, rfl, rfl, rfl, rfl, rfl, rfl, rfl, trivial⟩
                      · skip
                        exfalso; omega
                    · skip
                      intro hall
                      refine fr_il11 dX11_hired_114 ?_
                      refine fr_bipush dX11_hired_116 (by decide) ?_
                      refine fr_icmp_ge (tgt := 159) dX11_hired_118 (by decide) (by omega) (by omega) (fun h18 => ?_) (fun h18 => ?_)
                      · skip
                        exfalso; omega
                      · skip
                        refine fr_il10 dX11_hired_121 ?_
                        refine fr_if_eq (tgt := 159) dX11_hired_123 (by decide) (by decide) (fun h19 => absurd h19 (by decide)) (fun _ => ?_)
                        refine fr_al0 dX11_hired_126 ?_
                        refine fr_il11 dX11_hired_127 ?_
                        refine fr_cVi (mi' := fmX11_nextOf) dX11_hired_129 mlX11_246 mvX11_nextOf ⟨11, _, ⟨by decide, by decide, rfl⟩, rfl, rfl⟩ (Nat.le_of_ble_eq_true rfl) (kcX11_nextOf (by rw [hw1]; exact hI) (by omega) (by rw [hw1]; intro t h0 h1; rw [hwho t h0 h1]; exact hfk t h0 h1)) rfl rfl (Nat.le_of_ble_eq_true rfl) ?_
                        rw [hw1, sp_sum_eq (G := fun t => sp_nxt (μ 67) t a (sp_dg (μ 67 0) j t) 0) _ (fun t h0 h1 => by rw [hwho t h0 (by omega)])]
                        have hnx := sp_nx_rg hI (j : Int) (a : Int)
                        rw [show sp_sum (μ 67 0).toNat (fun t => sp_nxt (μ 67) t a (sp_dg (μ 67 0) j t) 0) = sp_nx (μ 67) j a from rfl]
                        refine fr_i2l dX11_hired_132 (by omega) ?_
                        refine fr_al0 dX11_hired_133 ?_
                        refine fr_il1 dX11_hired_134 ?_
                        refine fr_il3 dX11_hired_135 ?_
                        refine fr_il11 dX11_hired_136 ?_
                        refine fr_iadd dX11_hired_138 ?_
                        refine fr_cVj (mi' := fmX11_wanted) dX11_hired_139 mlX11_249 mvX11_wanted ⟨11, _, ⟨by decide, by decide, rfl⟩, rfl, rfl⟩ (Nat.le_of_ble_eq_true rfl) (kcX11_wanted hS1 (by omega)) rfl rfl (Nat.le_of_ble_eq_true rfl) ?_
                        rw [h77]
                        have hjr := hS.2 (16 * s + (i + a)) (by omega) (by omega)
                        have ewd : (if μ 77 (16 * s + (i + a)) < 0 then 0 else μ 77 (16 * s + (i + a))) = sp_wd (fun f => μ 77 (16 * s + (i + f))) a := rfl
                        rw [ewd]
                        have hwr : 0 ≤ sp_wd (fun f => μ 77 (16 * s + (i + f))) a ∧ sp_wd (fun f => μ 77 (16 * s + (i + f))) a ≤ 9223372036854775807 := by unfold sp_wd; dsimp only; split <;> omega
                        refine fr_lcmpR dX11_hired_142 (by omega) (by omega) ?_
                        refine fr_if_lt (tgt := 150) dX11_hired_143 (by decide) (by omega) (fun h20 => ?_) (fun h20 => ?_)
                        · skip
                          refine fr_iconst dX11_hired_150 ?_
                          refine fr_is10 dX11_hired_151 rfl (Nat.le_of_ble_eq_true rfl) ?_
                          refine fr_ii11 dX11_hired_153 rfl (Nat.le_of_ble_eq_true rfl) ?_
                          refine fr_goto (tgt := 114) dX11_hired_156 (by decide) ?_
                          refine fr_il11 dX11_hired_114 ?_
                          refine fr_bipush dX11_hired_116 (by decide) ?_
                          refine fr_icmp_ge (tgt := 159) dX11_hired_118 (by decide) (by omega) (by omega) (fun h21 => ?_) (fun h21 => ?_)
                          · skip
                            refine fr_il10 dX11_hired_159 ?_
                            refine fr_if_eq (tgt := 169) dX11_hired_161 (by decide) (by decide) (fun _ => ?_) (fun h22 => absurd h22 (by decide))
                            refine fr_il7 dX11_hired_169 ?_
                            refine fr_is7 dX11_hired_171 rfl (Nat.le_of_ble_eq_true rfl) ?_
                            refine fr_il10 dX11_hired_173 ?_
                            refine fr_if_eq (tgt := 187) dX11_hired_175 (by decide) (by decide) (fun _ => ?_) (fun h23 => absurd h23 (by decide))
                            refine fr_il6 dX11_hired_187 ?_
                            refine fr_is6 dX11_hired_189 rfl (Nat.le_of_ble_eq_true rfl) ?_
                            refine fr_ii8 dX11_hired_191 rfl (Nat.le_of_ble_eq_true rfl) ?_
                            refine fr_goto (tgt := 66) dX11_hired_194 (by decide) ?_
                            exact fr_wk (ih66 _ _ _ (⟨fun c hc => by rw [f70 c hc]; exact hm.1 c hc, hm.2.skip (fun h => absurd (h.2 (a : Int) (by omega) (by omega)) (by omega))⟩)) ⟨rfl, rfl, rfl, rfl, rfl, rfl, rfl, rfl, trivial⟩
                          · skip
                            refine fr_il10 dX11_hired_121 ?_
                            refine fr_if_eq (tgt := 159) dX11_hired_123 (by decide) (by decide) (fun _ => ?_) (fun h24 => absurd h24 (by decide))
                            refine fr_il10 dX11_hired_159 ?_
                            refine fr_if_eq (tgt := 169) dX11_hired_161 (by decide) (by decide) (fun _ => ?_) (fun h25 => absurd h25 (by decide))
                            refine fr_il7 dX11_hired_169 ?_
                            refine fr_is7 dX11_hired_171 rfl (Nat.le_of_ble_eq_true rfl) ?_
                            refine fr_il10 dX11_hired_173 ?_
                            refine fr_if_eq (tgt := 187) dX11_hired_175 (by decide) (by decide) (fun _ => ?_) (fun h26 => absurd h26 (by decide))
                            refine fr_il6 dX11_hired_187 ?_
                            refine fr_is6 dX11_hired_189 rfl (Nat.le_of_ble_eq_true rfl) ?_
                            refine fr_ii8 dX11_hired_191 rfl (Nat.le_of_ble_eq_true rfl) ?_
                            refine fr_goto (tgt := 66) dX11_hired_194 (by decide) ?_
                            exact fr_wk (ih66 _ _ _ (⟨fun c hc => by rw [f70 c hc]; exact hm.1 c hc, hm.2.skip (fun h => absurd (h.2 (a : Int) (by omega) (by omega)) (by omega))⟩)) ⟨rfl, rfl, rfl, rfl, rfl, rfl, rfl, rfl, trivial⟩
                        · skip
                          refine fr_iconst dX11_hired_146 ?_
                          refine fr_goto (tgt := 151) dX11_hired_147 (by decide) ?_
                          refine fr_is10 dX11_hired_151 rfl (Nat.le_of_ble_eq_true rfl) ?_
                          refine fr_ii11 dX11_hired_153 rfl (Nat.le_of_ble_eq_true rfl) ?_
                          refine fr_goto (tgt := 114) dX11_hired_156 (by decide) ?_
                          exact fr_wk (ih114 (fun f f0 f1 => (by omega : f < a ∨ f = a).elim (fun h => hall f f0 h) (fun h => by subst h; omega))) ⟨rfl, rfl, rfl, rfl, rfl, rfl, rfl, rfl, rfl, rfl, rfl, trivial⟩
              · skip
                refine fr_is9 dX11_hired_86 rfl (Nat.le_of_ble_eq_true rfl) ?_
                refine fr_il9 dX11_hired_88 ?_
                refine fr_if_lt (tgt := 108) dX11_hired_90 (by decide) (by decide) (fun _ => ?_) (fun h27 => absurd h27 (by decide))
                refine fr_iconst dX11_hired_108 ?_
                refine fr_is10 dX11_hired_109 rfl (Nat.le_of_ble_eq_true rfl) ?_
                refine fr_iconst dX11_hired_111 ?_
                refine fr_is11 dX11_hired_112 rfl (Nat.le_of_ble_eq_true rfl) ?_
                refine fr_il11 dX11_hired_114 ?_
                refine fr_bipush dX11_hired_116 (by decide) ?_
                refine fr_icmp_ge (tgt := 159) dX11_hired_118 (by decide) (by decide) (by decide) (fun h28 => absurd h28 (by decide)) (fun _ => ?_)
                refine fr_il10 dX11_hired_121 ?_
                refine fr_if_eq (tgt := 159) dX11_hired_123 (by decide) (by decide) (fun _ => ?_) (fun h29 => absurd h29 (by decide))
                refine fr_il10 dX11_hired_159 ?_
                refine fr_if_eq (tgt := 169) dX11_hired_161 (by decide) (by decide) (fun _ => ?_) (fun h30 => absurd h30 (by decide))
                refine fr_il7 dX11_hired_169 ?_
                refine fr_is7 dX11_hired_171 rfl (Nat.le_of_ble_eq_true rfl) ?_
                refine fr_il10 dX11_hired_173 ?_
                refine fr_if_eq (tgt := 187) dX11_hired_175 (by decide) (by decide) (fun _ => ?_) (fun h31 => absurd h31 (by decide))
                refine fr_il6 dX11_hired_187 ?_
                refine fr_is6 dX11_hired_189 rfl (Nat.le_of_ble_eq_true rfl) ?_
                refine fr_ii8 dX11_hired_191 rfl (Nat.le_of_ble_eq_true rfl) ?_
                refine fr_goto (tgt := 66) dX11_hired_194 (by decide) ?_
                exact fr_wk (ih66 _ _ _ (⟨fun c hc => by rw [f70 c hc]; exact hm.1 c hc, hm.2.skip (fun h => hnv h.1)⟩)) ⟨rfl, rfl, rfl, rfl, rfl, rfl, rfl, rfl, trivial⟩
        · skip
          refine fr_il5 dX11_hired_53 ?_
          exact fr_iret dX11_hired_55 rfl (fr_pi ⟨fun c _ => rfl, Or.inr (Or.inl ⟨by omega, by assumption, rfl⟩)⟩)
      · skip
        refine fr_iconst dX11_hired_35 ?_
        exact fr_iret dX11_hired_36 rfl (fr_pi ⟨fun c _ => rfl, Or.inl ⟨by omega, rfl⟩⟩)
set_option maxRecDepth 20000 in
theorem kcX11_pie {l : Launch} {κ : fr_Ka} {μ : fr_Me} (hI : fr_I (μ 67)) (hS : fr_Sh μ) {s lane i what : Int} (rs : -2147483648 ≤ s ∧ s ≤ 2147483647) (rlane : -2147483648 ≤ lane ∧ lane ≤ 2147483647) (ri : -2147483648 ≤ i ∧ i ≤ 2147483647) (rwhat : -2147483648 ≤ what ∧ what ≤ 2147483647) : fr_C l κ fmX11_pie 6 [fr_r κ 66, fr_i s, fr_i lane, fr_i i, fr_i what] μ (fr_Pi (fun z m => (∀ c, c ≠ 70 → m c = μ c) ∧ ((¬ ((0 ≤ s ∧ s ≤ 3) ∧ (0 ≤ lane ∧ lane ≤ 3) ∧ (0 ≤ what ∧ what ≤ 1)) ∧ z = -1) ∨ (((0 ≤ s ∧ s ≤ 3) ∧ (0 ≤ lane ∧ lane ≤ 3) ∧ (0 ≤ what ∧ what ≤ 1)) ∧ sp_bars (μ 75 s) (μ 76 s) lane i 10 ≠ 0 ∧ z = sp_bars (μ 75 s) (μ 76 s) lane i 10) ∨ (((0 ≤ s ∧ s ≤ 3) ∧ (0 ≤ lane ∧ lane ≤ 3) ∧ (0 ≤ what ∧ what ≤ 1)) ∧ sp_bars (μ 75 s) (μ 76 s) lane i 10 = 0 ∧ ∃ x, sp_fst (sp_Pk (μ 67) (fun f => μ 77 (16 * s + (i + f))) (fr_shl 1 (μ 67 43) - 1)) (sp_p6 (μ 67 0).toNat) x ∧ z = if what = 0 then sp_cnt (sp_Pk (μ 67) (fun f => μ 77 (16 * s + (i + f))) (fr_shl 1 (μ 67 43) - 1)) (sp_p6 (μ 67 0).toNat).toNat else x)))) := by
  have iN := hI.n
  have iM := hI.many
  have hp := sp_p6_rg (μ 67 0).toNat (by omega)
  have hbr := sp_bars_rg (μ 75 s) (μ 76 s) lane i 10
  refine fr_enter (by decide +kernel) (ls := [some (fr_r κ 66), some (fr_i s), some (fr_i lane), some (fr_i i), some (fr_i what), none, none, none, none, none, none]) rfl (Nat.le_of_ble_eq_true rfl) ?_
  refine fr_il1 dX11_pie_0 ?_
  refine fr_cSi (mi' := fmX11_isSheet) dX11_pie_1 mlX11_237 msX11_isSheet (Nat.le_of_ble_eq_true rfl) (kcX11_isSheet (by omega)) rfl rfl (Nat.le_of_ble_eq_true rfl) ?_
  refine fr_ifb_eq (tgt := 25) dX11_pie_4 (by decide) (fun h1 => ?_) (fun h1 => ?_)
  · skip
    refine fr_iconst dX11_pie_25 ?_
    exact fr_iret dX11_pie_26 rfl (fr_pi ⟨fun c _ => rfl, Or.inl ⟨by omega, rfl⟩⟩)
  · skip
    refine fr_il2 dX11_pie_7 ?_
    refine fr_cSi (mi' := fmX11_isLane) dX11_pie_8 mlX11_240 msX11_isLane (Nat.le_of_ble_eq_true rfl) (kcX11_isLane (by omega)) rfl rfl (Nat.le_of_ble_eq_true rfl) ?_
    refine fr_ifb_eq (tgt := 25) dX11_pie_11 (by decide) (fun h2 => ?_) (fun h2 => ?_)
    · skip
      refine fr_iconst dX11_pie_25 ?_
      exact fr_iret dX11_pie_26 rfl (fr_pi ⟨fun c _ => rfl, Or.inl ⟨by omega, rfl⟩⟩)
    · skip
      refine fr_il4 dX11_pie_14 ?_
      refine fr_i2l dX11_pie_16 (by omega) ?_
      refine fr_lconst0 dX11_pie_17 ?_
      refine fr_lconst1 dX11_pie_18 ?_
      refine fr_cSi (mi' := fmX11_in) dX11_pie_19 mlX11_51 msX11_in (Nat.le_of_ble_eq_true rfl) (kcX11_in (by omega) (by omega) (by omega)) rfl rfl (Nat.le_of_ble_eq_true rfl) ?_
      refine fr_ifb_ne (tgt := 27) dX11_pie_22 (by decide) (fun h3 => ?_) (fun h3 => ?_)
      · skip
        refine fr_al0 dX11_pie_27 ?_
        refine fr_il1 dX11_pie_28 ?_
        refine fr_il2 dX11_pie_29 ?_
        refine fr_il3 dX11_pie_30 ?_
        refine fr_bipush dX11_pie_31 (by decide) ?_
        refine fr_cVi (mi' := fmX11_bars) dX11_pie_33 mlX11_243 mvX11_bars ⟨11, _, ⟨by decide, by decide, rfl⟩, rfl, rfl⟩ (Nat.le_of_ble_eq_true rfl) (kcX11_bars hS (by omega) (by omega) (by omega) (by omega)) rfl rfl (Nat.le_of_ble_eq_true rfl) ?_
        refine fr_is5 dX11_pie_36 rfl (Nat.le_of_ble_eq_true rfl) ?_
        refine fr_il5 dX11_pie_38 ?_
        refine fr_if_eq (tgt := 46) dX11_pie_40 (by decide) (by omega) (fun h4 => ?_) (fun h4 => ?_)
        · skip
          have hb := sp_bars0 h4
          have hsz := hS.1 s (by omega) (by omega)
          refine fr_iconst dX11_pie_46 ?_
          refine fr_is6 dX11_pie_47 rfl (Nat.le_of_ble_eq_true rfl) ?_
          refine fr_bipush dX11_pie_49 (by decide) ?_
          refine fr_is7 dX11_pie_51 rfl (Nat.le_of_ble_eq_true rfl) ?_
          refine fr_iconst dX11_pie_53 ?_
          refine fr_is8 dX11_pie_54 rfl (Nat.le_of_ble_eq_true rfl) ?_
          refine fr_wk ?_ (ls := [some (fr_r κ 66), some (fr_i s), some (fr_i lane), some (fr_i i), some (fr_i what), none, some (fr_i _), some (fr_i _), some (fr_i (0 : Int)), none, none]) ⟨rfl, rfl, rfl, rfl, rfl, rfl, rfl, rfl, trivial⟩
          refine (fr_down (P := fun j : Nat => ∀ (x : Int) (y : Int) (m : fr_Me), ((∀ c, c ≠ 70 → m c = μ c) ∧ x = sp_cnt (sp_Pk (μ 67) (fun f => μ 77 (16 * s + (i + f))) (fr_shl 1 (μ 67 43) - 1)) j ∧ sp_fst (sp_Pk (μ 67) (fun f => μ 77 (16 * s + (i + f))) (fr_shl 1 (μ 67 43) - 1)) j y) → fr_A l κ fmX11_pie 6 (fr_Pi (fun z m => (∀ c, c ≠ 70 → m c = μ c) ∧ ((¬ ((0 ≤ s ∧ s ≤ 3) ∧ (0 ≤ lane ∧ lane ≤ 3) ∧ (0 ≤ what ∧ what ≤ 1)) ∧ z = -1) ∨ (((0 ≤ s ∧ s ≤ 3) ∧ (0 ≤ lane ∧ lane ≤ 3) ∧ (0 ≤ what ∧ what ≤ 1)) ∧ sp_bars (μ 75 s) (μ 76 s) lane i 10 ≠ 0 ∧ z = sp_bars (μ 75 s) (μ 76 s) lane i 10) ∨ (((0 ≤ s ∧ s ≤ 3) ∧ (0 ≤ lane ∧ lane ≤ 3) ∧ (0 ≤ what ∧ what ≤ 1)) ∧ sp_bars (μ 75 s) (μ 76 s) lane i 10 = 0 ∧ ∃ x, sp_fst (sp_Pk (μ 67) (fun f => μ 77 (16 * s + (i + f))) (fr_shl 1 (μ 67 43) - 1)) (sp_p6 (μ 67 0).toNat) x ∧ z = if what = 0 then sp_cnt (sp_Pk (μ 67) (fun f => μ 77 (16 * s + (i + f))) (fr_shl 1 (μ 67 43) - 1)) (sp_p6 (μ 67 0).toNat).toNat else x)))) 56 [some (fr_r κ 66), some (fr_i s), some (fr_i lane), some (fr_i i), some (fr_i what), none, some (fr_i x), some (fr_i y), some (fr_i (j : Int)), none, none] [] m) (sp_p6 (μ 67 0).toNat).toNat ?_ (fun j hj56 ih56 => ?_)) _ _ _ (⟨fun c _ => rfl, rfl, Or.inl ⟨rfl, fun c c0 c1 => by omega⟩⟩)
          · skip
            intro x y m hm
            have hw : m 67 = μ 67 := hm.1 67 (by decide)
            refine fr_il8 dX11_pie_56 ?_
            refine fr_al0 dX11_pie_58 ?_
            refine fr_cVi (mi' := fmX11_orders) dX11_pie_59 mlX11_173 mvX11_orders ⟨11, _, ⟨by decide, by decide, rfl⟩, rfl, rfl⟩ (Nat.le_of_ble_eq_true rfl) (kcX11_orders (by rw [hw]; exact iN)) rfl rfl (Nat.le_of_ble_eq_true rfl) ?_
            rw [hw]
            refine fr_icmp_ge (tgt := 174) dX11_pie_62 (by decide) (by omega) (by omega) (fun h5 => ?_) (fun h5 => ?_)
            · skip
              refine fr_il4 dX11_pie_174 ?_
              refine fr_if_ne (tgt := 184) dX11_pie_176 (by decide) (by omega) (fun h6 => ?_) (fun h6 => ?_)
              · skip
                refine fr_il7 dX11_pie_184 ?_
                exact fr_iret dX11_pie_186 rfl (fr_pi ⟨hm.1, Or.inr (Or.inr ⟨by omega, by assumption, y, by have := hm.2.2; rw [show (((sp_p6 (μ 67 0).toNat).toNat : Nat) : Int) = sp_p6 (μ 67 0).toNat by omega] at this; exact this, by rw [if_neg (by omega)]⟩)⟩)
              · skip
                refine fr_il6 dX11_pie_179 ?_
                refine fr_goto (tgt := 186) dX11_pie_181 (by decide) ?_
                exact fr_iret dX11_pie_186 rfl (fr_pi ⟨hm.1, Or.inr (Or.inr ⟨by omega, by assumption, y, by have := hm.2.2; rw [show (((sp_p6 (μ 67 0).toNat).toNat : Nat) : Int) = sp_p6 (μ 67 0).toNat by omega] at this; exact this, by rw [if_pos (by omega)]; exact hm.2.1⟩)⟩)
            · skip
              exfalso; omega
          · skip
            intro x y m hm
            have hxr := sp_cnt_rg (sp_Pk (μ 67) (fun f => μ 77 (16 * s + (i + f))) (fr_shl 1 (μ 67 43) - 1)) j
            have hcx := hm.2.2.cnt
            rw [← hm.2.1] at hxr hcx
            have hw : m 67 = μ 67 := hm.1 67 (by decide)
            refine fr_il8 dX11_pie_56 ?_
            refine fr_al0 dX11_pie_58 ?_
            refine fr_cVi (mi' := fmX11_orders) dX11_pie_59 mlX11_173 mvX11_orders ⟨11, _, ⟨by decide, by decide, rfl⟩, rfl, rfl⟩ (Nat.le_of_ble_eq_true rfl) (kcX11_orders (by rw [hw]; exact iN)) rfl rfl (Nat.le_of_ble_eq_true rfl) ?_
            rw [hw]
            refine fr_icmp_ge (tgt := 174) dX11_pie_62 (by decide) (by omega) (by omega) (fun h7 => ?_) (fun h7 => ?_)
            · skip
              exfalso; omega
            · skip
              refine fr_al0 dX11_pie_65 ?_
              refine fr_il8 dX11_pie_66 ?_
              refine fr_al0 dX11_pie_68 ?_
              refine fr_cVi (mi' := fmX11_everybody) dX11_pie_69 mlX11_184 mvX11_everybody ⟨11, _, ⟨by decide, by decide, rfl⟩, rfl, rfl⟩ (Nat.le_of_ble_eq_true rfl) (kcX11_everybody) rfl rfl (Nat.le_of_ble_eq_true rfl) ?_
              rw [hw]
              refine fr_iconst dX11_pie_72 ?_
              refine fr_cVP (mi' := fmX11_layOrder) dX11_pie_73 mlX11_176 mvX11_layOrder ⟨11, _, ⟨by decide, by decide, rfl⟩, rfl, rfl⟩ (Nat.le_of_ble_eq_true rfl) (kcX11_layOrder (by rw [hw]; exact hI) (by omega)) rfl rfl (Nat.le_of_ble_eq_true rfl) (fun z1 m1 h1 => ?_)
              rw [hw] at h1
              obtain ⟨f70, hz1⟩ := h1
              have hw1 : m1 67 = μ 67 := (f70 67 (by decide)).trans hw
              have h77 : m1 77 = μ 77 := by rw [f70 77 (by decide)]; exact hm.1 77 (by decide)
              have hS1 : fr_Sh m1 := by unfold fr_Sh; rw [f70 75 (by decide), f70 76 (by decide), f70 77 (by decide), hm.1 75 (by decide), hm.1 76 (by decide), hm.1 77 (by decide)]; exact hS
              rcases hz1 with ⟨ez, hv, hwho⟩ | ⟨rfl, hnv⟩
              · skip
                have hzr := sp_cr_rg (N := μ 67 0) (fun t => sp_dg_rg (μ 67 0) (j : Int) t) (μ 67 0).toNat
                rw [← ez] at hzr
                have hfk := sp_V_folk iN.1 (code := (j : Int)) hv
                refine fr_if_lt (tgt := 83) dX11_pie_76 (by decide) (by omega) (fun h8 => ?_) (fun h8 => ?_)
                · skip
                  exfalso; omega
                · skip
                  refine fr_iconst dX11_pie_79 ?_
                  refine fr_goto (tgt := 84) dX11_pie_80 (by decide) ?_
                  refine fr_is9 dX11_pie_84 rfl (Nat.le_of_ble_eq_true rfl) ?_
                  refine fr_iconst dX11_pie_86 ?_
                  refine fr_is10 dX11_pie_87 rfl (Nat.le_of_ble_eq_true rfl) ?_
                  refine fr_wk ?_ (ls := [some (fr_r κ 66), some (fr_i s), some (fr_i lane), some (fr_i i), some (fr_i what), none, some (fr_i x), some (fr_i y), some (fr_i (j : Int)), some (fr_i 1), some (fr_i (0 : Int))]) ⟨rfl, rfl, rfl, rfl, rfl, rfl, rfl, rfl, rfl, rfl, trivial⟩
                  refine (fr_down (P := fun a : Nat => (∀ f, 0 ≤ f → f < (a : Int) → sp_nx (μ 67) j f = sp_wd (fun f => μ 77 (16 * s + (i + f))) f) → fr_A l κ fmX11_pie 6 (fr_Pi (fun z m => (∀ c, c ≠ 70 → m c = μ c) ∧ ((¬ ((0 ≤ s ∧ s ≤ 3) ∧ (0 ≤ lane ∧ lane ≤ 3) ∧ (0 ≤ what ∧ what ≤ 1)) ∧ z = -1) ∨ (((0 ≤ s ∧ s ≤ 3) ∧ (0 ≤ lane ∧ lane ≤ 3) ∧ (0 ≤ what ∧ what ≤ 1)) ∧ sp_bars (μ 75 s) (μ 76 s) lane i 10 ≠ 0 ∧ z = sp_bars (μ 75 s) (μ 76 s) lane i 10) ∨ (((0 ≤ s ∧ s ≤ 3) ∧ (0 ≤ lane ∧ lane ≤ 3) ∧ (0 ≤ what ∧ what ≤ 1)) ∧ sp_bars (μ 75 s) (μ 76 s) lane i 10 = 0 ∧ ∃ x, sp_fst (sp_Pk (μ 67) (fun f => μ 77 (16 * s + (i + f))) (fr_shl 1 (μ 67 43) - 1)) (sp_p6 (μ 67 0).toNat) x ∧ z = if what = 0 then sp_cnt (sp_Pk (μ 67) (fun f => μ 77 (16 * s + (i + f))) (fr_shl 1 (μ 67 43) - 1)) (sp_p6 (μ 67 0).toNat).toNat else x)))) 89 [some (fr_r κ 66), some (fr_i s), some (fr_i lane), some (fr_i i), some (fr_i what), none, some (fr_i x), some (fr_i y), some (fr_i (j : Int)), some (fr_i 1), some (fr_i (a : Int))] [] m1) 10 ?_ (fun a hj89 ih89 => ?_)) (fun f f0 f1 => by omega)
                  · skip
                    intro hall
                    refine fr_il10 dX11_pie_89 ?_
                    refine fr_bipush dX11_pie_91 (by decide) ?_
                    refine fr_icmp_ge (tgt := 134) dX11_pie_93 (by decide) (by omega) (by omega) (fun h9 => ?_) (fun h9 => ?_)
                    · skip
                      refine fr_il9 dX11_pie_134 ?_
                      refine fr_if_eq (tgt := 149) dX11_pie_136 (by decide) (by decide) (fun h10 => absurd h10 (by decide)) (fun _ => ?_)
                      refine fr_il6 dX11_pie_139 ?_
                      refine fr_if_ne (tgt := 149) dX11_pie_141 (by decide) (by omega) (fun h11 => ?_) (fun h11 => ?_)
                      · skip
                        refine fr_il7 dX11_pie_149 ?_
                        refine fr_is7 dX11_pie_151 rfl (Nat.le_of_ble_eq_true rfl) ?_
                        refine fr_il6 dX11_pie_153 ?_
                        refine fr_il9 dX11_pie_155 ?_
                        refine fr_if_eq (tgt := 164) dX11_pie_157 (by decide) (by decide) (fun h12 => absurd h12 (by decide)) (fun _ => ?_)
                        refine fr_iconst dX11_pie_160 ?_
                        refine fr_goto (tgt := 165) dX11_pie_161 (by decide) ?_
                        refine fr_iadd dX11_pie_165 ?_
                        refine fr_is6 dX11_pie_166 rfl (Nat.le_of_ble_eq_true rfl) ?_
                        refine fr_ii8 dX11_pie_168 rfl (Nat.le_of_ble_eq_true rfl) ?_
                        refine fr_goto (tgt := 56) dX11_pie_171 (by decide) ?_
                        exact fr_wk (ih56 _ _ _ (⟨fun c hc => by rw [f70 c hc]; exact hm.1 c hc, by rw [hm.2.1]; show _ = sp_cnt (sp_Pk (μ 67) (fun f => μ 77 (16 * s + (i + f))) (fr_shl 1 (μ 67 43) - 1)) j + fr_b ((sp_Pk (μ 67) (fun f => μ 77 (16 * s + (i + f))) (fr_shl 1 (μ 67 43) - 1)) j); rw [fr_bT (show (sp_Pk (μ 67) (fun f => μ 77 (16 * s + (i + f))) (fr_shl 1 (μ 67 43) - 1)) j from ⟨hv, hall⟩)], hm.2.2.had (fun e => by have := hcx.mpr e; omega)⟩)) ⟨rfl, rfl, rfl, rfl, rfl, rfl, rfl, rfl, trivial⟩
                      · skip
                        refine fr_il8 dX11_pie_144 ?_
                        refine fr_goto (tgt := 151) dX11_pie_146 (by decide) ?_
                        refine fr_is7 dX11_pie_151 rfl (Nat.le_of_ble_eq_true rfl) ?_
                        refine fr_il6 dX11_pie_153 ?_
                        refine fr_il9 dX11_pie_155 ?_
                        refine fr_if_eq (tgt := 164) dX11_pie_157 (by decide) (by decide) (fun h13 => absurd h13 (by decide)) (fun _ => ?_)
                        refine fr_iconst dX11_pie_160 ?_
                        refine fr_goto (tgt := 165) dX11_pie_161 (by decide) ?_
                        refine fr_iadd dX11_pie_165 ?_
                        refine fr_is6 dX11_pie_166 rfl (Nat.le_of_ble_eq_true rfl) ?_
                        refine fr_ii8 dX11_pie_168 rfl (Nat.le_of_ble_eq_true rfl) ?_
                        refine fr_goto (tgt := 56) dX11_pie_171 (by decide) ?_
                        exact fr_wk (ih56 _ _ _ (⟨fun c hc => by rw [f70 c hc]; exact hm.1 c hc, by rw [hm.2.1]; show _ = sp_cnt (sp_Pk (μ 67) (fun f => μ 77 (16 * s + (i + f))) (fr_shl 1 (μ 67 43) - 1)) j + fr_b ((sp_Pk (μ 67) (fun f => μ 77 (16 * s + (i + f))) (fr_shl 1 (μ 67 43) - 1)) j); rw [fr_bT (show (sp_Pk (μ 67) (fun f => μ 77 (16 * s + (i + f))) (fr_shl 1 (μ 67 43) - 1)) j from ⟨hv, hall⟩)], hm.2.2.new (by omega) (hcx.mp (by omega)) ⟨hv, hall⟩⟩)) ⟨rfl, rfl, rfl, rfl, rfl, rfl, rfl, rfl, trivial⟩
                    · skip
                      exfalso; omega
                  · skip
                    intro hall
                    refine fr_il10 dX11_pie_89 ?_
                    refine fr_bipush dX11_pie_91 (by decide) ?_
                    refine fr_icmp_ge (tgt := 134) dX11_pie_93 (by decide) (by omega) (by omega) (fun h14 => ?_) (fun h14 => ?_)
                    · skip
                      exfalso; omega
                    · skip
                      refine fr_il9 dX11_pie_96 ?_
                      refine fr_if_eq (tgt := 134) dX11_pie_98 (by decide) (by decide) (fun h15 => absurd h15 (by decide)) (fun _ => ?_)
                      refine fr_al0 dX11_pie_101 ?_
                      refine fr_il10 dX11_pie_102 ?_
                      refine fr_cVi (mi' := fmX11_nextOf) dX11_pie_104 mlX11_246 mvX11_nextOf ⟨11, _, ⟨by decide, by decide, rfl⟩, rfl, rfl⟩ (Nat.le_of_ble_eq_true rfl) (kcX11_nextOf (by rw [hw1]; exact hI) (by omega) (by rw [hw1]; intro t h0 h1; rw [hwho t h0 h1]; exact hfk t h0 h1)) rfl rfl (Nat.le_of_ble_eq_true rfl) ?_
                      rw [hw1, sp_sum_eq (G := fun t => sp_nxt (μ 67) t a (sp_dg (μ 67 0) j t) 0) _ (fun t h0 h1 => by rw [hwho t h0 (by omega)])]
                      have hnx := sp_nx_rg hI (j : Int) (a : Int)
                      rw [show sp_sum (μ 67 0).toNat (fun t => sp_nxt (μ 67) t a (sp_dg (μ 67 0) j t) 0) = sp_nx (μ 67) j a from rfl]
                      refine fr_i2l dX11_pie_107 (by omega) ?_
                      refine fr_al0 dX11_pie_108 ?_
                      refine fr_il1 dX11_pie_109 ?_
                      refine fr_il3 dX11_pie_110 ?_
                      refine fr_il10 dX11_pie_111 ?_
                      refine fr_iadd dX11_pie_113 ?_
                      refine fr_cVj (mi' := fmX11_wanted) dX11_pie_114 mlX11_249 mvX11_wanted ⟨11, _, ⟨by decide, by decide, rfl⟩, rfl, rfl⟩ (Nat.le_of_ble_eq_true rfl) (kcX11_wanted hS1 (by omega)) rfl rfl (Nat.le_of_ble_eq_true rfl) ?_
                      rw [h77]
                      have hjr := hS.2 (16 * s + (i + a)) (by omega) (by omega)
                      have ewd : (if μ 77 (16 * s + (i + a)) < 0 then 0 else μ 77 (16 * s + (i + a))) = sp_wd (fun f => μ 77 (16 * s + (i + f))) a := rfl
                      rw [ewd]
                      have hwr : 0 ≤ sp_wd (fun f => μ 77 (16 * s + (i + f))) a ∧ sp_wd (fun f => μ 77 (16 * s + (i + f))) a ≤ 9223372036854775807 := by unfold sp_wd; dsimp only; split <;> omega
                      refine fr_lcmpR dX11_pie_117 (by omega) (by omega) ?_
                      refine fr_if_ne (tgt := 125) dX11_pie_118 (by decide) (by omega) (fun h16 => ?_) (fun h16 => ?_)
                      · skip
                        refine fr_iconst dX11_pie_125 ?_
                        refine fr_is9 dX11_pie_126 rfl (Nat.le_of_ble_eq_true rfl) ?_
                        refine fr_ii10 dX11_pie_128 rfl (Nat.le_of_ble_eq_true rfl) ?_
                        refine fr_goto (tgt := 89) dX11_pie_131 (by decide) ?_
                        refine fr_il10 dX11_pie_89 ?_
                        refine fr_bipush dX11_pie_91 (by decide) ?_
                        refine fr_icmp_ge (tgt := 134) dX11_pie_93 (by decide) (by omega) (by omega) (fun h17 => ?_) (fun h17 => ?_)
                        · skip
                          refine fr_il9 dX11_pie_134 ?_
                          refine fr_if_eq (tgt := 149) dX11_pie_136 (by decide) (by decide) (fun _ => ?_) (fun h18 => absurd h18 (by decide))
                          refine fr_il7 dX11_pie_149 ?_
                          refine fr_is7 dX11_pie_151 rfl (Nat.le_of_ble_eq_true rfl) ?_
                          refine fr_il6 dX11_pie_153 ?_
                          refine fr_il9 dX11_pie_155 ?_
                          refine fr_if_eq (tgt := 164) dX11_pie_157 (by decide) (by decide) (fun _ => ?_) (fun h19 => absurd h19 (by decide))
                          refine fr_iconst dX11_pie_164 ?_
                          refine fr_iadd dX11_pie_165 ?_
                          refine fr_is6 dX11_pie_166 rfl (Nat.le_of_ble_eq_true rfl) ?_
                          refine fr_ii8 dX11_pie_168 rfl (Nat.le_of_ble_eq_true rfl) ?_
                          refine fr_goto (tgt := 56) dX11_pie_171 (by decide) ?_
                          exact fr_wk (ih56 _ _ _ (⟨fun c hc => by rw [f70 c hc]; exact hm.1 c hc, by rw [hm.2.1]; show _ = sp_cnt (sp_Pk (μ 67) (fun f => μ 77 (16 * s + (i + f))) (fr_shl 1 (μ 67 43) - 1)) j + fr_b ((sp_Pk (μ 67) (fun f => μ 77 (16 * s + (i + f))) (fr_shl 1 (μ 67 43) - 1)) j); rw [fr_bF (show ¬ (sp_Pk (μ 67) (fun f => μ 77 (16 * s + (i + f))) (fr_shl 1 (μ 67 43) - 1)) j from fun h => absurd (h.2 (a : Int) (by omega) (by omega)) (by omega))], hm.2.2.no (fun h => absurd (h.2 (a : Int) (by omega) (by omega)) (by omega))⟩)) ⟨rfl, rfl, rfl, rfl, rfl, rfl, rfl, rfl, trivial⟩
                        · skip
                          refine fr_il9 dX11_pie_96 ?_
                          refine fr_if_eq (tgt := 134) dX11_pie_98 (by decide) (by decide) (fun _ => ?_) (fun h20 => absurd h20 (by decide))
                          refine fr_il9 dX11_pie_134 ?_
                          refine fr_if_eq (tgt := 149) dX11_pie_136 (by decide) (by decide) (fun _ => ?_) (fun h21 => absurd h21 (by decide))
                          refine fr_il7 dX11_pie_149 ?_
                          refine fr_is7 dX11_pie_151 rfl (Nat.le_of_ble_eq_true rfl) ?_
                          refine fr_il6 dX11_pie_153 ?_
                          refine fr_il9 dX11_pie_155 ?_
                          refine fr_if_eq (tgt := 164) dX11_pie_157 (by decide) (by decide) (fun _ => ?_) (fun h22 => absurd h22 (by decide))
                          refine fr_iconst dX11_pie_164 ?_
                          refine fr_iadd dX11_pie_165 ?_
                          refine fr_is6 dX11_pie_166 rfl (Nat.le_of_ble_eq_true rfl) ?_
                          refine fr_ii8 dX11_pie_168 rfl (Nat.le_of_ble_eq_true rfl) ?_
                          refine fr_goto (tgt := 56) dX11_pie_171 (by decide) ?_
                          exact fr_wk (ih56 _ _ _ (⟨fun c hc => by rw [f70 c hc]; exact hm.1 c hc, by rw [hm.2.1]; show _ = sp_cnt (sp_Pk (μ 67) (fun f => μ 77 (16 * s + (i + f))) (fr_shl 1 (μ 67 43) - 1)) j + fr_b ((sp_Pk (μ 67) (fun f => μ 77 (16 * s + (i + f))) (fr_shl 1 (μ 67 43) - 1)) j); rw [fr_bF (show ¬ (sp_Pk (μ 67) (fun f => μ 77 (16 * s + (i + f))) (fr_shl 1 (μ 67 43) - 1)) j from fun h => absurd (h.2 (a : Int) (by omega) (by omega)) (by omega))], hm.2.2.no (fun h => absurd (h.2 (a : Int) (by omega) (by omega)) (by omega))⟩)) ⟨rfl, rfl, rfl, rfl, rfl, rfl, rfl, rfl, trivial⟩
                      · skip
                        refine fr_iconst dX11_pie_121 ?_
                        refine fr_goto (tgt := 126) dX11_pie_122 (by decide) ?_
                        refine fr_is9 dX11_pie_126 rfl (Nat.le_of_ble_eq_true rfl) ?_
                        refine fr_ii10 dX11_pie_128 rfl (Nat.le_of_ble_eq_true rfl) ?_
                        refine fr_goto (tgt := 89) dX11_pie_131 (by decide) ?_
                        exact fr_wk (ih89 (fun f f0 f1 => (by omega : f < a ∨ f = a).elim (fun h => hall f f0 h) (fun h => by subst h; omega))) ⟨rfl, rfl, rfl, rfl, rfl, rfl, rfl, rfl, rfl, rfl, trivial⟩
              · skip
                refine fr_if_lt (tgt := 83) dX11_pie_76 (by decide) (by decide) (fun _ => ?_) (fun h23 => absurd h23 (by decide))
                refine fr_iconst dX11_pie_83 ?_
                refine fr_is9 dX11_pie_84 rfl (Nat.le_of_ble_eq_true rfl) ?_
                refine fr_iconst dX11_pie_86 ?_
                refine fr_is10 dX11_pie_87 rfl (Nat.le_of_ble_eq_true rfl) ?_
                refine fr_il10 dX11_pie_89 ?_
                refine fr_bipush dX11_pie_91 (by decide) ?_
                refine fr_icmp_ge (tgt := 134) dX11_pie_93 (by decide) (by decide) (by decide) (fun h24 => absurd h24 (by decide)) (fun _ => ?_)
                refine fr_il9 dX11_pie_96 ?_
                refine fr_if_eq (tgt := 134) dX11_pie_98 (by decide) (by decide) (fun _ => ?_) (fun h25 => absurd h25 (by decide))
                refine fr_il9 dX11_pie_134 ?_
                refine fr_if_eq (tgt := 149) dX11_pie_136 (by decide) (by decide) (fun _ => ?_) (fun h26 => absurd h26 (by decide))
                refine fr_il7 dX11_pie_149 ?_
                refine fr_is7 dX11_pie_151 rfl (Nat.le_of_ble_eq_true rfl) ?_
                refine fr_il6 dX11_pie_153 ?_
                refine fr_il9 dX11_pie_155 ?_
                refine fr_if_eq (tgt := 164) dX11_pie_157 (by decide) (by decide) (fun _ => ?_) (fun h27 => absurd h27 (by decide))
                refine fr_iconst dX11_pie_164 ?_
                refine fr_iadd dX11_pie_165 ?_
                refine fr_is6 dX11_pie_166 rfl (Nat.le_of_ble_eq_true rfl) ?_
                refine fr_ii8 dX11_pie_168 rfl (Nat.le_of_ble_eq_true rfl) ?_
                refine fr_goto (tgt := 56) dX11_pie_171 (by decide) ?_
                exact fr_wk (ih56 _ _ _ (⟨fun c hc => by rw [f70 c hc]; exact hm.1 c hc, by rw [hm.2.1]; show _ = sp_cnt (sp_Pk (μ 67) (fun f => μ 77 (16 * s + (i + f))) (fr_shl 1 (μ 67 43) - 1)) j + fr_b ((sp_Pk (μ 67) (fun f => μ 77 (16 * s + (i + f))) (fr_shl 1 (μ 67 43) - 1)) j); rw [fr_bF (show ¬ (sp_Pk (μ 67) (fun f => μ 77 (16 * s + (i + f))) (fr_shl 1 (μ 67 43) - 1)) j from fun h => hnv h.1)], hm.2.2.no (fun h => hnv h.1)⟩)) ⟨rfl, rfl, rfl, rfl, rfl, rfl, rfl, rfl, trivial⟩
        · skip
          refine fr_il5 dX11_pie_43 ?_
          exact fr_iret dX11_pie_45 rfl (fr_pi ⟨fun c _ => rfl, Or.inr (Or.inl ⟨by omega, by assumption, rfl⟩)⟩)
      · skip
        refine fr_iconst dX11_pie_25 ?_
        exact fr_iret dX11_pie_26 rfl (fr_pi ⟨fun c _ => rfl, Or.inl ⟨by omega, rfl⟩⟩)
