theorem cyX1_52 : fr_cy RX1 52 := ⟨fr_mem 926 (by decide +kernel) rfl, fr_mem 928 (by decide +kernel) rfl, fr_mem 927 (by decide +kernel) rfl, fr_mem 86 (by decide +kernel) rfl⟩
theorem cyX9_58 : fr_cy RX9 58 := ⟨fr_mem 969 (by decide +kernel) rfl, fr_mem 928 (by decide +kernel) rfl, fr_mem 927 (by decide +kernel) rfl, fr_mem 86 (by decide +kernel) rfl⟩
theorem cyX10_315 : fr_cy RX10 315 := ⟨fr_mem 1097 (by decide +kernel) rfl, fr_mem 928 (by decide +kernel) rfl, fr_mem 927 (by decide +kernel) rfl, fr_mem 86 (by decide +kernel) rfl⟩
theorem mxX2_58 : fr_mx RX2 58 := ⟨fr_mem 844 (by decide +kernel) rfl, fr_mem 625 (by decide +kernel) rfl, fr_mem 80 (by decide +kernel) rfl, fr_mem 626 (by decide +kernel) rfl⟩
theorem mxX9_31 : fr_mx RX9 31 := ⟨fr_mem 960 (by decide +kernel) rfl, fr_mem 625 (by decide +kernel) rfl, fr_mem 80 (by decide +kernel) rfl, fr_mem 626 (by decide +kernel) rfl⟩
theorem fr_mu {l : Launch} {κ : fr_Ka} {mi : fr_Mi} {k : Nat} {Q : Option Value → fr_Me → Prop} {pc : Nat} {ls : List (Option Value)} {st : List Value} {μ μ' : fr_Me} (h : μ' = μ) (a : fr_A l κ mi k Q pc ls st μ') : fr_A l κ mi k Q pc ls st μ := h ▸ a
def fr_ushr (a b : Int) : Int := ((Int32.ofInt a).toUInt32 >>> ((Int32.ofInt b).toUInt32 &&& Int32.toUInt32 31)).toInt32.toInt
def sp_fill (μ : fr_Me) (c n z : Int) : fr_Me := fun c' k => if c' = c ∧ 0 ≤ k ∧ k < n then z else μ c' k
theorem sp_fill_nc (μ : fr_Me) {c c' : Int} (n z : Int) (h : c' ≠ c) : sp_fill μ c n z c' = μ c' := by
  funext k
  simp [sp_fill, h]
theorem sp_fill_0 (μ : fr_Me) (c z : Int) : sp_fill μ c 0 z = μ := by
  funext c' k
  simp only [sp_fill]
  split
  · omega
  · rfl
theorem sp_fill_s (μ : fr_Me) (c n z : Int) (h : 0 ≤ n) : fr_up (sp_fill μ c n z) c n z = sp_fill μ c (n + 1) z := by
  funext c' k
  simp only [sp_fill, fr_up]
  by_cases hc : c' = c
  · by_cases hk : k = n
    · subst hk; simp [hc]; omega
    · by_cases h2 : 0 ≤ k ∧ k < n
      · rw [if_neg (by omega), if_pos ⟨hc, h2⟩, if_pos (by omega)]
      · rw [if_neg (by omega), if_neg (by omega), if_neg (by omega)]
  · rw [if_neg (by omega), if_neg (by omega), if_neg (by omega)]
def sp_u (w : Int → Int) (k z : Int) : Int → Int := fun k' => if k' = k then z else w k'
def sp_fl (w : Int → Int) (t : Int) : Int := if w (7 + t) = 5 then 0 else if ((sp_dr (w 74)).tdiv 65536).tmod 10 < sp_od w (w (7 + t)) then 1 else 0
def sp_dw (w : Int → Int) (t : Int) : Int := if w (7 + t) = 5 then w 74 else sp_dr (w 74)
def sp_yt (w : Int → Int) (t : Int) : Int → Int := fun k => if k = 74 then sp_dw w t else if k = 76 then w 76 + sp_fl w t else if k = 19 + t then w (13 + t) else if k = 31 + t then w (25 + t) else if k = 13 + t then w (7 + t) else if k = 25 + t then sp_fl w t else if k = 7 + t then 5 else w k
def sp_yl : Nat → (Int → Int) → Int → Int
  | 0, w => sp_u w 76 0
  | n + 1, w => sp_yt (sp_yl n w) n
def sp_year (w : Int → Int) : Int → Int := sp_u (sp_yl (w 0).toNat w) 75 (w 75 + 1)
theorem sp_fl_rg (w : Int → Int) (t : Int) : 0 ≤ sp_fl w t ∧ sp_fl w t ≤ 1 := by unfold sp_fl; (repeat' split) <;> omega
theorem sp_dw_rg {w : Int → Int} (h : fr_I w) (t : Int) : 0 ≤ sp_dw w t ∧ sp_dw w t ≤ 2147483647 := by
  have h1 := sp_dr_rg (w 74)
  have h2 := h.draw
  unfold sp_dw; split <;> omega
theorem sp_yt_lo (w : Int → Int) {t k : Int} (ht : 0 ≤ t) (ht1 : t < 6) (hk : k < 7 ∨ (37 ≤ k ∧ k < 74) ∨ k = 75) : sp_yt w t k = w k := by unfold sp_yt; (repeat' split) <;> omega
theorem fr_I.yt {w : Int → Int} (h : fr_I w) {t : Int} (h0 : 0 ≤ t) (h1 : t < w 0) (h2 : w 76 ≤ t) : fr_I (sp_yt w t) ∧ sp_yt w t 76 ≤ t + 1 := by
  have hn := h.n
  have hf := sp_fl_rg w t
  have hd := sp_dw_rg h t
  have hfa := h.fallen
  have e76 : sp_yt w t 76 = w 76 + sp_fl w t := by unfold sp_yt; simp
  have e74 : sp_yt w t 74 = sp_dw w t := by unfold sp_yt; simp
  refine ⟨⟨?_, ?_, ?_, ?_, ?_, fun u g0 g1 => ?_, fun c g0 g1 => ?_, fun f g0 g1 => ?_⟩, by omega⟩
  · rw [sp_yt_lo w h0 (by omega) (by omega)]; exact hn
  · rw [sp_yt_lo w h0 (by omega) (by omega)]; exact h.many
  · rw [e74]; exact hd
  · rw [sp_yt_lo w h0 (by omega) (by omega)]; exact h.years
  · rw [e76]; omega
  · have i1 := h.tree g0 g1
    have i2 := h.tree h0 (show t < 6 by omega)
    unfold fr_It at i1 i2
    obtain ⟨a0, a1, a2, a3, a4, a5, a6, a7⟩ := i1
    obtain ⟨b0, b1, b2, b3, b4, b5, b6, b7⟩ := i2
    unfold sp_ok at a7 b7
    have b8 := b7 h1
    unfold fr_It sp_ok
    rw [sp_yt_lo w h0 (by omega) (k := 1 + u) (by omega), sp_yt_lo w h0 (by omega) (k := 37 + u) (by omega), sp_yt_lo w h0 (by omega) (k := 0) (by omega), sp_yt_lo w h0 (by omega) (k := 43) (by omega)]
    by_cases hu : u = t
    · subst hu
      have c1 : sp_yt w u (7 + u) = 5 := by unfold sp_yt; (repeat' split) <;> omega
      have c2 : sp_yt w u (13 + u) = w (7 + u) := by unfold sp_yt; (repeat' split) <;> omega
      have c3 : sp_yt w u (19 + u) = w (13 + u) := by unfold sp_yt; (repeat' split) <;> omega
      have c4 : sp_yt w u (25 + u) = sp_fl w u := by unfold sp_yt; (repeat' split) <;> omega
      have c5 : sp_yt w u (31 + u) = w (25 + u) := by unfold sp_yt; (repeat' split) <;> omega
      rw [c1, c2, c3, c4, c5]
      refine ⟨a0, by omega, a1, a2, hf, a4, a6, fun _ => ⟨Or.inl rfl, b8.1, b8.2.1⟩⟩
    · have c : ∀ k, (k = 7 + u ∨ k = 13 + u ∨ k = 19 + u ∨ k = 25 + u ∨ k = 31 + u) → sp_yt w t k = w k := by intro k hk; unfold sp_yt; (repeat' split) <;> omega
      rw [c (7 + u) (by omega), c (13 + u) (by omega), c (19 + u) (by omega), c (25 + u) (by omega), c (31 + u) (by omega)]
      exact ⟨a0, a1, a2, a3, a4, a5, a6, a7⟩
  · unfold fr_Ic
    rw [sp_yt_lo w h0 (by omega) (k := 44 + c) (by omega), sp_yt_lo w h0 (by omega) (k := 49 + c) (by omega), sp_yt_lo w h0 (by omega) (k := 54 + c) (by omega), sp_yt_lo w h0 (by omega) (k := 59 + c) (by omega), sp_yt_lo w h0 (by omega) (k := 43) (by omega)]
    exact h.cl g0 g1
  · rw [sp_yt_lo w h0 (by omega) (by omega)]; exact h.pr g0 g1
theorem fr_I.u76 {w : Int → Int} (h : fr_I w) : fr_I (sp_u w 76 0) := by
  have e : ∀ k, k ≠ 76 → sp_u w 76 0 k = w k := fun k hk => by simp [sp_u, hk]
  refine ⟨?_, ?_, ?_, ?_, ?_, fun u g0 g1 => ?_, fun c g0 g1 => ?_, fun f g0 g1 => ?_⟩
  · rw [e 0 (by omega)]; exact h.n
  · rw [e 43 (by omega)]; exact h.many
  · rw [e 74 (by omega)]; exact h.draw
  · rw [e 75 (by omega)]; exact h.years
  · simp [sp_u]
  · unfold fr_It sp_ok
    rw [e (1 + u) (by omega), e (7 + u) (by omega), e (13 + u) (by omega), e (19 + u) (by omega), e (25 + u) (by omega), e (31 + u) (by omega), e (37 + u) (by omega), e 0 (by omega), e 43 (by omega)]
    exact h.tree g0 g1
  · unfold fr_Ic
    rw [e (44 + c) (by omega), e (49 + c) (by omega), e (54 + c) (by omega), e (59 + c) (by omega), e 43 (by omega)]
    exact h.cl g0 g1
  · rw [e (64 + f) (by omega)]; exact h.pr g0 g1
theorem sp_yl_lo (w : Int → Int) (n : Nat) (hn : n ≤ 6) {k : Int} (hk : k < 7 ∨ (37 ≤ k ∧ k < 74) ∨ k = 75) : sp_yl n w k = w k := by
  induction n with
  | zero => simp only [sp_yl, sp_u]; rw [if_neg (by omega)]
  | succ n ih => simp only [sp_yl]; rw [sp_yt_lo _ (by omega) (by omega) hk, ih (by omega)]
theorem fr_I.yl {w : Int → Int} (h : fr_I w) (n : Nat) (hn : n ≤ w 0) : fr_I (sp_yl n w) ∧ sp_yl n w 76 ≤ n := by
  have h6 := h.n
  induction n with
  | zero => exact ⟨h.u76, by simp [sp_yl, sp_u]⟩
  | succ n ih =>
    obtain ⟨i1, i2⟩ := ih (by omega)
    exact i1.yt (by omega) (by rw [sp_yl_lo w n (by omega) (by omega)]; omega) i2
theorem sp_passT_nc (μ : fr_Me) {c c' : Int} (nf : Int) (h : c' ≠ c) : sp_passT μ c nf c' = μ c' := by unfold sp_passT; simp only [fr_up_nc _ _ _ h]
theorem fr_G_yt {w : Int → Int} {m m1 : fr_Me} (h : fr_G w m) {t fl : Int} (h0 : 0 ≤ t) (h1 : t < 6) (hfl : fl = sp_fl w t) (e3 : m1 1 3 = m 1 3) (e4 : m1 1 4 = m 1 4) (e5 : m1 1 5 = sp_dw w t) (e6 : m1 1 6 = m 1 6) (e7 : m1 1 7 = w 76 + sp_fl w t) (ec : ∀ c, c ≠ 1 → m1 c = m c) : fr_G (sp_yt w t) (sp_passT m1 (36 + t) fl) := by
  subst hfl
  refine ⟨?_, ?_, ?_, ?_, ?_, fun u g0 g1 => ?_, fun c g0 g1 => ?_, fun f g0 g1 => ?_⟩
  · rw [sp_passT_nc _ _ (by omega), e3, sp_yt_lo w h0 h1 (by omega)]; exact h.n
  · rw [sp_passT_nc _ _ (by omega), e4, sp_yt_lo w h0 h1 (by omega)]; exact h.many
  · rw [sp_passT_nc _ _ (by omega), e5]; simp [sp_yt]
  · rw [sp_passT_nc _ _ (by omega), e6, sp_yt_lo w h0 h1 (by omega)]; exact h.years
  · rw [sp_passT_nc _ _ (by omega), e7]; simp [sp_yt]
  · have g := h.tree g0 g1
    unfold fr_Gt at g ⊢
    obtain ⟨a0, a1, a2, a3, a4, a5, a6⟩ := g
    rw [sp_yt_lo w h0 h1 (k := 1 + u) (by omega), sp_yt_lo w h0 h1 (k := 37 + u) (by omega)]
    by_cases hu : u = t
    · subst hu
      have c1 : sp_yt w u (7 + u) = 5 := by unfold sp_yt; (repeat' split) <;> omega
      have c2 : sp_yt w u (13 + u) = w (7 + u) := by unfold sp_yt; (repeat' split) <;> omega
      have c3 : sp_yt w u (19 + u) = w (13 + u) := by unfold sp_yt; (repeat' split) <;> omega
      have c4 : sp_yt w u (25 + u) = sp_fl w u := by unfold sp_yt; (repeat' split) <;> omega
      have c5 : sp_yt w u (31 + u) = w (25 + u) := by unfold sp_yt; (repeat' split) <;> omega
      have e := ec (36 + u) (by omega)
      rw [c1, c2, c3, c4, c5]
      simp [sp_passT, fr_up_get, e, a0, a1, a2, a3, a4, a5, a6]
    · have c : ∀ k, (k = 7 + u ∨ k = 13 + u ∨ k = 19 + u ∨ k = 25 + u ∨ k = 31 + u) → sp_yt w t k = w k := by intro k hk; unfold sp_yt; (repeat' split) <;> omega
      rw [c (7 + u) (by omega), c (13 + u) (by omega), c (19 + u) (by omega), c (25 + u) (by omega), c (31 + u) (by omega), sp_passT_nc _ _ (by omega), ec _ (by omega)]
      exact ⟨a0, a1, a2, a3, a4, a5, a6⟩
  · have g := h.cl g0 g1
    unfold fr_Gc at g ⊢
    rw [sp_passT_nc _ _ (by omega), ec _ (by omega), sp_yt_lo w h0 h1 (k := 44 + c) (by omega), sp_yt_lo w h0 h1 (k := 49 + c) (by omega), sp_yt_lo w h0 h1 (k := 54 + c) (by omega), sp_yt_lo w h0 h1 (k := 59 + c) (by omega)]
    exact g
  · rw [sp_passT_nc _ _ (by omega), ec _ (by omega), sp_yt_lo w h0 h1 (by omega)]; exact h.pr g0 g1
section USH
variable {l : Launch} {κ : fr_Ka} {mi : fr_Mi} {k : Nat} {Q : Option Value → fr_Me → Prop} {pc idx : Nat} {ls : List (Option Value)} {st : List Value} {μ : fr_Me}
theorem fr_iushr {a b : Int} (hd : decode mi.2.1 pc = .ok (.iushr, 1)) (kk : fr_A l κ mi k Q (pc + 1) ls (fr_i (fr_ushr a b) :: st) μ) : fr_A l κ mi k Q pc ls (fr_i b :: fr_i a :: st) μ := by
  intro p e s m args below meth c hF H locs lsA hI hL hl
  refine lv_iushr (v := Int32.ofInt (fr_ushr a b)) hF.1 hF.2.1 hd ?_ (kk p e s m args below meth c hF H locs lsA hI hL hl)
  unfold fr_ushr
  rw [Int32.ofInt_toInt]
end USH
set_option maxRecDepth 20000 in
theorem kcJ7_fill_53178 {l : Launch} {κ : fr_Ka} {μ : fr_Me} {c v : Int} {n : Nat} (hc : fr_ra c 0 n) : fr_C l κ fmJ7_fill_53178 1 [fr_r κ c, fr_i v] μ (fr_Ev (sp_fill μ c n v)) := by
  have hb := hc.2.2.2
  refine fr_enter (by decide +kernel) (ls := [some (fr_r κ c), some (fr_i v), none, none]) rfl (Nat.le_of_ble_eq_true rfl) ?_
  refine fr_iconst dJ7_fill_53178_0 ?_
  refine fr_is2 dJ7_fill_53178_1 rfl (Nat.le_of_ble_eq_true rfl) ?_
  refine fr_al0 dJ7_fill_53178_2 ?_
  refine fr_alen dJ7_fill_53178_3 hc (by decide) ?_
  refine fr_is3 dJ7_fill_53178_4 rfl (Nat.le_of_ble_eq_true rfl) ?_
  refine fr_mu (sp_fill_0 μ c v) ?_
  refine fr_wk ?_ (ls := [some (fr_r κ c), some (fr_i v), some (fr_i (0 : Int)), some (fr_i (n : Int))]) ⟨rfl, rfl, rfl, rfl, trivial⟩
  refine fr_down (P := fun j : Nat => fr_A l κ fmJ7_fill_53178 1 (fr_Ev (sp_fill μ c n v)) 5 [some (fr_r κ c), some (fr_i v), some (fr_i (j : Int)), some (fr_i (n : Int))] [] (sp_fill μ c (j : Int) v)) n ?_ (fun j hj5 ih5 => ?_)
  · skip
    refine fr_il2 dJ7_fill_53178_5 ?_
    refine fr_il3 dJ7_fill_53178_6 ?_
    refine fr_icmp_ge (tgt := 20) dJ7_fill_53178_7 (by decide) (by omega) (by omega) (fun h1 => ?_) (fun h1 => ?_)
    · skip
      exact fr_vret dJ7_fill_53178_20 rfl (fr_ev rfl)
    · skip
      exfalso; omega
  · skip
    refine fr_il2 dJ7_fill_53178_5 ?_
    refine fr_il3 dJ7_fill_53178_6 ?_
    refine fr_icmp_ge (tgt := 20) dJ7_fill_53178_7 (by decide) (by omega) (by omega) (fun h2 => ?_) (fun h2 => ?_)
    · skip
      exfalso; omega
    · skip
      refine fr_al0 dJ7_fill_53178_10 ?_
      refine fr_il2 dJ7_fill_53178_11 ?_
      refine fr_il1 dJ7_fill_53178_12 ?_
      refine fr_iast dJ7_fill_53178_13 hc (by omega) (by omega) ?_
      refine fr_ii2 dJ7_fill_53178_14 rfl (Nat.le_of_ble_eq_true rfl) ?_
      refine fr_goto (tgt := 5) dJ7_fill_53178_17 (by decide) ?_
      refine fr_mu (sp_fill_s _ _ _ _ (by omega)).symm ?_
      exact fr_wk (ih5) ⟨rfl, rfl, rfl, rfl, trivial⟩
set_option maxRecDepth 20000 in
theorem kcJ7_fill_d0a16 {l : Launch} {κ : fr_Ka} {μ : fr_Me} {c v : Int} {n : Nat} (hc : fr_ra c 1 n) : fr_C l κ fmJ7_fill_d0a16 1 [fr_r κ c, fr_j v] μ (fr_Ev (sp_fill μ c n v)) := by
  have hb := hc.2.2.2
  refine fr_enter (by decide +kernel) (ls := [some (fr_r κ c), some (fr_j v), none, none, none]) rfl (Nat.le_of_ble_eq_true rfl) ?_
  refine fr_iconst dJ7_fill_d0a16_0 ?_
  refine fr_is3 dJ7_fill_d0a16_1 rfl (Nat.le_of_ble_eq_true rfl) ?_
  refine fr_al0 dJ7_fill_d0a16_2 ?_
  refine fr_alen dJ7_fill_d0a16_3 hc (by decide) ?_
  refine fr_is4 dJ7_fill_d0a16_4 rfl (Nat.le_of_ble_eq_true rfl) ?_
  refine fr_mu (sp_fill_0 μ c v) ?_
  refine fr_wk ?_ (ls := [some (fr_r κ c), some (fr_j v), none, some (fr_i (0 : Int)), some (fr_i (n : Int))]) ⟨rfl, rfl, rfl, rfl, trivial⟩
  refine fr_down (P := fun j : Nat => fr_A l κ fmJ7_fill_d0a16 1 (fr_Ev (sp_fill μ c n v)) 6 [some (fr_r κ c), some (fr_j v), none, some (fr_i (j : Int)), some (fr_i (n : Int))] [] (sp_fill μ c (j : Int) v)) n ?_ (fun j hj6 ih6 => ?_)
  · skip
    refine fr_il3 dJ7_fill_d0a16_6 ?_
    refine fr_il4 dJ7_fill_d0a16_7 ?_
    refine fr_icmp_ge (tgt := 22) dJ7_fill_d0a16_9 (by decide) (by omega) (by omega) (fun h1 => ?_) (fun h1 => ?_)
    · skip
      exact fr_vret dJ7_fill_d0a16_22 rfl (fr_ev rfl)
    · skip
      exfalso; omega
  · skip
    refine fr_il3 dJ7_fill_d0a16_6 ?_
    refine fr_il4 dJ7_fill_d0a16_7 ?_
    refine fr_icmp_ge (tgt := 22) dJ7_fill_d0a16_9 (by decide) (by omega) (by omega) (fun h2 => ?_) (fun h2 => ?_)
    · skip
      exfalso; omega
    · skip
      refine fr_al0 dJ7_fill_d0a16_12 ?_
      refine fr_il3 dJ7_fill_d0a16_13 ?_
      refine fr_ll1 dJ7_fill_d0a16_14 ?_
      refine fr_last dJ7_fill_d0a16_15 hc (by omega) (by omega) ?_
      refine fr_ii3 dJ7_fill_d0a16_16 rfl (Nat.le_of_ble_eq_true rfl) ?_
      refine fr_goto (tgt := 6) dJ7_fill_d0a16_19 (by decide) ?_
      refine fr_mu (sp_fill_s _ _ _ _ (by omega)).symm ?_
      exact fr_wk (ih6) ⟨rfl, rfl, rfl, rfl, trivial⟩
theorem fr_G_u76 {w : Int → Int} {μ : fr_Me} (h : fr_G w μ) : fr_G (sp_u w 76 0) (fr_up μ 1 7 0) := by
  have e : ∀ k, k ≠ 76 → sp_u w 76 0 k = w k := fun k hk => by simp [sp_u, hk]
  refine ⟨?_, ?_, ?_, ?_, ?_, fun u g0 g1 => ?_, fun c g0 g1 => ?_, fun f g0 g1 => ?_⟩
  · rw [e 0 (by omega), fr_up_nk _ _ _ (by omega)]; exact h.n
  · rw [e 43 (by omega), fr_up_nk _ _ _ (by omega)]; exact h.many
  · rw [e 74 (by omega), fr_up_nk _ _ _ (by omega)]; exact h.draw
  · rw [e 75 (by omega), fr_up_nk _ _ _ (by omega)]; exact h.years
  · simp [sp_u, fr_up_get]
  · unfold fr_Gt
    rw [e (1 + u) (by omega), e (7 + u) (by omega), e (13 + u) (by omega), e (19 + u) (by omega), e (25 + u) (by omega), e (31 + u) (by omega), e (37 + u) (by omega), fr_up_nc _ _ _ (by omega)]
    exact h.tree g0 g1
  · unfold fr_Gc
    rw [e (44 + c) (by omega), e (49 + c) (by omega), e (54 + c) (by omega), e (59 + c) (by omega), fr_up_nc _ _ _ (by omega)]
    exact h.cl g0 g1
  · rw [e (64 + f) (by omega), fr_up_nc _ _ _ (by omega)]; exact h.pr g0 g1
theorem fr_G_u75 {w : Int → Int} {μ : fr_Me} (h : fr_G w μ) (z : Int) : fr_G (sp_u w 75 z) (fr_up μ 1 6 z) := by
  have e : ∀ k, k ≠ 75 → sp_u w 75 z k = w k := fun k hk => by simp [sp_u, hk]
  refine ⟨?_, ?_, ?_, ?_, ?_, fun u g0 g1 => ?_, fun c g0 g1 => ?_, fun f g0 g1 => ?_⟩
  · rw [e 0 (by omega), fr_up_nk _ _ _ (by omega)]; exact h.n
  · rw [e 43 (by omega), fr_up_nk _ _ _ (by omega)]; exact h.many
  · rw [e 74 (by omega), fr_up_nk _ _ _ (by omega)]; exact h.draw
  · simp [sp_u, fr_up_get]
  · rw [e 76 (by omega), fr_up_nk _ _ _ (by omega)]; exact h.fallen
  · unfold fr_Gt
    rw [e (1 + u) (by omega), e (7 + u) (by omega), e (13 + u) (by omega), e (19 + u) (by omega), e (25 + u) (by omega), e (31 + u) (by omega), e (37 + u) (by omega), fr_up_nc _ _ _ (by omega)]
    exact h.tree g0 g1
  · unfold fr_Gc
    rw [e (44 + c) (by omega), e (49 + c) (by omega), e (54 + c) (by omega), e (59 + c) (by omega), fr_up_nc _ _ _ (by omega)]
    exact h.cl g0 g1
  · rw [e (64 + f) (by omega), fr_up_nc _ _ _ (by omega)]; exact h.pr g0 g1
theorem fr_G_u74 {w : Int → Int} {μ : fr_Me} (h : fr_G w μ) (z : Int) : fr_G (sp_u w 74 z) (fr_up μ 1 5 z) := by
  have e : ∀ k, k ≠ 74 → sp_u w 74 z k = w k := fun k hk => by simp [sp_u, hk]
  refine ⟨?_, ?_, ?_, ?_, ?_, fun u g0 g1 => ?_, fun c g0 g1 => ?_, fun f g0 g1 => ?_⟩
  · rw [e 0 (by omega), fr_up_nk _ _ _ (by omega)]; exact h.n
  · rw [e 43 (by omega), fr_up_nk _ _ _ (by omega)]; exact h.many
  · simp [sp_u, fr_up_get]
  · rw [e 75 (by omega), fr_up_nk _ _ _ (by omega)]; exact h.years
  · rw [e 76 (by omega), fr_up_nk _ _ _ (by omega)]; exact h.fallen
  · unfold fr_Gt
    rw [e (1 + u) (by omega), e (7 + u) (by omega), e (13 + u) (by omega), e (19 + u) (by omega), e (25 + u) (by omega), e (31 + u) (by omega), e (37 + u) (by omega), fr_up_nc _ _ _ (by omega)]
    exact h.tree g0 g1
  · unfold fr_Gc
    rw [e (44 + c) (by omega), e (49 + c) (by omega), e (54 + c) (by omega), e (59 + c) (by omega), fr_up_nc _ _ _ (by omega)]
    exact h.cl g0 g1
  · rw [e (64 + f) (by omega), fr_up_nc _ _ _ (by omega)]; exact h.pr g0 g1
theorem fr_I_u74 {w : Int → Int} (h : fr_I w) {z : Int} (hz : 0 ≤ z ∧ z ≤ 2147483647) : fr_I (sp_u w 74 z) := by
  have e : ∀ k, k ≠ 74 → sp_u w 74 z k = w k := fun k hk => by simp [sp_u, hk]
  refine ⟨?_, ?_, ?_, ?_, ?_, fun u g0 g1 => ?_, fun c g0 g1 => ?_, fun f g0 g1 => ?_⟩
  · rw [e 0 (by omega)]; exact h.n
  · rw [e 43 (by omega)]; exact h.many
  · simp [sp_u]; exact hz
  · rw [e 75 (by omega)]; exact h.years
  · rw [e 76 (by omega)]; exact h.fallen
  · unfold fr_It sp_ok
    rw [e (1 + u) (by omega), e (7 + u) (by omega), e (13 + u) (by omega), e (19 + u) (by omega), e (25 + u) (by omega), e (31 + u) (by omega), e (37 + u) (by omega), e 0 (by omega), e 43 (by omega)]
    exact h.tree g0 g1
  · unfold fr_Ic
    rw [e (44 + c) (by omega), e (49 + c) (by omega), e (54 + c) (by omega), e (59 + c) (by omega), e 43 (by omega)]
    exact h.cl g0 g1
  · rw [e (64 + f) (by omega)]; exact h.pr g0 g1
theorem sp_od_u74 {w : Int → Int} (h : fr_I w) (z c : Int) : sp_od (sp_u w 74 z) c = sp_od w c := by
  have hm := h.many
  have e : sp_u w 74 z 43 = w 43 := by simp [sp_u]
  unfold sp_od
  rw [e]
  by_cases hc : 0 ≤ c ∧ c < w 43
  · rw [if_pos hc, if_pos hc, show sp_u w 74 z (44 + c) = w (44 + c) by unfold sp_u; rw [if_neg (by omega)], show sp_u w 74 z (59 + c) = w (59 + c) by unfold sp_u; rw [if_neg (by omega)]]
  · rw [if_neg hc, if_neg hc]
set_option maxRecDepth 20000 in
theorem kcX1_passYear {l : Launch} {κ : fr_Ka} {w : Int → Int} {μ : fr_Me} (hG : fr_G w μ) (hI : fr_I w) (hy : w 75 < 9999) : fr_C l κ fmX1_passYear 4 [fr_r κ 1] μ (fr_Pi (fun z m => z = sp_year w 76 ∧ fr_G (sp_year w) m ∧ ∀ c : Int, (c ≠ 1 ∧ (c < 36 ∨ 42 ≤ c)) → m c = μ c)) := by
  have eN := hG.n
  have eM := hG.many
  have iN := hI.n
  have iM := hI.many
  refine fr_enter (by decide +kernel) (ls := [some (fr_r κ 1), none, none, none]) rfl (Nat.le_of_ble_eq_true rfl) ?_
  refine fr_al0 dX1_passYear_0 ?_
  refine fr_iconst dX1_passYear_1 ?_
  refine fr_put (kz := 7) dX1_passYear_2 fpX1_67 ⟨by decide, by decide, rfl⟩ rfl rfl (fun h => by cases h) ?_
  refine fr_iconst dX1_passYear_5 ?_
  refine fr_is1 dX1_passYear_6 rfl (Nat.le_of_ble_eq_true rfl) ?_
  refine fr_wk ?_ (ls := [some (fr_r κ 1), some (fr_i (0 : Int)), none, none]) ⟨rfl, rfl, trivial⟩
  refine (fr_down (P := fun j : Nat => ∀ m : fr_Me, (fr_G (sp_yl j w) m ∧ ∀ c : Int, (c ≠ 1 ∧ (c < 36 ∨ 42 ≤ c)) → m c = μ c) → fr_A l κ fmX1_passYear 4 (fr_Pi (fun z m => z = sp_year w 76 ∧ fr_G (sp_year w) m ∧ ∀ c : Int, (c ≠ 1 ∧ (c < 36 ∨ 42 ≤ c)) → m c = μ c)) 7 [some (fr_r κ 1), some (fr_i (j : Int)), none, none] [] m) (w 0).toNat ?_ (fun j hj7 ih7 => ?_)) _ (⟨fr_G_u76 hG, fun c hc => fr_up_nc _ _ _ hc.1⟩)
  · skip
    intro m hm
    have e0 := sp_yl_lo w (w 0).toNat (by omega) (k := 0) (by omega)
    have en := hm.1.n
    have iY := hI.years
    have ey := hm.1.years
    have e75 := sp_yl_lo w (w 0).toNat (by omega) (k := 75) (by omega)
    have ef := hm.1.fallen
    have hg := fr_G_u75 hm.1 (m 1 6 + 1)
    refine fr_il1 dX1_passYear_7 ?_
    refine fr_al0 dX1_passYear_8 ?_
    refine fr_geti (kz := 3) dX1_passYear_9 flX1_58 ⟨by decide, by decide, rfl⟩ rfl rfl ?_
    refine fr_icmp_ge (tgt := 76) dX1_passYear_12 (by decide) (by omega) (by omega) (fun h1 => ?_) (fun h1 => ?_)
    · skip
      refine fr_al0 dX1_passYear_76 ?_
      refine fr_dup dX1_passYear_77 rfl ?_
      refine fr_geti (kz := 6) dX1_passYear_78 flX1_64 ⟨by decide, by decide, rfl⟩ rfl rfl ?_
      refine fr_iconst dX1_passYear_81 ?_
      refine fr_iadd dX1_passYear_82 ?_
      refine fr_put (kz := 6) dX1_passYear_83 fpX1_64 ⟨by decide, by decide, rfl⟩ rfl rfl (fun h => by cases h) ?_
      refine fr_al0 dX1_passYear_86 ?_
      refine fr_geti (kz := 7) dX1_passYear_87 flX1_67 ⟨by decide, by decide, rfl⟩ rfl rfl ?_
      exact fr_iret dX1_passYear_90 rfl (fr_pi ⟨by simp [fr_up_get, sp_year, sp_u]; omega, by unfold sp_year; rw [show w 75 + 1 = m 1 6 + 1 by omega]; exact hg, fun c hc => by rw [fr_up_nc _ _ _ hc.1]; exact hm.2 c hc⟩)
    · skip
      exfalso; omega
  · skip
    intro m hm
    have e0 := sp_yl_lo w j (by omega) (k := 0) (by omega)
    have en := hm.1.n
    obtain ⟨hIj, hf6⟩ := hI.yl j (by omega)
    have eT := hm.1.tree (t := (j : Int)) (by omega) (by omega)
    have iT := hIj.tree (t := (j : Int)) (by omega) (by omega)
    unfold fr_Gt at eT
    unfold fr_It at iT
    obtain ⟨x0, x1, x2, x3, x4, x5, x6⟩ := eT
    have ed := hm.1.draw
    have id := hIj.draw
    have efa := hm.1.fallen
    have ifa := hIj.fallen
    have ng : (36 : Int) + j ≠ 1 := by omega
    have od := sp_od_rg hIj (sp_yl j w (7 + j))
    have t10 : ∀ x : Int, -10 < x.tmod 10 ∧ x.tmod 10 < 10 := fun x => tmod_bounds (by omega)
    have tt := t10 ((sp_dr (m 1 5)).tdiv 65536)
    refine fr_il1 dX1_passYear_7 ?_
    refine fr_al0 dX1_passYear_8 ?_
    refine fr_geti (kz := 3) dX1_passYear_9 flX1_58 ⟨by decide, by decide, rfl⟩ rfl rfl ?_
    refine fr_icmp_ge (tgt := 76) dX1_passYear_12 (by decide) (by omega) (by omega) (fun h2 => ?_) (fun h2 => ?_)
    · skip
      exfalso; omega
    · skip
      refine fr_al0 dX1_passYear_15 ?_
      refine fr_getr (cz := 2) dX1_passYear_16 flX1_11 ⟨by decide, by decide, rfl⟩ rfl rfl ?_
      refine fr_il1 dX1_passYear_19 ?_
      refine fr_aaT dX1_passYear_20 (by omega) (by omega) ?_
      refine fr_as2 dX1_passYear_21 rfl (Nat.le_of_ble_eq_true rfl) ?_
      refine fr_al2 dX1_passYear_22 ?_
      refine fr_geti (kz := 1) dX1_passYear_23 flX1_106 (fr_obT (by omega) (by omega)) rfl rfl ?_
      rw [x1]
      refine fr_iconst dX1_passYear_26 ?_
      refine fr_icmp_eq (tgt := 49) dX1_passYear_27 (by decide) (by omega) (by omega) (fun h3 => ?_) (fun h3 => ?_)
      · skip
        refine fr_iconst dX1_passYear_49 ?_
        refine fr_is3 dX1_passYear_50 rfl (Nat.le_of_ble_eq_true rfl) ?_
        refine fr_il3 dX1_passYear_51 ?_
        refine fr_if_eq (tgt := 65) dX1_passYear_52 (by decide) (by decide) (fun _ => ?_) (fun h4 => absurd h4 (by decide))
        refine fr_al2 dX1_passYear_65 ?_
        refine fr_il3 dX1_passYear_66 ?_
        refine fr_cVv (mi' := fmX7_passYear) dX1_passYear_67 mlX1_156 mvX7_passYear ⟨7, _, (fr_obT (by omega) (by omega)), rfl, rfl⟩ (Nat.le_of_ble_eq_true rfl) (kcX7_passYear (fr_obT (by omega) (by omega)) (by first | omega | (simp only [fr_up_nc _ _ _ ng]; omega)) (by omega)) rfl rfl (Nat.le_of_ble_eq_true rfl) ?_
        refine fr_ii1 dX1_passYear_70 rfl (Nat.le_of_ble_eq_true rfl) ?_
        refine fr_goto (tgt := 7) dX1_passYear_73 (by decide) ?_
        have hfl : (0 : Int) = sp_fl (sp_yl j w) j := by unfold sp_fl; rw [if_pos (by omega)]
        exact fr_wk (ih7 _ (⟨fr_G_yt hm.1 (by omega) (by omega) hfl (by simp [fr_up_get]) (by simp [fr_up_get]) (by unfold sp_dw; rw [if_pos (by omega)]; exact ed) (by simp [fr_up_get]) (by rw [← hfl]; simp [fr_up_get, efa]) (fun c hc => rfl), fun c hc => by rw [sp_passT_nc _ _ (by omega)]; exact hm.2 c hc⟩)) ⟨rfl, rfl, trivial⟩
      · skip
        refine fr_al0 dX1_passYear_30 ?_
        refine fr_cVi (mi' := fmX1_drawByTen) dX1_passYear_31 mlX1_153 mvX1_drawByTen ⟨1, _, ⟨by decide, by decide, rfl⟩, rfl, rfl⟩ (Nat.le_of_ble_eq_true rfl) (kcX1_drawByTen (by omega)) rfl rfl (Nat.le_of_ble_eq_true rfl) ?_
        refine fr_al0 dX1_passYear_34 ?_
        refine fr_al2 dX1_passYear_35 ?_
        refine fr_geti (kz := 1) dX1_passYear_36 flX1_106 (fr_obT (by omega) (by omega)) rfl rfl ?_
        rw [fr_up_nc _ _ _ ng, x1]
        refine fr_cVi (mi' := fmX1_oddsOf) dX1_passYear_39 mlX1_147 mvX1_oddsOf ⟨1, _, ⟨by decide, by decide, rfl⟩, rfl, rfl⟩ (Nat.le_of_ble_eq_true rfl) (kcX1_oddsOf (w := sp_u (sp_yl j w) 74 (sp_dr (m 1 5))) (fr_G_u74 hm.1 _) (fr_I_u74 hIj (sp_dr_rg _)) (by omega)) rfl rfl (Nat.le_of_ble_eq_true rfl) ?_
        rw [sp_od_u74 hIj]
        refine fr_icmp_ge (tgt := 49) dX1_passYear_42 (by decide) (by omega) (by omega) (fun h5 => ?_) (fun h5 => ?_)
        · skip
          refine fr_iconst dX1_passYear_49 ?_
          refine fr_is3 dX1_passYear_50 rfl (Nat.le_of_ble_eq_true rfl) ?_
          refine fr_il3 dX1_passYear_51 ?_
          refine fr_if_eq (tgt := 65) dX1_passYear_52 (by decide) (by decide) (fun _ => ?_) (fun h6 => absurd h6 (by decide))
          refine fr_al2 dX1_passYear_65 ?_
          refine fr_il3 dX1_passYear_66 ?_
          refine fr_cVv (mi' := fmX7_passYear) dX1_passYear_67 mlX1_156 mvX7_passYear ⟨7, _, (fr_obT (by omega) (by omega)), rfl, rfl⟩ (Nat.le_of_ble_eq_true rfl) (kcX7_passYear (fr_obT (by omega) (by omega)) (by first | omega | (simp only [fr_up_nc _ _ _ ng]; omega)) (by omega)) rfl rfl (Nat.le_of_ble_eq_true rfl) ?_
          refine fr_ii1 dX1_passYear_70 rfl (Nat.le_of_ble_eq_true rfl) ?_
          refine fr_goto (tgt := 7) dX1_passYear_73 (by decide) ?_
          have hfl : (0 : Int) = sp_fl (sp_yl j w) j := by unfold sp_fl; rw [if_neg (by omega), if_neg (by rw [← ed]; omega)]
          exact fr_wk (ih7 _ (⟨fr_G_yt hm.1 (by omega) (by omega) hfl (by simp [fr_up_get]) (by simp [fr_up_get]) (by unfold sp_dw; rw [if_neg (by omega)]; simp [fr_up_get, ed]) (by simp [fr_up_get]) (by rw [← hfl]; simp [fr_up_get, efa]) (fun c hc => by rw [fr_up_nc _ _ _ hc]), fun c hc => by rw [sp_passT_nc _ _ (by omega), fr_up_nc _ _ _ hc.1]; exact hm.2 c hc⟩)) ⟨rfl, rfl, trivial⟩
        · skip
          refine fr_iconst dX1_passYear_45 ?_
          refine fr_goto (tgt := 50) dX1_passYear_46 (by decide) ?_
          refine fr_is3 dX1_passYear_50 rfl (Nat.le_of_ble_eq_true rfl) ?_
          refine fr_il3 dX1_passYear_51 ?_
          refine fr_if_eq (tgt := 65) dX1_passYear_52 (by decide) (by decide) (fun h7 => absurd h7 (by decide)) (fun _ => ?_)
          refine fr_al0 dX1_passYear_55 ?_
          refine fr_dup dX1_passYear_56 rfl ?_
          refine fr_geti (kz := 7) dX1_passYear_57 flX1_67 ⟨by decide, by decide, rfl⟩ rfl rfl ?_
          refine fr_iconst dX1_passYear_60 ?_
          refine fr_iadd dX1_passYear_61 ?_
          refine fr_put (kz := 7) dX1_passYear_62 fpX1_67 ⟨by decide, by decide, rfl⟩ rfl rfl (fun h => by cases h) ?_
          refine fr_al2 dX1_passYear_65 ?_
          refine fr_il3 dX1_passYear_66 ?_
          refine fr_cVv (mi' := fmX7_passYear) dX1_passYear_67 mlX1_156 mvX7_passYear ⟨7, _, (fr_obT (by omega) (by omega)), rfl, rfl⟩ (Nat.le_of_ble_eq_true rfl) (kcX7_passYear (fr_obT (by omega) (by omega)) (by first | omega | (simp only [fr_up_nc _ _ _ ng]; omega)) (by omega)) rfl rfl (Nat.le_of_ble_eq_true rfl) ?_
          refine fr_ii1 dX1_passYear_70 rfl (Nat.le_of_ble_eq_true rfl) ?_
          refine fr_goto (tgt := 7) dX1_passYear_73 (by decide) ?_
          have hfl : (1 : Int) = sp_fl (sp_yl j w) j := by unfold sp_fl; rw [if_neg (by omega), if_pos (by rw [← ed]; omega)]
          exact fr_wk (ih7 _ (⟨fr_G_yt hm.1 (by omega) (by omega) hfl (by simp [fr_up_get]) (by simp [fr_up_get]) (by unfold sp_dw; rw [if_neg (by omega)]; simp [fr_up_get, ed]) (by simp [fr_up_get]) (by rw [← hfl]; simp [fr_up_get, efa]) (fun c hc => by rw [fr_up_nc _ _ _ hc, fr_up_nc _ _ _ hc]), fun c hc => by rw [sp_passT_nc _ _ (by omega), fr_up_nc _ _ _ hc.1, fr_up_nc _ _ _ hc.1]; exact hm.2 c hc⟩)) ⟨rfl, rfl, trivial⟩
