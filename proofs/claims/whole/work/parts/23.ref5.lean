/-! rotas: last, before, who fell, behind y years; it: the row of climbers, of n -/
def sp_rl (w it : Int → Int) (n y t : Int) : Int := if y = 0 then w (13 + t) else it ((y - 1 + t).tmod n)
def sp_rb (w it : Int → Int) (n y t : Int) : Int := if y = 0 then w (19 + t) else sp_rl w it n (y - 1) t
def sp_rf (w : Int → Int) (y t : Int) : Int := if y = 0 then w (25 + t) else 0
def sp_rg (w : Int → Int) (y t : Int) : Int := if y = 0 then w (31 + t) else sp_rf w (y - 1) t
def sp_sts (w it : Int → Int) (n : Int) (st : Int → Int) (y : Int) : Prop := ∀ t, 0 ≤ t → t < w 0 → st (24 * y + t) = sp_rl w it n y t ∧ st (24 * y + 6 + t) = sp_rb w it n y t ∧ st (24 * y + 12 + t) = sp_rf w y t ∧ st (24 * y + 18 + t) = sp_rg w y t
def sp_rv (w it : Int → Int) (n y : Int) : Int := sp_sum (w 0).toNat (fun t => sp_sum 10 (fun f => w (64 + f) * sp_bn w (w (1 + t)) f (sp_rl w it n y t) (sp_rf w y t) (sp_rb w it n y t) (sp_rg w y t)))
def sp_folks (w it : Int → Int) (n : Int) : Prop := ∀ k, 0 ≤ k → k < n → it k = 5 ∨ (0 ≤ it k ∧ it k < w 43)
theorem sp_rl_ok {w it : Int → Int} {n y t : Int} (hI : fr_I w) (hf : sp_folks w it n) (hn : 1 ≤ n) (hy : 0 ≤ y) (h0 : 0 ≤ t) (h1 : t < w 0) : sp_rl w it n y t = 5 ∨ (0 ≤ sp_rl w it n y t ∧ sp_rl w it n y t < w 43) := by
  unfold sp_rl
  have hN := hI.n
  have iT := hI.tree h0 (by omega)
  unfold fr_It sp_ok at iT
  split
  · exact (iT.2.2.2.2.2.2.2 h1).2.1
  · exact hf _ (Int.tmod_nonneg n (by omega)) (Int.tmod_lt_of_pos _ (by omega))
theorem sp_rb_ok {w it : Int → Int} {n y t : Int} (hI : fr_I w) (hf : sp_folks w it n) (hn : 1 ≤ n) (hy : 0 ≤ y) (h0 : 0 ≤ t) (h1 : t < w 0) : sp_rb w it n y t = 5 ∨ (0 ≤ sp_rb w it n y t ∧ sp_rb w it n y t < w 43) := by
  unfold sp_rb
  have hN := hI.n
  have iT := hI.tree h0 (by omega)
  unfold fr_It sp_ok at iT
  split
  · exact (iT.2.2.2.2.2.2.2 h1).2.2
  · exact sp_rl_ok hI hf hn (by omega) h0 h1
theorem sp_rf_ok {w : Int → Int} {y t : Int} (hI : fr_I w) (h0 : 0 ≤ t) (h1 : t < w 0) : 0 ≤ sp_rf w y t ∧ sp_rf w y t ≤ 1 := by
  have hN := hI.n
  have iT := hI.tree h0 (by omega)
  unfold fr_It at iT
  unfold sp_rf
  split <;> omega
theorem sp_rg_ok {w : Int → Int} {y t : Int} (hI : fr_I w) (h0 : 0 ≤ t) (h1 : t < w 0) : 0 ≤ sp_rg w y t ∧ sp_rg w y t ≤ 1 := by
  have hN := hI.n
  have iT := hI.tree h0 (by omega)
  unfold fr_It at iT
  have := sp_rf_ok (y := y - 1) hI h0 h1
  unfold sp_rg
  split <;> omega
theorem sp_sts.okst {w it st : Int → Int} {n y : Int} (h : sp_sts w it n st y) (hI : fr_I w) (hf : sp_folks w it n) (hn : 1 ≤ n) (hy : 0 ≤ y) : sp_okst w st y := by
  intro t h0 h1
  obtain ⟨a, b, c, d⟩ := h t h0 h1
  rw [a, b, c, d]
  exact ⟨sp_rl_ok hI hf hn hy h0 h1, sp_rb_ok hI hf hn hy h0 h1, sp_rf_ok hI h0 h1, sp_rg_ok hI h0 h1⟩
theorem sp_sts.vb {w it st : Int → Int} {n y : Int} (h : sp_sts w it n st y) (hN : 0 ≤ w 0) : sp_vb w st y = sp_rv w it n y := by
  unfold sp_vb sp_rv
  refine sp_sum_eq _ (fun t h0 h1 => ?_)
  obtain ⟨a, b, c, d⟩ := h t h0 (by omega)
  refine sp_sum_eq _ (fun f _ _ => ?_)
  unfold sp_vb1
  rw [a, b, c, d]
theorem sp_sts.zero {w it st : Int → Int} {n : Int} (hN : w 0 ≤ 6) (h : ∀ k, 0 ≤ k → k < 24 → st k = w (13 + k)) : sp_sts w it n st 0 := by
  intro t h0 h1
  have e : ∀ x : Int, 24 * 0 + x = x := fun x => by omega
  refine ⟨?_, ?_, ?_, ?_⟩
  · rw [e, h t h0 (by omega)]; rfl
  · rw [show (24 : Int) * 0 + 6 + t = 6 + t by omega, h (6 + t) (by omega) (by omega), show 13 + (6 + t) = 19 + t by omega]; rfl
  · rw [show (24 : Int) * 0 + 12 + t = 12 + t by omega, h (12 + t) (by omega) (by omega), show 13 + (12 + t) = 25 + t by omega]; rfl
  · rw [show (24 : Int) * 0 + 18 + t = 18 + t by omega, h (18 + t) (by omega) (by omega), show 13 + (18 + t) = 31 + t by omega]; rfl
theorem sp_sts.succ {w it st st' : Int → Int} {n y : Int} (hy : 0 ≤ y) (h : sp_sts w it n st y) (hx : ∀ t, 0 ≤ t → t < w 0 → st' (24 * y + 24 + t) = it ((y + t).tmod n) ∧ st' (24 * y + 30 + t) = st (24 * y + t) ∧ st' (24 * y + 36 + t) = 0 ∧ st' (24 * y + 42 + t) = st (24 * y + 12 + t)) : sp_sts w it n st' (y + 1) := by
  intro t h0 h1
  obtain ⟨a, b, c, d⟩ := h t h0 h1
  obtain ⟨x1, x2, x3, x4⟩ := hx t h0 h1
  have hne : y + 1 ≠ 0 := by omega
  refine ⟨?_, ?_, ?_, ?_⟩
  · rw [show 24 * (y + 1) + t = 24 * y + 24 + t by omega, x1]; unfold sp_rl; rw [if_neg hne, show y + 1 - 1 + t = y + t by omega]
  · rw [show 24 * (y + 1) + 6 + t = 24 * y + 30 + t by omega, x2, a]; unfold sp_rb; rw [if_neg hne, show y + 1 - 1 = y by omega]
  · rw [show 24 * (y + 1) + 12 + t = 24 * y + 36 + t by omega, x3]; unfold sp_rf; rw [if_neg hne]
  · rw [show 24 * (y + 1) + 18 + t = 24 * y + 42 + t by omega, x4, c]; unfold sp_rg; rw [if_neg hne, show y + 1 - 1 = y by omega]
theorem sp_sts.keep {w it st st' : Int → Int} {n y y' : Int} (hN : w 0 ≤ 6) (hy : y' ≤ y) (h : sp_sts w it n st y') (hx : ∀ k, (k < 24 * y + 24 ∨ 24 * y + 48 ≤ k) → st' k = st k) : sp_sts w it n st' y' := by
  intro t h0 h1
  rw [hx _ (by omega), hx _ (by omega), hx _ (by omega), hx _ (by omega)]
  exact h t h0 h1
def sp_al (w it : Int → Int) (n x y : Int) : Prop := ∀ t, 0 ≤ t → t < w 0 → sp_rl w it n y t = sp_rl w it n x t ∧ sp_rb w it n y t = sp_rb w it n x t ∧ sp_rf w y t = sp_rf w x t ∧ sp_rg w y t = sp_rg w x t
def sp_sa (st : Int → Int) (N y z : Int) : Prop := ∀ t, 0 ≤ t → t < N → ∀ q, 0 ≤ q → q < 4 → st (24 * y + 6 * q + t) = st (24 * z + 6 * q + t)
theorem sp_sa_al {w it st : Int → Int} {n y z : Int} (hy : sp_sts w it n st y) (hz : sp_sts w it n st z) : sp_sa st (w 0) y z ↔ sp_al w it n z y := by
  constructor
  · intro h t h0 h1
    obtain ⟨a, b, c, d⟩ := hy t h0 h1
    obtain ⟨a2, b2, c2, d2⟩ := hz t h0 h1
    have g0 := h t h0 h1 0 (by omega) (by omega)
    have g1 := h t h0 h1 1 (by omega) (by omega)
    have g2 := h t h0 h1 2 (by omega) (by omega)
    have g3 := h t h0 h1 3 (by omega) (by omega)
    simp only [Int.mul_zero, Int.add_zero, Int.mul_one, show (6 : Int) * 2 = 12 from rfl, show (6 : Int) * 3 = 18 from rfl] at g0 g1 g2 g3
    rw [a, a2] at g0
    rw [b, b2] at g1
    rw [c, c2] at g2
    rw [d, d2] at g3
    exact ⟨g0, g1, g2, g3⟩
  · intro h t h0 h1 q q0 q1
    obtain ⟨a, b, c, d⟩ := hy t h0 h1
    obtain ⟨a2, b2, c2, d2⟩ := hz t h0 h1
    obtain ⟨g0, g1, g2, g3⟩ := h t h0 h1
    rcases (by omega : q = 0 ∨ q = 1 ∨ q = 2 ∨ q = 3) with e | e | e | e <;> subst e <;> simp only [Int.mul_zero, Int.add_zero, Int.mul_one, show (6 : Int) * 2 = 12 from rfl, show (6 : Int) * 3 = 18 from rfl]
    · rw [a, a2]; exact g0
    · rw [b, b2]; exact g1
    · rw [c, c2]; exact g2
    · rw [d, d2]; exact g3
def sp_mul (n d : Int) : Prop := ∃ q : Int, 1 ≤ q ∧ d = n * q
theorem sp_mul.one (n : Int) : sp_mul n n := ⟨1, by omega, by simp⟩
theorem sp_mul.add {n d : Int} (h : sp_mul n d) : sp_mul n (d + n) := by
  obtain ⟨q, h1, h2⟩ := h
  exact ⟨q + 1, by omega, by rw [h2, Int.mul_add, Int.mul_one]⟩
theorem sp_mul.step {n d d' : Int} (hn : 1 ≤ n) (h : sp_mul n d) (h' : sp_mul n d') (hl : d' < d + n) : d' ≤ d := by
  obtain ⟨q, h1, rfl⟩ := h
  obtain ⟨q', h1', rfl⟩ := h'
  have e : n * q + n = n * (q + 1) := by rw [Int.mul_add, Int.mul_one]
  rw [e] at hl
  have := Int.lt_of_mul_lt_mul_left hl (by omega)
  exact Int.mul_le_mul_of_nonneg_left (by omega) (by omega)
theorem sp_mul.pos {n d : Int} (hn : 1 ≤ n) (h : sp_mul n d) : n ≤ d := by
  obtain ⟨q, h1, rfl⟩ := h
  have : n * 1 ≤ n * q := Int.mul_le_mul_of_nonneg_left h1 (by omega)
  omega
def sp_ag (w it : Int → Int) (n what z : Int) : Prop := (∃ y d, 1 ≤ y ∧ y ≤ 200 ∧ sp_mul n d ∧ d ≤ y ∧ sp_al w it n (y - d) y ∧ (∀ d', sp_mul n d' → d' < d → ¬ sp_al w it n (y - d') y) ∧ (∀ y', 1 ≤ y' → y' < y → ∀ d', sp_mul n d' → d' ≤ y' → ¬ sp_al w it n (y' - d') y') ∧ z = if what = 0 then y else d) ∨ ((∀ y', 1 ≤ y' → y' ≤ 200 → ∀ d', sp_mul n d' → d' ≤ y' → ¬ sp_al w it n (y' - d') y') ∧ z = -4)
theorem sp_ag.uniq {w it : Int → Int} {n what z z' : Int} (h : sp_ag w it n what z) (h' : sp_ag w it n what z') : z = z' := by
  rcases h with ⟨y, d, h1, h2, h3, h4, h5, h6, h7, h8⟩ | ⟨h1, h2⟩
  · rcases h' with ⟨y', d', g1, g2, g3, g4, g5, g6, g7, g8⟩ | ⟨g1, g2⟩
    · have ey : y = y' := by
        rcases Int.lt_trichotomy y y' with e | e | e
        · exact absurd h5 (g7 y h1 e d h3 h4)
        · exact e
        · exact absurd g5 (h7 y' g1 e d' g3 g4)
      subst ey
      have ed : d = d' := by
        rcases Int.lt_trichotomy d d' with e | e | e
        · exact absurd h5 (g6 d h3 e)
        · exact e
        · exact absurd g5 (h6 d' g3 e)
      subst ed
      rw [h8, g8]
    · exact absurd h5 (g1 y h1 h2 d h3 h4)
  · rcases h' with ⟨y', d', g1, g2, g3, g4, g5, g6, g7, g8⟩ | ⟨g1, g2⟩
    · exact absurd g5 (h1 y' g1 g2 d' g3 g4)
    · rw [h2, g2]
set_option maxRecDepth 20000 in
theorem kcX11_rotaBars {l : Launch} {κ : fr_Ka} {μ : fr_Me} (hI : fr_I (μ 67)) (hS : fr_Sh μ) {s lane i n : Int} (hs4 : 0 ≤ s ∧ s ≤ 3) (hn : 1 ≤ n ∧ n ≤ 8) (rlane : -2147483648 ≤ lane ∧ lane ≤ 2147483647) (ri : -2147483648 ≤ i ∧ i ≤ 2147483647) : fr_C l κ fmX11_rotaBars 2 [fr_r κ 66, fr_i s, fr_i lane, fr_i i, fr_i n] μ (fr_Pi (fun z m => μ = m ∧ ((sp_bars (μ 75 s) (μ 76 s) lane i n ≠ 0 ∧ z = sp_bars (μ 75 s) (μ 76 s) lane i n) ∨ (sp_bars (μ 75 s) (μ 76 s) lane i n = 0 ∧ sp_folks (μ 67) (fun k => μ 77 (16 * s + i + k)) n ∧ z = 0) ∨ (sp_bars (μ 75 s) (μ 76 s) lane i n = 0 ∧ ¬ sp_folks (μ 67) (fun k => μ 77 (16 * s + i + k)) n ∧ z = -2)))) := by
  have iN := hI.n
  have iM := hI.many
  have hbr := sp_bars_rg (μ 75 s) (μ 76 s) lane i n
  have hs := hS.1 s (by omega) (by omega)
  refine fr_enter (by decide +kernel) (ls := [some (fr_r κ 66), some (fr_i s), some (fr_i lane), some (fr_i i), some (fr_i n), none, none, none, none]) rfl (Nat.le_of_ble_eq_true rfl) ?_
  refine fr_al0 dX11_rotaBars_0 ?_
  refine fr_il1 dX11_rotaBars_1 ?_
  refine fr_il2 dX11_rotaBars_2 ?_
  refine fr_il3 dX11_rotaBars_3 ?_
  refine fr_il4 dX11_rotaBars_4 ?_
  refine fr_cVi (mi' := fmX11_bars) dX11_rotaBars_6 mlX11_243 mvX11_bars ⟨11, _, ⟨by decide, by decide, rfl⟩, rfl, rfl⟩ (Nat.le_of_ble_eq_true rfl) (kcX11_bars hS (by omega) (by omega) (by omega) (by omega)) rfl rfl (Nat.le_of_ble_eq_true rfl) ?_
  refine fr_is5 dX11_rotaBars_9 rfl (Nat.le_of_ble_eq_true rfl) ?_
  refine fr_iconst dX11_rotaBars_11 ?_
  refine fr_is6 dX11_rotaBars_12 rfl (Nat.le_of_ble_eq_true rfl) ?_
  rcases Classical.em (sp_bars (μ 75 s) (μ 76 s) lane i n = 0) with hz | hz
  · skip
    have hb := sp_bars0 hz
    refine fr_wk ?_ (ls := [some (fr_r κ 66), some (fr_i s), some (fr_i lane), some (fr_i i), some (fr_i n), some (fr_i _), some (fr_i (0 : Int)), none, none]) ⟨rfl, rfl, rfl, rfl, rfl, rfl, rfl, trivial⟩
    refine (fr_down (P := fun j : Nat => ∀ (x : Int), (x = 0 ∧ ∀ k : Int, 0 ≤ k → k < j → μ 77 (16 * s + i + k) = 5 ∨ (0 ≤ μ 77 (16 * s + i + k) ∧ μ 77 (16 * s + i + k) < μ 67 43)) → fr_A l κ fmX11_rotaBars 2 (fr_Pi (fun z m => μ = m ∧ ((sp_bars (μ 75 s) (μ 76 s) lane i n ≠ 0 ∧ z = sp_bars (μ 75 s) (μ 76 s) lane i n) ∨ (sp_bars (μ 75 s) (μ 76 s) lane i n = 0 ∧ sp_folks (μ 67) (fun k => μ 77 (16 * s + i + k)) n ∧ z = 0) ∨ (sp_bars (μ 75 s) (μ 76 s) lane i n = 0 ∧ ¬ sp_folks (μ 67) (fun k => μ 77 (16 * s + i + k)) n ∧ z = -2)))) 14 [some (fr_r κ 66), some (fr_i s), some (fr_i lane), some (fr_i i), some (fr_i n), some (fr_i x), some (fr_i (j : Int)), none, none] [] μ) n.toNat ?_ (fun j hj14 ih14 => ?_)) _ (⟨hz, fun k h0 h1 => by omega⟩)
    · skip
      intro x hx
      obtain ⟨rfl, hall⟩ := hx
      refine fr_il6 dX11_rotaBars_14 ?_
      refine fr_il4 dX11_rotaBars_16 ?_
      refine fr_icmp_ge (tgt := 79) dX11_rotaBars_18 (by decide) (by omega) (by omega) (fun h1 => ?_) (fun h1 => ?_)
      · skip
        refine fr_il5 dX11_rotaBars_79 ?_
        exact fr_iret dX11_rotaBars_81 rfl (fr_pi ⟨rfl, by first | exact Or.inl ⟨hz, rfl⟩ | exact Or.inr (Or.inl ⟨hz, fun k h0 h1 => hall k h0 (by omega), rfl⟩) | exact Or.inr (Or.inr ⟨hz, fun h => by have h9 := h (j : Int) (by omega) (by omega); simp only [← ej] at h9; omega, rfl⟩)⟩)
      · skip
        exfalso; omega
    · skip
      intro x hx
      have hj := hS.2 (16 * s + (i + j)) (by omega) (by omega)
      have ej : (16 : Int) * s + (i + j) = 16 * s + i + j := by omega
      obtain ⟨rfl, hall⟩ := hx
      refine fr_il6 dX11_rotaBars_14 ?_
      refine fr_il4 dX11_rotaBars_16 ?_
      refine fr_icmp_ge (tgt := 79) dX11_rotaBars_18 (by decide) (by omega) (by omega) (fun h2 => ?_) (fun h2 => ?_)
      · skip
        exfalso; omega
      · skip
        refine fr_il5 dX11_rotaBars_21 ?_
        refine fr_if_ne (tgt := 79) dX11_rotaBars_23 (by decide) (by decide) (fun h3 => absurd h3 (by decide)) (fun _ => ?_)
        refine fr_al0 dX11_rotaBars_26 ?_
        refine fr_il1 dX11_rotaBars_27 ?_
        refine fr_il3 dX11_rotaBars_28 ?_
        refine fr_il6 dX11_rotaBars_29 ?_
        refine fr_iadd dX11_rotaBars_31 ?_
        refine fr_cVj (mi' := fmX11_itemAt) dX11_rotaBars_32 mlX11_233 mvX11_itemAt ⟨11, _, ⟨by decide, by decide, rfl⟩, rfl, rfl⟩ (Nat.le_of_ble_eq_true rfl) (kcX11_itemAt (by omega)) rfl rfl (Nat.le_of_ble_eq_true rfl) ?_
        refine fr_ls7 dX11_rotaBars_35 rfl (Nat.le_of_ble_eq_true rfl) ?_
        refine fr_ll7 dX11_rotaBars_37 ?_
        refine fr_ldc2 dX11_rotaBars_39 clX11_252 ?_
        refine fr_lcmpR dX11_rotaBars_42 (by omega) (by omega) ?_
        refine fr_if_eq (tgt := 65) dX11_rotaBars_43 (by decide) (by omega) (fun h4 => ?_) (fun h4 => ?_)
        · skip
          refine fr_iconst dX11_rotaBars_65 ?_
          refine fr_goto (tgt := 71) dX11_rotaBars_66 (by decide) ?_
          refine fr_is5 dX11_rotaBars_71 rfl (Nat.le_of_ble_eq_true rfl) ?_
          refine fr_ii6 dX11_rotaBars_73 rfl (Nat.le_of_ble_eq_true rfl) ?_
          refine fr_goto (tgt := 14) dX11_rotaBars_76 (by decide) ?_
          exact fr_wk (ih14 _ (⟨rfl, fun k h0 h1 => (by omega : k < j ∨ k = j).elim (fun h => hall k h0 h) (fun h => by subst h; rw [← ej]; omega)⟩)) ⟨rfl, rfl, rfl, rfl, rfl, rfl, rfl, trivial⟩
        · skip
          refine fr_ll7 dX11_rotaBars_46 ?_
          refine fr_lconst0 dX11_rotaBars_48 ?_
          refine fr_al0 dX11_rotaBars_49 ?_
          refine fr_getr (cz := 67) dX11_rotaBars_50 flX11_7 ⟨by decide, by decide, rfl⟩ rfl rfl ?_
          refine fr_bipush dX11_rotaBars_53 (by decide) ?_
          refine fr_iald dX11_rotaBars_55 ⟨by decide, by decide, rfl, by decide⟩ (by omega) (by omega) ?_
          refine fr_iconst dX11_rotaBars_56 ?_
          refine fr_isub dX11_rotaBars_57 ?_
          refine fr_i2l dX11_rotaBars_58 (by omega) ?_
          refine fr_cSi (mi' := fmX11_in) dX11_rotaBars_59 mlX11_51 msX11_in (Nat.le_of_ble_eq_true rfl) (kcX11_in (by omega) (by omega) (by omega)) rfl rfl (Nat.le_of_ble_eq_true rfl) ?_
          refine fr_ifb_eq (tgt := 69) dX11_rotaBars_62 (by decide) (fun h5 => ?_) (fun h5 => ?_)
          · skip
            refine fr_bipush dX11_rotaBars_69 (by decide) ?_
            refine fr_is5 dX11_rotaBars_71 rfl (Nat.le_of_ble_eq_true rfl) ?_
            refine fr_ii6 dX11_rotaBars_73 rfl (Nat.le_of_ble_eq_true rfl) ?_
            refine fr_goto (tgt := 14) dX11_rotaBars_76 (by decide) ?_
            refine fr_il6 dX11_rotaBars_14 ?_
            refine fr_il4 dX11_rotaBars_16 ?_
            refine fr_icmp_ge (tgt := 79) dX11_rotaBars_18 (by decide) (by omega) (by omega) (fun h6 => ?_) (fun h6 => ?_)
            · skip
              refine fr_il5 dX11_rotaBars_79 ?_
              exact fr_iret dX11_rotaBars_81 rfl (fr_pi ⟨rfl, by first | exact Or.inl ⟨hz, rfl⟩ | exact Or.inr (Or.inl ⟨hz, fun k h0 h1 => hall k h0 (by omega), rfl⟩) | exact Or.inr (Or.inr ⟨hz, fun h => by have h9 := h (j : Int) (by omega) (by omega); simp only [← ej] at h9; omega, rfl⟩)⟩)
            · skip
              refine fr_il5 dX11_rotaBars_21 ?_
              refine fr_if_ne (tgt := 79) dX11_rotaBars_23 (by decide) (by decide) (fun _ => ?_) (fun h7 => absurd h7 (by decide))
              refine fr_il5 dX11_rotaBars_79 ?_
              exact fr_iret dX11_rotaBars_81 rfl (fr_pi ⟨rfl, by first | exact Or.inl ⟨hz, rfl⟩ | exact Or.inr (Or.inl ⟨hz, fun k h0 h1 => hall k h0 (by omega), rfl⟩) | exact Or.inr (Or.inr ⟨hz, fun h => by have h9 := h (j : Int) (by omega) (by omega); simp only [← ej] at h9; omega, rfl⟩)⟩)
          · skip
            refine fr_iconst dX11_rotaBars_65 ?_
            refine fr_goto (tgt := 71) dX11_rotaBars_66 (by decide) ?_
            refine fr_is5 dX11_rotaBars_71 rfl (Nat.le_of_ble_eq_true rfl) ?_
            refine fr_ii6 dX11_rotaBars_73 rfl (Nat.le_of_ble_eq_true rfl) ?_
            refine fr_goto (tgt := 14) dX11_rotaBars_76 (by decide) ?_
            exact fr_wk (ih14 _ (⟨rfl, fun k h0 h1 => (by omega : k < j ∨ k = j).elim (fun h => hall k h0 h) (fun h => by subst h; rw [← ej]; omega)⟩)) ⟨rfl, rfl, rfl, rfl, rfl, rfl, rfl, trivial⟩
  · skip
    refine fr_il6 dX11_rotaBars_14 ?_
    refine fr_il4 dX11_rotaBars_16 ?_
    refine fr_icmp_ge (tgt := 79) dX11_rotaBars_18 (by decide) (by omega) (by omega) (fun h8 => ?_) (fun h8 => ?_)
    · skip
      refine fr_il5 dX11_rotaBars_79 ?_
      exact fr_iret dX11_rotaBars_81 rfl (fr_pi ⟨rfl, by first | exact Or.inl ⟨hz, rfl⟩ | exact Or.inr (Or.inl ⟨hz, fun k h0 h1 => hall k h0 (by omega), rfl⟩) | exact Or.inr (Or.inr ⟨hz, fun h => by have h9 := h (j : Int) (by omega) (by omega); simp only [← ej] at h9; omega, rfl⟩)⟩)
    · skip
      refine fr_il5 dX11_rotaBars_21 ?_
      refine fr_if_ne (tgt := 79) dX11_rotaBars_23 (by decide) (by omega) (fun h9 => ?_) (fun h9 => ?_)
      · skip
        refine fr_il5 dX11_rotaBars_79 ?_
        exact fr_iret dX11_rotaBars_81 rfl (fr_pi ⟨rfl, by first | exact Or.inl ⟨hz, rfl⟩ | exact Or.inr (Or.inl ⟨hz, fun k h0 h1 => hall k h0 (by omega), rfl⟩) | exact Or.inr (Or.inr ⟨hz, fun h => by have h9 := h (j : Int) (by omega) (by omega); simp only [← ej] at h9; omega, rfl⟩)⟩)
      · skip
        exfalso; omega
set_option maxRecDepth 20000 in
theorem kcX11_earned {l : Launch} {κ : fr_Ka} {μ : fr_Me} (hI : fr_I (μ 67)) (hS : fr_Sh μ) {s lane i n mm : Int} (rs : -2147483648 ≤ s ∧ s ≤ 2147483647) (rlane : -2147483648 ≤ lane ∧ lane ≤ 2147483647) (ri : -2147483648 ≤ i ∧ i ≤ 2147483647) (rn : -2147483648 ≤ n ∧ n ≤ 2147483647) (rmm : -2147483648 ≤ mm ∧ mm ≤ 2147483647) : fr_C l κ fmX11_earned 4 [fr_r κ 66, fr_i s, fr_i lane, fr_i i, fr_i n, fr_i mm] μ (fr_Pi (fun z m => (∀ c, c ≠ 79 → m c = μ c) ∧ ((¬ ((0 ≤ s ∧ s ≤ 3) ∧ (0 ≤ lane ∧ lane ≤ 3) ∧ (1 ≤ n ∧ n ≤ 8) ∧ (0 ≤ mm ∧ mm ≤ 200)) ∧ z = -100001) ∨ (((0 ≤ s ∧ s ≤ 3) ∧ (0 ≤ lane ∧ lane ≤ 3) ∧ (1 ≤ n ∧ n ≤ 8) ∧ (0 ≤ mm ∧ mm ≤ 200)) ∧ sp_bars (μ 75 s) (μ 76 s) lane i n ≠ 0 ∧ z = sp_bars (μ 75 s) (μ 76 s) lane i n - 100000) ∨ (((0 ≤ s ∧ s ≤ 3) ∧ (0 ≤ lane ∧ lane ≤ 3) ∧ (1 ≤ n ∧ n ≤ 8) ∧ (0 ≤ mm ∧ mm ≤ 200)) ∧ sp_bars (μ 75 s) (μ 76 s) lane i n = 0 ∧ ¬ sp_folks (μ 67) (fun k => μ 77 (16 * s + i + k)) n ∧ z = -100002) ∨ (((0 ≤ s ∧ s ≤ 3) ∧ (0 ≤ lane ∧ lane ≤ 3) ∧ (1 ≤ n ∧ n ≤ 8) ∧ (0 ≤ mm ∧ mm ≤ 200)) ∧ sp_bars (μ 75 s) (μ 76 s) lane i n = 0 ∧ sp_folks (μ 67) (fun k => μ 77 (16 * s + i + k)) n ∧ z = sp_sum mm.toNat (fun y => sp_rv (μ 67) (fun k => μ 77 (16 * s + i + k)) n (y + 1)))))) := by
  have iN := hI.n
  have iM := hI.many
  have hbr := sp_bars_rg (μ 75 s) (μ 76 s) lane i n
  refine fr_enter (by decide +kernel) (ls := [some (fr_r κ 66), some (fr_i s), some (fr_i lane), some (fr_i i), some (fr_i n), some (fr_i mm), none, none, none]) rfl (Nat.le_of_ble_eq_true rfl) ?_
  refine fr_il1 dX11_earned_0 ?_
  refine fr_cSi (mi' := fmX11_isSheet) dX11_earned_1 mlX11_237 msX11_isSheet (Nat.le_of_ble_eq_true rfl) (kcX11_isSheet (by omega)) rfl rfl (Nat.le_of_ble_eq_true rfl) ?_
  refine fr_ifb_eq (tgt := 40) dX11_earned_4 (by decide) (fun h1 => ?_) (fun h1 => ?_)
  · skip
    refine fr_ldc dX11_earned_40 cnX11_84 ?_
    exact fr_iret dX11_earned_42 rfl (fr_pi (by first | exact ⟨fun c _ => rfl, Or.inl ⟨by omega, rfl⟩⟩ | exact ⟨hm.1, Or.inr (Or.inr (Or.inr ⟨by omega, hb0, hfk, rfl⟩))⟩ | (rcases hz0 with h | h | h) <;> first | exact ⟨fun c _ => rfl, Or.inr (Or.inl ⟨by omega, h.1, by omega⟩)⟩ | exact ⟨fun c _ => rfl, Or.inr (Or.inr (Or.inl ⟨by omega, h.1, h.2.1, by omega⟩))⟩ | (exfalso; omega)))
  · skip
    refine fr_il2 dX11_earned_7 ?_
    refine fr_cSi (mi' := fmX11_isLane) dX11_earned_8 mlX11_240 msX11_isLane (Nat.le_of_ble_eq_true rfl) (kcX11_isLane (by omega)) rfl rfl (Nat.le_of_ble_eq_true rfl) ?_
    refine fr_ifb_eq (tgt := 40) dX11_earned_11 (by decide) (fun h2 => ?_) (fun h2 => ?_)
    · skip
      refine fr_ldc dX11_earned_40 cnX11_84 ?_
      exact fr_iret dX11_earned_42 rfl (fr_pi (by first | exact ⟨fun c _ => rfl, Or.inl ⟨by omega, rfl⟩⟩ | exact ⟨hm.1, Or.inr (Or.inr (Or.inr ⟨by omega, hb0, hfk, rfl⟩))⟩ | (rcases hz0 with h | h | h) <;> first | exact ⟨fun c _ => rfl, Or.inr (Or.inl ⟨by omega, h.1, by omega⟩)⟩ | exact ⟨fun c _ => rfl, Or.inr (Or.inr (Or.inl ⟨by omega, h.1, h.2.1, by omega⟩))⟩ | (exfalso; omega)))
    · skip
      refine fr_il4 dX11_earned_14 ?_
      refine fr_i2l dX11_earned_16 (by omega) ?_
      refine fr_lconst1 dX11_earned_17 ?_
      refine fr_ldc2 dX11_earned_18 clX11_254 ?_
      refine fr_cSi (mi' := fmX11_in) dX11_earned_21 mlX11_51 msX11_in (Nat.le_of_ble_eq_true rfl) (kcX11_in (by omega) (by omega) (by omega)) rfl rfl (Nat.le_of_ble_eq_true rfl) ?_
      refine fr_ifb_eq (tgt := 40) dX11_earned_24 (by decide) (fun h3 => ?_) (fun h3 => ?_)
      · skip
        refine fr_ldc dX11_earned_40 cnX11_84 ?_
        exact fr_iret dX11_earned_42 rfl (fr_pi (by first | exact ⟨fun c _ => rfl, Or.inl ⟨by omega, rfl⟩⟩ | exact ⟨hm.1, Or.inr (Or.inr (Or.inr ⟨by omega, hb0, hfk, rfl⟩))⟩ | (rcases hz0 with h | h | h) <;> first | exact ⟨fun c _ => rfl, Or.inr (Or.inl ⟨by omega, h.1, by omega⟩)⟩ | exact ⟨fun c _ => rfl, Or.inr (Or.inr (Or.inl ⟨by omega, h.1, h.2.1, by omega⟩))⟩ | (exfalso; omega)))
      · skip
        refine fr_il5 dX11_earned_27 ?_
        refine fr_i2l dX11_earned_29 (by omega) ?_
        refine fr_lconst0 dX11_earned_30 ?_
        refine fr_ldc2 dX11_earned_31 clX11_256 ?_
        refine fr_cSi (mi' := fmX11_in) dX11_earned_34 mlX11_51 msX11_in (Nat.le_of_ble_eq_true rfl) (kcX11_in (by omega) (by omega) (by omega)) rfl rfl (Nat.le_of_ble_eq_true rfl) ?_
        refine fr_ifb_ne (tgt := 43) dX11_earned_37 (by decide) (fun h4 => ?_) (fun h4 => ?_)
        · skip
          refine fr_al0 dX11_earned_43 ?_
          refine fr_il1 dX11_earned_44 ?_
          refine fr_il2 dX11_earned_45 ?_
          refine fr_il3 dX11_earned_46 ?_
          refine fr_il4 dX11_earned_47 ?_
          refine fr_cVP (mi' := fmX11_rotaBars) dX11_earned_49 mlX11_258 mvX11_rotaBars ⟨11, _, ⟨by decide, by decide, rfl⟩, rfl, rfl⟩ (Nat.le_of_ble_eq_true rfl) (kcX11_rotaBars hI hS (by omega) (by omega) (by omega) (by omega)) rfl rfl (Nat.le_of_ble_eq_true rfl) (fun z0 m0 hz0 => ?_)
          obtain ⟨rfl, hz0⟩ := hz0
          refine fr_is6 dX11_earned_52 rfl (Nat.le_of_ble_eq_true rfl) ?_
          refine fr_il6 dX11_earned_54 ?_
          refine fr_if_eq (tgt := 66) dX11_earned_56 (by decide) (by omega) (fun h5 => ?_) (fun h5 => ?_)
          · skip
            refine fr_al0 dX11_earned_66 ?_
            refine fr_iconst dX11_earned_67 ?_
            refine fr_cVQ (mi' := fmX11_layState) dX11_earned_68 mlX11_262 mvX11_layState ⟨11, _, ⟨by decide, by decide, rfl⟩, rfl, rfl⟩ (Nat.le_of_ble_eq_true rfl) (kcX11_layState) rfl rfl (Nat.le_of_ble_eq_true rfl) (fun m1 hm1 => ?_)
            have hw1 : m1 67 = μ 67 := hm1.2.2 67 (by omega)
            refine fr_iconst dX11_earned_71 ?_
            refine fr_is7 dX11_earned_72 rfl (Nat.le_of_ble_eq_true rfl) ?_
            refine fr_iconst dX11_earned_74 ?_
            refine fr_is8 dX11_earned_75 rfl (Nat.le_of_ble_eq_true rfl) ?_
            have hz00 : z0 = 0 := by omega
            have hb0 : sp_bars (μ 75 s) (μ 76 s) lane i n = 0 := by omega
            have hfk : sp_folks (μ 67) (fun k => μ 77 (16 * s + i + k)) n := by rcases hz0 with h | h | h <;> first | exact h.2.1 | (exfalso; omega)
            have hb := sp_bars0 hb0
            have hsz := hS.1 s (by omega) (by omega)
            refine fr_wk ?_ (ls := [some (fr_r κ 66), some (fr_i s), some (fr_i lane), some (fr_i i), some (fr_i n), some (fr_i mm), none, some (fr_i (sp_sum 0 (fun y => sp_rv (μ 67) (fun k => μ 77 (16 * s + i + k)) n (y + 1)))), some (fr_i (0 : Int))]) ⟨rfl, rfl, rfl, rfl, rfl, rfl, rfl, rfl, trivial⟩
            refine (fr_down (P := fun j : Nat => ∀ (m : fr_Me), ((∀ c, c ≠ 79 → m c = μ c) ∧ sp_sts (μ 67) (fun k => μ 77 (16 * s + i + k)) n (m 79) j) → fr_A l κ fmX11_earned 4 (fr_Pi (fun z m => (∀ c, c ≠ 79 → m c = μ c) ∧ ((¬ ((0 ≤ s ∧ s ≤ 3) ∧ (0 ≤ lane ∧ lane ≤ 3) ∧ (1 ≤ n ∧ n ≤ 8) ∧ (0 ≤ mm ∧ mm ≤ 200)) ∧ z = -100001) ∨ (((0 ≤ s ∧ s ≤ 3) ∧ (0 ≤ lane ∧ lane ≤ 3) ∧ (1 ≤ n ∧ n ≤ 8) ∧ (0 ≤ mm ∧ mm ≤ 200)) ∧ sp_bars (μ 75 s) (μ 76 s) lane i n ≠ 0 ∧ z = sp_bars (μ 75 s) (μ 76 s) lane i n - 100000) ∨ (((0 ≤ s ∧ s ≤ 3) ∧ (0 ≤ lane ∧ lane ≤ 3) ∧ (1 ≤ n ∧ n ≤ 8) ∧ (0 ≤ mm ∧ mm ≤ 200)) ∧ sp_bars (μ 75 s) (μ 76 s) lane i n = 0 ∧ ¬ sp_folks (μ 67) (fun k => μ 77 (16 * s + i + k)) n ∧ z = -100002) ∨ (((0 ≤ s ∧ s ≤ 3) ∧ (0 ≤ lane ∧ lane ≤ 3) ∧ (1 ≤ n ∧ n ≤ 8) ∧ (0 ≤ mm ∧ mm ≤ 200)) ∧ sp_bars (μ 75 s) (μ 76 s) lane i n = 0 ∧ sp_folks (μ 67) (fun k => μ 77 (16 * s + i + k)) n ∧ z = sp_sum mm.toNat (fun y => sp_rv (μ 67) (fun k => μ 77 (16 * s + i + k)) n (y + 1)))))) 77 [some (fr_r κ 66), some (fr_i s), some (fr_i lane), some (fr_i i), some (fr_i n), some (fr_i mm), none, some (fr_i (sp_sum j (fun y => sp_rv (μ 67) (fun k => μ 77 (16 * s + i + k)) n (y + 1)))), some (fr_i (j : Int))] [] m) mm.toNat ?_ (fun j hj77 ih77 => ?_)) _ (⟨hm1.2.2, sp_sts.zero (by omega) hm1.1⟩)
            · skip
              intro m hm
              refine fr_il8 dX11_earned_77 ?_
              refine fr_il5 dX11_earned_79 ?_
              refine fr_icmp_ge (tgt := 117) dX11_earned_81 (by decide) (by omega) (by omega) (fun h6 => ?_) (fun h6 => ?_)
              · skip
                refine fr_il7 dX11_earned_117 ?_
                exact fr_iret dX11_earned_119 rfl (fr_pi (by first | exact ⟨fun c _ => rfl, Or.inl ⟨by omega, rfl⟩⟩ | exact ⟨hm.1, Or.inr (Or.inr (Or.inr ⟨by omega, hb0, hfk, rfl⟩))⟩ | (rcases hz0 with h | h | h) <;> first | exact ⟨fun c _ => rfl, Or.inr (Or.inl ⟨by omega, h.1, by omega⟩)⟩ | exact ⟨fun c _ => rfl, Or.inr (Or.inr (Or.inl ⟨by omega, h.1, h.2.1, by omega⟩))⟩ | (exfalso; omega)))
              · skip
                exfalso; omega
            · skip
              intro m hm
              have hw : m 67 = μ 67 := hm.1 67 (by omega)
              have hit : m 77 = μ 77 := hm.1 77 (by omega)
              refine fr_il8 dX11_earned_77 ?_
              refine fr_il5 dX11_earned_79 ?_
              refine fr_icmp_ge (tgt := 117) dX11_earned_81 (by decide) (by omega) (by omega) (fun h7 => ?_) (fun h7 => ?_)
              · skip
                exfalso; omega
              · skip
                refine fr_al0 dX11_earned_84 ?_
                refine fr_il8 dX11_earned_85 ?_
                refine fr_bipush dX11_earned_87 (by decide) ?_
                refine fr_il1 dX11_earned_89 ?_
                refine fr_imul dX11_earned_90 ?_
                refine fr_il3 dX11_earned_91 ?_
                refine fr_iadd dX11_earned_92 ?_
                refine fr_il4 dX11_earned_93 ?_
                refine fr_cVQ (mi' := fmX11_rotaYear) dX11_earned_95 mlX11_266 mvX11_rotaYear ⟨11, _, ⟨by decide, by decide, rfl⟩, rfl, rfl⟩ (Nat.le_of_ble_eq_true rfl) (kcX11_rotaYear (by rw [hw]; exact iN) (by omega) (by omega) (by omega)) rfl rfl (Nat.le_of_ble_eq_true rfl) (fun m2 hm2 => ?_)
                have hw2 : m2 67 = μ 67 := (hm2.2.2 67 (by omega)).trans hw
                have hs2 : sp_sts (μ 67) (fun k => μ 77 (16 * s + i + k)) n (m2 79) (j + 1) := by refine sp_sts.succ (by omega) hm.2 (fun t h0 h1 => ?_); rw [hw] at hm2; have := hm2.1 t h0 h1; rw [hit] at this; exact this
                refine fr_il7 dX11_earned_98 ?_
                refine fr_al0 dX11_earned_100 ?_
                refine fr_il8 dX11_earned_101 ?_
                refine fr_iconst dX11_earned_103 ?_
                refine fr_iadd dX11_earned_104 ?_
                refine fr_cVi (mi' := fmX11_valueBehind) dX11_earned_105 mlX11_270 mvX11_valueBehind ⟨11, _, ⟨by decide, by decide, rfl⟩, rfl, rfl⟩ (Nat.le_of_ble_eq_true rfl) (kcX11_valueBehind (by rw [hw2]; exact hI) (by omega) (by rw [hw2]; exact hs2.okst hI hfk (by omega) (by omega))) rfl rfl (Nat.le_of_ble_eq_true rfl) ?_
                rw [hw2, hs2.vb iN.1]
                refine fr_iadd dX11_earned_108 ?_
                refine fr_is7 dX11_earned_109 rfl (Nat.le_of_ble_eq_true rfl) ?_
                refine fr_ii8 dX11_earned_111 rfl (Nat.le_of_ble_eq_true rfl) ?_
                refine fr_goto (tgt := 77) dX11_earned_114 (by decide) ?_
                exact fr_wk (ih77 _ (⟨fun c hc => (hm2.2.2 c hc).trans (hm.1 c hc), hs2⟩)) ⟨rfl, rfl, rfl, rfl, rfl, rfl, rfl, rfl, trivial⟩
          · skip
            refine fr_il6 dX11_earned_59 ?_
            refine fr_ldcw dX11_earned_61 cnX11_261 ?_
            refine fr_isub dX11_earned_64 ?_
            exact fr_iret dX11_earned_65 rfl (fr_pi (by first | exact ⟨fun c _ => rfl, Or.inl ⟨by omega, rfl⟩⟩ | exact ⟨hm.1, Or.inr (Or.inr (Or.inr ⟨by omega, hb0, hfk, rfl⟩))⟩ | (rcases hz0 with h | h | h) <;> first | exact ⟨fun c _ => rfl, Or.inr (Or.inl ⟨by omega, h.1, by omega⟩)⟩ | exact ⟨fun c _ => rfl, Or.inr (Or.inr (Or.inl ⟨by omega, h.1, h.2.1, by omega⟩))⟩ | (exfalso; omega)))
        · skip
          refine fr_ldc dX11_earned_40 cnX11_84 ?_
          exact fr_iret dX11_earned_42 rfl (fr_pi (by first | exact ⟨fun c _ => rfl, Or.inl ⟨by omega, rfl⟩⟩ | exact ⟨hm.1, Or.inr (Or.inr (Or.inr ⟨by omega, hb0, hfk, rfl⟩))⟩ | (rcases hz0 with h | h | h) <;> first | exact ⟨fun c _ => rfl, Or.inr (Or.inl ⟨by omega, h.1, by omega⟩)⟩ | exact ⟨fun c _ => rfl, Or.inr (Or.inr (Or.inl ⟨by omega, h.1, h.2.1, by omega⟩))⟩ | (exfalso; omega)))
set_option maxRecDepth 20000 in
theorem kcX11_areAlike {l : Launch} {κ : fr_Ka} {μ : fr_Me} (hN : 0 ≤ μ 67 0 ∧ μ 67 0 ≤ 6) {y z : Int} (hy : 0 ≤ y ∧ y ≤ 200) (hz : 0 ≤ z ∧ z ≤ 200) (hr : ∀ x, (x = y ∨ x = z) → ∀ t, 0 ≤ t → t < μ 67 0 → ∀ q, 0 ≤ q → q < 4 → 0 ≤ μ 79 (24 * x + 6 * q + t) ∧ μ 79 (24 * x + 6 * q + t) ≤ 5) : fr_C l κ fmX11_areAlike 1 [fr_r κ 66, fr_i y, fr_i z] μ (fr_Ei (fr_b (sp_sa (μ 79) (μ 67 0) y z)) μ) := by
  refine fr_enter (by decide +kernel) (ls := [some (fr_r κ 66), some (fr_i y), some (fr_i z), none, none, none]) rfl (Nat.le_of_ble_eq_true rfl) ?_
  refine fr_iconst dX11_areAlike_0 ?_
  refine fr_is3 dX11_areAlike_1 rfl (Nat.le_of_ble_eq_true rfl) ?_
  refine fr_iconst dX11_areAlike_2 ?_
  refine fr_is4 dX11_areAlike_3 rfl (Nat.le_of_ble_eq_true rfl) ?_
  refine fr_wk ?_ (ls := [some (fr_r κ 66), some (fr_i y), some (fr_i z), some (fr_i _), some (fr_i (0 : Int)), none]) ⟨rfl, rfl, rfl, rfl, rfl, trivial⟩
  refine (fr_down (P := fun j : Nat => ∀ (x : Int), (x = fr_b (∀ t : Int, 0 ≤ t → t < j → ∀ q : Int, 0 ≤ q → q < 4 → μ 79 (24 * y + 6 * q + t) = μ 79 (24 * z + 6 * q + t))) → fr_A l κ fmX11_areAlike 1 (fr_Ei (fr_b (sp_sa (μ 79) (μ 67 0) y z)) μ) 5 [some (fr_r κ 66), some (fr_i y), some (fr_i z), some (fr_i x), some (fr_i (j : Int)), none] [] μ) (μ 67 0).toNat ?_ (fun j hj5 ih5 => ?_)) _ ((fr_bT (fun t h0 h1 => by omega)).symm)
  · skip
    intro x hx
    rcases Classical.em (∀ t : Int, 0 ≤ t → t < (μ 67 0).toNat → ∀ q : Int, 0 ≤ q → q < 4 → μ 79 (24 * y + 6 * q + t) = μ 79 (24 * z + 6 * q + t)) with hP | hP
    · skip
      rw [fr_bT hP] at hx
      subst hx
      refine fr_il4 dX11_areAlike_5 ?_
      refine fr_al0 dX11_areAlike_7 ?_
      refine fr_getr (cz := 67) dX11_areAlike_8 flX11_7 ⟨by decide, by decide, rfl⟩ rfl rfl ?_
      refine fr_iconst dX11_areAlike_11 ?_
      refine fr_iald dX11_areAlike_12 ⟨by decide, by decide, rfl, by decide⟩ (by omega) (by omega) ?_
      refine fr_icmp_ge (tgt := 86) dX11_areAlike_13 (by decide) (by omega) (by omega) (fun h1 => ?_) (fun h1 => ?_)
      · skip
        refine fr_il3 dX11_areAlike_86 ?_
        exact fr_zret dX11_areAlike_87 rfl (Or.inr rfl) (fr_e (by first | exact (fr_bT (fun t h0 h1 => hP t h0 (by omega))).symm | exact (fr_bF (fun h => hP (fun t h0 h1 => h t h0 (by omega)))).symm) rfl)
      · skip
        exfalso; omega
    · skip
      rw [fr_bF hP] at hx
      subst hx
      refine fr_il4 dX11_areAlike_5 ?_
      refine fr_al0 dX11_areAlike_7 ?_
      refine fr_getr (cz := 67) dX11_areAlike_8 flX11_7 ⟨by decide, by decide, rfl⟩ rfl rfl ?_
      refine fr_iconst dX11_areAlike_11 ?_
      refine fr_iald dX11_areAlike_12 ⟨by decide, by decide, rfl, by decide⟩ (by omega) (by omega) ?_
      refine fr_icmp_ge (tgt := 86) dX11_areAlike_13 (by decide) (by omega) (by omega) (fun h2 => ?_) (fun h2 => ?_)
      · skip
        refine fr_il3 dX11_areAlike_86 ?_
        exact fr_zret dX11_areAlike_87 rfl (Or.inl rfl) (fr_e (by first | exact (fr_bT (fun t h0 h1 => hP t h0 (by omega))).symm | exact (fr_bF (fun h => hP (fun t h0 h1 => h t h0 (by omega)))).symm) rfl)
      · skip
        exfalso; omega
  · skip
    intro x hx
    rcases Classical.em (∀ t : Int, 0 ≤ t → t < j → ∀ q : Int, 0 ≤ q → q < 4 → μ 79 (24 * y + 6 * q + t) = μ 79 (24 * z + 6 * q + t)) with hP | hP
    · skip
      rw [fr_bT hP] at hx
      subst hx
      refine fr_il4 dX11_areAlike_5 ?_
      refine fr_al0 dX11_areAlike_7 ?_
      refine fr_getr (cz := 67) dX11_areAlike_8 flX11_7 ⟨by decide, by decide, rfl⟩ rfl rfl ?_
      refine fr_iconst dX11_areAlike_11 ?_
      refine fr_iald dX11_areAlike_12 ⟨by decide, by decide, rfl, by decide⟩ (by omega) (by omega) ?_
      refine fr_icmp_ge (tgt := 86) dX11_areAlike_13 (by decide) (by omega) (by omega) (fun h3 => ?_) (fun h3 => ?_)
      · skip
        exfalso; omega
      · skip
        refine fr_iconst dX11_areAlike_16 ?_
        refine fr_is5 dX11_areAlike_17 rfl (Nat.le_of_ble_eq_true rfl) ?_
        refine fr_wk ?_ (ls := [some (fr_r κ 66), some (fr_i y), some (fr_i z), some (fr_i _), some (fr_i (j : Int)), some (fr_i (0 : Int))]) ⟨rfl, rfl, rfl, rfl, rfl, rfl, trivial⟩
        refine (fr_down (P := fun i : Nat => ∀ (x : Int), (x = fr_b ((∀ t : Int, 0 ≤ t → t < j → ∀ q : Int, 0 ≤ q → q < 4 → μ 79 (24 * y + 6 * q + t) = μ 79 (24 * z + 6 * q + t)) ∧ ∀ q : Int, 0 ≤ q → q < i → μ 79 (24 * y + 6 * q + j) = μ 79 (24 * z + 6 * q + j))) → fr_A l κ fmX11_areAlike 1 (fr_Ei (fr_b (sp_sa (μ 79) (μ 67 0) y z)) μ) 19 [some (fr_r κ 66), some (fr_i y), some (fr_i z), some (fr_i x), some (fr_i (j : Int)), some (fr_i (i : Int))] [] μ) 4 ?_ (fun i hj19 ih19 => ?_)) _ ((fr_bT ⟨hP, fun q h0 h1 => by omega⟩).symm)
        · skip
          intro x hx
          rcases Classical.em ((∀ t : Int, 0 ≤ t → t < j → ∀ q : Int, 0 ≤ q → q < 4 → μ 79 (24 * y + 6 * q + t) = μ 79 (24 * z + 6 * q + t)) ∧ ∀ q : Int, 0 ≤ q → q < (4 : Nat) → μ 79 (24 * y + 6 * q + j) = μ 79 (24 * z + 6 * q + j)) with hR | hR
          · skip
            rw [fr_bT hR] at hx
            subst hx
            refine fr_il5 dX11_areAlike_19 ?_
            refine fr_iconst dX11_areAlike_21 ?_
            refine fr_icmp_ge (tgt := 80) dX11_areAlike_22 (by decide) (by omega) (by omega) (fun h4 => ?_) (fun h4 => ?_)
            · skip
              refine fr_ii4 dX11_areAlike_80 rfl (Nat.le_of_ble_eq_true rfl) ?_
              refine fr_goto (tgt := 5) dX11_areAlike_83 (by decide) ?_
              exact fr_wk (ih5 _ ((fr_bT (fun (t : Int) h0 h1 (q : Int) q0 q1 => (by omega : t < (j : Int) ∨ t = (j : Int)).elim (fun h => hR.1 t h0 h q q0 q1) (fun h => by subst h; exact hR.2 q q0 (by omega)))).symm)) ⟨rfl, rfl, rfl, rfl, rfl, trivial⟩
            · skip
              exfalso; omega
          · skip
            rw [fr_bF hR] at hx
            subst hx
            refine fr_il5 dX11_areAlike_19 ?_
            refine fr_iconst dX11_areAlike_21 ?_
            refine fr_icmp_ge (tgt := 80) dX11_areAlike_22 (by decide) (by omega) (by omega) (fun h5 => ?_) (fun h5 => ?_)
            · skip
              refine fr_ii4 dX11_areAlike_80 rfl (Nat.le_of_ble_eq_true rfl) ?_
              refine fr_goto (tgt := 5) dX11_areAlike_83 (by decide) ?_
              exact fr_wk (ih5 _ ((fr_bF (fun h => hR ⟨fun t h0 h1 => h t h0 (by omega), fun q h0 h1 => h j (by omega) (by omega) q h0 (by omega)⟩)).symm)) ⟨rfl, rfl, rfl, rfl, rfl, trivial⟩
            · skip
              exfalso; omega
        · skip
          intro x hx
          have h1 := hr y (Or.inl rfl) (j : Int) (by omega) (by omega) (i : Int) (by omega) (by omega)
          have h2 := hr z (Or.inr rfl) (j : Int) (by omega) (by omega) (i : Int) (by omega) (by omega)
          rcases Classical.em ((∀ t : Int, 0 ≤ t → t < j → ∀ q : Int, 0 ≤ q → q < 4 → μ 79 (24 * y + 6 * q + t) = μ 79 (24 * z + 6 * q + t)) ∧ ∀ q : Int, 0 ≤ q → q < i → μ 79 (24 * y + 6 * q + j) = μ 79 (24 * z + 6 * q + j)) with hR | hR
          · skip
            rw [fr_bT hR] at hx
            subst hx
            refine fr_il5 dX11_areAlike_19 ?_
            refine fr_iconst dX11_areAlike_21 ?_
            refine fr_icmp_ge (tgt := 80) dX11_areAlike_22 (by decide) (by omega) (by omega) (fun h6 => ?_) (fun h6 => ?_)
            · skip
              exfalso; omega
            · skip
              refine fr_il3 dX11_areAlike_25 ?_
              refine fr_if_eq (tgt := 72) dX11_areAlike_26 (by decide) (by decide) (fun h7 => absurd h7 (by decide)) (fun _ => ?_)
              refine fr_al0 dX11_areAlike_29 ?_
              refine fr_getr (cz := 79) dX11_areAlike_30 flX11_48 ⟨by decide, by decide, rfl⟩ rfl rfl ?_
              refine fr_bipush dX11_areAlike_33 (by decide) ?_
              refine fr_il1 dX11_areAlike_35 ?_
              refine fr_imul dX11_areAlike_36 ?_
              refine fr_bipush dX11_areAlike_37 (by decide) ?_
              refine fr_il5 dX11_areAlike_39 ?_
              refine fr_imul dX11_areAlike_41 ?_
              refine fr_iadd dX11_areAlike_42 ?_
              refine fr_il4 dX11_areAlike_43 ?_
              refine fr_iadd dX11_areAlike_45 ?_
              refine fr_iald dX11_areAlike_46 ⟨by decide, by decide, rfl, by decide⟩ (by omega) (by omega) ?_
              refine fr_al0 dX11_areAlike_47 ?_
              refine fr_getr (cz := 79) dX11_areAlike_48 flX11_48 ⟨by decide, by decide, rfl⟩ rfl rfl ?_
              refine fr_bipush dX11_areAlike_51 (by decide) ?_
              refine fr_il2 dX11_areAlike_53 ?_
              refine fr_imul dX11_areAlike_54 ?_
              refine fr_bipush dX11_areAlike_55 (by decide) ?_
              refine fr_il5 dX11_areAlike_57 ?_
              refine fr_imul dX11_areAlike_59 ?_
              refine fr_iadd dX11_areAlike_60 ?_
              refine fr_il4 dX11_areAlike_61 ?_
              refine fr_iadd dX11_areAlike_63 ?_
              refine fr_iald dX11_areAlike_64 ⟨by decide, by decide, rfl, by decide⟩ (by omega) (by omega) ?_
              refine fr_icmp_ne (tgt := 72) dX11_areAlike_65 (by decide) (by omega) (by omega) (fun h8 => ?_) (fun h8 => ?_)
              · skip
                refine fr_iconst dX11_areAlike_72 ?_
                refine fr_is3 dX11_areAlike_73 rfl (Nat.le_of_ble_eq_true rfl) ?_
                refine fr_ii5 dX11_areAlike_74 rfl (Nat.le_of_ble_eq_true rfl) ?_
                refine fr_goto (tgt := 19) dX11_areAlike_77 (by decide) ?_
                exact fr_wk (ih19 _ ((fr_bF (by first | exact fun h => hR ⟨h.1, fun q h0 h1 => h.2 q h0 (by omega)⟩ | exact fun h => absurd (h.2 (i : Int) (by omega) (by omega)) (by assumption))).symm)) ⟨rfl, rfl, rfl, rfl, rfl, rfl, trivial⟩
              · skip
                refine fr_iconst dX11_areAlike_68 ?_
                refine fr_goto (tgt := 73) dX11_areAlike_69 (by decide) ?_
                refine fr_is3 dX11_areAlike_73 rfl (Nat.le_of_ble_eq_true rfl) ?_
                refine fr_ii5 dX11_areAlike_74 rfl (Nat.le_of_ble_eq_true rfl) ?_
                refine fr_goto (tgt := 19) dX11_areAlike_77 (by decide) ?_
                exact fr_wk (ih19 _ ((fr_bT ⟨hR.1, fun (q : Int) h0 h1 => (by omega : q < (i : Int) ∨ q = (i : Int)).elim (fun h => hR.2 q h0 h) (fun h => by subst h; assumption)⟩).symm)) ⟨rfl, rfl, rfl, rfl, rfl, rfl, trivial⟩
          · skip
            rw [fr_bF hR] at hx
            subst hx
            refine fr_il5 dX11_areAlike_19 ?_
            refine fr_iconst dX11_areAlike_21 ?_
            refine fr_icmp_ge (tgt := 80) dX11_areAlike_22 (by decide) (by omega) (by omega) (fun h9 => ?_) (fun h9 => ?_)
            · skip
              exfalso; omega
            · skip
              refine fr_il3 dX11_areAlike_25 ?_
              refine fr_if_eq (tgt := 72) dX11_areAlike_26 (by decide) (by decide) (fun _ => ?_) (fun h10 => absurd h10 (by decide))
              refine fr_iconst dX11_areAlike_72 ?_
              refine fr_is3 dX11_areAlike_73 rfl (Nat.le_of_ble_eq_true rfl) ?_
              refine fr_ii5 dX11_areAlike_74 rfl (Nat.le_of_ble_eq_true rfl) ?_
              refine fr_goto (tgt := 19) dX11_areAlike_77 (by decide) ?_
              exact fr_wk (ih19 _ ((fr_bF (by first | exact fun h => hR ⟨h.1, fun q h0 h1 => h.2 q h0 (by omega)⟩ | exact fun h => absurd (h.2 (i : Int) (by omega) (by omega)) (by assumption))).symm)) ⟨rfl, rfl, rfl, rfl, rfl, rfl, trivial⟩
    · skip
      rw [fr_bF hP] at hx
      subst hx
      refine fr_il4 dX11_areAlike_5 ?_
      refine fr_al0 dX11_areAlike_7 ?_
      refine fr_getr (cz := 67) dX11_areAlike_8 flX11_7 ⟨by decide, by decide, rfl⟩ rfl rfl ?_
      refine fr_iconst dX11_areAlike_11 ?_
      refine fr_iald dX11_areAlike_12 ⟨by decide, by decide, rfl, by decide⟩ (by omega) (by omega) ?_
      refine fr_icmp_ge (tgt := 86) dX11_areAlike_13 (by decide) (by omega) (by omega) (fun h11 => ?_) (fun h11 => ?_)
      · skip
        exfalso; omega
      · skip
        refine fr_iconst dX11_areAlike_16 ?_
        refine fr_is5 dX11_areAlike_17 rfl (Nat.le_of_ble_eq_true rfl) ?_
        refine fr_wk ?_ (ls := [some (fr_r κ 66), some (fr_i y), some (fr_i z), some (fr_i _), some (fr_i (j : Int)), some (fr_i (0 : Int))]) ⟨rfl, rfl, rfl, rfl, rfl, rfl, trivial⟩
        refine (fr_down (P := fun i : Nat => ∀ (x : Int), (x = fr_b ((∀ t : Int, 0 ≤ t → t < j → ∀ q : Int, 0 ≤ q → q < 4 → μ 79 (24 * y + 6 * q + t) = μ 79 (24 * z + 6 * q + t)) ∧ ∀ q : Int, 0 ≤ q → q < i → μ 79 (24 * y + 6 * q + j) = μ 79 (24 * z + 6 * q + j))) → fr_A l κ fmX11_areAlike 1 (fr_Ei (fr_b (sp_sa (μ 79) (μ 67 0) y z)) μ) 19 [some (fr_r κ 66), some (fr_i y), some (fr_i z), some (fr_i x), some (fr_i (j : Int)), some (fr_i (i : Int))] [] μ) 4 ?_ (fun i hj19 ih19 => ?_)) _ ((fr_bF (fun h => hP h.1)).symm)
        · skip
          intro x hx
          rcases Classical.em ((∀ t : Int, 0 ≤ t → t < j → ∀ q : Int, 0 ≤ q → q < 4 → μ 79 (24 * y + 6 * q + t) = μ 79 (24 * z + 6 * q + t)) ∧ ∀ q : Int, 0 ≤ q → q < (4 : Nat) → μ 79 (24 * y + 6 * q + j) = μ 79 (24 * z + 6 * q + j)) with hR | hR
          · skip
            rw [fr_bT hR] at hx
            subst hx
            refine fr_il5 dX11_areAlike_19 ?_
            refine fr_iconst dX11_areAlike_21 ?_
            refine fr_icmp_ge (tgt := 80) dX11_areAlike_22 (by decide) (by omega) (by omega) (fun h12 => ?_) (fun h12 => ?_)
            · skip
              refine fr_ii4 dX11_areAlike_80 rfl (Nat.le_of_ble_eq_true rfl) ?_
              refine fr_goto (tgt := 5) dX11_areAlike_83 (by decide) ?_
              exact fr_wk (ih5 _ ((fr_bT (fun (t : Int) h0 h1 (q : Int) q0 q1 => (by omega : t < (j : Int) ∨ t = (j : Int)).elim (fun h => hR.1 t h0 h q q0 q1) (fun h => by subst h; exact hR.2 q q0 (by omega)))).symm)) ⟨rfl, rfl, rfl, rfl, rfl, trivial⟩
            · skip
              exfalso; omega
          · skip
            rw [fr_bF hR] at hx
            subst hx
            refine fr_il5 dX11_areAlike_19 ?_
            refine fr_iconst dX11_areAlike_21 ?_
            refine fr_icmp_ge (tgt := 80) dX11_areAlike_22 (by decide) (by omega) (by omega) (fun h13 => ?_) (fun h13 => ?_)
            · skip
              refine fr_ii4 dX11_areAlike_80 rfl (Nat.le_of_ble_eq_true rfl) ?_
              refine fr_goto (tgt := 5) dX11_areAlike_83 (by decide) ?_
              exact fr_wk (ih5 _ ((fr_bF (fun h => hR ⟨fun t h0 h1 => h t h0 (by omega), fun q h0 h1 => h j (by omega) (by omega) q h0 (by omega)⟩)).symm)) ⟨rfl, rfl, rfl, rfl, rfl, trivial⟩
            · skip
              exfalso; omega
        · skip
          intro x hx
          have h1 := hr y (Or.inl rfl) (j : Int) (by omega) (by omega) (i : Int) (by omega) (by omega)
          have h2 := hr z (Or.inr rfl) (j : Int) (by omega) (by omega) (i : Int) (by omega) (by omega)
          rcases Classical.em ((∀ t : Int, 0 ≤ t → t < j → ∀ q : Int, 0 ≤ q → q < 4 → μ 79 (24 * y + 6 * q + t) = μ 79 (24 * z + 6 * q + t)) ∧ ∀ q : Int, 0 ≤ q → q < i → μ 79 (24 * y + 6 * q + j) = μ 79 (24 * z + 6 * q + j)) with hR | hR
          · skip
            rw [fr_bT hR] at hx
            subst hx
            refine fr_il5 dX11_areAlike_19 ?_
            refine fr_iconst dX11_areAlike_21 ?_
            refine fr_icmp_ge (tgt := 80) dX11_areAlike_22 (by decide) (by omega) (by omega) (fun h14 => ?_) (fun h14 => ?_)
            · skip
              exfalso; omega
            · skip
              refine fr_il3 dX11_areAlike_25 ?_
              refine fr_if_eq (tgt := 72) dX11_areAlike_26 (by decide) (by decide) (fun h15 => absurd h15 (by decide)) (fun _ => ?_)
              refine fr_al0 dX11_areAlike_29 ?_
              refine fr_getr (cz := 79) dX11_areAlike_30 flX11_48 ⟨by decide, by decide, rfl⟩ rfl rfl ?_
              refine fr_bipush dX11_areAlike_33 (by decide) ?_
              refine fr_il1 dX11_areAlike_35 ?_
              refine fr_imul dX11_areAlike_36 ?_
              refine fr_bipush dX11_areAlike_37 (by decide) ?_
              refine fr_il5 dX11_areAlike_39 ?_
              refine fr_imul dX11_areAlike_41 ?_
              refine fr_iadd dX11_areAlike_42 ?_
              refine fr_il4 dX11_areAlike_43 ?_
              refine fr_iadd dX11_areAlike_45 ?_
              refine fr_iald dX11_areAlike_46 ⟨by decide, by decide, rfl, by decide⟩ (by omega) (by omega) ?_
              refine fr_al0 dX11_areAlike_47 ?_
              refine fr_getr (cz := 79) dX11_areAlike_48 flX11_48 ⟨by decide, by decide, rfl⟩ rfl rfl ?_
              refine fr_bipush dX11_areAlike_51 (by decide) ?_
              refine fr_il2 dX11_areAlike_53 ?_
              refine fr_imul dX11_areAlike_54 ?_
              refine fr_bipush dX11_areAlike_55 (by decide) ?_
              refine fr_il5 dX11_areAlike_57 ?_
              refine fr_imul dX11_areAlike_59 ?_
              refine fr_iadd dX11_areAlike_60 ?_
              refine fr_il4 dX11_areAlike_61 ?_
              refine fr_iadd dX11_areAlike_63 ?_
              refine fr_iald dX11_areAlike_64 ⟨by decide, by decide, rfl, by decide⟩ (by omega) (by omega) ?_
              refine fr_icmp_ne (tgt := 72) dX11_areAlike_65 (by decide) (by omega) (by omega) (fun h16 => ?_) (fun h16 => ?_)
              · skip
                refine fr_iconst dX11_areAlike_72 ?_
                refine fr_is3 dX11_areAlike_73 rfl (Nat.le_of_ble_eq_true rfl) ?_
                refine fr_ii5 dX11_areAlike_74 rfl (Nat.le_of_ble_eq_true rfl) ?_
                refine fr_goto (tgt := 19) dX11_areAlike_77 (by decide) ?_
                exact fr_wk (ih19 _ ((fr_bF (by first | exact fun h => hR ⟨h.1, fun q h0 h1 => h.2 q h0 (by omega)⟩ | exact fun h => absurd (h.2 (i : Int) (by omega) (by omega)) (by assumption))).symm)) ⟨rfl, rfl, rfl, rfl, rfl, rfl, trivial⟩
              · skip
                refine fr_iconst dX11_areAlike_68 ?_
                refine fr_goto (tgt := 73) dX11_areAlike_69 (by decide) ?_
                refine fr_is3 dX11_areAlike_73 rfl (Nat.le_of_ble_eq_true rfl) ?_
                refine fr_ii5 dX11_areAlike_74 rfl (Nat.le_of_ble_eq_true rfl) ?_
                refine fr_goto (tgt := 19) dX11_areAlike_77 (by decide) ?_
                exact fr_wk (ih19 _ ((fr_bT ⟨hR.1, fun (q : Int) h0 h1 => (by omega : q < (i : Int) ∨ q = (i : Int)).elim (fun h => hR.2 q h0 h) (fun h => by subst h; assumption)⟩).symm)) ⟨rfl, rfl, rfl, rfl, rfl, rfl, trivial⟩
          · skip
            rw [fr_bF hR] at hx
            subst hx
            refine fr_il5 dX11_areAlike_19 ?_
            refine fr_iconst dX11_areAlike_21 ?_
            refine fr_icmp_ge (tgt := 80) dX11_areAlike_22 (by decide) (by omega) (by omega) (fun h17 => ?_) (fun h17 => ?_)
            · skip
              exfalso; omega
            · skip
              refine fr_il3 dX11_areAlike_25 ?_
              refine fr_if_eq (tgt := 72) dX11_areAlike_26 (by decide) (by decide) (fun _ => ?_) (fun h18 => absurd h18 (by decide))
              refine fr_iconst dX11_areAlike_72 ?_
              refine fr_is3 dX11_areAlike_73 rfl (Nat.le_of_ble_eq_true rfl) ?_
              refine fr_ii5 dX11_areAlike_74 rfl (Nat.le_of_ble_eq_true rfl) ?_
              refine fr_goto (tgt := 19) dX11_areAlike_77 (by decide) ?_
              exact fr_wk (ih19 _ ((fr_bF (by first | exact fun h => hR ⟨h.1, fun q h0 h1 => h.2 q h0 (by omega)⟩ | exact fun h => absurd (h.2 (i : Int) (by omega) (by omega)) (by assumption))).symm)) ⟨rfl, rfl, rfl, rfl, rfl, rfl, trivial⟩
set_option maxRecDepth 20000 in
theorem kcX11_again {l : Launch} {κ : fr_Ka} {μ : fr_Me} (hI : fr_I (μ 67)) (hS : fr_Sh μ) {s lane i n what : Int} (rs : -2147483648 ≤ s ∧ s ≤ 2147483647) (rlane : -2147483648 ≤ lane ∧ lane ≤ 2147483647) (ri : -2147483648 ≤ i ∧ i ≤ 2147483647) (rn : -2147483648 ≤ n ∧ n ≤ 2147483647) (rwhat : -2147483648 ≤ what ∧ what ≤ 2147483647) : fr_C l κ fmX11_again 4 [fr_r κ 66, fr_i s, fr_i lane, fr_i i, fr_i n, fr_i what] μ (fr_Pi (fun z m => (∀ c, c ≠ 79 → m c = μ c) ∧ ((¬ ((0 ≤ s ∧ s ≤ 3) ∧ (0 ≤ lane ∧ lane ≤ 3) ∧ (1 ≤ n ∧ n ≤ 8) ∧ (0 ≤ what ∧ what ≤ 1)) ∧ z = -1) ∨ (((0 ≤ s ∧ s ≤ 3) ∧ (0 ≤ lane ∧ lane ≤ 3) ∧ (1 ≤ n ∧ n ≤ 8) ∧ (0 ≤ what ∧ what ≤ 1)) ∧ sp_bars (μ 75 s) (μ 76 s) lane i n ≠ 0 ∧ z = sp_bars (μ 75 s) (μ 76 s) lane i n) ∨ (((0 ≤ s ∧ s ≤ 3) ∧ (0 ≤ lane ∧ lane ≤ 3) ∧ (1 ≤ n ∧ n ≤ 8) ∧ (0 ≤ what ∧ what ≤ 1)) ∧ sp_bars (μ 75 s) (μ 76 s) lane i n = 0 ∧ ¬ sp_folks (μ 67) (fun k => μ 77 (16 * s + i + k)) n ∧ z = -2) ∨ (((0 ≤ s ∧ s ≤ 3) ∧ (0 ≤ lane ∧ lane ≤ 3) ∧ (1 ≤ n ∧ n ≤ 8) ∧ (0 ≤ what ∧ what ≤ 1)) ∧ sp_bars (μ 75 s) (μ 76 s) lane i n = 0 ∧ sp_folks (μ 67) (fun k => μ 77 (16 * s + i + k)) n ∧ sp_ag (μ 67) (fun k => μ 77 (16 * s + i + k)) n what z)))) := by
  have iN := hI.n
  have iM := hI.many
  have hbr := sp_bars_rg (μ 75 s) (μ 76 s) lane i n
  refine fr_enter (by decide +kernel) (ls := [some (fr_r κ 66), some (fr_i s), some (fr_i lane), some (fr_i i), some (fr_i n), some (fr_i what), none, none, none]) rfl (Nat.le_of_ble_eq_true rfl) ?_
  refine fr_il1 dX11_again_0 ?_
  refine fr_cSi (mi' := fmX11_isSheet) dX11_again_1 mlX11_237 msX11_isSheet (Nat.le_of_ble_eq_true rfl) (kcX11_isSheet (by omega)) rfl rfl (Nat.le_of_ble_eq_true rfl) ?_
  refine fr_ifb_eq (tgt := 38) dX11_again_4 (by decide) (fun h1 => ?_) (fun h1 => ?_)
  · skip
    refine fr_iconst dX11_again_38 ?_
    exact fr_iret dX11_again_39 rfl (fr_pi (by first | exact ⟨fun c _ => rfl, Or.inl ⟨by omega, rfl⟩⟩ | exact ⟨fun c hc => (hm2.2.2 c hc).trans (hm.1 c hc), Or.inr (Or.inr (Or.inr ⟨by omega, hb0, hfk, Or.inl ⟨1 + j, d, by omega, by omega, hd.2.2.1, by omega, by assumption, hd.2.2.2, fun y y0 y1 => hm.2.2 y y0 (by omega), by split <;> omega⟩⟩))⟩ | exact ⟨hm.1, Or.inr (Or.inr (Or.inr ⟨by omega, hb0, hfk, Or.inr ⟨hm.2.2, rfl⟩⟩))⟩ | (rcases hz0 with h | h | h) <;> first | exact ⟨fun c _ => rfl, Or.inr (Or.inl ⟨by omega, h.1, by omega⟩)⟩ | exact ⟨fun c _ => rfl, Or.inr (Or.inr (Or.inl ⟨by omega, h.1, h.2.1, by omega⟩))⟩ | (exfalso; omega)))
  · skip
    refine fr_il2 dX11_again_7 ?_
    refine fr_cSi (mi' := fmX11_isLane) dX11_again_8 mlX11_240 msX11_isLane (Nat.le_of_ble_eq_true rfl) (kcX11_isLane (by omega)) rfl rfl (Nat.le_of_ble_eq_true rfl) ?_
    refine fr_ifb_eq (tgt := 38) dX11_again_11 (by decide) (fun h2 => ?_) (fun h2 => ?_)
    · skip
      refine fr_iconst dX11_again_38 ?_
      exact fr_iret dX11_again_39 rfl (fr_pi (by first | exact ⟨fun c _ => rfl, Or.inl ⟨by omega, rfl⟩⟩ | exact ⟨fun c hc => (hm2.2.2 c hc).trans (hm.1 c hc), Or.inr (Or.inr (Or.inr ⟨by omega, hb0, hfk, Or.inl ⟨1 + j, d, by omega, by omega, hd.2.2.1, by omega, by assumption, hd.2.2.2, fun y y0 y1 => hm.2.2 y y0 (by omega), by split <;> omega⟩⟩))⟩ | exact ⟨hm.1, Or.inr (Or.inr (Or.inr ⟨by omega, hb0, hfk, Or.inr ⟨hm.2.2, rfl⟩⟩))⟩ | (rcases hz0 with h | h | h) <;> first | exact ⟨fun c _ => rfl, Or.inr (Or.inl ⟨by omega, h.1, by omega⟩)⟩ | exact ⟨fun c _ => rfl, Or.inr (Or.inr (Or.inl ⟨by omega, h.1, h.2.1, by omega⟩))⟩ | (exfalso; omega)))
    · skip
      refine fr_il4 dX11_again_14 ?_
      refine fr_i2l dX11_again_16 (by omega) ?_
      refine fr_lconst1 dX11_again_17 ?_
      refine fr_ldc2 dX11_again_18 clX11_254 ?_
      refine fr_cSi (mi' := fmX11_in) dX11_again_21 mlX11_51 msX11_in (Nat.le_of_ble_eq_true rfl) (kcX11_in (by omega) (by omega) (by omega)) rfl rfl (Nat.le_of_ble_eq_true rfl) ?_
      refine fr_ifb_eq (tgt := 38) dX11_again_24 (by decide) (fun h3 => ?_) (fun h3 => ?_)
      · skip
        refine fr_iconst dX11_again_38 ?_
        exact fr_iret dX11_again_39 rfl (fr_pi (by first | exact ⟨fun c _ => rfl, Or.inl ⟨by omega, rfl⟩⟩ | exact ⟨fun c hc => (hm2.2.2 c hc).trans (hm.1 c hc), Or.inr (Or.inr (Or.inr ⟨by omega, hb0, hfk, Or.inl ⟨1 + j, d, by omega, by omega, hd.2.2.1, by omega, by assumption, hd.2.2.2, fun y y0 y1 => hm.2.2 y y0 (by omega), by split <;> omega⟩⟩))⟩ | exact ⟨hm.1, Or.inr (Or.inr (Or.inr ⟨by omega, hb0, hfk, Or.inr ⟨hm.2.2, rfl⟩⟩))⟩ | (rcases hz0 with h | h | h) <;> first | exact ⟨fun c _ => rfl, Or.inr (Or.inl ⟨by omega, h.1, by omega⟩)⟩ | exact ⟨fun c _ => rfl, Or.inr (Or.inr (Or.inl ⟨by omega, h.1, h.2.1, by omega⟩))⟩ | (exfalso; omega)))
      · skip
        refine fr_il5 dX11_again_27 ?_
        refine fr_i2l dX11_again_29 (by omega) ?_
        refine fr_lconst0 dX11_again_30 ?_
        refine fr_lconst1 dX11_again_31 ?_
        refine fr_cSi (mi' := fmX11_in) dX11_again_32 mlX11_51 msX11_in (Nat.le_of_ble_eq_true rfl) (kcX11_in (by omega) (by omega) (by omega)) rfl rfl (Nat.le_of_ble_eq_true rfl) ?_
        refine fr_ifb_ne (tgt := 40) dX11_again_35 (by decide) (fun h4 => ?_) (fun h4 => ?_)
        · skip
          refine fr_al0 dX11_again_40 ?_
          refine fr_il1 dX11_again_41 ?_
          refine fr_il2 dX11_again_42 ?_
          refine fr_il3 dX11_again_43 ?_
          refine fr_il4 dX11_again_44 ?_
          refine fr_cVP (mi' := fmX11_rotaBars) dX11_again_46 mlX11_258 mvX11_rotaBars ⟨11, _, ⟨by decide, by decide, rfl⟩, rfl, rfl⟩ (Nat.le_of_ble_eq_true rfl) (kcX11_rotaBars hI hS (by omega) (by omega) (by omega) (by omega)) rfl rfl (Nat.le_of_ble_eq_true rfl) (fun z0 m0 hz0 => ?_)
          obtain ⟨rfl, hz0⟩ := hz0
          refine fr_is6 dX11_again_49 rfl (Nat.le_of_ble_eq_true rfl) ?_
          refine fr_il6 dX11_again_51 ?_
          refine fr_if_eq (tgt := 59) dX11_again_53 (by decide) (by omega) (fun h5 => ?_) (fun h5 => ?_)
          · skip
            refine fr_al0 dX11_again_59 ?_
            refine fr_iconst dX11_again_60 ?_
            refine fr_cVQ (mi' := fmX11_layState) dX11_again_61 mlX11_262 mvX11_layState ⟨11, _, ⟨by decide, by decide, rfl⟩, rfl, rfl⟩ (Nat.le_of_ble_eq_true rfl) (kcX11_layState) rfl rfl (Nat.le_of_ble_eq_true rfl) (fun m1 hm1 => ?_)
            have hw1 : m1 67 = μ 67 := hm1.2.2 67 (by omega)
            refine fr_iconst dX11_again_64 ?_
            refine fr_is7 dX11_again_65 rfl (Nat.le_of_ble_eq_true rfl) ?_
            have hz00 : z0 = 0 := by omega
            have hb0 : sp_bars (μ 75 s) (μ 76 s) lane i n = 0 := by omega
            have hfk : sp_folks (μ 67) (fun k => μ 77 (16 * s + i + k)) n := by rcases hz0 with h | h | h <;> first | exact h.2.1 | (exfalso; omega)
            have hb := sp_bars0 hb0
            have hsz := hS.1 s (by omega) (by omega)
            refine fr_wk ?_ (ls := [some (fr_r κ 66), some (fr_i s), some (fr_i lane), some (fr_i i), some (fr_i n), some (fr_i what), none, some (fr_i (1 + (0 : Int))), none]) ⟨rfl, rfl, rfl, rfl, rfl, rfl, rfl, trivial⟩
            refine (fr_down (P := fun j : Nat => ∀ (m : fr_Me), ((∀ c, c ≠ 79 → m c = μ c) ∧ (∀ x : Int, 0 ≤ x → x ≤ j → sp_sts (μ 67) (fun k => μ 77 (16 * s + i + k)) n (m 79) x) ∧ ∀ y' : Int, 1 ≤ y' → y' ≤ j → ∀ d', sp_mul n d' → d' ≤ y' → ¬ sp_al (μ 67) (fun k => μ 77 (16 * s + i + k)) n (y' - d') y') → fr_A l κ fmX11_again 4 (fr_Pi (fun z m => (∀ c, c ≠ 79 → m c = μ c) ∧ ((¬ ((0 ≤ s ∧ s ≤ 3) ∧ (0 ≤ lane ∧ lane ≤ 3) ∧ (1 ≤ n ∧ n ≤ 8) ∧ (0 ≤ what ∧ what ≤ 1)) ∧ z = -1) ∨ (((0 ≤ s ∧ s ≤ 3) ∧ (0 ≤ lane ∧ lane ≤ 3) ∧ (1 ≤ n ∧ n ≤ 8) ∧ (0 ≤ what ∧ what ≤ 1)) ∧ sp_bars (μ 75 s) (μ 76 s) lane i n ≠ 0 ∧ z = sp_bars (μ 75 s) (μ 76 s) lane i n) ∨ (((0 ≤ s ∧ s ≤ 3) ∧ (0 ≤ lane ∧ lane ≤ 3) ∧ (1 ≤ n ∧ n ≤ 8) ∧ (0 ≤ what ∧ what ≤ 1)) ∧ sp_bars (μ 75 s) (μ 76 s) lane i n = 0 ∧ ¬ sp_folks (μ 67) (fun k => μ 77 (16 * s + i + k)) n ∧ z = -2) ∨ (((0 ≤ s ∧ s ≤ 3) ∧ (0 ≤ lane ∧ lane ≤ 3) ∧ (1 ≤ n ∧ n ≤ 8) ∧ (0 ≤ what ∧ what ≤ 1)) ∧ sp_bars (μ 75 s) (μ 76 s) lane i n = 0 ∧ sp_folks (μ 67) (fun k => μ 77 (16 * s + i + k)) n ∧ sp_ag (μ 67) (fun k => μ 77 (16 * s + i + k)) n what z)))) 67 [some (fr_r κ 66), some (fr_i s), some (fr_i lane), some (fr_i i), some (fr_i n), some (fr_i what), none, some (fr_i (1 + (j : Int))), none] [] m) 200 ?_ (fun j hj67 ih67 => ?_)) _ (⟨hm1.2.2, fun x x0 x1 => by (obtain rfl : x = 0 := by omega); exact sp_sts.zero (by omega) hm1.1, fun y y0 y1 => by omega⟩)
            · skip
              intro m hm
              refine fr_il7 dX11_again_67 ?_
              refine fr_sipush dX11_again_69 (by decide) ?_
              refine fr_icmp_gt (tgt := 145) dX11_again_72 (by decide) (by omega) (by omega) (fun h6 => ?_) (fun h6 => ?_)
              · skip
                refine fr_bipush dX11_again_145 (by decide) ?_
                exact fr_iret dX11_again_147 rfl (fr_pi (by first | exact ⟨fun c _ => rfl, Or.inl ⟨by omega, rfl⟩⟩ | exact ⟨fun c hc => (hm2.2.2 c hc).trans (hm.1 c hc), Or.inr (Or.inr (Or.inr ⟨by omega, hb0, hfk, Or.inl ⟨1 + j, d, by omega, by omega, hd.2.2.1, by omega, by assumption, hd.2.2.2, fun y y0 y1 => hm.2.2 y y0 (by omega), by split <;> omega⟩⟩))⟩ | exact ⟨hm.1, Or.inr (Or.inr (Or.inr ⟨by omega, hb0, hfk, Or.inr ⟨hm.2.2, rfl⟩⟩))⟩ | (rcases hz0 with h | h | h) <;> first | exact ⟨fun c _ => rfl, Or.inr (Or.inl ⟨by omega, h.1, by omega⟩)⟩ | exact ⟨fun c _ => rfl, Or.inr (Or.inr (Or.inl ⟨by omega, h.1, h.2.1, by omega⟩))⟩ | (exfalso; omega)))
              · skip
                exfalso; omega
            · skip
              intro m hm
              have hw : m 67 = μ 67 := hm.1 67 (by omega)
              have hit : m 77 = μ 77 := hm.1 77 (by omega)
              refine fr_il7 dX11_again_67 ?_
              refine fr_sipush dX11_again_69 (by decide) ?_
              refine fr_icmp_gt (tgt := 145) dX11_again_72 (by decide) (by omega) (by omega) (fun h7 => ?_) (fun h7 => ?_)
              · skip
                exfalso; omega
              · skip
                refine fr_al0 dX11_again_75 ?_
                refine fr_il7 dX11_again_76 ?_
                refine fr_iconst dX11_again_78 ?_
                refine fr_isub dX11_again_79 ?_
                refine fr_bipush dX11_again_80 (by decide) ?_
                refine fr_il1 dX11_again_82 ?_
                refine fr_imul dX11_again_83 ?_
                refine fr_il3 dX11_again_84 ?_
                refine fr_iadd dX11_again_85 ?_
                refine fr_il4 dX11_again_86 ?_
                refine fr_cVQ (mi' := fmX11_rotaYear) dX11_again_88 mlX11_266 mvX11_rotaYear ⟨11, _, ⟨by decide, by decide, rfl⟩, rfl, rfl⟩ (Nat.le_of_ble_eq_true rfl) (kcX11_rotaYear (by rw [hw]; exact iN) (by omega) (by omega) (by omega)) rfl rfl (Nat.le_of_ble_eq_true rfl) (fun m2 hm2 => ?_)
                have hw2 : m2 67 = μ 67 := (hm2.2.2 67 (by omega)).trans hw
                have ejj : (1 : Int) + j - 1 = j := by omega
                rw [ejj] at hm2
                have hs2 : ∀ x : Int, 0 ≤ x → x ≤ j + 1 → sp_sts (μ 67) (fun k => μ 77 (16 * s + i + k)) n (m2 79) x := by intro x x0 x1; rcases (by omega : x ≤ j ∨ x = j + 1) with e | e; (· exact (hm.2.1 x x0 e).keep (by omega) e hm2.2.1); (· subst e; refine sp_sts.succ (by omega) (hm.2.1 j (by omega) (by omega)) (fun t h0 h1 => ?_); rw [hw] at hm2; have := hm2.1 t h0 h1; rw [hit] at this; exact this)
                refine fr_il4 dX11_again_91 ?_
                refine fr_is8 dX11_again_93 rfl (Nat.le_of_ble_eq_true rfl) ?_
                refine fr_wk ?_ (ls := [some (fr_r κ 66), some (fr_i s), some (fr_i lane), some (fr_i i), some (fr_i n), some (fr_i what), none, some (fr_i (1 + (j : Int))), some (fr_i _)]) ⟨rfl, rfl, rfl, rfl, rfl, rfl, rfl, rfl, trivial⟩
                refine (fr_down (P := fun i9 : Nat => ∀ (d : Int), (n + i9 ≤ d ∧ d ≤ 208 ∧ sp_mul n d ∧ ∀ d', sp_mul n d' → d' < d → ¬ sp_al (μ 67) (fun k => μ 77 (16 * s + i + k)) n (1 + j - d') (1 + j)) → fr_A l κ fmX11_again 4 (fr_Pi (fun z m => (∀ c, c ≠ 79 → m c = μ c) ∧ ((¬ ((0 ≤ s ∧ s ≤ 3) ∧ (0 ≤ lane ∧ lane ≤ 3) ∧ (1 ≤ n ∧ n ≤ 8) ∧ (0 ≤ what ∧ what ≤ 1)) ∧ z = -1) ∨ (((0 ≤ s ∧ s ≤ 3) ∧ (0 ≤ lane ∧ lane ≤ 3) ∧ (1 ≤ n ∧ n ≤ 8) ∧ (0 ≤ what ∧ what ≤ 1)) ∧ sp_bars (μ 75 s) (μ 76 s) lane i n ≠ 0 ∧ z = sp_bars (μ 75 s) (μ 76 s) lane i n) ∨ (((0 ≤ s ∧ s ≤ 3) ∧ (0 ≤ lane ∧ lane ≤ 3) ∧ (1 ≤ n ∧ n ≤ 8) ∧ (0 ≤ what ∧ what ≤ 1)) ∧ sp_bars (μ 75 s) (μ 76 s) lane i n = 0 ∧ ¬ sp_folks (μ 67) (fun k => μ 77 (16 * s + i + k)) n ∧ z = -2) ∨ (((0 ≤ s ∧ s ≤ 3) ∧ (0 ≤ lane ∧ lane ≤ 3) ∧ (1 ≤ n ∧ n ≤ 8) ∧ (0 ≤ what ∧ what ≤ 1)) ∧ sp_bars (μ 75 s) (μ 76 s) lane i n = 0 ∧ sp_folks (μ 67) (fun k => μ 77 (16 * s + i + k)) n ∧ sp_ag (μ 67) (fun k => μ 77 (16 * s + i + k)) n what z)))) 95 [some (fr_r κ 66), some (fr_i s), some (fr_i lane), some (fr_i i), some (fr_i n), some (fr_i what), none, some (fr_i (1 + (j : Int))), some (fr_i d)] [] m2) 201 ?_ (fun i9 hj95 ih95 => ?_)) _ (⟨by omega, by omega, sp_mul.one n, fun d9 hd9 hl9 => absurd (hd9.pos (by omega)) (by omega)⟩)
                · skip
                  intro d hd
                  have hdp := hd.2.2.1.pos (by omega)
                  refine fr_il8 dX11_again_95 ?_
                  refine fr_il7 dX11_again_97 ?_
                  refine fr_icmp_gt (tgt := 139) dX11_again_99 (by decide) (by omega) (by omega) (fun h8 => ?_) (fun h8 => ?_)
                  · skip
                    refine fr_ii7 dX11_again_139 rfl (Nat.le_of_ble_eq_true rfl) ?_
                    refine fr_goto (tgt := 67) dX11_again_142 (by decide) ?_
                    rw [show (1 : Int) + (j : Int) + 1 = 1 + ((j + 1 : Nat) : Int) by omega]
                    exact fr_wk (ih67 _ (⟨fun c hc => (hm2.2.2 c hc).trans (hm.1 c hc), fun x x0 x1 => hs2 x x0 (by omega), fun y y0 y1 d9 hd9 hl9 => (by omega : y ≤ j ∨ y = 1 + j).elim (fun h => hm.2.2 y y0 h d9 hd9 hl9) (fun h => by subst h; exact hd.2.2.2 d9 hd9 (by omega))⟩)) ⟨rfl, rfl, rfl, rfl, rfl, rfl, rfl, trivial⟩
                  · skip
                    exfalso; omega
                · skip
                  intro d hd
                  have hdp := hd.2.2.1.pos (by omega)
                  refine fr_il8 dX11_again_95 ?_
                  refine fr_il7 dX11_again_97 ?_
                  refine fr_icmp_gt (tgt := 139) dX11_again_99 (by decide) (by omega) (by omega) (fun h9 => ?_) (fun h9 => ?_)
                  · skip
                    refine fr_ii7 dX11_again_139 rfl (Nat.le_of_ble_eq_true rfl) ?_
                    refine fr_goto (tgt := 67) dX11_again_142 (by decide) ?_
                    rw [show (1 : Int) + (j : Int) + 1 = 1 + ((j + 1 : Nat) : Int) by omega]
                    exact fr_wk (ih67 _ (⟨fun c hc => (hm2.2.2 c hc).trans (hm.1 c hc), fun x x0 x1 => hs2 x x0 (by omega), fun y y0 y1 d9 hd9 hl9 => (by omega : y ≤ j ∨ y = 1 + j).elim (fun h => hm.2.2 y y0 h d9 hd9 hl9) (fun h => by subst h; exact hd.2.2.2 d9 hd9 (by omega))⟩)) ⟨rfl, rfl, rfl, rfl, rfl, rfl, rfl, trivial⟩
                  · skip
                    refine fr_al0 dX11_again_102 ?_
                    refine fr_il7 dX11_again_103 ?_
                    refine fr_il7 dX11_again_105 ?_
                    refine fr_il8 dX11_again_107 ?_
                    refine fr_isub dX11_again_109 ?_
                    refine fr_cVi (mi' := fmX11_areAlike) dX11_again_110 mlX11_273 mvX11_areAlike ⟨11, _, ⟨by decide, by decide, rfl⟩, rfl, rfl⟩ (Nat.le_of_ble_eq_true rfl) (kcX11_areAlike (by rw [hw2]; exact iN) (by omega) (by omega) (by intro x hx t h0 h1 q q0 q1; rw [hw2] at h1; have o := (show sp_sts (μ 67) (fun k => μ 77 (16 * s + i + k)) n (m2 79) x from hs2 x (by omega) (by omega)).okst hI hfk (by omega) (by omega) t h0 h1; rcases (by omega : q = 0 ∨ q = 1 ∨ q = 2 ∨ q = 3) with e | e | e | e <;> subst e <;> simp only [Int.mul_zero, Int.add_zero, Int.mul_one, show (6 : Int) * 2 = 12 from rfl, show (6 : Int) * 3 = 18 from rfl] <;> omega)) rfl rfl (Nat.le_of_ble_eq_true rfl) ?_
                    rw [hw2, fr_bc (sp_sa_al (w := μ 67) (it := (fun k => μ 77 (16 * s + i + k))) (n := n) (hs2 (1 + j) (by omega) (by omega)) (hs2 (1 + j - d) (by omega) (by omega)))]
                    refine fr_ifb_eq (tgt := 129) dX11_again_113 (by decide) (fun h10 => ?_) (fun h10 => ?_)
                    · skip
                      refine fr_il8 dX11_again_129 ?_
                      refine fr_il4 dX11_again_131 ?_
                      refine fr_iadd dX11_again_133 ?_
                      refine fr_is8 dX11_again_134 rfl (Nat.le_of_ble_eq_true rfl) ?_
                      refine fr_goto (tgt := 95) dX11_again_136 (by decide) ?_
                      exact fr_wk (ih95 _ (⟨by omega, by omega, hd.2.2.1.add, fun d9 hd9 hl9 => (by have := hd.2.2.1.step (by omega) hd9 hl9; omega : d9 < d ∨ d9 = d).elim (fun h => hd.2.2.2 d9 hd9 h) (fun h => by subst h; assumption)⟩)) ⟨rfl, rfl, rfl, rfl, rfl, rfl, rfl, rfl, trivial⟩
                    · skip
                      refine fr_il5 dX11_again_116 ?_
                      refine fr_if_ne (tgt := 126) dX11_again_118 (by decide) (by omega) (fun h11 => ?_) (fun h11 => ?_)
                      · skip
                        refine fr_il8 dX11_again_126 ?_
                        exact fr_iret dX11_again_128 rfl (fr_pi (by first | exact ⟨fun c _ => rfl, Or.inl ⟨by omega, rfl⟩⟩ | exact ⟨fun c hc => (hm2.2.2 c hc).trans (hm.1 c hc), Or.inr (Or.inr (Or.inr ⟨by omega, hb0, hfk, Or.inl ⟨1 + j, d, by omega, by omega, hd.2.2.1, by omega, by assumption, hd.2.2.2, fun y y0 y1 => hm.2.2 y y0 (by omega), by split <;> omega⟩⟩))⟩ | exact ⟨hm.1, Or.inr (Or.inr (Or.inr ⟨by omega, hb0, hfk, Or.inr ⟨hm.2.2, rfl⟩⟩))⟩ | (rcases hz0 with h | h | h) <;> first | exact ⟨fun c _ => rfl, Or.inr (Or.inl ⟨by omega, h.1, by omega⟩)⟩ | exact ⟨fun c _ => rfl, Or.inr (Or.inr (Or.inl ⟨by omega, h.1, h.2.1, by omega⟩))⟩ | (exfalso; omega)))
                      · skip
                        refine fr_il7 dX11_again_121 ?_
                        refine fr_goto (tgt := 128) dX11_again_123 (by decide) ?_
                        exact fr_iret dX11_again_128 rfl (fr_pi (by first | exact ⟨fun c _ => rfl, Or.inl ⟨by omega, rfl⟩⟩ | exact ⟨fun c hc => (hm2.2.2 c hc).trans (hm.1 c hc), Or.inr (Or.inr (Or.inr ⟨by omega, hb0, hfk, Or.inl ⟨1 + j, d, by omega, by omega, hd.2.2.1, by omega, by assumption, hd.2.2.2, fun y y0 y1 => hm.2.2 y y0 (by omega), by split <;> omega⟩⟩))⟩ | exact ⟨hm.1, Or.inr (Or.inr (Or.inr ⟨by omega, hb0, hfk, Or.inr ⟨hm.2.2, rfl⟩⟩))⟩ | (rcases hz0 with h | h | h) <;> first | exact ⟨fun c _ => rfl, Or.inr (Or.inl ⟨by omega, h.1, by omega⟩)⟩ | exact ⟨fun c _ => rfl, Or.inr (Or.inr (Or.inl ⟨by omega, h.1, h.2.1, by omega⟩))⟩ | (exfalso; omega)))
          · skip
            refine fr_il6 dX11_again_56 ?_
            exact fr_iret dX11_again_58 rfl (fr_pi (by first | exact ⟨fun c _ => rfl, Or.inl ⟨by omega, rfl⟩⟩ | exact ⟨fun c hc => (hm2.2.2 c hc).trans (hm.1 c hc), Or.inr (Or.inr (Or.inr ⟨by omega, hb0, hfk, Or.inl ⟨1 + j, d, by omega, by omega, hd.2.2.1, by omega, by assumption, hd.2.2.2, fun y y0 y1 => hm.2.2 y y0 (by omega), by split <;> omega⟩⟩))⟩ | exact ⟨hm.1, Or.inr (Or.inr (Or.inr ⟨by omega, hb0, hfk, Or.inr ⟨hm.2.2, rfl⟩⟩))⟩ | (rcases hz0 with h | h | h) <;> first | exact ⟨fun c _ => rfl, Or.inr (Or.inl ⟨by omega, h.1, by omega⟩)⟩ | exact ⟨fun c _ => rfl, Or.inr (Or.inr (Or.inl ⟨by omega, h.1, h.2.1, by omega⟩))⟩ | (exfalso; omega)))
        · skip
          refine fr_iconst dX11_again_38 ?_
          exact fr_iret dX11_again_39 rfl (fr_pi (by first | exact ⟨fun c _ => rfl, Or.inl ⟨by omega, rfl⟩⟩ | exact ⟨fun c hc => (hm2.2.2 c hc).trans (hm.1 c hc), Or.inr (Or.inr (Or.inr ⟨by omega, hb0, hfk, Or.inl ⟨1 + j, d, by omega, by omega, hd.2.2.1, by omega, by assumption, hd.2.2.2, fun y y0 y1 => hm.2.2 y y0 (by omega), by split <;> omega⟩⟩))⟩ | exact ⟨hm.1, Or.inr (Or.inr (Or.inr ⟨by omega, hb0, hfk, Or.inr ⟨hm.2.2, rfl⟩⟩))⟩ | (rcases hz0 with h | h | h) <;> first | exact ⟨fun c _ => rfl, Or.inr (Or.inl ⟨by omega, h.1, by omega⟩)⟩ | exact ⟨fun c _ => rfl, Or.inr (Or.inr (Or.inl ⟨by omega, h.1, h.2.1, by omega⟩))⟩ | (exfalso; omega)))
