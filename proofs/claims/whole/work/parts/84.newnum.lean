/-! years, sendings, texts: the new numbers -/
theorem I_cg {w w' : Int → Int} (h : fr_I w) (e : ∀ k, 0 ≤ k → k < 77 → w' k = w k) : fr_I w' := by
  rw [fr_I_iff] at h ⊢
  obtain ⟨a, hT, hC, hp⟩ := h
  unfold fr_I2
  rw [e 0 (by omega) (by omega), e 43 (by omega) (by omega), e 74 (by omega) (by omega), e 75 (by omega) (by omega), e 76 (by omega) (by omega)]
  refine ⟨a, fun t g t0 t1 g0 g1 => ?_, fun c g c0 c1 g0 g1 => ?_, fun f f0 f1 => ?_⟩
  · rw [e _ (by omega) (by omega)]; exact hT t g t0 t1 g0 g1
  · rw [e _ (by omega) (by omega)]; exact hC c g c0 c1 g0 g1
  · rw [e _ (by omega) (by omega)]; exact hp f f0 f1
theorem G_cg {w w' : Int → Int} {μ : fr_Me} (h : fr_G w μ) (e : ∀ k, 0 ≤ k → k < 77 → w' k = w k) : fr_G w' μ := by
  rw [fr_G_iff] at h ⊢
  obtain ⟨a, hT, hC, hp⟩ := h
  unfold fr_G2
  rw [e 0 (by omega) (by omega), e 43 (by omega) (by omega), e 74 (by omega) (by omega), e 75 (by omega) (by omega), e 76 (by omega) (by omega)]
  refine ⟨a, fun t g t0 t1 g0 g1 => ?_, fun c g c0 c1 g0 g1 => ?_, fun f f0 f1 => ?_⟩
  · rw [e _ (by omega) (by omega)]; exact hT t g t0 t1 g0 g1
  · rw [e _ (by omega) (by omega)]; exact hC c g c0 c1 g0 g1
  · rw [e _ (by omega) (by omega)]; exact hp f f0 f1
theorem I_75 {w : Int → Int} (h : fr_I w) {v : Int} (hv : 0 ≤ v ∧ v ≤ 9999) : fr_I (sp_u w 75 v) := by
  rw [fr_I_iff] at h ⊢
  obtain ⟨a, hT, hC, hp⟩ := h
  unfold fr_I2
  rw [su_e, su_n (show (0 : Int) ≠ 75 by omega), su_n (show (43 : Int) ≠ 75 by omega), su_n (show (74 : Int) ≠ 75 by omega), su_n (show (76 : Int) ≠ 75 by omega)]
  refine ⟨⟨a.1, a.2.1, a.2.2.1, hv, a.2.2.2.2⟩, fun t g t0 t1 g0 g1 => ?_, fun c g c0 c1 g0 g1 => ?_, fun f f0 f1 => ?_⟩
  · rw [su_n (by omega)]; exact hT t g t0 t1 g0 g1
  · rw [su_n (by omega)]; exact hC c g c0 c1 g0 g1
  · rw [su_n (by omega)]; exact hp f f0 f1
theorem I_year {w : Int → Int} (h : fr_I w) (hy : w 75 < 9999) : fr_I (sp_year w) := by
  have hN := h.n
  have i5 := h.years
  exact I_75 (fr_I.yl h (w 0).toNat (by omega)).1 (by omega)
theorem yl_hi (w : Int → Int) {k : Int} (hk : 77 ≤ k) : ∀ n : Nat, n ≤ 6 → sp_yl n w k = w k := by
  intro n
  induction n with
  | zero => intro _; simp only [sp_yl]; exact su_n (by omega)
  | succ n ih =>
    intro hn
    simp only [sp_yl, sp_yt]
    rw [if_neg (by omega), if_neg (by omega), if_neg (by omega), if_neg (by omega), if_neg (by omega), if_neg (by omega), if_neg (by omega)]
    exact ih (by omega)
theorem kw_year {w : Int → Int} (h : fr_I w) : fr_kw (sp_year w) = fr_kw w := by
  have hN := h.n
  refine kw_e (fun k hk => ?_)
  unfold sp_year
  rw [su_n (by omega)]
  exact yl_hi w hk _ (by omega)
theorem sdw_at {w : Int → Int} (hN : 0 ≤ w 0 ∧ w 0 ≤ 6) (bc : Int) : (∀ t g, 0 ≤ t → t < 6 → 0 ≤ g → g < 7 → sp_sdw w bc (1 + 6 * g + t) = if g = 1 ∧ t < w 0 then sp_dg (w 0) bc t else w (1 + 6 * g + t)) ∧ (∀ k, 43 ≤ k → sp_sdw w bc k = w k) ∧ sp_sdw w bc 0 = w 0 := by
  unfold sp_sdw
  refine ⟨fun t g t0 t1 g0 g1 => ?_, fun k hk => if_neg (by omega), if_neg (by omega)⟩
  by_cases q : g = 1 ∧ t < w 0
  · rw [if_pos q, if_pos (by omega)]; congr 1; omega
  · rw [if_neg q, if_neg (by omega)]
theorem I_sdw {w : Int → Int} (h : fr_I w) {S sh bc : Int} (hv : sp_V w S sh bc) : fr_I (sp_sdw w bc) := by
  have hN := h.n
  have hM := h.many
  obtain ⟨a1, a2, a3⟩ := sdw_at hN bc
  have hf := fun t t0 t1 => sp_V_folk hN.1 hv t t0 t1
  rw [fr_I_iff] at h ⊢
  obtain ⟨a, hT, hC, hp⟩ := h
  unfold fr_I2
  rw [a3, a2 43 (by omega), a2 74 (by omega), a2 75 (by omega), a2 76 (by omega)]
  refine ⟨a, fun t g t0 t1 g0 g1 => ?_, fun c g c0 c1 g0 g1 => ?_, fun f f0 f1 => ?_⟩
  · rw [a1 t g t0 t1 g0 g1]
    by_cases q : g = 1 ∧ t < w 0
    · rw [if_pos q]
      have := hf t t0 q.2
      unfold ti_r
      omega
    · rw [if_neg q]; exact hT t g t0 t1 g0 g1
  · rw [a2 _ (by omega)]; exact hC c g c0 c1 g0 g1
  · rw [a2 _ (by omega)]; exact hp f f0 f1
theorem G_sdw {w : Int → Int} {μ m : fr_Me} (h : fr_G w μ) (hN : 0 ≤ w 0 ∧ w 0 ≤ 6) {bc : Int} (e1 : ∀ t, 0 ≤ t → t < w 0 → m (36 + t) = fr_up μ (36 + t) 1 (sp_dg (w 0) bc t) (36 + t)) (e2 : ∀ c, (c < 15 ∨ 35 < c) → (c < 36 ∨ 36 + w 0 ≤ c) → m c = μ c) : fr_G (sp_sdw w bc) m := by
  obtain ⟨a1, a2, a3⟩ := sdw_at hN bc
  rw [fr_G_iff] at h ⊢
  obtain ⟨a, hT, hC, hp⟩ := h
  unfold fr_G2
  rw [a3, a2 43 (by omega), a2 74 (by omega), a2 75 (by omega), a2 76 (by omega), e2 1 (by omega) (by omega)]
  refine ⟨a, fun t g t0 t1 g0 g1 => ?_, fun c g c0 c1 g0 g1 => ?_, fun f f0 f1 => ?_⟩
  · rw [a1 t g t0 t1 g0 g1]
    rcases (by omega : t < w 0 ∨ w 0 ≤ t) with q | q
    · rw [e1 t t0 q]
      by_cases r : g = 1
      · subst r; rw [gm_uk, if_pos ⟨rfl, q⟩]
      · rw [gm_un r, if_neg (fun x => r x.1)]; exact hT t g t0 t1 g0 g1
    · rw [e2 _ (by omega) (by omega), if_neg (by omega)]; exact hT t g t0 t1 g0 g1
  · rw [a2 _ (by omega), e2 _ (by omega) (by omega)]; exact hC c g c0 c1 g0 g1
  · rw [a2 _ (by omega), e2 4 (by omega) (by omega)]; exact hp f f0 f1
/-- a planted tree's numbers -/
def bg_f (k l b g : Int) : Int := if g = 0 then k else if g = 1 then 5 else if g = 2 then l else if g = 3 then b else 0
theorem begin_f {μ : fr_Me} {c k l b g : Int} (hg : 0 ≤ g ∧ g < 7) : sp_begin μ c k l b c g = bg_f k l b g := by
  unfold sp_begin bg_f
  rcases (by omega : g = 0 ∨ g = 1 ∨ g = 2 ∨ g = 3 ∨ g = 4 ∨ g = 5 ∨ g = 6) with q | q | q | q | q | q | q <;> subst q <;> simp [fr_up]
theorem addw_at {w : Int → Int} (hN : 0 ≤ w 0 ∧ w 0 < 6) (k l b : Int) : (∀ t g, 0 ≤ t → t < 6 → 0 ≤ g → g < 7 → sp_addw w k l b 0 0 (1 + 6 * g + t) = if t = w 0 then bg_f k l b g else w (1 + 6 * g + t)) ∧ (∀ i, 43 ≤ i → sp_addw w k l b 0 0 i = w i) := by
  unfold sp_addw
  refine ⟨fun t g t0 t1 g0 g1 => ?_, fun i hi => ?_⟩
  · rw [su_n (by omega)]
    by_cases q : t = w 0
    · rw [if_pos q]
      unfold bg_f
      subst q
      rcases (by omega : g = 0 ∨ g = 1 ∨ g = 2 ∨ g = 3 ∨ g = 4 ∨ g = 5 ∨ g = 6) with q | q | q | q | q | q | q <;> subst q
      · rw [su_n (by omega), su_n (by omega), su_n (by omega), su_n (by omega), su_n (by omega), su_n (by omega), show 1 + 6 * 0 + w 0 = 1 + w 0 by omega, su_e]; rfl
      · rw [su_n (by omega), su_n (by omega), su_n (by omega), su_n (by omega), su_n (by omega), show 1 + 6 * 1 + w 0 = 7 + w 0 by omega, su_e]; rfl
      · rw [su_n (by omega), su_n (by omega), su_n (by omega), su_n (by omega), show 1 + 6 * 2 + w 0 = 13 + w 0 by omega, su_e]; rfl
      · rw [su_n (by omega), su_n (by omega), su_n (by omega), show 1 + 6 * 3 + w 0 = 19 + w 0 by omega, su_e]; rfl
      · rw [su_n (by omega), su_n (by omega), show 1 + 6 * 4 + w 0 = 25 + w 0 by omega, su_e]; rfl
      · rw [su_n (by omega), show 1 + 6 * 5 + w 0 = 31 + w 0 by omega, su_e]; rfl
      · rw [show 1 + 6 * 6 + w 0 = 37 + w 0 by omega, su_e]; rfl
    · rw [if_neg q, su_n (by omega), su_n (by omega), su_n (by omega), su_n (by omega), su_n (by omega), su_n (by omega), su_n (by omega)]
  · rw [su_n (by omega), su_n (by omega), su_n (by omega), su_n (by omega), su_n (by omega), su_n (by omega), su_n (by omega), su_n (by omega)]
theorem tl_ok {M : Int} (hM : 0 ≤ M ∧ M ≤ 5) (tp : Int → Int) (n a : Int) : (sp_tl M tp n a = 5 ∨ (0 ≤ sp_tl M tp n a ∧ sp_tl M tp n a < M)) ∧ (sp_tb M tp n a = 5 ∨ (0 ≤ sp_tb M tp n a ∧ sp_tb M tp n a < M)) := by
  have e : ∀ c, sp_wh M c < 0 ∨ sp_wh M c = 5 ∨ (0 ≤ sp_wh M c ∧ sp_wh M c < M) := by
    intro c; unfold sp_wh; (repeat' split) <;> omega
  have h1 := e (sp_ch tp n (sp_r1 tp n a))
  have h2 := e (sp_ch tp n (sp_r2 tp n a))
  unfold sp_tl sp_tb sp_u1 sp_u2
  constructor <;> ((repeat' split) <;> omega)
theorem tk_rg (tp : Int → Int) (n a : Int) : sp_tk tp n a ≤ 3 := by unfold sp_tk sp_kd; (repeat' split) <;> omega
theorem cw_at {w : Int → Int} (hI : fr_I w) {tp : Int → Int} {n : Int} : ∀ j : Nat, j ≤ 6 → (∀ q : Nat, q < j → 0 ≤ sp_tk tp n (sp_po (w 43) tp n q)) → fr_I (sp_cw (w 43) tp n w j) ∧ (∀ (t : Nat) (g : Int), t < 6 → 0 ≤ g → g < 7 → sp_cw (w 43) tp n w j (1 + 6 * g + (t : Int)) = if t < j then bg_f (sp_tk tp n (sp_po (w 43) tp n t)) (sp_tl (w 43) tp n (sp_po (w 43) tp n t)) (sp_tb (w 43) tp n (sp_po (w 43) tp n t)) g else w (1 + 6 * g + (t : Int))) ∧ ∀ i, 43 ≤ i → sp_cw (w 43) tp n w j i = w i := by
  intro j
  induction j with
  | zero =>
    intro _ _
    simp only [sp_cw]
    refine ⟨I_n hI (by omega) (fun t g h1 h2 => by have := hI.n; omega), fun t g t1 g0 g1 => ?_, fun i hi => su_n (by omega)⟩
    rw [su_n (by omega), if_neg (by omega)]
  | succ j ih =>
    intro hj hk
    obtain ⟨h1, h2, h3⟩ := ih (by omega) (fun q hq => hk q (by omega))
    have e0 : sp_cw (w 43) tp n w j 0 = j := sp_cw_0 _ _ _ _ _
    have e43 := h3 43 (by omega)
    have hb := tl_ok hI.many tp n (sp_po (w 43) tp n j)
    have hkk := hk j (by omega)
    have hk3 := tk_rg tp n (sp_po (w 43) tp n j)
    simp only [sp_cw]
    obtain ⟨a1, a2⟩ := addw_at (w := sp_cw (w 43) tp n w j) (by omega) (sp_tk tp n (sp_po (w 43) tp n j)) (sp_tl (w 43) tp n (sp_po (w 43) tp n j)) (sp_tb (w 43) tp n (sp_po (w 43) tp n j))
    refine ⟨I_add h1 (by omega) ⟨hkk, hk3⟩ (by rw [e43]; exact hb.1) (by rw [e43]; exact hb.2) (by omega) (by omega), fun t g t1 g0 g1 => ?_, fun i hi => (a2 i hi).trans (h3 i hi)⟩
    rw [a1 t g (by omega) (by omega) g0 g1, e0, h2 t g t1 g0 g1]
    by_cases q : t = j
    · subst q; rw [if_pos rfl, if_pos (by omega)]
    · rw [if_neg (by omega)]
      by_cases r : t < j
      · rw [if_pos r, if_pos (by omega)]
      · rw [if_neg r, if_neg (by omega)]
theorem G_cw {w : Int → Int} {μ m : fr_Me} (hI : fr_I w) (h : fr_G w μ) {tp : Int → Int} {n : Int} {j : Nat} (hj : j ≤ 6) (hk : ∀ q : Nat, q < j → 0 ≤ sp_tk tp n (sp_po (w 43) tp n q)) (e1 : ∀ q : Nat, q < j → m (36 + (q : Int)) = sp_begin μ (36 + (q : Int)) (sp_tk tp n (sp_po (w 43) tp n q)) (sp_tl (w 43) tp n (sp_po (w 43) tp n q)) (sp_tb (w 43) tp n (sp_po (w 43) tp n q)) (36 + (q : Int))) (e2 : ∀ c, (c = 4 ∨ (36 + (j : Int) ≤ c ∧ c < 42) ∨ (48 ≤ c ∧ c < 53)) → m c = μ c) (e3 : m 1 3 = (j : Int)) (e4 : ∀ k, k ≠ 3 → m 1 k = μ 1 k) : fr_G (sp_cw (w 43) tp n w j) m := by
  obtain ⟨a0, a1, a2⟩ := cw_at hI (tp := tp) (n := n) j hj hk
  rw [fr_G_iff] at h ⊢
  obtain ⟨a, hT, hC, hp⟩ := h
  unfold fr_G2
  rw [sp_cw_0, a2 43 (by omega), a2 74 (by omega), a2 75 (by omega), a2 76 (by omega), e3, e4 4 (by omega), e4 5 (by omega), e4 6 (by omega), e4 7 (by omega)]
  refine ⟨⟨rfl, a.2⟩, fun t g t0 t1 g0 g1 => ?_, fun c g c0 c1 g0 g1 => ?_, fun f f0 f1 => ?_⟩
  · obtain ⟨t', rfl⟩ := Int.eq_ofNat_of_zero_le t0
    rw [a1 t' g (by omega) g0 g1]
    by_cases q : t' < j
    · rw [if_pos q, e1 t' q]; exact begin_f ⟨g0, g1⟩
    · rw [if_neg q, e2 _ (by omega)]; exact hT t' g t0 t1 g0 g1
  · rw [a2 _ (by omega), e2 _ (by omega)]; exact hC c g c0 c1 g0 g1
  · rw [a2 _ (by omega), e2 4 (by omega)]; exact hp f f0 f1
