/-! the ground, field by field; what a change of one number changes -/
theorem su_e (w : Int → Int) (k z : Int) : sp_u w k z k = z := by unfold sp_u; exact if_pos rfl
theorem su_n {w : Int → Int} {k z i : Int} (h : i ≠ k) : sp_u w k z i = w i := by unfold sp_u; exact if_neg h
/-- the same, field by field -/
def fr_G2 (w : Int → Int) (μ : fr_Me) : Prop := (μ 1 3 = w 0 ∧ μ 1 4 = w 43 ∧ μ 1 5 = w 74 ∧ μ 1 6 = w 75 ∧ μ 1 7 = w 76) ∧ (∀ t g, 0 ≤ t → t < 6 → 0 ≤ g → g < 7 → μ (36 + t) g = w (1 + 6 * g + t)) ∧ (∀ c g, 0 ≤ c → c < 5 → 0 ≤ g → g < 4 → μ (48 + c) g = w (44 + 5 * g + c)) ∧ ∀ f, 0 ≤ f → f < 10 → μ 4 f = w (64 + f)
theorem fr_G_iff {w : Int → Int} {μ : fr_Me} : fr_G w μ ↔ fr_G2 w μ := by
  constructor
  · intro h
    refine ⟨⟨h.n, h.many, h.draw, h.years, h.fallen⟩, fun t g t0 t1 g0 g1 => ?_, fun c g c0 c1 g0 g1 => ?_, fun f a b => h.pr a b⟩
    · obtain ⟨a, b, d, e, f, i, j⟩ := h.tree t0 t1
      rcases (by omega : g = 0 ∨ g = 1 ∨ g = 2 ∨ g = 3 ∨ g = 4 ∨ g = 5 ∨ g = 6) with q | q | q | q | q | q | q <;> subst q
      · exact a
      · exact b
      · exact d
      · exact e
      · exact f
      · exact i
      · exact j
    · obtain ⟨a, b, d, e⟩ := h.cl c0 c1
      rcases (by omega : g = 0 ∨ g = 1 ∨ g = 2 ∨ g = 3) with q | q | q | q <;> subst q
      · exact a
      · exact b
      · exact d
      · exact e
  · rintro ⟨⟨a, b, d, e, f⟩, ht, hc, hp⟩
    refine ⟨a, b, d, e, f, fun t t0 t1 => ?_, fun c c0 c1 => ?_, hp⟩
    · exact ⟨ht t 0 t0 t1 (by omega) (by omega), ht t 1 t0 t1 (by omega) (by omega), ht t 2 t0 t1 (by omega) (by omega), ht t 3 t0 t1 (by omega) (by omega), ht t 4 t0 t1 (by omega) (by omega), ht t 5 t0 t1 (by omega) (by omega), ht t 6 t0 t1 (by omega) (by omega)⟩
    · exact ⟨hc c 0 c0 c1 (by omega) (by omega), hc c 1 c0 c1 (by omega) (by omega), hc c 2 c0 c1 (by omega) (by omega), hc c 3 c0 c1 (by omega) (by omega)⟩
theorem G_t {w : Int → Int} {μ : fr_Me} (h : fr_G w μ) {t g i v : Int} (ht : 0 ≤ t ∧ t < 6) (hg : 0 ≤ g ∧ g < 7) (hi : i = 1 + 6 * g + t) : fr_G (sp_u w i v) (fr_up μ (36 + t) g v) := by
  subst hi
  rw [fr_G_iff] at h ⊢
  obtain ⟨⟨a, b, d, e, f⟩, ht', hc, hp⟩ := h
  refine ⟨⟨?_, ?_, ?_, ?_, ?_⟩, fun t2 g2 t0 t1 g0 g1 => ?_, fun c g2 c0 c1 g0 g1 => ?_, fun f2 f0 f1 => ?_⟩
  · rw [gm_uc (by omega), su_n (by omega)]; exact a
  · rw [gm_uc (by omega), su_n (by omega)]; exact b
  · rw [gm_uc (by omega), su_n (by omega)]; exact d
  · rw [gm_uc (by omega), su_n (by omega)]; exact e
  · rw [gm_uc (by omega), su_n (by omega)]; exact f
  · by_cases q : t2 = t
    · subst q
      by_cases r : g2 = g
      · subst r; rw [gm_uk, su_e]
      · rw [gm_un r, su_n (by omega)]; exact ht' t2 g2 t0 t1 g0 g1
    · rw [gm_uc (by omega), su_n (by omega)]; exact ht' t2 g2 t0 t1 g0 g1
  · rw [gm_uc (by omega), su_n (by omega)]; exact hc c g2 c0 c1 g0 g1
  · rw [gm_uc (by omega), su_n (by omega)]; exact hp f2 f0 f1
theorem G_c {w : Int → Int} {μ : fr_Me} (h : fr_G w μ) {c g i v : Int} (hc0 : 0 ≤ c ∧ c < 5) (hg : 0 ≤ g ∧ g < 4) (hi : i = 44 + 5 * g + c) : fr_G (sp_u w i v) (fr_up μ (48 + c) g v) := by
  subst hi
  rw [fr_G_iff] at h ⊢
  obtain ⟨⟨a, b, d, e, f⟩, ht, hc, hp⟩ := h
  refine ⟨⟨?_, ?_, ?_, ?_, ?_⟩, fun t2 g2 t0 t1 g0 g1 => ?_, fun c2 g2 c0 c1 g0 g1 => ?_, fun f2 f0 f1 => ?_⟩
  · rw [gm_uc (by omega), su_n (by omega)]; exact a
  · rw [gm_uc (by omega), su_n (by omega)]; exact b
  · rw [gm_uc (by omega), su_n (by omega)]; exact d
  · rw [gm_uc (by omega), su_n (by omega)]; exact e
  · rw [gm_uc (by omega), su_n (by omega)]; exact f
  · rw [gm_uc (by omega), su_n (by omega)]; exact ht t2 g2 t0 t1 g0 g1
  · by_cases q : c2 = c
    · subst q
      by_cases r : g2 = g
      · subst r; rw [gm_uk, su_e]
      · rw [gm_un r, su_n (by omega)]; exact hc c2 g2 c0 c1 g0 g1
    · rw [gm_uc (by omega), su_n (by omega)]; exact hc c2 g2 c0 c1 g0 g1
  · rw [gm_uc (by omega), su_n (by omega)]; exact hp f2 f0 f1
theorem G_p {w : Int → Int} {μ : fr_Me} (h : fr_G w μ) {f v : Int} (hf : 0 ≤ f ∧ f < 10) : fr_G (sp_u w (64 + f) v) (fr_up μ 4 f v) := by
  rw [fr_G_iff] at h ⊢
  obtain ⟨⟨a, b, d, e, f'⟩, ht, hc, hp⟩ := h
  refine ⟨⟨?_, ?_, ?_, ?_, ?_⟩, fun t2 g2 t0 t1 g0 g1 => ?_, fun c2 g2 c0 c1 g0 g1 => ?_, fun f2 f0 f1 => ?_⟩
  · rw [gm_uc (by omega), su_n (by omega)]; exact a
  · rw [gm_uc (by omega), su_n (by omega)]; exact b
  · rw [gm_uc (by omega), su_n (by omega)]; exact d
  · rw [gm_uc (by omega), su_n (by omega)]; exact e
  · rw [gm_uc (by omega), su_n (by omega)]; exact f'
  · rw [gm_uc (by omega), su_n (by omega)]; exact ht t2 g2 t0 t1 g0 g1
  · rw [gm_uc (by omega), su_n (by omega)]; exact hc c2 g2 c0 c1 g0 g1
  · by_cases q : f2 = f
    · subst q; rw [gm_uk, su_e]
    · rw [gm_un q, su_n (by omega)]; exact hp f2 f0 f1
theorem G_n {w : Int → Int} {μ : fr_Me} (h : fr_G w μ) (v : Int) : fr_G (sp_u w 0 v) (fr_up μ 1 3 v) := by
  rw [fr_G_iff] at h ⊢
  obtain ⟨⟨a, b, d, e, f⟩, ht, hc, hp⟩ := h
  refine ⟨⟨by rw [gm_uk, su_e], ?_, ?_, ?_, ?_⟩, fun t2 g2 t0 t1 g0 g1 => ?_, fun c2 g2 c0 c1 g0 g1 => ?_, fun f2 f0 f1 => ?_⟩
  · rw [gm_un (by omega), su_n (by omega)]; exact b
  · rw [gm_un (by omega), su_n (by omega)]; exact d
  · rw [gm_un (by omega), su_n (by omega)]; exact e
  · rw [gm_un (by omega), su_n (by omega)]; exact f
  · rw [gm_uc (by omega), su_n (by omega)]; exact ht t2 g2 t0 t1 g0 g1
  · rw [gm_uc (by omega), su_n (by omega)]; exact hc c2 g2 c0 c1 g0 g1
  · rw [gm_uc (by omega), su_n (by omega)]; exact hp f2 f0 f1
theorem G_m {w : Int → Int} {μ : fr_Me} (h : fr_G w μ) (v : Int) : fr_G (sp_u w 43 v) (fr_up μ 1 4 v) := by
  rw [fr_G_iff] at h ⊢
  obtain ⟨⟨a, b, d, e, f⟩, ht, hc, hp⟩ := h
  refine ⟨⟨?_, by rw [gm_uk, su_e], ?_, ?_, ?_⟩, fun t2 g2 t0 t1 g0 g1 => ?_, fun c2 g2 c0 c1 g0 g1 => ?_, fun f2 f0 f1 => ?_⟩
  · rw [gm_un (by omega), su_n (by omega)]; exact a
  · rw [gm_un (by omega), su_n (by omega)]; exact d
  · rw [gm_un (by omega), su_n (by omega)]; exact e
  · rw [gm_un (by omega), su_n (by omega)]; exact f
  · rw [gm_uc (by omega), su_n (by omega)]; exact ht t2 g2 t0 t1 g0 g1
  · rw [gm_uc (by omega), su_n (by omega)]; exact hc c2 g2 c0 c1 g0 g1
  · rw [gm_uc (by omega), su_n (by omega)]; exact hp f2 f0 f1
theorem G_begin {w : Int → Int} {μ : fr_Me} (h : fr_G w μ) {t k l b : Int} (ht : 0 ≤ t ∧ t < 6) : fr_G (sp_u (sp_u (sp_u (sp_u (sp_u (sp_u (sp_u w (1 + t) k) (7 + t) 5) (13 + t) l) (19 + t) b) (25 + t) 0) (31 + t) 0) (37 + t) 0) (sp_begin μ (36 + t) k l b) := by
  unfold sp_begin
  exact G_t (G_t (G_t (G_t (G_t (G_t (G_t h ht (by omega) (by omega)) ht (by omega) (by omega)) ht (by omega) (by omega)) ht (by omega) (by omega)) ht (by omega) (by omega)) ht (by omega) (by omega)) ht (by omega) (by omega)
theorem su_su (w : Int → Int) (k z z' : Int) : sp_u (sp_u w k z) k z' = sp_u w k z' := by
  funext i; unfold sp_u; split <;> rfl
theorem su_cm (w : Int → Int) {k k' z z' : Int} (h : k ≠ k') : sp_u (sp_u w k z) k' z' = sp_u (sp_u w k' z') k z := by
  funext i; unfold sp_u
  by_cases q : i = k
  · rw [if_neg (by omega), if_pos q, if_pos q]
  · by_cases r : i = k'
    · rw [if_pos r, if_neg q, if_pos r]
    · rw [if_neg r, if_neg q, if_neg q, if_neg r]
theorem G_cut {w : Int → Int} {μ : fr_Me} (h : fr_G w μ) {t k l b f g : Int} (ht : 0 ≤ t ∧ t < 6) : fr_G (sp_u (sp_u (sp_u (sp_u (sp_u (sp_u (sp_u w (1 + t) k) (7 + t) 5) (13 + t) l) (19 + t) b) (25 + t) f) (31 + t) g) (37 + t) 0) (fr_up (fr_up (sp_begin μ (36 + t) k l b) (36 + t) 4 f) (36 + t) 5 g) := by
  have h1 := G_t (G_t (G_begin h (k := k) (l := l) (b := b) ht) ht (g := 4) (by omega) (i := 25 + t) (v := f) (by omega)) ht (g := 5) (by omega) (i := 31 + t) (v := g) (by omega)
  have e : ∀ W : Int → Int, sp_u (sp_u (sp_u (sp_u (sp_u W (25 + t) 0) (31 + t) 0) (37 + t) 0) (25 + t) f) (31 + t) g = sp_u (sp_u (sp_u W (25 + t) f) (31 + t) g) (37 + t) 0 := by
    intro W
    rw [su_cm _ (show 37 + t ≠ 25 + t by omega), su_cm _ (show 31 + t ≠ 25 + t by omega), su_su, su_cm _ (show 37 + t ≠ 31 + t by omega), su_su]
  rw [e] at h1
  exact h1
