/-! what the class leaves of the reference: all of it -/
theorem ck_told {μ m : fr_Me} {c what : Int} {z : Int} (h : fr_St μ) (h1 : c_told μ c what z m) : ∀ c, 66 ≤ c → m c = μ c := by
  intro c9 hc
  have iN := h.1.n
  have iM := h.1.many
  rw [h1.2]
theorem ck_of {μ m : fr_Me} {t what : Int} {z : Int} (h : fr_St μ) (h1 : c_of μ t what z m) : ∀ c, 66 ≤ c → m c = μ c := by
  intro c9 hc
  have iN := h.1.n
  have iM := h.1.many
  rw [h1.2]
theorem ck_bears {μ m : fr_Me} {t f : Int} {z : Int} (h : fr_St μ) (h1 : c_bears μ t f z m) : ∀ c, 66 ≤ c → m c = μ c := by
  intro c9 hc
  have iN := h.1.n
  have iM := h.1.many
  rw [h1.2]
theorem ck_basket {μ m : fr_Me} {f what : Int} {z : Int} (h : fr_St μ) (h1 : c_basket μ f what z m) : ∀ c, 66 ≤ c → m c = μ c := by
  intro c9 hc
  have iN := h.1.n
  have iM := h.1.many
  rw [h1.2]
theorem ck_value {μ m : fr_Me} {what : Int} {z : Int} (h : fr_St μ) (h1 : c_value μ what z m) : ∀ c, 66 ≤ c → m c = μ c := by
  intro c9 hc
  have iN := h.1.n
  have iM := h.1.many
  rw [h1.2]
theorem ck_count {μ m : fr_Me} {what : Int} {z : Int} (h : fr_St μ) (h1 : c_count μ what z m) : ∀ c, 66 ≤ c → m c = μ c := by
  intro c9 hc
  have iN := h.1.n
  have iM := h.1.many
  rw [h1.2]
theorem ck_upper {μ m : fr_Me} {z : Int} (h : fr_St μ) (h1 : c_upper μ z m) : ∀ c, 66 ≤ c → m c = μ c := by
  intro c9 hc
  have iN := h.1.n
  have iM := h.1.many
  rw [h1.2]
theorem ck_lower {μ m : fr_Me} {z : Int} (h : fr_St μ) (h1 : c_lower μ z m) : ∀ c, 66 ≤ c → m c = μ c := by
  intro c9 hc
  have iN := h.1.n
  have iM := h.1.many
  rw [h1.2]
theorem ck_tree {μ m : fr_Me} {k : Int} {z : Int} (h : fr_St μ) (h1 : c_tree μ k z m) : ∀ c, 66 ≤ c → m c = μ c := by
  intro c9 hc
  have iN := h.1.n
  have iM := h.1.many
  rcases h1 with ⟨a9, _, hm⟩ | ⟨a9, _, _, hm⟩ | ⟨a9, _, _, hm⟩
  · rw [hm]
  · rw [hm]
  · rw [hm, gm_uc (by omega), sp_begin_nc _ _ _ _ (by omega)]
theorem ck_cutting {μ m : fr_Me} {t : Int} {z : Int} (h : fr_St μ) (h1 : c_cutting μ t z m) : ∀ c, 66 ≤ c → m c = μ c := by
  intro c9 hc
  have iN := h.1.n
  have iM := h.1.many
  rcases h1 with ⟨a9, _, hm⟩ | ⟨a9, _, _, hm⟩ | ⟨a9, _, _, hm⟩
  · rw [hm]
  · rw [hm]
  · rw [hm, gm_uc (by omega), sp_cut_nc _ _ (by omega)]
theorem ck_climber {μ m : fr_Me} {a b d e : Int} {z : Int} (h : fr_St μ) (h1 : c_climber μ a b d e z m) : ∀ c, 66 ≤ c → m c = μ c := by
  intro c9 hc
  have iN := h.1.n
  have iM := h.1.many
  rcases h1 with ⟨a9, _, hm⟩ | ⟨a9, _, _, hm⟩ | ⟨a9, _, _, hm⟩
  · rw [hm]
  · rw [hm]
  · rw [hm]; simp (disch := omega) only [gm_uc]
theorem ck_type {μ m : fr_Me} {c : Int} {z : Int} (h : fr_St μ) (h1 : c_type μ c z m) : ∀ c, 66 ≤ c → m c = μ c := by
  intro c9 hc
  have iN := h.1.n
  have iM := h.1.many
  rcases h1 with ⟨a9, _, hm⟩ | ⟨a9, _, _, hm⟩ | ⟨a9, _, _, hm⟩
  · rw [hm]
  · rw [hm]
  · rw [hm]; simp (disch := omega) only [gm_uc]
theorem ck_fence {μ m : fr_Me} {t set : Int} {z : Int} (h : fr_St μ) (h1 : c_fence μ t set z m) : ∀ c, 66 ≤ c → m c = μ c := by
  intro c9 hc
  have iN := h.1.n
  have iM := h.1.many
  rcases h1 with ⟨a9, _, hm⟩ | ⟨a9, _, _, hm⟩ | ⟨a9, _, _, hm⟩
  · rw [hm]
  · rw [hm]
  · rw [hm]; simp (disch := omega) only [gm_uc]
theorem ck_climb {μ m : fr_Me} {t c : Int} {z : Int} (h : fr_St μ) (h1 : c_climb μ t c z m) : ∀ c, 66 ≤ c → m c = μ c := by
  intro c9 hc
  have iN := h.1.n
  have iM := h.1.many
  rcases h1 with ⟨a9, _, hm⟩ | ⟨a9, _, _, hm⟩ | ⟨a9, _, _, hm⟩
  · rw [hm]
  · rw [hm]
  · rw [hm]; simp (disch := omega) only [gm_uc]
theorem ck_drop {μ m : fr_Me} {s : Int} {z : Int} (h : fr_St μ) (h1 : c_drop μ s z m) : ∀ c, 66 ≤ c → m c = μ c := by
  intro c9 hc
  have iN := h.1.n
  have iM := h.1.many
  rcases h1 with ⟨a9, _, hm⟩ | ⟨a9, _, _, hm⟩ | ⟨a9, _, _, hm⟩
  · rw [hm]
  · rw [hm]
  · rw [hm]; simp (disch := omega) only [gm_uc]
theorem ck_item {μ m : fr_Me} {s lane i v : Int} {z : Int} (h : fr_St μ) (h1 : c_item μ s lane i v z m) : ∀ c, 66 ≤ c → m c = μ c := by
  intro c9 hc
  have iN := h.1.n
  have iM := h.1.many
  rcases h1 with ⟨a9, _, hm⟩ | ⟨a9, _, _, hm⟩ | ⟨a9, _, _, hm⟩
  · rw [hm]
  · rw [hm]
  · rw [hm]; simp (disch := omega) only [gm_uc]
theorem ck_sheet {μ m : fr_Me} {s lane n : Int} {z : Int} (h : fr_St μ) (h1 : c_sheet μ s lane n z m) : ∀ c, 66 ≤ c → m c = μ c := by
  intro c9 hc
  have iN := h.1.n
  have iM := h.1.many
  rcases h1 with ⟨a9, _, hm⟩ | ⟨a9, _, _, hm⟩ | ⟨a9, _, _, hm⟩
  · rw [hm]
  · rw [hm]
  · rw [hm, gm_uc (by omega), gm_uc (by omega), gm_uc (by omega), sp_fill_nc _ _ _ (by omega)]
theorem ck_set {μ m : fr_Me} {c what v : Int} {z : Int} (h : fr_St μ) (h1 : c_set μ c what v z m) : ∀ c, 66 ≤ c → m c = μ c := by
  intro c9 hc
  have iN := h.1.n
  have iM := h.1.many
  rcases h1 with ⟨a9, _, hm⟩ | ⟨a9, _, hm⟩
  · rw [hm]
  · rw [hm]; simp (disch := omega) only [gm_uc]
theorem ck_price {μ m : fr_Me} {f v : Int} {z : Int} (h : fr_St μ) (h1 : c_price μ f v z m) : ∀ c, 66 ≤ c → m c = μ c := by
  intro c9 hc
  have iN := h.1.n
  have iM := h.1.many
  rcases h1 with ⟨a9, _, hm⟩ | ⟨a9, _, hm⟩
  · rw [hm]
  · rw [hm]; simp (disch := omega) only [gm_uc]
theorem ck_seed {μ m : fr_Me} {v : Int} {z : Int} (h : fr_St μ) (h1 : c_seed μ v z m) : ∀ c, 66 ≤ c → m c = μ c := by
  intro c9 hc
  have iN := h.1.n
  have iM := h.1.many
  rcases h1 with ⟨a9, _, hm⟩ | ⟨a9, _, hm⟩
  · rw [hm]
  · rw [hm]; simp (disch := omega) only [gm_uc]
theorem ck_year {μ m : fr_Me} {z : Int} (h : fr_St μ) (h1 : c_year μ z m) : ∀ c, 66 ≤ c → m c = μ c := by
  intro c9 hc
  have iN := h.1.n
  have iM := h.1.many
  rcases h1 with ⟨_, _, hm⟩ | ⟨_, _, _, e⟩
  · rw [hm]
  · exact e c9 (by omega)
theorem ck_send {μ m : fr_Me} {z : Int} (h : fr_St μ) (h1 : c_send μ z m) : ∀ c, 66 ≤ c → m c = μ c := by
  intro c9 hc
  have iN := h.1.n
  have iM := h.1.many
  exact h1.2.2 c9 (by omega) (by omega)
theorem ck_commons {μ m : fr_Me} {z : Int} (h : fr_St μ) (h1 : c_commons μ z m) : ∀ c, 66 ≤ c → m c = μ c := by
  intro c9 hc
  have iN := h.1.n
  have iM := h.1.many
  obtain ⟨_, _, i, hi, _, h1⟩ := h1
  rcases h1 with ⟨_, e⟩ | ⟨_, _, _, _, e, _⟩
  · exact e c9 (by omega) (by omega) (by omega) (by omega)
  · exact e c9 (by omega) (by omega) (by omega) (by omega) (by omega) (by omega)
theorem ck_image {μ m : fr_Me} {z : Int} (h : fr_St μ) (h1 : c_image μ z m) : ∀ c, 66 ≤ c → m c = μ c := by
  intro c9 hc
  have iN := h.1.n
  have iM := h.1.many
  obtain ⟨_, n, hn, hm⟩ := h1
  rw [hm, gm_uc (by omega)]
  exact hn.2.2.2.2 c9 (by omega)
theorem ck_restore {μ m : fr_Me} {z : Int} (h : fr_St μ) (h1 : c_restore μ z m) : ∀ c, 66 ≤ c → m c = μ c := by
  intro c9 hc
  have iN := h.1.n
  have iM := h.1.many
  rcases h1 with ⟨_, _, hm⟩ | ⟨_, _, hp⟩
  · rw [hm]
  · exact hp.2.2.2.2 c9 (by omega)
theorem ck_best {μ m : fr_Me} {t : Int} {z : Int} (h : fr_St μ) (h1 : c_best μ t z m) : ∀ c, 66 ≤ c → m c = μ c := by
  intro c9 hc
  have iN := h.1.n
  have iM := h.1.many
  rcases h1 with ⟨_, _, hm⟩ | ⟨_, _, e⟩
  · rw [hm]
  · exact e c9 (by omega)
theorem ck_worth {μ m : fr_Me} {c : Int} {z : Int} (h : fr_St μ) (h1 : c_worth μ c z m) : ∀ c, 66 ≤ c → m c = μ c := by
  intro c9 hc
  have iN := h.1.n
  have iM := h.1.many
  rcases h1 with ⟨_, _, hm⟩ | ⟨_, _, e⟩
  · rw [hm]
  · exact e c9 (by omega)
theorem ck_game {μ m : fr_Me} {set : Int} {z : Int} (h : fr_St μ) (h1 : c_game μ set z m) : ∀ c, 66 ≤ c → m c = μ c := by
  intro c9 hc
  have iN := h.1.n
  have iM := h.1.many
  rcases h1 with ⟨_, _, hm⟩ | ⟨_, _, e⟩
  · rw [hm]
  · exact e c9 (by omega)
theorem ck_fences {μ m : fr_Me} {set gain : Int} {z : Int} (h : fr_St μ) (h1 : c_fences μ set gain z m) : ∀ c, 66 ≤ c → m c = μ c := by
  intro c9 hc
  have iN := h.1.n
  have iM := h.1.many
  rcases h1 with ⟨_, _, hm⟩ | ⟨_, _, e⟩
  · rw [hm]
  · exact e c9 (by omega)
theorem ck_hired {μ m : fr_Me} {s lane i tree : Int} {z : Int} (h : fr_St μ) (h1 : c_hired μ s lane i tree z m) : ∀ c, 66 ≤ c → m c = μ c := by
  intro c9 hc
  have iN := h.1.n
  have iM := h.1.many
  rcases h1 with ⟨_, _, hm⟩ | ⟨_, _, _, hm⟩ | ⟨_, _, _, e⟩
  · rw [hm]
  · rw [hm]
  · exact e c9 (by omega)
theorem ck_night {μ m : fr_Me} {s lane i what : Int} {z : Int} (h : fr_St μ) (h1 : c_night μ s lane i what z m) : ∀ c, 66 ≤ c → m c = μ c := by
  intro c9 hc
  have iN := h.1.n
  have iM := h.1.many
  rcases h1 with ⟨_, _, hm⟩ | ⟨_, _, _, hm⟩ | ⟨_, _, _, e⟩
  · rw [hm]
  · rw [hm]
  · exact e c9 (by omega)
theorem ck_pie {μ m : fr_Me} {s lane i what : Int} {z : Int} (h : fr_St μ) (h1 : c_pie μ s lane i what z m) : ∀ c, 66 ≤ c → m c = μ c := by
  intro c9 hc
  have iN := h.1.n
  have iM := h.1.many
  rcases h1 with ⟨_, _, hm⟩ | ⟨_, _, _, hm⟩ | ⟨_, _, _, e⟩
  · rw [hm]
  · rw [hm]
  · exact e c9 (by omega)
theorem ck_earned {μ m : fr_Me} {s lane i n mm : Int} {z : Int} (h : fr_St μ) (h1 : c_earned μ s lane i n mm z m) : ∀ c, 66 ≤ c → m c = μ c := by
  intro c9 hc
  have iN := h.1.n
  have iM := h.1.many
  exact h1.1 c9 (by omega)
theorem ck_again {μ m : fr_Me} {s lane i n what : Int} {z : Int} (h : fr_St μ) (h1 : c_again μ s lane i n what z m) : ∀ c, 66 ≤ c → m c = μ c := by
  intro c9 hc
  have iN := h.1.n
  have iM := h.1.many
  exact h1.1 c9 (by omega)
theorem ck_film {μ m : fr_Me} {s lane i : Int} {z : Int} (h : fr_St μ) (h1 : c_film μ s lane i z m) : ∀ c, 66 ≤ c → m c = μ c := by
  intro c9 hc
  have iN := h.1.n
  have iM := h.1.many
  rcases h1 with ⟨_, _, hm⟩ | ⟨_, _, _, hm⟩ | ⟨a9, _, _, e, _⟩
  · rw [hm]
  · rw [hm]
  · exact e c9 (by omega)
theorem ck_copy {μ m : fr_Me} {a i b q n : Int} {z : Int} (h : fr_St μ) (h1 : c_copy μ a i b q n z m) : ∀ c, 66 ≤ c → m c = μ c := by
  intro c9 hc
  have iN := h.1.n
  have iM := h.1.many
  rcases h1 with ⟨_, _, hm⟩ | ⟨_, _, _, hm⟩ | ⟨_, _, _, _, _, hm⟩ | ⟨_, _, _, _, _, _, hm⟩ | ⟨a9, _, _, _, _, _, hm⟩
  · rw [hm]
  · rw [hm]
  · rw [hm]
  · rw [hm]
  · rw [hm]; exact sp_cpy_nc _ _ _ _ _ (by omega)
