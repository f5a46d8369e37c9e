/-! steps: calls that change the ground -/
theorem addm_nc {μ : fr_Me} {k l b f g c : Int} (h : c ≠ 67) : sp_addm μ k l b f g c = μ c := by unfold sp_addm; simp (disch := omega) only [gm_uc]
theorem clm_nc {μ : fr_Me} {a b d e c : Int} (h : c ≠ 67) : sp_clm μ a b d e c = μ c := by unfold sp_clm; simp (disch := omega) only [gm_uc]
def sp_clw (w : Int → Int) (a b d e : Int) : Int → Int := sp_u (sp_u (sp_u (sp_u (sp_u w (44 + w 43) a) (49 + w 43) b) (54 + w 43) d) (59 + w 43) e) 43 (w 43 + 1)
theorem clm_67 (μ : fr_Me) (a b d e : Int) : sp_clm μ a b d e 67 = sp_clw (μ 67) a b d e := by
  unfold sp_clm sp_clw
  simp only [fu_u]
theorem addw_kw {w : Int → Int} (h0 : 0 ≤ w 0 ∧ w 0 ≤ 6) {k l b f g : Int} : fr_kw (sp_addw w k l b f g) = fr_kw w := by
  unfold sp_addw
  rw [kw_u (by omega), kw_u (by omega), kw_u (by omega), kw_u (by omega), kw_u (by omega), kw_u (by omega), kw_u (by omega), kw_u (by omega)]
theorem clw_kw {w : Int → Int} (h0 : 0 ≤ w 43 ∧ w 43 ≤ 5) {a b d e : Int} : fr_kw (sp_clw w a b d e) = fr_kw w := by
  unfold sp_clw
  rw [kw_u (by omega), kw_u (by omega), kw_u (by omega), kw_u (by omega), kw_u (by omega)]
theorem I_cl {w : Int → Int} (h : fr_I w) (hn : w 43 < 5) {a b d e : Int} (ha : 0 ≤ a ∧ a ≤ 3) (hb : 1 ≤ b ∧ b ≤ 9) (hd : 0 ≤ d ∧ d ≤ 99) (he : 0 ≤ e ∧ e ≤ 10) : fr_I (sp_clw w a b d e) := by
  have hM := h.many
  unfold sp_clw
  have t0 : 0 ≤ w 43 ∧ w 43 < 5 := ⟨hM.1, hn⟩
  have e1 : ∀ {W : Int → Int} {i v : Int}, 43 < i → sp_u W i v 43 = W 43 := fun a => su_n (by omega)
  have i1 : fr_I (sp_u w (44 + w 43) a) := I_c h t0 (g := 0) (by omega) (by omega) ⟨fun _ => ha, fun x => by omega, fun x => by omega, fun x => by omega⟩
  have i2 : fr_I (sp_u (sp_u w (44 + w 43) a) (49 + w 43) b) := I_c i1 t0 (g := 1) (by omega) (by omega) ⟨fun x => by omega, fun _ => ⟨by omega, fun _ => hb.1⟩, fun x => by omega, fun x => by omega⟩
  have i3 : fr_I (sp_u (sp_u (sp_u w (44 + w 43) a) (49 + w 43) b) (54 + w 43) d) := I_c i2 t0 (g := 2) (by omega) (by omega) ⟨fun x => by omega, fun x => by omega, fun _ => hd, fun x => by omega⟩
  have i4 : fr_I (sp_u (sp_u (sp_u (sp_u w (44 + w 43) a) (49 + w 43) b) (54 + w 43) d) (59 + w 43) e) := I_c i3 t0 (g := 3) (by omega) (by omega) ⟨fun x => by omega, fun x => by omega, fun x => by omega, fun _ => he⟩
  have e43 : sp_u (sp_u (sp_u (sp_u w (44 + w 43) a) (49 + w 43) b) (54 + w 43) d) (59 + w 43) e 43 = w 43 := by rw [e1 (by omega), e1 (by omega), e1 (by omega), e1 (by omega)]
  have := I_m i4 (by omega) (by rw [e43, su_n (by omega), su_n (by omega), su_e]; exact hb.1)
  rw [e43] at this
  exact this
theorem G_cl {w : Int → Int} {μ : fr_Me} (h : fr_G w μ) (hM : 0 ≤ w 43 ∧ w 43 < 5) {a b d e : Int} : fr_G (sp_clw w a b d e) (fr_up (fr_up (fr_up (fr_up (fr_up μ (48 + w 43) 0 a) (48 + w 43) 1 b) (48 + w 43) 2 d) (48 + w 43) 3 e) 1 4 (w 43 + 1)) := by
  unfold sp_clw
  exact G_m (G_c (G_c (G_c (G_c h hM (by omega) (by omega)) hM (by omega) (by omega)) hM (by omega) (by omega)) hM (by omega) (by omega)) _
/-- behind a change of the ground alone, on both sides -/
theorem fr_St.two {μ m m' : fr_Me} {w : Int → Int} (h : fr_St μ) (hI : fr_I w) (hG : fr_G w m) (e67 : m' 67 = w) (hk : fr_kw w = fr_kw (μ 67)) (e1 : ∀ c, c ≠ 1 → c ≠ 4 → (c < 36 ∨ 42 ≤ c) → (c < 48 ∨ 53 ≤ c) → m c = μ c) (e2 : ∀ c, c ≠ 67 → m' c = m c) : fr_St m' :=
  h.grd hI (hG.keep (fun c hc => e2 c (by omega))) e67 hk (fun c hc => (e2 c (by omega)).trans (e1 c (by omega) (by omega) (by omega) (by omega))) (by rw [e2 9 (by omega), e1 9 (by omega) (by omega) (by omega) (by omega)]) (by rw [e2 66 (by omega), e1 66 (by omega) (by omega) (by omega) (by omega)]) (by rw [e2 66 (by omega), e1 66 (by omega) (by omega) (by omega) (by omega)])
theorem st_tree {μ m m' : fr_Me} {k : Int} {z z' : Int} (h : fr_St μ) (h1 : c_tree μ k z m) (h2 : r_tree m k z' m') : z = z' ∧ fr_St m' := by
  have iN := h.1.n
  have iM := h.1.many
  rcases h1 with ⟨a, rfl, rfl⟩ | ⟨a, b, rfl, rfl⟩ | ⟨a, b, hz, hm⟩
  · rcases h2 with ⟨_, rfl, rfl⟩ | ⟨g, _⟩ | ⟨g, _⟩
    · exact ⟨rfl, h⟩
    · exact absurd g a
    · exact absurd g a
  · rcases h2 with ⟨g, _⟩ | ⟨_, _, rfl, rfl⟩ | ⟨_, g, _⟩
    · exact absurd a g
    · exact ⟨rfl, h⟩
    · exact absurd b (by omega)
  · have e1 : ∀ c, c ≠ 1 → (c < 36 ∨ 42 ≤ c) → m c = μ c := fun c c1 c2 => by rw [hm, gm_uc c1, sp_begin_nc _ _ _ _ (by omega)]
    have e67 := e1 67 (by omega) (by omega)
    unfold r_tree at h2
    rw [e67] at h2
    rcases h2 with ⟨g, _⟩ | ⟨_, g, _⟩ | ⟨_, _, hz2, hm2⟩
    · exact absurd a g
    · omega
    · refine ⟨by rw [hz, hz2], h.two (w := sp_addw (μ 67) k 5 5 0 0) (I_add h.1 b a (Or.inl rfl) (Or.inl rfl) (by omega) (by omega)) ?_ (by rw [hm2, sp_addm_67, e67]) (addw_kw iN) (fun c c1 _ c2 _ => e1 c c1 c2) (fun c hc => by rw [hm2]; exact addm_nc hc)⟩
      rw [hm]
      exact G_n (G_begin h.2.1 (by omega)) _
theorem st_cutting {μ m m' : fr_Me} {t : Int} {z z' : Int} (h : fr_St μ) (h1 : c_cutting μ t z m) (h2 : r_cutting m t z' m') : z = z' ∧ fr_St m' := by
  have iN := h.1.n
  have iM := h.1.many
  rcases h1 with ⟨a, rfl, rfl⟩ | ⟨a, b, rfl, rfl⟩ | ⟨a, b, hz, hm⟩
  · rcases h2 with ⟨_, rfl, rfl⟩ | ⟨g, _⟩ | ⟨g, _⟩
    · exact ⟨rfl, h⟩
    · exact absurd g a
    · exact absurd g a
  · rcases h2 with ⟨g, _⟩ | ⟨_, _, rfl, rfl⟩ | ⟨_, g, _⟩
    · exact absurd a g
    · exact ⟨rfl, h⟩
    · exact absurd b (by omega)
  · have e1 : ∀ c, c ≠ 1 → (c < 36 ∨ 42 ≤ c) → m c = μ c := fun c c1 c2 => by rw [hm, gm_uc c1, sp_cut_nc _ _ (by omega)]
    have e67 := e1 67 (by omega) (by omega)
    unfold r_cutting at h2
    rw [e67] at h2
    rcases h2 with ⟨g, _⟩ | ⟨_, g, _⟩ | ⟨_, _, hz2, hm2⟩
    · exact absurd a g
    · omega
    · have iT := h.1.tree (t := t) (by omega) (by omega)
      unfold fr_It sp_ok at iT
      have iT2 := iT.2.2.2.2.2.2.2 a.2
      obtain ⟨g0, g1, g2, g3, g4, g5, g6⟩ := h.2.1.tree (t := t) (by omega) (by omega)
      refine ⟨by rw [hz, hz2], h.two (w := sp_addw (μ 67) (μ 67 (1 + t)) (μ 67 (13 + t)) (μ 67 (19 + t)) (μ 67 (25 + t)) (μ 67 (31 + t))) (I_add h.1 b iT.1 iT2.2.1 iT2.2.2 iT.2.2.2.2.1 iT.2.2.2.2.2.1) ?_ (by rw [hm2, sp_addm_67, e67]) (addw_kw iN) (fun c c1 _ c2 _ => e1 c c1 c2) (fun c hc => by rw [hm2]; exact addm_nc hc)⟩
      rw [hm]
      unfold sp_cut
      rw [g0, g2, g3, g4, g5]
      exact G_n (G_cut h.2.1 (by omega)) _
theorem st_climber {μ m m' : fr_Me} {a b d e : Int} {z z' : Int} (h : fr_St μ) (h1 : c_climber μ a b d e z m) (h2 : r_climber m a b d e z' m') : z = z' ∧ fr_St m' := by
  have iN := h.1.n
  have iM := h.1.many
  rcases h1 with ⟨a9, rfl, rfl⟩ | ⟨a9, b9, rfl, rfl⟩ | ⟨a9, b9, hz, hm⟩
  · rcases h2 with ⟨_, rfl, rfl⟩ | ⟨g, _⟩ | ⟨g, _⟩
    · exact ⟨rfl, h⟩
    · exact absurd g a9
    · exact absurd g a9
  · rcases h2 with ⟨g, _⟩ | ⟨_, _, rfl, rfl⟩ | ⟨_, g, _⟩
    · exact absurd a9 g
    · exact ⟨rfl, h⟩
    · exact absurd b9 (by omega)
  · have e1 : ∀ c, c ≠ 1 → (c < 48 ∨ 53 ≤ c) → m c = μ c := fun c c1 c2 => by rw [hm]; simp (disch := omega) only [gm_uk, gm_un, gm_uc]
    have e67 := e1 67 (by omega) (by omega)
    unfold r_climber at h2
    rw [e67] at h2
    rcases h2 with ⟨g, _⟩ | ⟨_, g, _⟩ | ⟨_, _, hz2, hm2⟩
    · exact absurd a9 g
    · omega
    · refine ⟨by rw [hz, hz2], h.two (w := sp_clw (μ 67) a b d e) (I_cl h.1 b9 a9.1 a9.2.1 a9.2.2.1 a9.2.2.2) ?_ (by rw [hm2, clm_67, e67]) (clw_kw iM) (fun c c1 _ _ c2 => e1 c c1 c2) (fun c hc => by rw [hm2]; exact clm_nc hc)⟩
      rw [hm]
      exact G_cl h.2.1 (by omega)
theorem st_set {μ m m' : fr_Me} {c what v : Int} {z z' : Int} (h : fr_St μ) (h1 : c_set μ c what v z m) (h2 : r_set m c what v z' m') : z = z' ∧ fr_St m' := by
  have iN := h.1.n
  have iM := h.1.many
  rcases h1 with ⟨a, rfl, rfl⟩ | ⟨a, hz, hm⟩
  · rcases h2 with ⟨_, rfl, rfl⟩ | ⟨g, _⟩
    · exact ⟨rfl, h⟩
    · exact absurd g a
  · have hw : what = 1 ∨ what = 2 ∨ what = 3 := by omega
    have e67 : m 67 = μ 67 := by rw [hm]; simp (disch := omega) only [gm_uk, gm_un, gm_uc]
    unfold r_set at h2
    rw [e67] at h2
    rcases h2 with ⟨g, _⟩ | ⟨_, hz2, hm2⟩
    · exact absurd a g
    · refine ⟨by rw [hz, hz2], h.two (m := m) (w := sp_u (μ 67) (44 + 5 * what + c) v) (I_c h.1 (by omega) (g := what) (by omega) rfl (by unfold ci_r; omega)) ?_ (by rw [hm2, fu_u, e67]) (kw_u (by omega)) (fun c c1 c2 c3 c4 => by rw [hm]; simp (disch := omega) only [gm_uk, gm_un, gm_uc]) (fun c hc => by rw [hm2]; exact gm_uc hc)⟩
      rw [hm]
      exact (by rcases hw with q | q | q <;> subst q; (· exact G_c h.2.1 (by omega) (g := 1) (by omega) (by omega)); (· exact G_c h.2.1 (by omega) (g := 2) (by omega) (by omega)); (· exact G_c h.2.1 (by omega) (g := 3) (by omega) (by omega)))
theorem st_price {μ m m' : fr_Me} {f v : Int} {z z' : Int} (h : fr_St μ) (h1 : c_price μ f v z m) (h2 : r_price m f v z' m') : z = z' ∧ fr_St m' := by
  have iN := h.1.n
  have iM := h.1.many
  rcases h1 with ⟨a, rfl, rfl⟩ | ⟨a, hz, hm⟩
  · rcases h2 with ⟨_, rfl, rfl⟩ | ⟨g, _⟩
    · exact ⟨rfl, h⟩
    · exact absurd g a
  · have _hx := a
    have e67 : m 67 = μ 67 := by rw [hm]; simp (disch := omega) only [gm_uk, gm_un, gm_uc]
    unfold r_price at h2
    rw [e67] at h2
    rcases h2 with ⟨g, _⟩ | ⟨_, hz2, hm2⟩
    · exact absurd a g
    · refine ⟨by rw [hz, hz2], h.two (m := m) (w := sp_u (μ 67) (64 + f) v) (I_p h.1 (by omega) a.2) ?_ (by rw [hm2, fu_u, e67]) (kw_u (by omega)) (fun c c1 c2 c3 c4 => by rw [hm]; simp (disch := omega) only [gm_uk, gm_un, gm_uc]) (fun c hc => by rw [hm2]; exact gm_uc hc)⟩
      rw [hm]
      exact G_p h.2.1 (by omega)
theorem st_seed {μ m m' : fr_Me} {v : Int} {z z' : Int} (hv : v ≤ 2147483647) (h : fr_St μ) (h1 : c_seed μ v z m) (h2 : r_seed m v z' m') : z = z' ∧ fr_St m' := by
  have iN := h.1.n
  have iM := h.1.many
  rcases h1 with ⟨a, rfl, rfl⟩ | ⟨a, hz, hm⟩
  · rcases h2 with ⟨_, rfl, rfl⟩ | ⟨g, _⟩
    · exact ⟨rfl, h⟩
    · omega
  · have e67 : m 67 = μ 67 := by rw [hm]; simp (disch := omega) only [gm_uk, gm_un, gm_uc]
    unfold r_seed at h2
    rw [e67] at h2
    rcases h2 with ⟨g, _⟩ | ⟨_, hz2, hm2⟩
    · omega
    · refine ⟨by rw [hz, hz2], h.two (m := m) (w := sp_u (μ 67) 74 v) (fr_I_u74 h.1 ⟨a, hv⟩) ?_ (by rw [hm2, fu_u, e67]) (kw_u (by omega)) (fun c c1 c2 c3 c4 => by rw [hm]; simp (disch := omega) only [gm_uk, gm_un, gm_uc]) (fun c hc => by rw [hm2]; exact gm_uc hc)⟩
      rw [hm]
      exact fr_G_u74 h.2.1 v
theorem st_climb {μ m m' : fr_Me} {t c : Int} {z z' : Int} (h : fr_St μ) (h1 : c_climb μ t c z m) (h2 : r_climb m t c z' m') : z = z' ∧ fr_St m' := by
  have iN := h.1.n
  have iM := h.1.many
  rcases h1 with ⟨a, rfl, rfl⟩ | ⟨a, b, rfl, rfl⟩ | ⟨a, b, hz, hm⟩
  · rcases h2 with ⟨_, rfl, rfl⟩ | ⟨g, _⟩ | ⟨g, _⟩
    · exact ⟨rfl, h⟩
    · exact absurd g a
    · exact absurd g a
  · rcases h2 with ⟨g, _⟩ | ⟨_, _, rfl, rfl⟩ | ⟨_, g, _⟩
    · exact absurd a g
    · exact ⟨rfl, h⟩
    · exact absurd g b
  · have iT := h.1.tree (t := t) (by omega) (by omega)
    have e67 : m 67 = μ 67 := by rw [hm]; simp (disch := omega) only [gm_uk, gm_un, gm_uc]
    unfold r_climb at h2
    rw [e67] at h2
    rcases h2 with ⟨g, _⟩ | ⟨_, g, _⟩ | ⟨_, _, hz2, hm2⟩
    · exact absurd a g
    · exact absurd b g
    · refine ⟨by rw [hz, hz2], h.two (m := m) (w := sp_u (μ 67) (7 + t) c) (I_t h.1 (t := t) (by omega) (g := 1) (by omega) (by omega) (by unfold ti_r; omega)) ?_ (by rw [hm2, fu_u, e67]) (kw_u (by omega)) (fun c c1 c2 c3 c4 => by rw [hm]; simp (disch := omega) only [gm_uk, gm_un, gm_uc]) (fun c hc => by rw [hm2]; exact gm_uc hc)⟩
      rw [hm]
      exact G_t h.2.1 (by omega) (by omega) (by omega)
theorem fr_shl5 {m : Int} (hm : 0 ≤ m ∧ m ≤ 5) : fr_shl 1 m ≤ 32 := by
  have e : ∀ m : Fin 6, fr_shl 1 (m.val : Nat) ≤ 32 := by decide +kernel
  have := e ⟨m.toNat, by omega⟩
  simp only [Int.toNat_of_nonneg hm.1] at this
  exact this
theorem fence5 {w : Int → Int} (hI : fr_I w) {t set : Int} (ht : 0 ≤ t ∧ t < w 0) (hs : 0 ≤ set ∧ set ≤ fr_shl 1 (w 43) - 1) (h : sp_in set (w (7 + t))) : w (7 + t) ≠ 5 := by
  intro e
  have := fr_shl5 hI.many
  rw [e] at h
  exact bx_hi (by omega) (by omega) h
theorem st_fence {μ m m' : fr_Me} {t set : Int} {z z' : Int} (h : fr_St μ) (h1 : c_fence μ t set z m) (h2 : r_fence m t set z' m') : z = z' ∧ fr_St m' := by
  have iN := h.1.n
  have iM := h.1.many
  rcases h1 with ⟨a, rfl, rfl⟩ | ⟨a, b, rfl, rfl⟩ | ⟨a, b, hz, hm⟩
  · rcases h2 with ⟨_, rfl, rfl⟩ | ⟨g, _⟩ | ⟨g, _⟩
    · exact ⟨rfl, h⟩
    · exact absurd g a
    · exact absurd g a
  · rcases h2 with ⟨g, _⟩ | ⟨_, _, rfl, rfl⟩ | ⟨_, g, _⟩
    · exact absurd a g
    · exact ⟨rfl, h⟩
    · exact absurd ⟨fence5 h.1 a.1 a.2 b, b⟩ g
  · have iT := h.1.tree (t := t) (by omega) (by omega)
    have e67 : m 67 = μ 67 := by rw [hm]; simp (disch := omega) only [gm_uk, gm_un, gm_uc]
    unfold r_fence at h2
    rw [e67] at h2
    rcases h2 with ⟨g, _⟩ | ⟨_, g, _⟩ | ⟨_, _, hz2, hm2⟩
    · exact absurd a g
    · exact absurd g.2 b
    · refine ⟨by rw [hz, hz2], h.two (m := m) (w := sp_u (μ 67) (37 + t) set) (I_t h.1 (t := t) (by omega) (g := 6) (by omega) (by omega) (by unfold ti_r; have := fr_shl5 iM; omega)) ?_ (by rw [hm2, fu_u, e67]) (kw_u (by omega)) (fun c c1 c2 c3 c4 => by rw [hm]; simp (disch := omega) only [gm_uk, gm_un, gm_uc]) (fun c hc => by rw [hm2]; exact gm_uc hc)⟩
      rw [hm]
      exact G_t h.2.1 (by omega) (by omega) (by omega)
