/-! steps: sheets -/
/-- sheets alone changed -/
theorem fr_St.sh {μ n : fr_Me} (h : fr_St μ) (e : ∀ c, (c < 58 ∨ (66 ≤ c ∧ c < 75)) → n c = μ c) (hS : fr_Sh n) (hQ : fr_Sq n) : fr_St n := by
  obtain ⟨hI, hG, hK, hT, _, _⟩ := h
  have e67 := e 67 (by omega)
  exact ⟨by rw [e67]; exact hI, by rw [e67]; exact hG.keep (fun c hc => e c (by omega)), hK.keep (fun c hc => e c (by omega)) (by rw [e 0 (by omega)]) (by rw [e 66 (by omega)]) (by rw [e67]), hT.keep (e 10 (by omega)) (by rw [e 9 (by omega)]) (e 68 (by omega)) (by rw [e 66 (by omega)]), hS, hQ⟩
theorem cutl_rg {lane v : Int} (hv : -9223372036854775808 ≤ v ∧ v ≤ 9223372036854775807) : -9223372036854775808 ≤ sp_cutl lane v ∧ sp_cutl lane v ≤ 9223372036854775807 := by
  unfold sp_cutl
  have h1 := Int.le_bmod (x := v) (m := 256) (by omega)
  have h2 := Int.bmod_lt (x := v) (m := 256) (by omega)
  have h3 := Int.le_bmod (x := v) (m := 65536) (by omega)
  have h4 := Int.bmod_lt (x := v) (m := 65536) (by omega)
  have h5 := Int.le_bmod (x := v) (m := 4294967296) (by omega)
  have h6 := Int.bmod_lt (x := v) (m := 4294967296) (by omega)
  (repeat' split) <;> omega
/-- items alone changed, on both sides alike -/
theorem fr_St.it {μ n : fr_Me} (h : fr_St μ) (e : ∀ c, (c < 62 ∨ (66 ≤ c ∧ c < 77)) → n c = μ c) (r : ∀ k, 0 ≤ k → k < 64 → -9223372036854775808 ≤ n 77 k ∧ n 77 k ≤ 9223372036854775807) (q : ∀ s k, 0 ≤ s → s < 4 → 0 ≤ k → k < 16 → n (62 + s) k = n 77 (16 * s + k)) : fr_St n := by
  obtain ⟨_, _, _, _, hS, hQ⟩ := id h
  refine h.sh (fun c hc => e c (by omega)) ⟨?_, r⟩ (fun s s0 s4 => ?_)
  · rw [e 75 (by omega), e 76 (by omega)]; exact hS.1
  · obtain ⟨a, b, c, d, _⟩ := hQ s s0 s4
    unfold sh_L at a ⊢
    rw [e (58 + s) (by omega), e 75 (by omega), e 76 (by omega)]
    exact ⟨a, b, c, d, fun k k0 k1 => q s k s0 s4 k0 k1⟩
theorem st_drop {μ m m' : fr_Me} {s : Int} {z z' : Int} (h : fr_St μ) (h1 : c_drop μ s z m) (h2 : r_drop m s z' m') : z = z' ∧ fr_St m' := by
  obtain ⟨_, _, _, _, hS, hQ⟩ := id h
  rcases h1 with ⟨a, rfl, rfl⟩ | ⟨a, b, rfl, rfl⟩ | ⟨a, b, hz, hm⟩
  · rcases h2 with ⟨_, rfl, rfl⟩ | ⟨g, _⟩ | ⟨g, _⟩
    · exact ⟨rfl, h⟩
    · exact absurd g a
    · exact absurd g a
  · have q := hQ s (by omega) (by omega)
    rw [q.1] at b
    rcases h2 with ⟨g, _⟩ | ⟨_, _, rfl, rfl⟩ | ⟨_, g, _⟩
    · exact absurd a g
    · exact ⟨rfl, h⟩
    · omega
  · have q := hQ s (by omega) (by omega)
    rw [q.1] at b
    have e75 : m 75 = μ 75 := by rw [hm]; simp (disch := omega) only [gm_uk, gm_un, gm_uc]
    have e76 : m 76 = μ 76 := by rw [hm]; simp (disch := omega) only [gm_uk, gm_un, gm_uc]
    unfold r_drop at h2
    rw [e75, e76] at h2
    rcases h2 with ⟨g, _⟩ | ⟨_, g, _⟩ | ⟨_, _, hz2, hm2⟩
    · exact absurd a g
    · omega
    · refine ⟨by rw [hz, hz2, q.2.1], h.sh (fun c hc => by rw [hm2, hm]; simp (disch := omega) only [gm_uk, gm_un, gm_uc]) ⟨fun s2 s0 s4 => ?_, fun k k0 k1 => by rw [hm2, hm]; simp (disch := omega) only [gm_uk, gm_un, gm_uc]; exact hS.2 k k0 k1⟩ (fun s2 s0 s4 => ?_)⟩
      · have := hS.1 s2 s0 s4
        by_cases r : s2 = s
        · subst r; rw [hm2, gm_uk, hm]; simp (disch := omega) only [gm_uk, gm_un, gm_uc]; omega
        · rw [hm2, gm_un r, hm]; simp (disch := omega) only [gm_uk, gm_un, gm_uc]; exact this
      · have := hQ s2 s0 s4
        by_cases r : s2 = s
        · subst r; unfold sh_L; rw [hm2, hm]; simp (disch := omega) only [gm_uk, gm_un, gm_uc]; exact ⟨rfl, this.2.1, Or.inl trivial, this.2.2.2.1, this.2.2.2.2⟩
        · unfold sh_L at this ⊢; rw [hm2, hm]; simp (disch := omega) only [gm_uk, gm_un, gm_uc]; exact this
theorem st_sheet {μ m m' : fr_Me} {s lane n : Int} {z z' : Int} (h : fr_St μ) (h1 : c_sheet μ s lane n z m) (h2 : r_sheet m s lane n z' m') : z = z' ∧ fr_St m' := by
  obtain ⟨_, _, _, _, hS, hQ⟩ := id h
  rcases h1 with ⟨a, rfl, rfl⟩ | ⟨a, b, rfl, rfl⟩ | ⟨a, b, hz, hm⟩
  · rcases h2 with ⟨_, rfl, rfl⟩ | ⟨g, _⟩ | ⟨g, _⟩
    · exact ⟨rfl, h⟩
    · exact absurd g a
    · exact absurd g a
  · rcases h2 with ⟨g, _⟩ | ⟨_, _, rfl, rfl⟩ | ⟨_, g, _⟩
    · exact absurd a g
    · exact ⟨rfl, h⟩
    · omega
  · rcases h2 with ⟨g, _⟩ | ⟨_, g, _⟩ | ⟨_, _, hz2, hm2⟩
    · exact absurd a g
    · omega
    · have ec : ∀ c, c ≠ 77 → m' c = fr_up (fr_up m 75 s lane) 76 s n c := fun c hc => by funext k; rw [hm2]; unfold sp_fillo; rw [if_neg (fun x => hc x.1)]
      have em : ∀ c, c ≠ 58 + s → c ≠ 62 + s → m c = μ c := fun c c1 c2 => by rw [hm, gm_uc c1, gm_uc c1, gm_uc c1, sp_fill_nc _ _ _ c2]
      have d77 : ∀ k, m' 77 k = if 16 * s ≤ k ∧ k < 16 * s + 16 then 0 else μ 77 k := fun k => by
        rw [hm2]
        unfold sp_fillo
        by_cases r : 16 * s ≤ k ∧ k < 16 * s + 16
        · rw [if_pos ⟨rfl, r⟩, if_pos r]
        · rw [if_neg (fun x => r x.2), if_neg r, gm_uc (by omega), gm_uc (by omega), em 77 (by omega) (by omega)]
      have d62 : ∀ k, 0 ≤ k → k < 16 → m (62 + s) k = 0 := fun k k0 k1 => by
        rw [hm, gm_uc (by omega), gm_uc (by omega), gm_uc (by omega)]
        unfold sp_fill
        rw [if_pos ⟨rfl, k0, by omega⟩]
      refine ⟨by rw [hz, hz2], h.sh (fun c hc => by rw [ec c (by omega), gm_uc (by omega), gm_uc (by omega)]; exact em c (by omega) (by omega)) ⟨fun s2 s0 s4 => ?_, fun k k0 k1 => ?_⟩ (fun s2 s0 s4 => ?_)⟩
      · have := hS.1 s2 s0 s4
        rw [ec 75 (by omega), ec 76 (by omega), gm_uc (by omega)]
        by_cases r : s2 = s
        · subst r; rw [gm_uk, gm_uk]; omega
        · rw [gm_un r, gm_un r, gm_uc (by omega), em 75 (by omega) (by omega), em 76 (by omega) (by omega)]; exact this
      · rw [d77]
        split
        · omega
        · exact hS.2 k k0 k1
      · have := hQ s2 s0 s4
        unfold sh_L at this ⊢
        have f58 : m' (58 + s2) = m (58 + s2) := by rw [ec _ (by omega), gm_uc (by omega), gm_uc (by omega)]
        have f62 : m' (62 + s2) = m (62 + s2) := by rw [ec _ (by omega), gm_uc (by omega), gm_uc (by omega)]
        have f75 : m' 75 = sp_u (μ 75) s lane := by rw [ec 75 (by omega), gm_uc (by omega), fu_u, em 75 (by omega) (by omega)]
        have f76 : m' 76 = sp_u (μ 76) s n := by rw [ec 76 (by omega), fu_u, gm_uc (by omega), em 76 (by omega) (by omega)]
        rw [f58, f62, f75, f76]
        by_cases r : s2 = s
        · subst r
          have x1 : m (58 + s2) 1 = 1 := by rw [hm, gm_uk]
          have x2 : m (58 + s2) 2 = lane := by rw [hm, gm_un (by omega), gm_un (by omega), gm_uk]
          have x3 : m (58 + s2) 3 = n := by rw [hm, gm_un (by omega), gm_uk]
          rw [x1, x2, x3, su_e, su_e]
          exact ⟨if_neg (by omega), rfl, Or.inr rfl, a.2.1, fun k k0 k1 => by rw [d62 k k0 k1, d77, if_pos (by omega)]⟩
        · rw [em (58 + s2) (by omega) (by omega), em (62 + s2) (by omega) (by omega), su_n r, su_n r]
          exact ⟨this.1, this.2.1, this.2.2.1, this.2.2.2.1, fun k k0 k1 => by rw [d77, if_neg (by omega)]; exact this.2.2.2.2 k k0 k1⟩
theorem st_item {μ m m' : fr_Me} {s lane i v : Int} {z z' : Int} (hv : -9223372036854775808 ≤ v ∧ v ≤ 9223372036854775807) (h : fr_St μ) (h1 : c_item μ s lane i v z m) (h2 : r_item m s lane i v z' m') : z = z' ∧ fr_St m' := by
  obtain ⟨_, _, _, _, hS, hQ⟩ := id h
  rcases h1 with ⟨a, rfl, rfl⟩ | ⟨a, b, rfl, rfl⟩ | ⟨a, b, hz, hm⟩
  · rcases h2 with ⟨_, rfl, rfl⟩ | ⟨g, _⟩ | ⟨g, _⟩
    · exact ⟨rfl, h⟩
    · exact absurd g a
    · exact absurd g a
  · have q := hQ s (by omega) (by omega)
    rw [q.1, q.2.1] at b ⊢
    rcases h2 with ⟨g, _⟩ | ⟨_, _, rfl, rfl⟩ | ⟨_, g, _⟩
    · exact absurd a g
    · exact ⟨rfl, h⟩
    · exact absurd g b
  · have q := hQ s (by omega) (by omega)
    have hb0 := sp_bars0 b
    rw [q.1, q.2.1] at b
    have hsz := hS.1 s (by omega) (by omega)
    have e75 : m 75 = μ 75 := by rw [hm]; simp (disch := omega) only [gm_uk, gm_un, gm_uc]
    have e76 : m 76 = μ 76 := by rw [hm]; simp (disch := omega) only [gm_uk, gm_un, gm_uc]
    unfold r_item at h2
    rw [e75, e76] at h2
    rcases h2 with ⟨g, _⟩ | ⟨_, g, _⟩ | ⟨_, _, hz2, hm2⟩
    · exact absurd a g
    · exact absurd b g
    · refine ⟨by rw [hz, hz2], h.it (fun c hc => by rw [hm2, hm]; simp (disch := omega) only [gm_uk, gm_un, gm_uc]) (fun k k0 k1 => ?_) (fun s2 k s0 s4 k0 k1 => ?_)⟩
      · by_cases r : k = 16 * s + i
        · rw [r, hm2, gm_uk]; exact cutl_rg hv
        · rw [hm2, gm_un r, hm]; simp (disch := omega) only [gm_uk, gm_un, gm_uc]; exact hS.2 k k0 k1
      · have q2 := (hQ s2 s0 s4).2.2.2.2 k k0 k1
        by_cases r : s2 = s ∧ k = i
        · obtain ⟨r1, r2⟩ := r; subst r1 r2; rw [hm2, gm_uk, gm_uc (by omega), hm, gm_uk]
        · have e1 : m (62 + s2) k = μ (62 + s2) k := by
            rw [hm]
            by_cases r1 : s2 = s
            · subst r1; rw [gm_un (fun x => r ⟨rfl, x⟩)]
            · rw [gm_uc (by omega)]
          rw [hm2, gm_uc (by omega), gm_un (by omega), e1, hm, gm_uc (by omega)]
          exact q2
theorem st_film {μ m m' : fr_Me} {s lane i : Int} {z z' : Int} (h : fr_St μ) (h1 : c_film μ s lane i z m) (h2 : r_film m s lane i z' m') : z = z' ∧ fr_St m' := by
  obtain ⟨_, _, _, _, hS, hQ⟩ := id h
  rcases h1 with ⟨a, rfl, rfl⟩ | ⟨a, b, rfl, rfl⟩ | ⟨a, b, hz, hm⟩
  · rcases h2 with ⟨_, rfl, rfl⟩ | ⟨g, _⟩ | ⟨g, _⟩
    · exact ⟨rfl, h⟩
    · exact absurd g a
    · exact absurd g a
  · have q := hQ s (by omega) (by omega)
    rw [q.1, q.2.1] at b ⊢
    rcases h2 with ⟨g, _⟩ | ⟨_, _, rfl, rfl⟩ | ⟨_, g, _⟩
    · exact absurd a g
    · exact ⟨rfl, h⟩
    · exact absurd g b
  · have q := hQ s (by omega) (by omega)
    have hb0 := sp_bars0 b
    rw [q.1, q.2.1] at b
    have hsz := hS.1 s (by omega) (by omega)
    obtain ⟨em, e62⟩ := hm
    have e67 := em 67 (by omega)
    have e75 := em 75 (by omega)
    have e76 := em 76 (by omega)
    unfold r_film at h2
    rw [e67, e75, e76] at h2
    rcases h2 with ⟨g, _⟩ | ⟨_, g, _⟩ | ⟨_, _, hz2, hm2⟩
    · exact absurd a g
    · exact absurd b g
    · have ec : ∀ c, c ≠ 77 → m' c = m c := fun c hc => by funext k; rw [hm2]; unfold sp_flm; rw [if_neg (fun x => hc x.1)]
      have d77 : ∀ k, m' 77 k = if 16 * s + i ≤ k ∧ k < 16 * s + i + 10 then sp_bask (μ 67) (k - (16 * s + i)) 0 else μ 77 k := fun k => by
        rw [hm2]
        unfold sp_flm
        by_cases r : 16 * s + i ≤ k ∧ k < 16 * s + i + 10
        · rw [if_pos ⟨rfl, r⟩, if_pos r]
        · rw [if_neg (fun x => r x.2), if_neg r, em 77 (by omega)]
      refine ⟨by rw [hz, hz2], h.it (fun c hc => (ec c (by omega)).trans (em c (by omega))) (fun k k0 k1 => ?_) (fun s2 k s0 s4 k0 k1 => ?_)⟩
      · rw [d77]
        split
        · have := bask_rg h.1 (k - (16 * s + i)); omega
        · exact hS.2 k k0 k1
      · have q2 := (hQ s2 s0 s4).2.2.2.2 k k0 k1
        rw [ec _ (by omega), d77]
        by_cases r : s2 = s
        · subst r
          rw [e62 k]
          by_cases r2 : i ≤ k ∧ k < i + 10
          · rw [if_pos r2, if_pos (by omega)]; congr 1; omega
          · rw [if_neg r2, if_neg (by omega)]; exact q2
        · rw [em _ (by omega), if_neg (by omega)]; exact q2
theorem st_copy {μ m m' : fr_Me} {a i b q n : Int} {z z' : Int} (h : fr_St μ) (h1 : c_copy μ a i b q n z m) (h2 : r_copy m a i b q n z' m') : z = z' ∧ fr_St m' := by
  obtain ⟨_, _, _, _, hS, hQ⟩ := id h
  by_cases hg : (0 ≤ a ∧ a ≤ 3) ∧ (0 ≤ b ∧ b ≤ 3)
  · have qa := hQ a (by omega) (by omega)
    have qb := hQ b (by omega) (by omega)
    have sa := hS.1 a (by omega) (by omega)
    have sb := hS.1 b (by omega) (by omega)
    unfold c_copy at h1
    rw [qa.1, qa.2.1, qb.1, qb.2.1] at h1
    rcases h1 with ⟨g, _⟩ | ⟨_, g, rfl, rfl⟩ | ⟨_, g1, g2, g3, rfl, rfl⟩ | ⟨_, g1, g2, g3, g4, rfl, rfl⟩ | ⟨_, g1, g2, g3, g4, hz, hm⟩
    · exact absurd hg g
    · rcases h2 with ⟨x, _⟩ | ⟨_, _, rfl, rfl⟩ | ⟨_, x1, x2, _⟩ | ⟨_, x1, x2, _⟩ | ⟨_, x1, x2, _⟩
      · exact absurd hg x
      · exact ⟨rfl, h⟩
      · omega
      · omega
      · omega
    · rcases h2 with ⟨x, _⟩ | ⟨_, x, _⟩ | ⟨_, _, _, _, rfl, rfl⟩ | ⟨_, _, _, x, _⟩ | ⟨_, _, _, x, _⟩
      · exact absurd hg x
      · omega
      · exact ⟨rfl, h⟩
      · exact absurd x g3
      · exact absurd x g3
    · rcases h2 with ⟨x, _⟩ | ⟨_, x, _⟩ | ⟨_, _, _, x, _⟩ | ⟨_, _, _, _, _, rfl, rfl⟩ | ⟨_, _, _, _, x, _⟩
      · exact absurd hg x
      · omega
      · exact absurd g3 x
      · exact ⟨rfl, h⟩
      · exact absurd x g4
    · have em : ∀ c, c ≠ 62 + b → m c = μ c := fun c hc => by rw [hm]; exact sp_cpy_nc _ _ _ _ _ hc
      have e75 := em 75 (by omega)
      have e76 := em 76 (by omega)
      have e77 := em 77 (by omega)
      unfold r_copy at h2
      rw [e75, e76] at h2
      rcases h2 with ⟨x, _⟩ | ⟨_, x, _⟩ | ⟨_, _, _, x, _⟩ | ⟨_, _, _, _, x, _⟩ | ⟨_, _, _, _, _, hz2, hm2⟩
      · exact absurd hg x
      · omega
      · exact absurd g3 x
      · exact absurd g4 x
      · have ba := sp_bars0 g3
        have bb := sp_bars0 g4
        have ec : ∀ c, c ≠ 77 → c ≠ 78 → m' c = m c := fun c c1 c2 => by rw [hm2, sp_cpy_nc _ _ _ _ _ c1, sp_cpy_nc _ _ _ _ _ c2]
        have d77 : ∀ k, m' 77 k = if 16 * b + q ≤ k ∧ k < 16 * b + q + n then μ 77 (16 * a + i + (k - (16 * b + q))) else μ 77 k := fun k => by
          rw [hm2]
          unfold sp_cpy
          by_cases r : 16 * b + q ≤ k ∧ k < 16 * b + q + n
          · rw [if_pos ⟨rfl, r⟩, if_pos r, if_pos ⟨rfl, by omega, by omega⟩, e77]; congr 1; omega
          · rw [if_neg (fun x => r x.2), if_neg r, if_neg (fun x => absurd x.1 (by omega)), e77]
        have d62 : ∀ k, m (62 + b) k = if q ≤ k ∧ k < q + n then μ (62 + a) (i + (k - q)) else μ (62 + b) k := fun k => by
          rw [hm]
          unfold sp_cpy
          by_cases r : q ≤ k ∧ k < q + n
          · rw [if_pos ⟨rfl, r⟩, if_pos r]
          · rw [if_neg (fun x => r x.2), if_neg r]
        refine ⟨by rw [hz, hz2], h.it (fun c hc => (ec c (by omega) (by omega)).trans (em c (by omega))) (fun k k0 k1 => ?_) (fun s2 k s0 s4 k0 k1 => ?_)⟩
        · rw [d77]
          split
          · exact hS.2 _ (by omega) (by omega)
          · exact hS.2 k k0 k1
        · have q2 := (hQ s2 s0 s4).2.2.2.2 k k0 k1
          rw [ec _ (by omega) (by omega), d77]
          by_cases r : s2 = b
          · subst r
            rw [d62 k]
            by_cases r2 : q ≤ k ∧ k < q + n
            · rw [if_pos r2, if_pos (by omega), qa.2.2.2.2 _ (by omega) (by omega)]; congr 1; omega
            · rw [if_neg r2, if_neg (by omega)]; exact q2
          · rw [em _ (by omega), if_neg (by omega)]; exact q2
  · rcases h1 with ⟨_, rfl, rfl⟩ | ⟨g, _⟩ | ⟨g, _⟩ | ⟨g, _⟩ | ⟨g, _⟩
    · rcases h2 with ⟨_, rfl, rfl⟩ | ⟨g, _⟩ | ⟨g, _⟩ | ⟨g, _⟩ | ⟨g, _⟩
      · exact ⟨rfl, h⟩
      · exact absurd g hg
      · exact absurd g hg
      · exact absurd g hg
      · exact absurd g hg
    · exact absurd g hg
    · exact absurd g hg
    · exact absurd g hg
    · exact absurd g hg
