/-! steps: years, sendings, texts, images -/
theorem st_year {μ m m' : fr_Me} {z z' : Int} (h : fr_St μ) (h1 : c_year μ z m) (h2 : r_year m z' m') : z = z' ∧ fr_St m' := by
  rcases h1 with ⟨a, rfl, rfl⟩ | ⟨a, hz, hG, e1⟩
  · rcases h2 with ⟨_, rfl, rfl⟩ | ⟨g, _⟩
    · exact ⟨rfl, h⟩
    · omega
  · have e67 : m 67 = μ 67 := e1 67 (by omega)
    unfold r_year at h2
    rw [e67] at h2
    rcases h2 with ⟨g, _⟩ | ⟨_, hz2, e2, e3⟩
    · omega
    · exact ⟨by rw [hz, hz2], h.two (I_year h.1 a) hG e2 (kw_year h.1) (fun c c1 _ c2 _ => e1 c ⟨c1, c2⟩) e3⟩
theorem st_send {μ m m' : fr_Me} {z z' : Int} (h : fr_St μ) (h1 : c_send μ z m) (h2 : r_send m z' m') : z = z' ∧ fr_St m' := by
  have iN := h.1.n
  obtain ⟨hz, e1, e2⟩ := h1
  have e67 : m 67 = μ 67 := e2 67 (by omega) (by omega)
  obtain ⟨f1, f2, bc, hb, f3⟩ := h2
  rw [e67] at hb f3
  have hu := sp_bi.uniq (od_bst h.1 (fr_shl 1 (μ 67 43) - 1) 0) hb
  have hv := (hb.some h.1).2.2.1
  refine ⟨by rw [hz, hu.1], h.grd (I_sdw h.1 hv) ((G_sdw h.2.1 iN (by rw [← hu.2]; exact e1) e2).keep (fun c hc => f1 c (by omega) (by omega) (by omega) (by omega))) f3 (kw_e (fun k hk => (sdw_at iN bc).2.1 k (by omega))) (fun c hc => (f1 c (by omega) (by omega) (by omega) (by omega)).trans (e2 c (by omega) (by omega))) (by rw [f1 9 (by omega) (by omega) (by omega) (by omega), e2 9 (by omega) (by omega)]) (by rw [f2 1 (by omega), e2 66 (by omega) (by omega)]) (by rw [f2 3 (by omega), e2 66 (by omega) (by omega)])⟩
theorem st_type {μ m m' : fr_Me} {c : Int} {z z' : Int} (h : fr_St μ) (h1 : c_type μ c z m) (h2 : r_type m c z' m') : z = z' ∧ fr_St m' := by
  obtain ⟨hI, hG, hK, hT, hS, hQ⟩ := id h
  obtain ⟨t1, t2, t3, t4⟩ := hT
  rcases h1 with ⟨a, rfl, rfl⟩ | ⟨a, b, rfl, rfl⟩ | ⟨a, b, hz, hm⟩
  · rcases h2 with ⟨_, rfl, rfl⟩ | ⟨g, _⟩ | ⟨g, _⟩
    · exact ⟨rfl, h⟩
    · exact absurd g a
    · exact absurd g a
  · rcases h2 with ⟨g, _⟩ | ⟨_, _, rfl, rfl⟩ | ⟨_, g, _⟩
    · exact absurd a g
    · exact ⟨rfl, h⟩
    · omega
  · have e66 : m 66 = μ 66 := by rw [hm]; simp (disch := omega) only [gm_uk, gm_un, gm_uc]
    have e68 : m 68 = μ 68 := by rw [hm]; simp (disch := omega) only [gm_uk, gm_un, gm_uc]
    unfold r_type at h2
    rw [e66] at h2
    rcases h2 with ⟨g, _⟩ | ⟨_, g, _⟩ | ⟨_, _, hz2, hm2⟩
    · exact absurd a g
    · omega
    · have ec : ∀ c, c ≠ 9 → c ≠ 10 → c ≠ 66 → c ≠ 68 → m' c = μ c := fun c c1 c2 c3 c4 => by rw [hm2, hm]; simp (disch := omega) only [gm_uk, gm_un, gm_uc]
      have e6 : ∀ k, k ≠ 3 → m' 66 k = μ 66 k := fun k hk => by rw [hm2, hm]; simp (disch := omega) only [gm_uk, gm_un, gm_uc]
      have d10 : m' 10 = sp_u (μ 68) (μ 66 3) c := by rw [hm2, gm_uc (by omega), gm_uc (by omega), hm, gm_uc (by omega), fu_u, t1, t2]
      have d68 : m' 68 = sp_u (μ 68) (μ 66 3) c := by rw [hm2, gm_uc (by omega), fu_u, e68]
      have d9 : m' 9 4 = μ 66 3 + 1 := by rw [hm2, gm_uc (by omega), gm_uc (by omega), hm, gm_uk, t2]
      have d66 : m' 66 3 = μ 66 3 + 1 := by rw [hm2, gm_uk]
      have e67 := ec 67 (by omega) (by omega) (by omega) (by omega)
      refine ⟨by rw [hz, hz2, t2], by rw [e67]; exact hI, by rw [e67]; exact hG.keep (fun c hc => ec c (by omega) (by omega) (by omega) (by omega)), hK.keep (fun c hc => ec c (by omega) (by omega) (by omega) (by omega)) (by rw [ec 0 (by omega) (by omega) (by omega) (by omega)]) (e6 1 (by omega)) (by rw [e67]), ⟨by rw [d10, d68], by rw [d9, d66], ?_, fun i i0 i1 => ?_⟩, hS.keep (ec 75 (by omega) (by omega) (by omega) (by omega)) (ec 76 (by omega) (by omega) (by omega) (by omega)) (ec 77 (by omega) (by omega) (by omega) (by omega)), hQ.keep (fun c hc => ec c (by omega) (by omega) (by omega) (by omega)) (ec 75 (by omega) (by omega) (by omega) (by omega)) (ec 76 (by omega) (by omega) (by omega) (by omega)) (ec 77 (by omega) (by omega) (by omega) (by omega))⟩
      · rw [d68, d66]
        refine ⟨by have := t3.1; omega, fun k k0 k1 => ?_⟩
        by_cases q : k = μ 66 3
        · rw [q, su_e]; omega
        · rw [su_n q]; exact t3.2 k k0 (by omega)
      · rw [d68]
        by_cases q : i = μ 66 3
        · rw [q, su_e]; omega
        · rw [su_n q]; exact t4 i i0 i1
