/-! steps: calls that read sheets -/
theorem st_hired {μ m m' : fr_Me} {s lane i tree : Int} {z z' : Int} (h : fr_St μ) (h1 : c_hired μ s lane i tree z m) (h2 : r_hired m s lane i tree z' m') : z = z' ∧ fr_St m' := by
  have hfin : ∀ {n : fr_Me}, fr_St n → (∀ c, c ≠ 70 → m' c = n c) → fr_St m' := fun hn e => hn.keep (fun c hc => e c (by omega)) (by rw [e 9 (by omega)]) (by rw [e 66 (by omega)]) (by rw [e 66 (by omega)])
  obtain ⟨e, h2⟩ := h2
  rcases h1 with ⟨a, rfl, rfl⟩ | ⟨a, b, rfl, rfl⟩ | ⟨a, b, hz, hx⟩
  · rcases h2 with ⟨_, rfl⟩ | ⟨g, _⟩ | ⟨g, _⟩
    · exact ⟨rfl, hfin h e⟩
    · exact absurd g a
    · exact absurd g a
  · have q := h.2.2.2.2.2 s (by omega) (by omega)
    rw [q.1, q.2.1] at b ⊢
    rcases h2 with ⟨g, _⟩ | ⟨_, _, rfl⟩ | ⟨_, g, _⟩
    · exact absurd a g
    · exact ⟨rfl, hfin h e⟩
    · exact absurd g b
  · have q := h.2.2.2.2.2 s (by omega) (by omega)
    have hb0 := sp_bars0 b
    rw [q.1, q.2.1] at b
    have hszr := h.2.2.2.2.1.1 s (by omega) (by omega)
    rw [hx 67 (by omega), hx 75 (by omega), hx 76 (by omega), hx 77 (by omega)] at h2
    rcases h2 with ⟨g, _⟩ | ⟨_, g, _⟩ | ⟨_, _, hz2⟩
    · exact absurd a g
    · exact absurd b g
    · have hit : ∀ f, 0 ≤ f → f < 10 → (fun q => μ (62 + s) (i + q)) f = (fun f => μ 77 (16 * s + (i + f))) f := fun f f0 f1 => q.2.2.2.2 (i + f) (by omega) (by omega)
      rw [Hk_e hit] at hz
      obtain ⟨least, found, hb, hz⟩ := hz
      obtain ⟨least2, found2, hb2, hz2⟩ := hz2
      have hu := sp_bi.uniq hb hb2
      have el : least = least2 := by omega
      refine ⟨?_, hfin (h.cls hx) e⟩
      rw [hz, hz2, el, hu.2]
theorem st_pie {μ m m' : fr_Me} {s lane i what : Int} {z z' : Int} (h : fr_St μ) (h1 : c_pie μ s lane i what z m) (h2 : r_pie m s lane i what z' m') : z = z' ∧ fr_St m' := by
  have hfin : ∀ {n : fr_Me}, fr_St n → (∀ c, c ≠ 70 → m' c = n c) → fr_St m' := fun hn e => hn.keep (fun c hc => e c (by omega)) (by rw [e 9 (by omega)]) (by rw [e 66 (by omega)]) (by rw [e 66 (by omega)])
  obtain ⟨e, h2⟩ := h2
  rcases h1 with ⟨a, rfl, rfl⟩ | ⟨a, b, rfl, rfl⟩ | ⟨a, b, hz, hx⟩
  · rcases h2 with ⟨_, rfl⟩ | ⟨g, _⟩ | ⟨g, _⟩
    · exact ⟨rfl, hfin h e⟩
    · exact absurd g a
    · exact absurd g a
  · have q := h.2.2.2.2.2 s (by omega) (by omega)
    rw [q.1, q.2.1] at b ⊢
    rcases h2 with ⟨g, _⟩ | ⟨_, _, rfl⟩ | ⟨_, g, _⟩
    · exact absurd a g
    · exact ⟨rfl, hfin h e⟩
    · exact absurd g b
  · have q := h.2.2.2.2.2 s (by omega) (by omega)
    have hb0 := sp_bars0 b
    rw [q.1, q.2.1] at b
    have hszr := h.2.2.2.2.1.1 s (by omega) (by omega)
    rw [hx 67 (by omega), hx 75 (by omega), hx 76 (by omega), hx 77 (by omega)] at h2
    rcases h2 with ⟨g, _⟩ | ⟨_, g, _⟩ | ⟨_, _, hz2⟩
    · exact absurd a g
    · exact absurd b g
    · have hit : ∀ f, 0 ≤ f → f < 10 → (fun q => μ (62 + s) (i + q)) f = (fun f => μ 77 (16 * s + (i + f))) f := fun f f0 f1 => q.2.2.2.2 (i + f) (by omega) (by omega)
      rw [Pk_e hit] at hz
      obtain ⟨x, hb, hz⟩ := hz
      obtain ⟨x2, hb2, hz2⟩ := hz2
      have hu := sp_fst.uniq hb hb2
      refine ⟨?_, hfin (h.cls hx) e⟩
      rw [hz, hz2, hu]
theorem st_night {μ m m' : fr_Me} {s lane i what : Int} {z z' : Int} (h : fr_St μ) (h1 : c_night μ s lane i what z m) (h2 : r_night m s lane i what z' m') : z = z' ∧ fr_St m' := by
  have hfin : ∀ {n : fr_Me}, fr_St n → (∀ c, c ≠ 70 → m' c = n c) → fr_St m' := fun hn e => hn.keep (fun c hc => e c (by omega)) (by rw [e 9 (by omega)]) (by rw [e 66 (by omega)]) (by rw [e 66 (by omega)])
  obtain ⟨e, h2⟩ := h2
  rcases h1 with ⟨a, rfl, rfl⟩ | ⟨a, b, rfl, rfl⟩ | ⟨a, b, hz, hx⟩
  · rcases h2 with ⟨_, rfl⟩ | ⟨g, _⟩ | ⟨g, _⟩
    · exact ⟨rfl, hfin h e⟩
    · exact absurd g a
    · exact absurd g a
  · have q := h.2.2.2.2.2 s (by omega) (by omega)
    rw [q.1, q.2.1] at b ⊢
    rcases h2 with ⟨g, _⟩ | ⟨_, _, rfl⟩ | ⟨_, g, _⟩
    · exact absurd a g
    · exact ⟨rfl, hfin h e⟩
    · exact absurd g b
  · have q := h.2.2.2.2.2 s (by omega) (by omega)
    have hb0 := sp_bars0 b
    rw [q.1, q.2.1] at b
    have hszr := h.2.2.2.2.1.1 s (by omega) (by omega)
    rw [hx 67 (by omega), hx 75 (by omega), hx 76 (by omega), hx 77 (by omega)] at h2
    rcases h2 with ⟨g, _⟩ | ⟨_, g, _⟩ | ⟨_, _, hz2⟩
    · exact absurd a g
    · exact absurd b g
    · have hit : ∀ f, 0 ≤ f → f < μ 67 0 → (fun q => μ (62 + s) (i + q)) f = (fun f => μ 77 (16 * s + (i + f))) f := fun f f0 f1 => q.2.2.2.2 (i + f) (by omega) (by omega)
      rw [Nk_e hit] at hz
      exact ⟨hz.trans hz2.symm, hfin (h.cls hx) e⟩
theorem st_earned {μ m m' : fr_Me} {s lane i n mm : Int} {z z' : Int} (h : fr_St μ) (h1 : c_earned μ s lane i n mm z m) (h2 : r_earned m s lane i n mm z' m') : z = z' ∧ fr_St m' := by
  have hfin : ∀ {n : fr_Me}, fr_St n → (∀ c, c ≠ 79 → m' c = n c) → fr_St m' := fun hn e => hn.keep (fun c hc => e c (by omega)) (by rw [e 9 (by omega)]) (by rw [e 66 (by omega)]) (by rw [e 66 (by omega)])
  obtain ⟨hx, h1⟩ := h1
  obtain ⟨e, h2⟩ := h2
  rw [hx 67 (by omega), hx 75 (by omega), hx 76 (by omega), hx 77 (by omega)] at h2
  have hS := hfin (h.cls hx) e
  rcases h1 with ⟨a, hz⟩ | ⟨a, b, hz⟩ | ⟨a, b, c, hz⟩ | ⟨a, b, c, hz⟩
  · rcases h2 with ⟨_, hz2⟩ | ⟨g, _⟩ | ⟨g, _⟩ | ⟨g, _⟩
    · exact ⟨by omega, hS⟩
    · exact absurd g a
    · exact absurd g a
    · exact absurd g a
  · have q := h.2.2.2.2.2 s (by omega) (by omega)
    rw [q.1, q.2.1] at b hz
    rcases h2 with ⟨g, _⟩ | ⟨_, _, hz2⟩ | ⟨_, g, _⟩ | ⟨_, g, _⟩
    · exact absurd a g
    · exact ⟨by omega, hS⟩
    · exact absurd g b
    · exact absurd g b
  · have q := h.2.2.2.2.2 s (by omega) (by omega)
    have hb0 := sp_bars0 b
    rw [q.1, q.2.1] at b
    have hszr := h.2.2.2.2.1.1 s (by omega) (by omega)
    have hit : ∀ f, 0 ≤ f → f < n → (fun q => μ (62 + s) (i + q)) f = (fun k => μ 77 (16 * s + i + k)) f := fun f f0 f1 => by have := q.2.2.2.2 (i + f) (by omega) (by omega); dsimp only; rw [this, show 16 * s + (i + f) = 16 * s + i + f by omega]
    rw [fk_e hit] at c
    rcases h2 with ⟨g, _⟩ | ⟨_, g, _⟩ | ⟨_, _, g, hz2⟩ | ⟨_, _, g, hz2⟩
    · exact absurd a g
    · exact absurd b g
    · exact ⟨by omega, hS⟩
    · exact absurd g c
  · have q := h.2.2.2.2.2 s (by omega) (by omega)
    have hb0 := sp_bars0 b
    rw [q.1, q.2.1] at b
    have hszr := h.2.2.2.2.1.1 s (by omega) (by omega)
    have hit : ∀ f, 0 ≤ f → f < n → (fun q => μ (62 + s) (i + q)) f = (fun k => μ 77 (16 * s + i + k)) f := fun f f0 f1 => by have := q.2.2.2.2 (i + f) (by omega) (by omega); dsimp only; rw [this, show 16 * s + (i + f) = 16 * s + i + f by omega]
    rw [fk_e hit] at c
    rcases h2 with ⟨g, _⟩ | ⟨_, g, _⟩ | ⟨_, _, g, hz2⟩ | ⟨_, _, g, hz2⟩
    · exact absurd a g
    · exact absurd b g
    · exact absurd c g
    · refine ⟨?_, hS⟩
      rw [hz, hz2]
      exact sp_sum_eq _ (fun y y0 _ => rv_e (by omega) hit (by omega))
theorem st_again {μ m m' : fr_Me} {s lane i n what : Int} {z z' : Int} (h : fr_St μ) (h1 : c_again μ s lane i n what z m) (h2 : r_again m s lane i n what z' m') : z = z' ∧ fr_St m' := by
  have hfin : ∀ {n : fr_Me}, fr_St n → (∀ c, c ≠ 79 → m' c = n c) → fr_St m' := fun hn e => hn.keep (fun c hc => e c (by omega)) (by rw [e 9 (by omega)]) (by rw [e 66 (by omega)]) (by rw [e 66 (by omega)])
  obtain ⟨hx, h1⟩ := h1
  obtain ⟨e, h2⟩ := h2
  rw [hx 67 (by omega), hx 75 (by omega), hx 76 (by omega), hx 77 (by omega)] at h2
  have hS := hfin (h.cls hx) e
  rcases h1 with ⟨a, hz⟩ | ⟨a, b, hz⟩ | ⟨a, b, c, hz⟩ | ⟨a, b, c, hz⟩
  · rcases h2 with ⟨_, hz2⟩ | ⟨g, _⟩ | ⟨g, _⟩ | ⟨g, _⟩
    · exact ⟨by omega, hS⟩
    · exact absurd g a
    · exact absurd g a
    · exact absurd g a
  · have q := h.2.2.2.2.2 s (by omega) (by omega)
    rw [q.1, q.2.1] at b hz
    rcases h2 with ⟨g, _⟩ | ⟨_, _, hz2⟩ | ⟨_, g, _⟩ | ⟨_, g, _⟩
    · exact absurd a g
    · exact ⟨by omega, hS⟩
    · exact absurd g b
    · exact absurd g b
  · have q := h.2.2.2.2.2 s (by omega) (by omega)
    have hb0 := sp_bars0 b
    rw [q.1, q.2.1] at b
    have hszr := h.2.2.2.2.1.1 s (by omega) (by omega)
    have hit : ∀ f, 0 ≤ f → f < n → (fun q => μ (62 + s) (i + q)) f = (fun k => μ 77 (16 * s + i + k)) f := fun f f0 f1 => by have := q.2.2.2.2 (i + f) (by omega) (by omega); dsimp only; rw [this, show 16 * s + (i + f) = 16 * s + i + f by omega]
    rw [fk_e hit] at c
    rcases h2 with ⟨g, _⟩ | ⟨_, g, _⟩ | ⟨_, _, g, hz2⟩ | ⟨_, _, g, hz2⟩
    · exact absurd a g
    · exact absurd b g
    · exact ⟨by omega, hS⟩
    · exact absurd g c
  · have q := h.2.2.2.2.2 s (by omega) (by omega)
    have hb0 := sp_bars0 b
    rw [q.1, q.2.1] at b
    have hszr := h.2.2.2.2.1.1 s (by omega) (by omega)
    have hit : ∀ f, 0 ≤ f → f < n → (fun q => μ (62 + s) (i + q)) f = (fun k => μ 77 (16 * s + i + k)) f := fun f f0 f1 => by have := q.2.2.2.2 (i + f) (by omega) (by omega); dsimp only; rw [this, show 16 * s + (i + f) = 16 * s + i + f by omega]
    rw [fk_e hit] at c
    rcases h2 with ⟨g, _⟩ | ⟨_, g, _⟩ | ⟨_, _, g, hz2⟩ | ⟨_, _, g, hz2⟩
    · exact absurd a g
    · exact absurd b g
    · exact absurd c g
    · exact ⟨sp_ag.uniq (ag_e (by omega) hit hz) hz2, hS⟩
