/-! the state: the class holds what the reference holds -/
/-- the kept ground holds w -/
def fr_GK (w : Int → Int) (μ : fr_Me) : Prop := (μ 5 3 = w 0 ∧ μ 5 4 = w 43 ∧ μ 5 5 = w 74 ∧ μ 5 6 = w 75 ∧ μ 5 7 = w 76) ∧ (∀ t g, 0 ≤ t → t < 6 → 0 ≤ g → g < 7 → μ (42 + t) g = w (1 + 6 * g + t)) ∧ (∀ c g, 0 ≤ c → c < 5 → 0 ≤ g → g < 4 → μ (53 + c) g = w (44 + 5 * g + c)) ∧ ∀ f, 0 ≤ f → f < 10 → μ 8 f = w (64 + f)
def fr_kw (w : Int → Int) : Int → Int := fun k => if 0 ≤ k then w (77 + k) else 0
/-- sheets: the class's as the reference's -/
def fr_Sq (μ : fr_Me) : Prop := ∀ s, 0 ≤ s → s < 4 → sh_L μ s = μ 75 s ∧ μ (58 + s) 3 = μ 76 s ∧ (μ (58 + s) 1 = 0 ∨ μ (58 + s) 1 = 1) ∧ (0 ≤ μ (58 + s) 2 ∧ μ (58 + s) 2 ≤ 3) ∧ ∀ k, 0 ≤ k → k < 16 → μ (62 + s) k = μ 77 (16 * s + k)
def fr_Tq (μ : fr_Me) : Prop := μ 10 = μ 68 ∧ μ 9 4 = μ 66 3 ∧ sp_let (μ 68) (μ 66 3) ∧ ∀ i, 0 ≤ i → i < 60 → 0 ≤ μ 68 i ∧ μ 68 i ≤ 1000
def fr_Kq (μ : fr_Me) : Prop := (μ 66 1 = 0 ∨ μ 66 1 = 1) ∧ μ 0 2 = μ 66 1 ∧ (μ 66 1 = 1 → fr_I (fr_kw (μ 67)) ∧ fr_GK (fr_kw (μ 67)) μ)
/-- THE STATE: the class holds what the reference holds -/
def fr_St (μ : fr_Me) : Prop := fr_I (μ 67) ∧ fr_G (μ 67) μ ∧ fr_Kq μ ∧ fr_Tq μ ∧ fr_Sh μ ∧ fr_Sq μ
theorem fr_St.sc {μ : fr_Me} (h : fr_St μ) : fr_Sc μ := by
  obtain ⟨_, _, _, _, hS, hQ⟩ := h
  intro s s0 s4
  obtain ⟨a, b, c, d, e⟩ := hQ s s0 s4
  have h1 := hS.1 s s0 s4
  refine ⟨c, d, by omega, fun k k0 k1 => ?_⟩
  rw [e k k0 k1]
  exact hS.2 _ (by omega) (by omega)
theorem fr_GK.keep {w : Int → Int} {μ n : fr_Me} (h : fr_GK w μ) (e : ∀ c, (c = 5 ∨ c = 8 ∨ (42 ≤ c ∧ c < 48) ∨ (53 ≤ c ∧ c < 58)) → n c = μ c) : fr_GK w n := by
  obtain ⟨a, ht, hc, hp⟩ := h
  refine ⟨by rw [e 5 (by omega)]; exact a, fun t g t0 t1 g0 g1 => by rw [e (42 + t) (by omega)]; exact ht t g t0 t1 g0 g1, fun c g c0 c1 g0 g1 => by rw [e (53 + c) (by omega)]; exact hc c g c0 c1 g0 g1, fun f f0 f1 => by rw [e 8 (by omega)]; exact hp f f0 f1⟩
theorem fr_Sq.keep {μ n : fr_Me} (h : fr_Sq μ) (e : ∀ c, (58 ≤ c ∧ c < 66) → n c = μ c) (e75 : n 75 = μ 75) (e76 : n 76 = μ 76) (e77 : n 77 = μ 77) : fr_Sq n := by
  intro s s0 s4
  have := h s s0 s4
  unfold sh_L at this ⊢
  rw [e (58 + s) (by omega), e (62 + s) (by omega), e75, e76, e77]
  exact this
theorem fr_Sh.keep {μ n : fr_Me} (h : fr_Sh μ) (e75 : n 75 = μ 75) (e76 : n 76 = μ 76) (e77 : n 77 = μ 77) : fr_Sh n := by
  unfold fr_Sh at h ⊢
  rw [e75, e76, e77]; exact h
theorem fr_Tq.keep {μ n : fr_Me} (h : fr_Tq μ) (e10 : n 10 = μ 10) (e9 : n 9 4 = μ 9 4) (e68 : n 68 = μ 68) (e66 : n 66 3 = μ 66 3) : fr_Tq n := by
  unfold fr_Tq at h ⊢
  rw [e10, e9, e68, e66]; exact h
theorem fr_Kq.keep {μ n : fr_Me} (h : fr_Kq μ) (e : ∀ c, (c = 5 ∨ c = 8 ∨ (42 ≤ c ∧ c < 48) ∨ (53 ≤ c ∧ c < 58)) → n c = μ c) (e0 : n 0 2 = μ 0 2) (e66 : n 66 1 = μ 66 1) (ek : fr_kw (n 67) = fr_kw (μ 67)) : fr_Kq n := by
  unfold fr_Kq at h ⊢
  rw [e0, e66, ek]
  exact ⟨h.1, h.2.1, fun x => ⟨(h.2.2 x).1, (h.2.2 x).2.keep e⟩⟩
/-- nothing of the state has changed -/
theorem fr_St.keep {μ n : fr_Me} (h : fr_St μ) (e : ∀ c, (c < 9 ∨ c = 10 ∨ (36 ≤ c ∧ c < 66) ∨ c = 67 ∨ c = 68 ∨ c = 75 ∨ c = 76 ∨ c = 77) → n c = μ c) (e9 : n 9 4 = μ 9 4) (e661 : n 66 1 = μ 66 1) (e663 : n 66 3 = μ 66 3) : fr_St n := by
  obtain ⟨hI, hG, hK, hT, hS, hQ⟩ := h
  have e67 := e 67 (by omega)
  refine ⟨by rw [e67]; exact hI, by rw [e67]; exact hG.keep (fun c hc => e c (by omega)), hK.keep (fun c hc => e c (by omega)) (by rw [e 0 (by omega)]) e661 (by rw [e67]), hT.keep (e 10 (by omega)) e9 (e 68 (by omega)) e663, hS.keep (e 75 (by omega)) (e 76 (by omega)) (e 77 (by omega)), hQ.keep (fun c hc => e c (by omega)) (e 75 (by omega)) (e 76 (by omega)) (e 77 (by omega))⟩
/-- the class changed scratch alone -/
theorem fr_St.cls {μ m : fr_Me} (h : fr_St μ) (e : ∀ c, (c < 15 ∨ 35 < c) → m c = μ c) : fr_St m :=
  h.keep (fun c hc => e c (by omega)) (by rw [e 9 (by omega)]) (by rw [e 66 (by omega)]) (by rw [e 66 (by omega)])
/-- the ground changed, to another w -/
theorem fr_St.grd {μ n : fr_Me} {w : Int → Int} (h : fr_St μ) (hI : fr_I w) (hG : fr_G w n) (e67 : n 67 = w) (hk : fr_kw w = fr_kw (μ 67)) (e : ∀ c, (c = 0 ∨ c = 5 ∨ c = 8 ∨ c = 10 ∨ (42 ≤ c ∧ c < 48) ∨ (53 ≤ c ∧ c < 66) ∨ c = 68 ∨ c = 75 ∨ c = 76 ∨ c = 77) → n c = μ c) (e9 : n 9 4 = μ 9 4) (e661 : n 66 1 = μ 66 1) (e663 : n 66 3 = μ 66 3) : fr_St n := by
  obtain ⟨_, _, hK, hT, hS, hQ⟩ := h
  refine ⟨by rw [e67]; exact hI, by rw [e67]; exact hG, hK.keep (fun c hc => e c (by omega)) (by rw [e 0 (by omega)]) e661 (by rw [e67]; exact hk), hT.keep (e 10 (by omega)) e9 (e 68 (by omega)) e663, hS.keep (e 75 (by omega)) (e 76 (by omega)) (e 77 (by omega)), hQ.keep (fun c hc => e c (by omega)) (e 75 (by omega)) (e 76 (by omega)) (e 77 (by omega))⟩
theorem fu_u (μ : fr_Me) (c k z : Int) : fr_up μ c k z c = sp_u (μ c) k z := by
  funext i
  unfold fr_up sp_u
  by_cases h : i = k
  · rw [if_pos ⟨rfl, h⟩, if_pos h]
  · rw [if_neg (fun x => h x.2), if_neg h]
theorem kw_e {w w' : Int → Int} (h : ∀ k, 77 ≤ k → w' k = w k) : fr_kw w' = fr_kw w := by
  funext k
  unfold fr_kw
  split
  · exact h _ (by omega)
  · rfl
theorem kw_u {w : Int → Int} {k z : Int} (h : k < 77) : fr_kw (sp_u w k z) = fr_kw w := kw_e (fun i hi => su_n (by omega))
