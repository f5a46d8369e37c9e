/-! the numbers are as they must be, field by field -/
def ti_r (N M t g v : Int) : Prop := (g = 0 → 0 ≤ v ∧ v ≤ 3) ∧ (1 ≤ g ∧ g ≤ 3 → (0 ≤ v ∧ v ≤ 5) ∧ (t < N → v = 5 ∨ (0 ≤ v ∧ v < M))) ∧ (4 ≤ g ∧ g ≤ 5 → 0 ≤ v ∧ v ≤ 1) ∧ (g = 6 → 0 ≤ v ∧ v ≤ 31)
def ci_r (M c g v : Int) : Prop := (g = 0 → 0 ≤ v ∧ v ≤ 3) ∧ (g = 1 → (0 ≤ v ∧ v ≤ 9) ∧ (c < M → 1 ≤ v)) ∧ (g = 2 → 0 ≤ v ∧ v ≤ 99) ∧ (g = 3 → 0 ≤ v ∧ v ≤ 10)
def fr_I2 (w : Int → Int) : Prop := ((0 ≤ w 0 ∧ w 0 ≤ 6) ∧ (0 ≤ w 43 ∧ w 43 ≤ 5) ∧ (0 ≤ w 74 ∧ w 74 ≤ 2147483647) ∧ (0 ≤ w 75 ∧ w 75 ≤ 9999) ∧ (0 ≤ w 76 ∧ w 76 ≤ 6)) ∧ (∀ t g, 0 ≤ t → t < 6 → 0 ≤ g → g < 7 → ti_r (w 0) (w 43) t g (w (1 + 6 * g + t))) ∧ (∀ c g, 0 ≤ c → c < 5 → 0 ≤ g → g < 4 → ci_r (w 43) c g (w (44 + 5 * g + c))) ∧ ∀ f, 0 ≤ f → f < 10 → -9 ≤ w (64 + f) ∧ w (64 + f) ≤ 99
theorem fr_I_iff {w : Int → Int} : fr_I w ↔ fr_I2 w := by
  constructor
  · intro h
    refine ⟨⟨h.n, h.many, h.draw, h.years, h.fallen⟩, fun t g t0 t1 g0 g1 => ?_, fun c g c0 c1 g0 g1 => ?_, fun f a b => h.pr a b⟩
    · have iT := h.tree t0 t1
      unfold fr_It sp_ok at iT
      unfold ti_r
      rcases (by omega : g = 0 ∨ g = 1 ∨ g = 2 ∨ g = 3 ∨ g = 4 ∨ g = 5 ∨ g = 6) with q | q | q | q | q | q | q <;> subst q
      · show (_ → 0 ≤ w (1 + t) ∧ w (1 + t) ≤ 3) ∧ _
        refine ⟨fun _ => iT.1, fun x => by omega, fun x => by omega, fun x => by omega⟩
      · show _ ∧ (_ → (0 ≤ w (7 + t) ∧ w (7 + t) ≤ 5) ∧ (t < w 0 → w (7 + t) = 5 ∨ (0 ≤ w (7 + t) ∧ w (7 + t) < w 43))) ∧ _
        refine ⟨fun x => by omega, fun _ => ⟨iT.2.1, fun x => (iT.2.2.2.2.2.2.2 x).1⟩, fun x => by omega, fun x => by omega⟩
      · show _ ∧ (_ → (0 ≤ w (13 + t) ∧ w (13 + t) ≤ 5) ∧ (t < w 0 → w (13 + t) = 5 ∨ (0 ≤ w (13 + t) ∧ w (13 + t) < w 43))) ∧ _
        refine ⟨fun x => by omega, fun _ => ⟨iT.2.2.1, fun x => (iT.2.2.2.2.2.2.2 x).2.1⟩, fun x => by omega, fun x => by omega⟩
      · show _ ∧ (_ → (0 ≤ w (19 + t) ∧ w (19 + t) ≤ 5) ∧ (t < w 0 → w (19 + t) = 5 ∨ (0 ≤ w (19 + t) ∧ w (19 + t) < w 43))) ∧ _
        refine ⟨fun x => by omega, fun _ => ⟨iT.2.2.2.1, fun x => (iT.2.2.2.2.2.2.2 x).2.2⟩, fun x => by omega, fun x => by omega⟩
      · show _ ∧ _ ∧ (_ → 0 ≤ w (25 + t) ∧ w (25 + t) ≤ 1) ∧ _
        refine ⟨fun x => by omega, fun x => by omega, fun _ => iT.2.2.2.2.1, fun x => by omega⟩
      · show _ ∧ _ ∧ (_ → 0 ≤ w (31 + t) ∧ w (31 + t) ≤ 1) ∧ _
        refine ⟨fun x => by omega, fun x => by omega, fun _ => iT.2.2.2.2.2.1, fun x => by omega⟩
      · show _ ∧ _ ∧ _ ∧ (_ → 0 ≤ w (37 + t) ∧ w (37 + t) ≤ 31)
        refine ⟨fun x => by omega, fun x => by omega, fun x => by omega, fun _ => iT.2.2.2.2.2.2.1⟩
    · have iC := h.cl c0 c1
      unfold fr_Ic at iC
      unfold ci_r
      rcases (by omega : g = 0 ∨ g = 1 ∨ g = 2 ∨ g = 3) with q | q | q | q <;> subst q
      · show (_ → 0 ≤ w (44 + c) ∧ w (44 + c) ≤ 3) ∧ _
        refine ⟨fun _ => iC.1, fun x => by omega, fun x => by omega, fun x => by omega⟩
      · show _ ∧ (_ → (0 ≤ w (49 + c) ∧ w (49 + c) ≤ 9) ∧ (c < w 43 → 1 ≤ w (49 + c))) ∧ _
        refine ⟨fun x => by omega, fun _ => ⟨iC.2.1, iC.2.2.2.2⟩, fun x => by omega, fun x => by omega⟩
      · show _ ∧ _ ∧ (_ → 0 ≤ w (54 + c) ∧ w (54 + c) ≤ 99) ∧ _
        refine ⟨fun x => by omega, fun x => by omega, fun _ => iC.2.2.1, fun x => by omega⟩
      · show _ ∧ _ ∧ _ ∧ (_ → 0 ≤ w (59 + c) ∧ w (59 + c) ≤ 10)
        refine ⟨fun x => by omega, fun x => by omega, fun x => by omega, fun _ => iC.2.2.2.1⟩
  · rintro ⟨⟨a, b, d, e, f⟩, ht, hc, hp⟩
    refine ⟨a, b, d, e, f, fun t t0 t1 => ?_, fun c c0 c1 => ?_, hp⟩
    · have h0 := ht t 0 t0 t1 (by omega) (by omega)
      have h1 := ht t 1 t0 t1 (by omega) (by omega)
      have h2 := ht t 2 t0 t1 (by omega) (by omega)
      have h3 := ht t 3 t0 t1 (by omega) (by omega)
      have h4 := ht t 4 t0 t1 (by omega) (by omega)
      have h5 := ht t 5 t0 t1 (by omega) (by omega)
      have h6 := ht t 6 t0 t1 (by omega) (by omega)
      exact ⟨h0.1 rfl, (h1.2.1 (by omega)).1, (h2.2.1 (by omega)).1, (h3.2.1 (by omega)).1, h4.2.2.1 (by omega), h5.2.2.1 (by omega), h6.2.2.2 rfl, fun x => ⟨(h1.2.1 (by omega)).2 x, (h2.2.1 (by omega)).2 x, (h3.2.1 (by omega)).2 x⟩⟩
    · have h0 := hc c 0 c0 c1 (by omega) (by omega)
      have h1 := hc c 1 c0 c1 (by omega) (by omega)
      have h2 := hc c 2 c0 c1 (by omega) (by omega)
      have h3 := hc c 3 c0 c1 (by omega) (by omega)
      exact ⟨h0.1 rfl, (h1.2.1 rfl).1, h2.2.2.1 rfl, h3.2.2.2 rfl, (h1.2.1 rfl).2⟩
theorem I_t {w : Int → Int} (h : fr_I w) {t g i v : Int} (ht : 0 ≤ t ∧ t < 6) (hg : 0 ≤ g ∧ g < 7) (hi : i = 1 + 6 * g + t) (hv : ti_r (w 0) (w 43) t g v) : fr_I (sp_u w i v) := by
  subst hi
  rw [fr_I_iff] at h ⊢
  obtain ⟨a, hT, hC, hp⟩ := h
  unfold fr_I2
  rw [su_n (show (0 : Int) ≠ 1 + 6 * g + t by omega), su_n (show (43 : Int) ≠ 1 + 6 * g + t by omega), su_n (show (74 : Int) ≠ 1 + 6 * g + t by omega), su_n (show (75 : Int) ≠ 1 + 6 * g + t by omega), su_n (show (76 : Int) ≠ 1 + 6 * g + t by omega)]
  refine ⟨a, fun t2 g2 t0 t1 g0 g1 => ?_, fun c2 g2 c0 c1 g0 g1 => ?_, fun f2 f0 f1 => ?_⟩
  · by_cases q : t2 = t ∧ g2 = g
    · rw [q.1, q.2, su_e]; exact hv
    · rw [su_n (by omega)]; exact hT t2 g2 t0 t1 g0 g1
  · rw [su_n (by omega)]; exact hC c2 g2 c0 c1 g0 g1
  · rw [su_n (by omega)]; exact hp f2 f0 f1
theorem I_c {w : Int → Int} (h : fr_I w) {c g i v : Int} (hc : 0 ≤ c ∧ c < 5) (hg : 0 ≤ g ∧ g < 4) (hi : i = 44 + 5 * g + c) (hv : ci_r (w 43) c g v) : fr_I (sp_u w i v) := by
  subst hi
  rw [fr_I_iff] at h ⊢
  obtain ⟨a, hT, hC, hp⟩ := h
  unfold fr_I2
  rw [su_n (show (0 : Int) ≠ 44 + 5 * g + c by omega), su_n (show (43 : Int) ≠ 44 + 5 * g + c by omega), su_n (show (74 : Int) ≠ 44 + 5 * g + c by omega), su_n (show (75 : Int) ≠ 44 + 5 * g + c by omega), su_n (show (76 : Int) ≠ 44 + 5 * g + c by omega)]
  refine ⟨a, fun t2 g2 t0 t1 g0 g1 => ?_, fun c2 g2 c0 c1 g0 g1 => ?_, fun f2 f0 f1 => ?_⟩
  · rw [su_n (by omega)]; exact hT t2 g2 t0 t1 g0 g1
  · by_cases q : c2 = c ∧ g2 = g
    · rw [q.1, q.2, su_e]; exact hv
    · rw [su_n (by omega)]; exact hC c2 g2 c0 c1 g0 g1
  · rw [su_n (by omega)]; exact hp f2 f0 f1
theorem I_p {w : Int → Int} (h : fr_I w) {f v : Int} (hf : 0 ≤ f ∧ f < 10) (hv : -9 ≤ v ∧ v ≤ 99) : fr_I (sp_u w (64 + f) v) := by
  rw [fr_I_iff] at h ⊢
  obtain ⟨a, hT, hC, hp⟩ := h
  unfold fr_I2
  rw [su_n (show (0 : Int) ≠ 64 + f by omega), su_n (show (43 : Int) ≠ 64 + f by omega), su_n (show (74 : Int) ≠ 64 + f by omega), su_n (show (75 : Int) ≠ 64 + f by omega), su_n (show (76 : Int) ≠ 64 + f by omega)]
  refine ⟨a, fun t2 g2 t0 t1 g0 g1 => ?_, fun c2 g2 c0 c1 g0 g1 => ?_, fun f2 f0 f1 => ?_⟩
  · rw [su_n (by omega)]; exact hT t2 g2 t0 t1 g0 g1
  · rw [su_n (by omega)]; exact hC c2 g2 c0 c1 g0 g1
  · by_cases q : f2 = f
    · rw [q, su_e]; exact hv
    · rw [su_n (by omega)]; exact hp f2 f0 f1
theorem I_n {w : Int → Int} (h : fr_I w) {n : Int} (hn : 0 ≤ n ∧ n ≤ 6) (hv : ∀ t g, w 0 ≤ t → t < n → 1 ≤ g → g ≤ 3 → w (1 + 6 * g + t) = 5 ∨ (0 ≤ w (1 + 6 * g + t) ∧ w (1 + 6 * g + t) < w 43)) : fr_I (sp_u w 0 n) := by
  rw [fr_I_iff] at h ⊢
  obtain ⟨a, hT, hC, hp⟩ := h
  unfold fr_I2
  rw [su_e, su_n (show (43 : Int) ≠ 0 by omega), su_n (show (74 : Int) ≠ 0 by omega), su_n (show (75 : Int) ≠ 0 by omega), su_n (show (76 : Int) ≠ 0 by omega)]
  refine ⟨⟨hn, a.2⟩, fun t2 g2 t0 t1 g0 g1 => ?_, fun c2 g2 c0 c1 g0 g1 => ?_, fun f2 f0 f1 => ?_⟩
  · rw [su_n (by omega)]
    have h1 := hT t2 g2 t0 t1 g0 g1
    refine ⟨h1.1, fun x => ⟨(h1.2.1 x).1, fun y => ?_⟩, h1.2.2⟩
    rcases (by omega : t2 < w 0 ∨ w 0 ≤ t2) with q | q
    · exact (h1.2.1 x).2 q
    · exact hv t2 g2 q y x.1 x.2
  · rw [su_n (by omega)]; exact hC c2 g2 c0 c1 g0 g1
  · rw [su_n (by omega)]; exact hp f2 f0 f1
theorem I_m {w : Int → Int} (h : fr_I w) (hn : w 43 < 5) (hv : 1 ≤ w (49 + w 43)) : fr_I (sp_u w 43 (w 43 + 1)) := by
  rw [fr_I_iff] at h ⊢
  obtain ⟨a, hT, hC, hp⟩ := h
  unfold fr_I2
  rw [su_e, su_n (show (0 : Int) ≠ 43 by omega), su_n (show (74 : Int) ≠ 43 by omega), su_n (show (75 : Int) ≠ 43 by omega), su_n (show (76 : Int) ≠ 43 by omega)]
  refine ⟨⟨a.1, by omega, a.2.2⟩, fun t2 g2 t0 t1 g0 g1 => ?_, fun c2 g2 c0 c1 g0 g1 => ?_, fun f2 f0 f1 => ?_⟩
  · rw [su_n (by omega)]
    have h1 := hT t2 g2 t0 t1 g0 g1
    exact ⟨h1.1, fun x => ⟨(h1.2.1 x).1, fun y => by have := (h1.2.1 x).2 y; omega⟩, h1.2.2⟩
  · rw [su_n (by omega)]
    have h1 := hC c2 g2 c0 c1 g0 g1
    refine ⟨h1.1, fun x => ⟨(h1.2.1 x).1, fun y => ?_⟩, h1.2.2⟩
    rcases (by omega : c2 < w 43 ∨ c2 = w 43) with q | q
    · exact (h1.2.1 x).2 q
    · subst x; subst q; exact hv
  · rw [su_n (by omega)]; exact hp f2 f0 f1
theorem I_add {w : Int → Int} (h : fr_I w) (hn : w 0 < 6) {k l b f g : Int} (hk : 0 ≤ k ∧ k ≤ 3) (hl : l = 5 ∨ (0 ≤ l ∧ l < w 43)) (hb : b = 5 ∨ (0 ≤ b ∧ b < w 43)) (hf : 0 ≤ f ∧ f ≤ 1) (hg : 0 ≤ g ∧ g ≤ 1) : fr_I (sp_addw w k l b f g) := by
  have h0 := h.n
  have hM := h.many
  unfold sp_addw
  have t0 : 0 ≤ w 0 ∧ w 0 < 6 := ⟨h0.1, hn⟩
  have i1 : fr_I (sp_u w (1 + w 0) k) := I_t h t0 (g := 0) (by omega) (by omega) ⟨fun _ => hk, fun x => by omega, fun x => by omega, fun x => by omega⟩
  have e1 : ∀ {W : Int → Int} {i v : Int}, 0 < i → i < 43 → sp_u W i v 0 = W 0 ∧ sp_u W i v 43 = W 43 := fun a b => ⟨su_n (by omega), su_n (by omega)⟩
  have q1 := e1 (W := w) (i := 1 + w 0) (v := k) (by omega) (by omega)
  have i2 : fr_I (sp_u (sp_u w (1 + w 0) k) (7 + w 0) 5) := I_t i1 t0 (g := 1) (by omega) (by omega) ⟨fun x => by omega, fun _ => ⟨by omega, fun _ => Or.inl rfl⟩, fun x => by omega, fun x => by omega⟩
  have q2 := e1 (W := sp_u w (1 + w 0) k) (i := 7 + w 0) (v := 5) (by omega) (by omega)
  have i3 : fr_I (sp_u (sp_u (sp_u w (1 + w 0) k) (7 + w 0) 5) (13 + w 0) l) := I_t i2 t0 (g := 2) (by omega) (by omega) ⟨fun x => by omega, fun _ => ⟨by omega, fun _ => by omega⟩, fun x => by omega, fun x => by omega⟩
  have q3 := e1 (W := sp_u (sp_u w (1 + w 0) k) (7 + w 0) 5) (i := 13 + w 0) (v := l) (by omega) (by omega)
  have i4 : fr_I (sp_u (sp_u (sp_u (sp_u w (1 + w 0) k) (7 + w 0) 5) (13 + w 0) l) (19 + w 0) b) := I_t i3 t0 (g := 3) (by omega) (by omega) ⟨fun x => by omega, fun _ => ⟨by omega, fun _ => by omega⟩, fun x => by omega, fun x => by omega⟩
  have q4 := e1 (W := sp_u (sp_u (sp_u w (1 + w 0) k) (7 + w 0) 5) (13 + w 0) l) (i := 19 + w 0) (v := b) (by omega) (by omega)
  have i5 : fr_I (sp_u (sp_u (sp_u (sp_u (sp_u w (1 + w 0) k) (7 + w 0) 5) (13 + w 0) l) (19 + w 0) b) (25 + w 0) f) := I_t i4 t0 (g := 4) (by omega) (by omega) ⟨fun x => by omega, fun x => by omega, fun _ => hf, fun x => by omega⟩
  have q5 := e1 (W := sp_u (sp_u (sp_u (sp_u w (1 + w 0) k) (7 + w 0) 5) (13 + w 0) l) (19 + w 0) b) (i := 25 + w 0) (v := f) (by omega) (by omega)
  have i6 : fr_I (sp_u (sp_u (sp_u (sp_u (sp_u (sp_u w (1 + w 0) k) (7 + w 0) 5) (13 + w 0) l) (19 + w 0) b) (25 + w 0) f) (31 + w 0) g) := I_t i5 t0 (g := 5) (by omega) (by omega) ⟨fun x => by omega, fun x => by omega, fun _ => hg, fun x => by omega⟩
  have q6 := e1 (W := sp_u (sp_u (sp_u (sp_u (sp_u w (1 + w 0) k) (7 + w 0) 5) (13 + w 0) l) (19 + w 0) b) (25 + w 0) f) (i := 31 + w 0) (v := g) (by omega) (by omega)
  have i7 : fr_I (sp_u (sp_u (sp_u (sp_u (sp_u (sp_u (sp_u w (1 + w 0) k) (7 + w 0) 5) (13 + w 0) l) (19 + w 0) b) (25 + w 0) f) (31 + w 0) g) (37 + w 0) 0) := I_t i6 t0 (g := 6) (by omega) (by omega) ⟨fun x => by omega, fun x => by omega, fun x => by omega, fun _ => by omega⟩
  have q7 := e1 (W := sp_u (sp_u (sp_u (sp_u (sp_u (sp_u w (1 + w 0) k) (7 + w 0) 5) (13 + w 0) l) (19 + w 0) b) (25 + w 0) f) (31 + w 0) g) (i := 37 + w 0) (v := 0) (by omega) (by omega)
  refine I_n i7 (by omega) (fun t g2 ht0 ht1 g0 g1 => ?_)
  have et : t = w 0 := by omega
  subst et
  have e43 : sp_u (sp_u (sp_u (sp_u (sp_u (sp_u (sp_u w (1 + w 0) k) (7 + w 0) 5) (13 + w 0) l) (19 + w 0) b) (25 + w 0) f) (31 + w 0) g) (37 + w 0) 0 43 = w 43 := by omega
  rw [e43]
  rcases (by omega : g2 = 1 ∨ g2 = 2 ∨ g2 = 3) with q | q | q <;> subst q
  · rw [su_n (by omega), su_n (by omega), su_n (by omega), su_n (by omega), su_n (by omega), show 1 + 6 * 1 + w 0 = 7 + w 0 by omega, su_e]; exact Or.inl rfl
  · rw [su_n (by omega), su_n (by omega), su_n (by omega), su_n (by omega), show 1 + 6 * 2 + w 0 = 13 + w 0 by omega, su_e]; exact hl
  · rw [su_n (by omega), su_n (by omega), su_n (by omega), show 1 + 6 * 3 + w 0 = 19 + w 0 by omega, su_e]; exact hb
