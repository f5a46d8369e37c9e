/-! the best orders by a table, and the reference best code -/
def od_fr (w : Int → Int) (S sh t u : Int) : Int := if fr_and (fr_shr sh t) 1 = 1 then 0 else fr_and (sp_frc (fr_and (fr_shl 1 (w 43) - 1) (fr_xor (w (37 + t)) (-1))) (sp_mk w 6) u) S
theorem sp_mk_in {w : Int → Int} {c : Int} (hc : 0 ≤ c ∧ c < 31) : ∀ j : Nat, j ≤ 6 → (sp_in (sp_mk w j) c ↔ c < j ∧ c < w 43 ∧ w (44 + c) = 2) := by
  intro j
  induction j with
  | zero => intro _; exact ⟨fun h => absurd h (bx_zero (by omega)), fun h => by omega⟩
  | succ j ih =>
    intro hj
    have ih := ih (by omega)
    simp only [sp_mk]
    split
    · rename_i h1
      rw [bx_or _ _ (by omega), ih]
      split
      · rename_i h2
        rw [bx_one (by omega) (by omega)]
        constructor
        · rintro (h | h)
          · exact ⟨by omega, h.2⟩
          · subst h; exact ⟨by omega, h1, h2⟩
        · rintro ⟨h3, h4, h5⟩
          rcases (by omega : c < j ∨ c = j) with q | q
          · exact Or.inl ⟨q, h4, h5⟩
          · exact Or.inr q
      · rename_i h2
        constructor
        · rintro (h | h)
          · exact ⟨by omega, h.2⟩
          · exact absurd h (bx_zero (by omega))
        · rintro ⟨h3, h4, h5⟩
          rcases (by omega : c < j ∨ c = j) with q | q
          · exact Or.inl ⟨q, h4, h5⟩
          · subst q; exact absurd h5 h2
    · rename_i h1
      rw [ih]
      constructor
      · rintro ⟨h3, h4⟩; exact ⟨by omega, h4⟩
      · rintro ⟨h3, h4, h5⟩; exact ⟨by omega, h4, h5⟩
theorem sp_frc_in {w : Int → Int} (hI : fr_I w) {t u c : Int} (hc : 0 ≤ c ∧ c < 5) : sp_in (sp_frc (fr_and (fr_shl 1 (w 43) - 1) (fr_xor (w (37 + t)) (-1))) (sp_mk w 6) u) c ↔ c < w 43 ∧ ¬ sp_in (w (37 + t)) c ∧ (¬ sp_in u c ∨ w (44 + c) = 2) := by
  have hM := hI.many
  unfold sp_frc
  rw [bx_and _ _ (by omega), bx_and _ _ (by omega), bx_all (by omega) (by omega), bx_not _ (by omega), bx_not _ (by omega), bx_and _ _ (by omega), bx_not _ (by omega), sp_mk_in (by omega) 6 (by omega)]
  constructor
  · rintro ⟨⟨h1, h2⟩, h3⟩
    refine ⟨h1, h2, ?_⟩
    by_cases q : w (44 + c) = 2
    · exact Or.inr q
    · exact Or.inl (fun h => h3 ⟨h, fun h' => q h'.2.2⟩)
  · rintro ⟨h1, h2, h3⟩
    refine ⟨⟨h1, h2⟩, ?_⟩
    rintro ⟨h4, h5⟩
    rcases h3 with h3 | h3
    · exact h3 h4
    · exact h5 ⟨by omega, h1, h3⟩
theorem od_fr_in {w : Int → Int} (hI : fr_I w) {S sh t u c : Int} (hc : 0 ≤ c ∧ c < 5) : sp_in (od_fr w S sh t u) c ↔ sp_v1 w S sh t c u := by
  unfold od_fr sp_v1
  split
  · rename_i h
    exact ⟨fun h' => absurd h' (bx_zero (by omega)), fun h' => h'.elim (fun e => by omega) (fun e => absurd h e.2.2.2.1)⟩
  · rename_i h
    rw [bx_and _ _ (by omega), sp_frc_in hI hc]
    constructor
    · rintro ⟨⟨h1, h2, h3⟩, h4⟩
      exact Or.inr ⟨⟨hc.1, h1⟩, h4, h2, h, h3⟩
    · rintro (e | ⟨h1, h2, h3, h4, h5⟩)
      · omega
      · exact ⟨⟨h1.2, h3, h5⟩, h2⟩
def od_F (w V : Int → Int) (t u c : Int) : Int := pl_v w t c - od_nw w u c + V (od_j u c)
def od_mx (fr : Int) (F : Int → Int) : Nat → Int
  | 0 => F 5
  | k + 1 => if fr_and (fr_shr fr k) 1 = 1 then max (od_mx fr F k) (F k) else od_mx fr F k
def od_ff (fr b : Int) (F : Int → Int) : Nat → Int
  | 0 => 5
  | k + 1 => if fr_and (fr_shr fr (4 - k)) 1 = 1 ∧ F (4 - k) = b then 4 - k else od_ff fr b F k
def od_V (w : Int → Int) (S sh : Int) : Nat → Int → Int
  | 0, _ => 0
  | j + 1, u => od_mx (od_fr w S sh (w 0 - 1 - j) u) (od_F w (od_V w S sh j) (w 0 - 1 - j) u) 5
def od_c0 (w : Int → Int) (S sh : Int) (j : Nat) (u : Int) : Int := od_ff (od_fr w S sh (w 0 - 1 - j) u) (od_V w S sh (j + 1) u) (od_F w (od_V w S sh j) (w 0 - 1 - j) u) 5
def od_R (w : Int → Int) (S sh : Int) : Nat → Int → Int
  | 0, _ => 0
  | j + 1, u => od_c0 w S sh j u * sp_p6 j + od_R w S sh j (od_j u (od_c0 w S sh j u))
theorem od_mx_ge (fr : Int) (F : Int → Int) : ∀ k : Nat, F 5 ≤ od_mx fr F k ∧ ∀ c : Int, 0 ≤ c → c < k → sp_in fr c → F c ≤ od_mx fr F k := by
  intro k
  induction k with
  | zero => exact ⟨Int.le_refl _, fun c h0 h1 => by omega⟩
  | succ k ih =>
    obtain ⟨h1, h2⟩ := ih
    simp only [od_mx]
    split
    · rename_i h
      refine ⟨by omega, fun c c0 c1 hb => ?_⟩
      rcases (by omega : c < k ∨ c = k) with q | q
      · have := h2 c c0 q hb; omega
      · subst q; omega
    · rename_i h
      refine ⟨h1, fun c c0 c1 hb => ?_⟩
      rcases (by omega : c < k ∨ c = k) with q | q
      · exact h2 c c0 q hb
      · subst q; exact absurd hb h
theorem od_mx_at (fr : Int) (F : Int → Int) : ∀ k : Nat, od_mx fr F k = F 5 ∨ ∃ c : Int, 0 ≤ c ∧ c < k ∧ sp_in fr c ∧ od_mx fr F k = F c := by
  intro k
  induction k with
  | zero => exact Or.inl rfl
  | succ k ih =>
    simp only [od_mx]
    split
    · rename_i h
      rcases (by omega : max (od_mx fr F k) (F k) = od_mx fr F k ∨ max (od_mx fr F k) (F k) = F k) with q | q
      · rw [q]
        rcases ih with ih | ⟨c, a, b, d, e⟩
        · exact Or.inl ih
        · exact Or.inr ⟨c, a, by omega, d, e⟩
      · exact Or.inr ⟨k, by omega, by omega, h, q⟩
    · rcases ih with ih | ⟨c, a, b, d, e⟩
      · exact Or.inl ih
      · exact Or.inr ⟨c, a, by omega, d, e⟩
theorem od_mx_eq {fr : Int} {F G : Int → Int} (h5 : F 5 = G 5) : ∀ k : Nat, (∀ c : Int, 0 ≤ c → c < k → sp_in fr c → F c = G c) → od_mx fr F k = od_mx fr G k := by
  intro k
  induction k with
  | zero => intro _; exact h5
  | succ k ih =>
    intro h
    simp only [od_mx]
    rw [ih (fun c a b d => h c a (by omega) d)]
    split
    · rename_i q
      rw [h k (by omega) (by omega) q]
    · rfl
theorem od_ff_at (fr b : Int) (F : Int → Int) : ∀ k : Nat, k ≤ 5 → (od_ff fr b F k = 5 ∧ ∀ c, 5 - (k : Int) ≤ c → c < 5 → sp_in fr c → F c ≠ b) ∨ (5 - (k : Int) ≤ od_ff fr b F k ∧ od_ff fr b F k < 5 ∧ sp_in fr (od_ff fr b F k) ∧ F (od_ff fr b F k) = b ∧ ∀ c, 5 - (k : Int) ≤ c → c < od_ff fr b F k → sp_in fr c → F c ≠ b) := by
  intro k
  induction k with
  | zero => intro _; exact Or.inl ⟨rfl, fun c a b => by omega⟩
  | succ k ih =>
    intro hk
    simp only [od_ff]
    split
    · rename_i h
      exact Or.inr ⟨by omega, by omega, h.1, h.2, fun c c0 c1 => by omega⟩
    · rename_i h
      have hh : ∀ c, c = 4 - (k : Int) → sp_in fr c → F c ≠ b := fun c e q r => h (by subst e; exact ⟨q, r⟩)
      rcases ih (by omega) with ⟨a, b'⟩ | ⟨a, b', d, e, f⟩
      · refine Or.inl ⟨a, fun c c0 c1 q => ?_⟩
        rcases (by omega : c = 4 - (k : Int) ∨ 5 - (k : Int) ≤ c) with r | r
        · exact hh c r q
        · exact b' c r c1 q
      · refine Or.inr ⟨by omega, b', d, e, fun c c0 c1 q => ?_⟩
        rcases (by omega : c = 4 - (k : Int) ∨ 5 - (k : Int) ≤ c) with r | r
        · exact hh c r q
        · exact f c r c1 q
theorem od_c0_at {w : Int → Int} (hI : fr_I w) (S sh : Int) (j : Nat) (u : Int) : (0 ≤ od_c0 w S sh j u ∧ od_c0 w S sh j u ≤ 5) ∧ sp_v1 w S sh (w 0 - 1 - j) (od_c0 w S sh j u) u ∧ od_F w (od_V w S sh j) (w 0 - 1 - j) u (od_c0 w S sh j u) = od_V w S sh (j + 1) u ∧ ∀ c, 0 ≤ c → c < od_c0 w S sh j u → sp_v1 w S sh (w 0 - 1 - j) c u → od_F w (od_V w S sh j) (w 0 - 1 - j) u c ≠ od_V w S sh (j + 1) u := by
  unfold od_c0
  have h := od_ff_at (od_fr w S sh (w 0 - 1 - j) u) (od_V w S sh (j + 1) u) (od_F w (od_V w S sh j) (w 0 - 1 - j) u) 5 (by omega)
  generalize od_ff (od_fr w S sh (w 0 - 1 - j) u) (od_V w S sh (j + 1) u) (od_F w (od_V w S sh j) (w 0 - 1 - j) u) 5 = c0 at h ⊢
  rcases h with ⟨a, b⟩ | ⟨a, b, d, e, f⟩
  · subst a
    refine ⟨by omega, Or.inl rfl, ?_, fun c c0 c1 h => b c (by omega) c1 ((od_fr_in hI ⟨c0, c1⟩).mpr h)⟩
    have hm := od_mx_at (od_fr w S sh (w 0 - 1 - j) u) (od_F w (od_V w S sh j) (w 0 - 1 - j) u) 5
    rcases hm with hm | ⟨c, c0, c1, hb, e⟩
    · exact hm.symm
    · exact absurd e.symm (b c (by omega) (by omega) hb)
  · exact ⟨by omega, (od_fr_in hI (by omega)).mp d, e, fun c c0 c1 h => f c (by omega) c1 ((od_fr_in hI (by omega)).mpr h)⟩
theorem od_V_ge {w : Int → Int} (hI : fr_I w) {S sh : Int} {j : Nat} {u c : Int} (hc : 0 ≤ c ∧ c ≤ 5) (h : sp_v1 w S sh (w 0 - 1 - j) c u) : od_F w (od_V w S sh j) (w 0 - 1 - j) u c ≤ od_V w S sh (j + 1) u := by
  have hm := od_mx_ge (od_fr w S sh (w 0 - 1 - j) u) (od_F w (od_V w S sh j) (w 0 - 1 - j) u) 5
  rcases (by omega : c = 5 ∨ c < 5) with q | q
  · subst q; exact hm.1
  · exact hm.2 c hc.1 q ((od_fr_in hI ⟨hc.1, q⟩).mpr h)
theorem od_R_rg {w : Int → Int} (hI : fr_I w) (S sh : Int) : ∀ (j : Nat) (u : Int), 0 ≤ od_R w S sh j u ∧ od_R w S sh j u < sp_p6 j := by
  intro j
  induction j with
  | zero => intro u; simp [od_R, sp_p6]
  | succ j ih =>
    intro u
    have h0 := od_c0_at hI S sh j u
    have h1 := ih (od_j u (od_c0 w S sh j u))
    simp only [od_R, sp_p6]
    generalize od_c0 w S sh j u = c at *
    generalize od_R w S sh j (od_j u c) = r at *
    obtain ⟨⟨a, b⟩, _⟩ := h0
    have h2 : 0 ≤ c * sp_p6 j := Int.mul_nonneg a (by omega)
    have h3 : c * sp_p6 j ≤ 5 * sp_p6 j := Int.mul_le_mul_of_nonneg_right b (by omega)
    omega
theorem od_md (code : Int) (j : Nat) (hj : j < 6) : code % sp_p6 (j + 1) = (code / sp_p6 j % 6) * sp_p6 j + code % sp_p6 j := by
  rcases (by omega : j = 0 ∨ j = 1 ∨ j = 2 ∨ j = 3 ∨ j = 4 ∨ j = 5) with h | h | h | h | h | h <;> subst h <;> simp only [sp_p6] <;> omega
theorem od_best {w : Int → Int} (hI : fr_I w) {S sh code : Int} : ∀ (j : Nat), (j : Int) ≤ w 0 → ∀ u, od_vl w S sh (sp_dg (w 0) code) j u → od_gl w (sp_dg (w 0) code) j u ≤ od_V w S sh j u ∧ (od_gl w (sp_dg (w 0) code) j u = od_V w S sh j u → od_R w S sh j u ≤ code % sp_p6 j) := by
  have hN := hI.n
  intro j
  induction j with
  | zero => intro _ u _; refine ⟨Int.le_refl _, fun _ => ?_⟩; simp [od_R, sp_p6]
  | succ j ih =>
    intro hj u hv
    simp only [od_vl] at hv
    have hd := sp_dg_rg (w 0) code (w 0 - 1 - j)
    have e1 := od_md code j (by omega)
    rw [← sp_dg_at (w 0) code j] at e1
    have hge := od_V_ge hI hd hv.1
    have h0 := od_c0_at hI S sh j u
    simp only [od_gl]
    generalize sp_dg (w 0) code (w 0 - 1 - j) = d at *
    have h1 := ih (by omega) _ hv.2
    have hr := od_R_rg hI S sh j (od_j u (od_c0 w S sh j u))
    have hF : od_F w (od_V w S sh j) (w 0 - 1 - j) u d = pl_v w (w 0 - 1 - j) d - od_nw w u d + od_V w S sh j (od_j u d) := rfl
    refine ⟨by omega, fun he => ?_⟩
    have hFd : od_F w (od_V w S sh j) (w 0 - 1 - j) u d = od_V w S sh (j + 1) u := by omega
    have h2 := h1.2 (by omega)
    have hm : 0 ≤ code % sp_p6 j := Int.emod_nonneg _ (by have := sp_p6_rg j (by omega); omega)
    simp only [od_R]
    rw [e1]
    generalize hc : od_c0 w S sh j u = c at *
    rcases (by omega : d < c ∨ c = d ∨ c < d) with q | q | q
    · exact absurd hFd (h0.2.2.2 d hd.1 q hv.1)
    · subst q; omega
    · have : (c + 1) * sp_p6 j ≤ d * sp_p6 j := Int.mul_le_mul_of_nonneg_right (by omega) (by have := sp_p6_rg j (by omega); omega)
      rw [Int.add_mul] at this
      omega
theorem od_Rv {w : Int → Int} (hI : fr_I w) {S sh code : Int} : ∀ (j : Nat), (j : Int) ≤ w 0 → ∀ u, code % sp_p6 j = od_R w S sh j u → od_vl w S sh (sp_dg (w 0) code) j u ∧ od_gl w (sp_dg (w 0) code) j u = od_V w S sh j u := by
  have hN := hI.n
  intro j
  induction j with
  | zero => intro _ u _; exact ⟨trivial, rfl⟩
  | succ j ih =>
    intro hj u he
    have hd := sp_dg_rg (w 0) code (w 0 - 1 - j)
    have e1 := od_md code j (by omega)
    rw [← sp_dg_at (w 0) code j] at e1
    have h0 := od_c0_at hI S sh j u
    have hr := od_R_rg hI S sh j (od_j u (od_c0 w S sh j u))
    have hp := sp_p6_rg j (by omega)
    have hm : 0 ≤ code % sp_p6 j := Int.emod_nonneg _ (by omega)
    have hm2 : code % sp_p6 j < sp_p6 j := Int.emod_lt_of_pos _ (by omega)
    simp only [od_R] at he
    have ed : sp_dg (w 0) code (w 0 - 1 - j) = od_c0 w S sh j u ∧ code % sp_p6 j = od_R w S sh j (od_j u (od_c0 w S sh j u)) := by
      rw [e1] at he
      generalize sp_dg (w 0) code (w 0 - 1 - j) = d at *
      generalize od_c0 w S sh j u = c at *
      rcases (by omega : d < c ∨ d = c ∨ c < d) with q | q | q
      · have : (d + 1) * sp_p6 j ≤ c * sp_p6 j := Int.mul_le_mul_of_nonneg_right (by omega) (by omega)
        rw [Int.add_mul] at this; omega
      · subst q; exact ⟨rfl, by omega⟩
      · have : (c + 1) * sp_p6 j ≤ d * sp_p6 j := Int.mul_le_mul_of_nonneg_right (by omega) (by omega)
        rw [Int.add_mul] at this; omega
    have h1 := ih (by omega) (od_j u (od_c0 w S sh j u)) ed.2
    simp only [od_vl, od_gl]
    rw [ed.1]
    refine ⟨⟨h0.2.1, h1.1⟩, ?_⟩
    rw [h1.2]
    exact h0.2.2.1
theorem od_bst {w : Int → Int} (hI : fr_I w) (S sh : Int) : sp_bst w S sh (od_V w S sh (w 0).toNat 0) (od_R w S sh (w 0).toNat 0) := by
  have hN := hI.n
  have hM := hI.many
  have hr := od_R_rg hI S sh (w 0).toNat 0
  have hV : ∀ code, sp_V w S sh code ↔ od_vl w S sh (sp_dg (w 0) code) (w 0).toNat 0 := fun code => (od_vlr (sp_dg_rg (w 0) code) hM.2 _).symm
  have hR := od_Rv hI (S := S) (sh := sh) (code := od_R w S sh (w 0).toNat 0) (w 0).toNat (by omega) 0 (Int.emod_eq_of_lt hr.1 hr.2)
  have hRV := (hV _).mpr hR.1
  refine Or.inr ⟨hr.1, hr.2, hRV, ?_, fun c c0 c1 hv => ?_, fun c c0 c1 hv => ?_⟩
  · rw [od_Gn hI hRV]; exact hR.2
  · rw [od_Gn hI hv]
    exact (od_best hI (w 0).toNat (by omega) 0 ((hV c).mp hv)).1
  · rw [od_Gn hI hv]
    have h := od_best hI (w 0).toNat (by omega) 0 ((hV c).mp hv)
    rcases Int.lt_or_eq_of_le h.1 with q | q
    · exact q
    · have := h.2 q
      rw [Int.emod_eq_of_lt c0 (by omega)] at this
      omega
