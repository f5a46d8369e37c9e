/-! the table of the best orders as the class keeps it -/
theorem od_max (a b : Int) : max a b = if a < b then b else a := by rw [Int.max_def]; split <;> split <;> omega
theorem od_mx_rg {fr a b : Int} {F : Int → Int} {k : Nat} (hk : k ≤ 5) (h : ∀ c, 0 ≤ c → c ≤ 5 → a ≤ F c ∧ F c ≤ b) : a ≤ od_mx fr F k ∧ od_mx fr F k ≤ b := by
  rcases od_mx_at fr F k with e | ⟨c, c0, c1, _, e⟩
  · rw [e]; exact h 5 (by omega) (by omega)
  · rw [e]; exact h c c0 (by omega)
theorem pl_v_rg {w : Int → Int} (hI : fr_I w) (t c : Int) : -54 ≤ pl_v w t c ∧ pl_v w t c ≤ 594 := by
  have h1 := sp_br_rg hI c
  have h2 := sp_br_rg hI (w (13 + t))
  have p1 := hI.pr (f := sp_br w c) (by omega) (by omega)
  have p2 := hI.pr (f := sp_br w (w (13 + t))) (by omega) (by omega)
  have s1 := sp_sl_rg (w (1 + t)) 0
  have s2 := sp_sb_rg (w (1 + t)) (w (25 + t))
  unfold pl_v
  generalize sp_sl (w (1 + t)) 0 = x at *
  generalize sp_sb (w (1 + t)) (w (25 + t)) = y at *
  generalize w (64 + sp_br w c) = p at *
  generalize w (64 + sp_br w (w (13 + t))) = q at *
  have a1 : -36 ≤ x * p ∧ x * p ≤ 396 := by
    rcases (by omega : x = 0 ∨ x = 1 ∨ x = 2 ∨ x = 3 ∨ x = 4) with h | h | h | h | h <;> subst h <;> omega
  have a2 : -18 ≤ y * q ∧ y * q ≤ 198 := by
    rcases (by omega : y = 0 ∨ y = 1 ∨ y = 2) with h | h | h <;> subst h <;> omega
  omega
theorem sp_pw_rg {w : Int → Int} (hI : fr_I w) {c : Int} (hc : 0 ≤ c ∧ c ≤ 5) : 0 ≤ sp_pw w c ∧ sp_pw w c ≤ 99 := by
  have hM := hI.many
  unfold sp_pw; split
  · have h := hI.cl (c := c) (by omega) (by omega)
    unfold fr_Ic at h; omega
  · omega
theorem od_nw_rg {w : Int → Int} (hI : fr_I w) {u c : Int} (hc : 0 ≤ c ∧ c ≤ 5) : 0 ≤ od_nw w u c ∧ od_nw w u c ≤ 99 := by
  have := sp_pw_rg hI hc
  unfold od_nw; split <;> omega
theorem od_V_rg {w : Int → Int} (hI : fr_I w) (S sh : Int) : ∀ (j : Nat) (u : Int), -153 * (j : Int) ≤ od_V w S sh j u ∧ od_V w S sh j u ≤ 594 * (j : Int) := by
  intro j
  induction j with
  | zero => intro u; simp [od_V]
  | succ j ih =>
    intro u
    simp only [od_V]
    refine od_mx_rg (by omega) (fun c c0 c1 => ?_)
    have h1 := pl_v_rg hI (w 0 - 1 - j) c
    have h2 := od_nw_rg hI (u := u) ⟨c0, c1⟩
    have h3 := ih (od_j u c)
    unfold od_F
    omega
theorem od_j_lt {w : Int → Int} (hI : fr_I w) {u c : Int} (hu : 0 ≤ u ∧ u ≤ fr_shl 1 (w 43) - 1) (hc : c = 5 ∨ (0 ≤ c ∧ c < w 43)) : 0 ≤ od_j u c ∧ od_j u c ≤ fr_shl 1 (w 43) - 1 := by
  have hM := hI.many
  have hA : fr_shl 1 (w 43) ≤ 32 := by
    have e : ∀ m : Fin 6, fr_shl 1 (m.val : Nat) ≤ 32 := by decide +kernel
    have := e ⟨(w 43).toNat, by omega⟩
    simp only [Int.toNat_of_nonneg hM.1] at this
    exact this
  have hj := od_j_rg (u := u) (c := c) (by omega) (by omega)
  refine ⟨hj.1, bx_lt hM hj (fun k k0 k1 hk => ?_)⟩
  rw [od_j_in (by omega) ⟨k0, k1⟩] at hk
  rcases hk with hk | hk
  · have hb := bx_all (c := w 43) (k := k) (by omega) (by omega)
    rcases (by omega : k < w 43 ∨ ¬ k < w 43) with q | q
    · exact q
    · have e : ∀ m : Fin 6, ∀ a : Fin 32, ∀ k : Fin 5, ((a.val : Nat) : Int) ≤ fr_shl 1 (m.val : Nat) - 1 → sp_in (a.val : Nat) (k.val : Nat) → k.val < m.val := by unfold sp_in; decide +kernel
      have := e ⟨(w 43).toNat, by omega⟩ ⟨u.toNat, by omega⟩ ⟨k.toNat, by omega⟩
      simp only [Int.toNat_of_nonneg hM.1, Int.toNat_of_nonneg hu.1, Int.toNat_of_nonneg k0] at this
      have := this hu.2 hk
      omega
  · omega
theorem od_ff_eq {fr b : Int} {F G : Int → Int} : ∀ k : Nat, k ≤ 5 → (∀ c : Int, 0 ≤ c → c < 5 → sp_in fr c → F c = G c) → od_ff fr b F k = od_ff fr b G k := by
  intro k
  induction k with
  | zero => intro _ _; rfl
  | succ k ih =>
    intro hk h
    simp only [od_ff]
    rw [ih (by omega) h]
    by_cases q : fr_and (fr_shr fr (4 - k)) 1 = 1
    · rw [h (4 - k) (by omega) (by omega) q]
    · rw [if_neg (fun x => q x.1), if_neg (fun x => q x.1)]
theorem od_ff_s (fr b : Int) (F : Int → Int) {j : Nat} (hj : j < 5) : od_ff fr b F (5 - j) = if fr_and (fr_shr fr j) 1 = 1 ∧ F j = b then (j : Int) else od_ff fr b F (5 - (j + 1)) := by
  have e : 5 - j = (5 - (j + 1)) + 1 := by omega
  rw [e]
  simp only [od_ff]
  rw [show (4 : Int) - ((5 - (j + 1) : Nat) : Int) = (j : Int) by omega]
def od_Tb (w : Int → Int) (S sh : Int) (j : Nat) (μ : fr_Me) : Prop := (∀ i : Nat, i ≤ j → ∀ u, 0 ≤ u → u ≤ fr_shl 1 (w 43) - 1 → μ 25 (32 * (w 0 - i) + u) = od_V w S sh i u) ∧ (∀ k, 0 ≤ k → k < 224 → -5000 ≤ μ 25 k ∧ μ 25 k ≤ 5000) ∧ μ 24 5 = S ∧ μ 24 6 = sh
theorem od_Tb_F {w : Int → Int} (hI : fr_I w) {S sh : Int} {j : Nat} {μ : fr_Me} (h : od_Tb w S sh j μ) {i : Nat} (hi : i ≤ j) {t u c : Int} (ht : t = w 0 - 1 - i) (hu : 0 ≤ u ∧ u ≤ fr_shl 1 (w 43) - 1) (hc : c = 5 ∨ (0 ≤ c ∧ c < w 43)) : od_F w (fun x => μ 25 (32 * (t + 1) + x)) t u c = od_F w (od_V w S sh i) t u c := by
  have hj := od_j_lt hI hu hc
  unfold od_F
  dsimp only
  rw [show t + 1 = w 0 - (i : Int) by omega, h.1 i hi _ hj.1 hj.2]
theorem od_fr_lt {w : Int → Int} (hI : fr_I w) {S sh t u c : Int} (hc : 0 ≤ c ∧ c < 5) (h : sp_in (od_fr w S sh t u) c) : 0 ≤ c ∧ c < w 43 := by
  rw [od_fr_in hI hc] at h
  rcases h with h | h
  · omega
  · exact h.1
theorem od_Tb_mx {w : Int → Int} (hI : fr_I w) {S sh : Int} {j : Nat} {μ : fr_Me} (h : od_Tb w S sh j μ) {t u : Int} (ht : t = w 0 - 1 - j) (hu : 0 ≤ u ∧ u ≤ fr_shl 1 (w 43) - 1) : od_mx (od_fr w S sh t u) (od_F w (fun x => μ 25 (32 * (t + 1) + x)) t u) 5 = od_V w S sh (j + 1) u := by
  simp only [od_V]
  rw [← ht]
  refine od_mx_eq (od_Tb_F hI h (Nat.le_refl _) ht hu (Or.inl rfl)) 5 (fun c c0 c1 hb => od_Tb_F hI h (Nat.le_refl _) ht hu (Or.inr (od_fr_lt hI ⟨c0, c1⟩ hb)))
theorem od_Tb_ff {w : Int → Int} (hI : fr_I w) {S sh : Int} {j : Nat} {μ : fr_Me} (h : od_Tb w S sh j μ) {i : Nat} (hi : i + 1 ≤ j) {t u : Int} (ht : t = w 0 - 1 - i) (hu : 0 ≤ u ∧ u ≤ fr_shl 1 (w 43) - 1) : od_ff (od_fr w S sh t u) (μ 25 (32 * t + u)) (od_F w (fun x => μ 25 (32 * (t + 1) + x)) t u) 5 = od_c0 w S sh i u := by
  unfold od_c0
  rw [← ht, show t = w 0 - ((i + 1 : Nat) : Int) by omega, h.1 (i + 1) hi u hu.1 hu.2]
  rw [show w 0 - ((i + 1 : Nat) : Int) = t by omega]
  exact od_ff_eq 5 (by omega) (fun c c0 c1 hb => od_Tb_F hI h (by omega) ht hu (Or.inr (od_fr_lt hI ⟨c0, c1⟩ hb)))
theorem od_F_rg {w : Int → Int} (hI : fr_I w) {T : Int → Int} (hT : ∀ k, 0 ≤ k → k < 224 → -5000 ≤ T k ∧ T k ≤ 5000) {t u c : Int} (ht : 0 ≤ t ∧ t < 6) (hu : 0 ≤ u ∧ u ≤ 31) (hc : 0 ≤ c ∧ c ≤ 5) : -6000 ≤ od_F w (fun x => T (32 * (t + 1) + x)) t u c ∧ od_F w (fun x => T (32 * (t + 1) + x)) t u c ≤ 6000 := by
  have h1 := pl_v_rg hI t c
  have h2 := od_nw_rg hI (u := u) hc
  have hj := od_j_rg hu hc
  have h3 := hT (32 * (t + 1) + od_j u c) (by omega) (by omega)
  unfold od_F
  dsimp only
  omega
/-- the row by digits -/
theorem od_row {w : Int → Int} (hI : fr_I w) {S sh : Int} {i : Nat} {u code : Int} (hi : (i : Int) < w 0) (h : code % sp_p6 (i + 1) = od_R w S sh (i + 1) u) : sp_dg (w 0) code (w 0 - 1 - i) = od_c0 w S sh i u ∧ code % sp_p6 i = od_R w S sh i (od_j u (od_c0 w S sh i u)) := by
  have hN := hI.n
  have e1 := od_md code i (by omega)
  rw [← sp_dg_at (w 0) code i] at e1
  have hd := sp_dg_rg (w 0) code (w 0 - 1 - i)
  have h0 := od_c0_at hI S sh i u
  have hr := od_R_rg hI S sh i (od_j u (od_c0 w S sh i u))
  have hp := sp_p6_rg i (by omega)
  have hm : 0 ≤ code % sp_p6 i := Int.emod_nonneg _ (by omega)
  have hm2 : code % sp_p6 i < sp_p6 i := Int.emod_lt_of_pos _ (by omega)
  simp only [od_R] at h
  rw [e1] at h
  generalize sp_dg (w 0) code (w 0 - 1 - i) = d at *
  generalize od_c0 w S sh i u = c at *
  rcases (by omega : d < c ∨ d = c ∨ c < d) with q | q | q
  · have : (d + 1) * sp_p6 i ≤ c * sp_p6 i := Int.mul_le_mul_of_nonneg_right (by omega) (by omega)
    rw [Int.add_mul] at this; omega
  · subst q; exact ⟨rfl, by omega⟩
  · have : (c + 1) * sp_p6 i ≤ d * sp_p6 i := Int.mul_le_mul_of_nonneg_right (by omega) (by omega)
    rw [Int.add_mul] at this; omega
theorem od_c0_lt {w : Int → Int} (hI : fr_I w) {S sh : Int} {i : Nat} {u : Int} : od_c0 w S sh i u = 5 ∨ (0 ≤ od_c0 w S sh i u ∧ od_c0 w S sh i u < w 43) := by
  have h := (od_c0_at hI S sh i u).2.1
  rcases h with h | h
  · exact Or.inl h
  · exact Or.inr h.1
