/-! what a game is worth from a state on -/
def sp_sv (w : Int → Int) (st y : Int) : Int := if st < 2048 then sp_wt w (y.tdiv 5) (y.tmod 5) else -sp_wt w (y.tdiv 5) (y.tmod 5)
def sp_mm (st b v : Int) : Int := if st < 2048 then (if b < v then v else b) else (if v < b then v else b)
noncomputable def sp_gw (w : Int → Int) (set : Int) (g : Int → Int) (st : Int) : Nat → Int
  | 0 => if st < 2048 then -1000000000 else 1000000000
  | y + 1 => @ite Int (sp_cs w set st y) (Classical.propDecidable _) (sp_mm st (sp_gw w set g st y) (sp_sv w st y + g (sp_bh st y))) (sp_gw w set g st y)
noncomputable def sp_gv (w : Int → Int) (set : Int) : Nat → Int → Int
  | 0, _ => 0
  | k + 1, st => @ite Int (sp_ca w set st) (Classical.propDecidable _) (sp_gw w set (sp_gv w set k) st 30) (@ite Int (sp_ca w set (sp_bh st 30)) (Classical.propDecidable _) (sp_gv w set k (sp_bh st 30)) 0)
/-- trees that aren't taken -/
noncomputable def sp_lf (st : Int) : Int := sp_sum 6 (fun t => fr_b (¬ sp_in (fr_and st 63) t))
theorem sp_lf_rg (st : Int) : 0 ≤ sp_lf st ∧ sp_lf st ≤ 6 := by
  have h := sp_sum_rg (F := fun t => fr_b (¬ sp_in (fr_and st 63) t)) (a := 0) (b := 1) 6 (fun i _ _ => fr_bR _)
  unfold sp_lf
  omega
theorem sp_sum_dec {F G : Int → Int} {t : Int} : ∀ (n : Nat), 0 ≤ t → t < n → (∀ i : Int, 0 ≤ i → i < n → i ≠ t → G i = F i) → G t = F t - 1 → sp_sum n G = sp_sum n F - 1 := by
  intro n
  induction n with
  | zero => intro h0 h1; omega
  | succ n ih =>
    intro h0 h1 h2 h3
    simp only [sp_sum]
    rcases (by omega : t < n ∨ t = n) with e | e
    · rw [ih h0 e (fun i i0 i1 => h2 i i0 (by omega)) h3, h2 n (by omega) (by omega) (by omega)]
      omega
    · subst e
      rw [sp_sum_eq (F := G) (G := F) n (fun i i0 i1 => h2 i i0 (by omega) (by omega)), h3]
      omega
theorem sp_lf_send {w : Int → Int} (hN : w 0 ≤ 6) {set st y : Int} (hs : 0 ≤ st ∧ st < 4096) (hy : 0 ≤ y ∧ y < 30) (hc : sp_cs w set st y) : sp_lf (sp_bh st y) = sp_lf st - 1 := by
  obtain ⟨d1, d2, d3, d4⟩ := fr_d5 (y := y) (by omega)
  have d5 := d4 hy.2
  obtain ⟨-, h2, -, -⟩ := gm_beh hs hy
  unfold sp_lf
  refine sp_sum_dec (t := y.tdiv 5) 6 d1.1 (by omega) (fun i i0 i1 hne => ?_) ?_
  · exact fr_bc (not_congr ((h2 i i0 (by omega)).trans (or_iff_left hne)))
  · have e1 : fr_b (¬ sp_in (fr_and st 63) (y.tdiv 5)) = 1 := fr_bT hc.2.2.1
    have e2 : fr_b (¬ sp_in (fr_and (sp_bh st y) 63) (y.tdiv 5)) = 0 := fr_bF (fun h => h ((h2 _ d1.1 (by omega)).mpr (Or.inr rfl)))
    simp only [e1, e2]
    rfl
theorem sp_lf_pass {st : Int} (hs : 0 ≤ st ∧ st < 4096) : sp_lf (sp_bh st 30) = sp_lf st := by
  obtain ⟨-, h2, -, -⟩ := gm_pas hs
  unfold sp_lf
  exact sp_sum_eq 6 (fun i i0 i1 => fr_bc (not_congr (h2 i i0 (by omega))))
noncomputable def sp_rk (w : Int → Int) (set st : Int) : Int := 2 * sp_lf st + 2 - fr_b (sp_ca w set st)
theorem sp_rk_rg (w : Int → Int) (set st : Int) : 1 ≤ sp_rk w set st ∧ sp_rk w set st ≤ 14 := by
  have h1 := sp_lf_rg st
  have h2 := fr_bR (sp_ca w set st)
  unfold sp_rk
  omega
theorem sp_rk_send {w : Int → Int} (hN : w 0 ≤ 6) {set st y : Int} (hs : 0 ≤ st ∧ st < 4096) (hy : 0 ≤ y ∧ y < 30) (hc : sp_cs w set st y) : sp_rk w set (sp_bh st y) < sp_rk w set st := by
  have h1 := sp_lf_send hN hs hy hc
  have h2 := fr_bR (sp_ca w set (sp_bh st y))
  have h3 : fr_b (sp_ca w set st) = 1 := fr_bT ⟨y, hy.1, hy.2, hc⟩
  unfold sp_rk
  omega
theorem sp_rk_pass {w : Int → Int} {set st : Int} (hs : 0 ≤ st ∧ st < 4096) (hn : ¬ sp_ca w set st) (hp : sp_ca w set (sp_bh st 30)) : sp_rk w set (sp_bh st 30) < sp_rk w set st := by
  have h1 := sp_lf_pass hs
  have h2 : fr_b (sp_ca w set (sp_bh st 30)) = 1 := fr_bT hp
  have h3 : fr_b (sp_ca w set st) = 0 := fr_bF hn
  unfold sp_rk
  omega
theorem sp_gw_eq {w : Int → Int} {set st : Int} {g g' : Int → Int} (h : ∀ y : Int, 0 ≤ y → y < 30 → sp_cs w set st y → g (sp_bh st y) = g' (sp_bh st y)) : ∀ n : Nat, n ≤ 30 → sp_gw w set g st n = sp_gw w set g' st n := by
  intro n
  induction n with
  | zero => intro _; rfl
  | succ n ih =>
    intro hn
    simp only [sp_gw]
    by_cases hc : sp_cs w set st n
    · rw [if_pos hc, if_pos hc, ih (by omega), h n (by omega) (by omega) hc]
    · rw [if_neg hc, if_neg hc, ih (by omega)]
theorem sp_gv_st {w : Int → Int} (hN : w 0 ≤ 6) {set : Int} : ∀ (k : Nat) (st : Int), 0 ≤ st ∧ st < 4096 → sp_rk w set st ≤ k → sp_gv w set (k + 1) st = sp_gv w set k st := by
  intro k
  induction k with
  | zero => intro st hs hr; have := sp_rk_rg w set st; omega
  | succ k ih =>
    intro st hs hr
    show @ite Int (sp_ca w set st) (Classical.propDecidable _) _ _ = @ite Int (sp_ca w set st) (Classical.propDecidable _) _ _
    by_cases hc : sp_ca w set st
    · rw [if_pos hc, if_pos hc]
      refine sp_gw_eq (fun y y0 y1 hy => ?_) 30 (Nat.le_refl _)
      have hb := gm_beh hs (show 0 ≤ y ∧ y < 30 from ⟨y0, y1⟩)
      have hk := sp_rk_send hN hs ⟨y0, y1⟩ hy
      exact ih _ hb.1 (by omega)
    · rw [if_neg hc, if_neg hc]
      by_cases hp : sp_ca w set (sp_bh st 30)
      · rw [if_pos hp, if_pos hp]
        have hk := sp_rk_pass hs hc hp
        exact ih _ (gm_pas hs).1 (by omega)
      · rw [if_neg hp, if_neg hp]
/-- what the game is worth from st on -/
noncomputable def sp_G (w : Int → Int) (set st : Int) : Int := sp_gv w set 14 st
theorem sp_G_eq {w : Int → Int} (hN : w 0 ≤ 6) {set st : Int} (hs : 0 ≤ st ∧ st < 4096) : sp_G w set st = @ite Int (sp_ca w set st) (Classical.propDecidable _) (sp_gw w set (sp_G w set) st 30) (@ite Int (sp_ca w set (sp_bh st 30)) (Classical.propDecidable _) (sp_G w set (sp_bh st 30)) 0) := by
  have h := sp_gv_st hN (set := set) 14 st hs (sp_rk_rg w set st).2
  show sp_gv w set 14 st = _
  rw [← h]
  rfl
theorem sp_gw_rg {w : Int → Int} {set st B : Int} {g : Int → Int} (hB : 0 ≤ B ∧ B ≤ 1000000) (h : ∀ y : Int, 0 ≤ y → y < 30 → sp_cs w set st y → -B ≤ sp_sv w st y + g (sp_bh st y) ∧ sp_sv w st y + g (sp_bh st y) ≤ B) : ∀ n : Nat, n ≤ 30 → ((¬ ∃ y : Int, 0 ≤ y ∧ y < (n : Int) ∧ sp_cs w set st y) ∧ sp_gw w set g st n = if st < 2048 then -1000000000 else 1000000000) ∨ ((∃ y : Int, 0 ≤ y ∧ y < (n : Int) ∧ sp_cs w set st y) ∧ -B ≤ sp_gw w set g st n ∧ sp_gw w set g st n ≤ B) := by
  intro n
  induction n with
  | zero =>
    intro _
    exact Or.inl ⟨fun ⟨y, h0, h1, _⟩ => by omega, rfl⟩
  | succ n ih =>
    intro hn
    have ih := ih (by omega)
    by_cases hc : sp_cs w set st n
    · refine Or.inr ⟨⟨n, by omega, by omega, hc⟩, ?_⟩
      have hv := h n (by omega) (by omega) hc
      simp only [sp_gw]
      rw [if_pos hc]
      unfold sp_mm
      rcases ih with ⟨_, e⟩ | ⟨_, e⟩
      · rw [e]
        split <;> split <;> omega
      · split <;> split <;> omega
    · simp only [sp_gw]
      rw [if_neg hc]
      rcases ih with ⟨hx, e⟩ | ⟨⟨y, h0, h1, h2⟩, e⟩
      · exact Or.inl ⟨fun ⟨y, h0, h1, h2⟩ => (by omega : y < (n : Int) ∨ y = (n : Int)).elim (fun e => hx ⟨y, h0, e, h2⟩) (fun e => hc (e ▸ h2)), e⟩
      · exact Or.inr ⟨⟨y, h0, by omega, h2⟩, e⟩
theorem sp_sv_rg {w : Int → Int} (hI : fr_I w) (st y : Int) : -5940 ≤ sp_sv w st y ∧ sp_sv w st y ≤ 5940 := by
  have h := sp_wt_rg hI (y.tdiv 5) (y.tmod 5)
  unfold sp_sv
  split <;> omega
theorem sp_gv_rg {w : Int → Int} (hI : fr_I w) (hN : w 0 ≤ 6) {set : Int} : ∀ (k : Nat) (st : Int), 0 ≤ st ∧ st < 4096 → -(5940 * sp_lf st) ≤ sp_gv w set k st ∧ sp_gv w set k st ≤ 5940 * sp_lf st := by
  intro k
  induction k with
  | zero =>
    intro st hs
    have := sp_lf_rg st
    show -(5940 * sp_lf st) ≤ 0 ∧ 0 ≤ 5940 * sp_lf st
    omega
  | succ k ih =>
    intro st hs
    have hl := sp_lf_rg st
    show -(5940 * sp_lf st) ≤ @ite Int (sp_ca w set st) (Classical.propDecidable _) _ _ ∧ @ite Int (sp_ca w set st) (Classical.propDecidable _) _ _ ≤ 5940 * sp_lf st
    by_cases hc : sp_ca w set st
    · rw [if_pos hc]
      rcases sp_gw_rg (w := w) (set := set) (st := st) (g := sp_gv w set k) (B := 5940 * sp_lf st) (by omega) (fun y y0 y1 hy => by
        have h1 := sp_sv_rg hI st y
        have h2 := sp_lf_send hN hs ⟨y0, y1⟩ hy
        have h3 := ih (sp_bh st y) (gm_beh hs ⟨y0, y1⟩).1
        omega) 30 (Nat.le_refl _) with e | e
      · exact absurd hc e.1
      · exact e.2
    · rw [if_neg hc]
      by_cases hp : sp_ca w set (sp_bh st 30)
      · rw [if_pos hp]
        have h3 := ih (sp_bh st 30) (gm_pas hs).1
        rw [sp_lf_pass hs] at h3
        exact h3
      · rw [if_neg hp]
        omega
theorem sp_G_rg {w : Int → Int} (hI : fr_I w) (hN : w 0 ≤ 6) {set st : Int} (hs : 0 ≤ st ∧ st < 4096) : -35640 ≤ sp_G w set st ∧ sp_G w set st ≤ 35640 := by
  have h := sp_gv_rg hI hN (set := set) 14 st hs
  have hl := sp_lf_rg st
  unfold sp_G
  omega
