/-! a pie: the state behind all codes below one -/
def pi_st (w it : Int → Int) (j ways : Int) (fd : Int → Int) : Prop := 0 ≤ j ∧ ways = sp_cnt (sp_Pk w it (wa_A w)) j.toNat ∧ ∃ x, sp_fst (sp_Pk w it (wa_A w)) j x ∧ (x ≠ -4 → ∀ t, 0 ≤ t → t < w 0 → fd t = sp_dg (w 0) x t)
theorem ct_none {P : Int → Prop} {a : Nat} : ∀ k : Nat, (∀ c : Int, (a : Int) ≤ c → c < ((a + k : Nat) : Int) → ¬ P c) → sp_cnt P (a + k) = sp_cnt P a := by
  intro k
  induction k with
  | zero => intro _; rfl
  | succ k ih =>
    intro h
    rw [show a + (k + 1) = a + k + 1 by omega, ct_s, ih (fun c c0 c1 => h c c0 (by omega)), fr_bF (h _ (by omega) (by omega))]
    omega
theorem pi_skip {w it : Int → Int} {j j' ways : Int} {fd : Int → Int} (h : pi_st w it j ways fd) (hj : j ≤ j') (hs : ∀ c, j ≤ c → c < j' → ¬ sp_Pk w it (wa_A w) c) : pi_st w it j' ways fd := by
  obtain ⟨a, b, x, c, d⟩ := h
  refine ⟨by omega, ?_, x, ?_, d⟩
  · rw [b, show j'.toNat = j.toNat + (j' - j).toNat by omega]
    exact (ct_none _ (fun c c0 c1 => hs c (by omega) (by omega))).symm
  · rcases c with ⟨e, f⟩ | ⟨e, f, g, k⟩
    · refine Or.inl ⟨e, fun c c0 c1 => ?_⟩
      rcases (by omega : c < j ∨ j ≤ c) with q | q
      · exact f c c0 q
      · exact hs c q c1
    · exact Or.inr ⟨e, by omega, g, k⟩
theorem pi_up {w it : Int → Int} {j ways : Int} {fd fd' : Int → Int} (h : pi_st w it j ways fd) (hk : sp_Pk w it (wa_A w) j) (h0 : ways = 0 → ∀ t, 0 ≤ t → t < w 0 → fd' t = sp_dg (w 0) j t) (h1 : ways ≠ 0 → fd' = fd) : pi_st w it (j + 1) (ways + 1) fd' := by
  obtain ⟨a, b, x, c, d⟩ := h
  have hc : sp_cnt (sp_Pk w it (wa_A w)) (j + 1).toNat = ways + 1 := by
    rw [show (j + 1).toNat = j.toNat + 1 by omega, ct_s, ← b, show ((j.toNat : Nat) : Int) = j by omega, fr_bT hk]
  have hx : sp_cnt (sp_Pk w it (wa_A w)) j.toNat = 0 ↔ x = -4 := sp_fst.cnt (j := j.toNat) (by rw [show ((j.toNat : Nat) : Int) = j by omega]; exact c)
  rw [← b] at hx
  refine ⟨by omega, hc.symm, ?_⟩
  by_cases q : ways = 0
  · exact ⟨j, sp_fst.new c a (hx.mp q) hk, fun _ => h0 q⟩
  · refine ⟨x, sp_fst.had c (fun e => q (hx.mpr e)), fun e => ?_⟩
    rw [h1 q]; exact d e
theorem hi_nn {L : Int → Int} (h : ∀ f, 0 ≤ f → f < 10 → 0 ≤ L f) (hs : sp_sum 10 L = 0) : ∀ f, 0 ≤ f → f < 10 → L f = 0 := by
  have : ∀ n : Nat, n ≤ 10 → 0 ≤ sp_sum n L ∧ (sp_sum n L = 0 → ∀ f : Int, 0 ≤ f → f < n → L f = 0) := by
    intro n
    induction n with
    | zero => intro _; exact ⟨by simp [sp_sum], fun _ f a b => by omega⟩
    | succ n ih =>
      intro hn
      have h1 := ih (by omega)
      have h2 := h n (by omega) (by omega)
      simp only [sp_sum]
      refine ⟨by omega, fun e f f0 f1 => ?_⟩
      rcases (by omega : f < n ∨ f = n) with q | q
      · exact h1.2 (by omega) f f0 q
      · subst q; omega
  exact (this 10 (by omega)).2 hs
theorem pi_c {w it : Int → Int} (hI : fr_I w) {t : Nat} {p u ways : Int} {la ro fd fd' : Int → Int} (h : hi_pf w it t 0 p u la ro) (hn : ∀ f, 0 ≤ f → f < 10 → 0 ≤ la f) (hl : sp_sum 10 la = pl_ss w 0) (hs : pi_st w it (p * sp_p6 0) ways fd) (h0 : ways = 0 → ∀ s, 0 ≤ s → s < w 0 → fd' s = ro s) (h1 : ways ≠ 0 → fd' = fd) : pi_st w it ((p + 1) * sp_p6 0) (ways + 1) fd' := by
  have hN := hI.n
  obtain ⟨g1, g2, g3, g4, g5, g6⟩ := h
  have e1 : (t : Int) = w 0 := by omega
  have e2 : (w 0).toNat = t := by omega
  simp only [sp_p6, Int.mul_one] at hs ⊢
  refine pi_up hs ((wa_Pk hI).mpr ⟨?_, fun f f0 f1 => ?_⟩) (fun q s s0 s1 => ?_) h1
  · rw [nt_V hI, e2, ← e1]; exact g4
  · rw [e2, ← e1, ← g6 f f0 f1]; exact hi_nn hn hl f f0 f1
  · rw [h0 q s s0 s1, g5 s s0 (by omega), e1]
theorem pi_bar {w it : Int → Int} (hI : fr_I w) {t i : Nat} {p u c : Int} {la ro : Int → Int} (h : hi_pf w it t (i + 1) p u la ro) (hc : 0 ≤ c ∧ c < 6) (ho : wa_ok w t u c) (hb : la (sp_br w c) < sp_sl (w (1 + (t : Int))) 0) {code : Int} (hcd : (6 * p + c) * sp_p6 i ≤ code ∧ code < (6 * p + c + 1) * sp_p6 i) : ¬ sp_Pk w it (wa_A w) code := by
  have hN := hI.n
  have hbr := sp_br_rg hI c
  intro hk
  have hx := hi_nx hI h hc ho (la' := fun f => la f - (if sp_br w c = f then sp_sl (w (1 + (t : Int))) 0 else 0)) (ro' := fun s => if s = t then c else ro s) (fun f _ _ => rfl) (fun s s0 s1 => if_neg (by omega)) (if_pos rfl)
  have hL := hx.2.2.2.2.2 (sp_br w c) (by omega) (by omega)
  dsimp only at hL
  rw [if_pos rfl, ← wa_L_eq (hi_dg hI hx hcd)] at hL
  have h1 := hx.1
  have h2 := ((wa_Pk hI).mp hk).2 (sp_br w c) (by omega) (by omega)
  have h3 := wa_L_le (w := w) (it := it) (o := sp_dg (w 0) code) (t := t + 1) (f := sp_br w c) i
  rw [show (w 0).toNat = t + 1 + i by omega] at h2
  omega
theorem pi_sk {w it : Int → Int} (hI : fr_I w) {t i : Nat} {p u c ways : Int} {la ro fd : Int → Int} (h : hi_pf w it t (i + 1) p u la ro) (hs : pi_st w it ((6 * p + c) * sp_p6 i) ways fd) (hc : 0 ≤ c ∧ c < 6) (ho : ¬ wa_ok w t u c ∨ la (sp_br w c) < sp_sl (w (1 + (t : Int))) 0) : pi_st w it ((6 * p + c + 1) * sp_p6 i) ways fd := by
  have hN := hI.n
  have h1 := h.1
  have h6 := sp_p6_rg i (by omega)
  refine pi_skip hs (by rw [Int.add_mul (6 * p + c)]; omega) (fun code c0 c1 hk => ?_)
  by_cases q : wa_ok w t u c
  · rcases ho with ho | ho
    · exact ho q
    · exact pi_bar hI h hc q ho ⟨c0, c1⟩ hk
  · exact absurd hk.1 (hi_bar hI h hc q ⟨c0, c1⟩)
theorem sp_sum_sub {la : Int → Int} {a x : Int} (ha : 0 ≤ a ∧ a < 10) {la' : Int → Int} (h : ∀ f, 0 ≤ f → f < 10 → la' f = la f - (if a = f then x else 0)) : sp_sum 10 la' = sp_sum 10 la - x := by
  rw [sp_sum_eq (G := fun f => la f - (if a = f then x else 0)) 10 (fun f f0 f1 => h f f0 (by omega)), sp_sum_one (G := la) (a := a) 10 ha.1 (by omega) (fun f hf => by rw [if_neg (fun e => hf e.symm)]; omega)]
  rw [if_pos rfl]; omega
theorem pi_0 {w it : Int → Int} {fd : Int → Int} {n : Nat} : pi_st w it (0 * sp_p6 n) 0 fd := by
  rw [Int.zero_mul]
  exact ⟨by omega, rfl, -4, Or.inl ⟨rfl, fun c c0 c1 => by omega⟩, fun h => absurd rfl h⟩
theorem pi_no {w it : Int → Int} (hI : fr_I w) {la fd : Int → Int} (hl : ∀ f, 0 ≤ f → f < 10 → la f = wa_w it f - wa_k w (w 0).toNat f) (hb : (∃ f, 0 ≤ f ∧ f < 10 ∧ la f < 0) ∨ ((∀ f, 0 ≤ f → f < 10 → 0 ≤ la f) ∧ sp_sum 10 la ≠ pl_ss w (w 0).toNat)) : pi_st w it ((0 + 1) * sp_p6 (w 0).toNat) 0 fd := by
  have hN := hI.n
  have h6 := sp_p6_rg (w 0).toNat (by omega)
  refine pi_skip (pi_0 (n := (w 0).toNat)) (by omega) (fun code c0 c1 hk => ?_)
  have h2 := ((wa_Pk hI).mp hk).2
  have hL0 : ∀ f, 0 ≤ f → f < 10 → la f = wa_L w it (sp_dg (w 0) code) 0 f := fun f f0 f1 => by
    rw [hl f f0 f1]; unfold wa_L wa_g; simp [sp_sum]
  rcases hb with ⟨f, f0, f1, hf⟩ | ⟨_, hs⟩
  · have h3 := wa_L_le (w := w) (it := it) (o := sp_dg (w 0) code) (t := 0) (f := f) (w 0).toNat
    rw [Nat.zero_add, h2 f f0 f1, ← hL0 f f0 f1] at h3
    omega
  · apply hs
    have hrun : ∀ k : Nat, sp_sum 10 (wa_L w it (sp_dg (w 0) code) k) = sp_sum 10 (wa_L w it (sp_dg (w 0) code) 0) - sp_sum k (fun i => sp_sl (w (1 + i)) 0) := by
      intro k
      induction k with
      | zero => simp [sp_sum]
      | succ k ih =>
        have hbr := sp_br_rg hI (sp_dg (w 0) code k)
        rw [sp_sum_sub (la := wa_L w it (sp_dg (w 0) code) k) (a := sp_br w (sp_dg (w 0) code k)) (x := sp_sl (w (1 + (k : Int))) 0) (by omega) (fun f _ _ => wa_L_s w it _ k f), ih]
        simp only [sp_sum]; omega
    have h4 := hrun (w 0).toNat
    have h5 : sp_sum 10 (wa_L w it (sp_dg (w 0) code) (w 0).toNat) = 0 := by
      rw [sp_sum_eq (G := fun _ => 0) 10 (fun f f0 f1 => h2 f f0 (by omega))]; rfl
    have h6 : sp_sum 10 la = sp_sum 10 (wa_L w it (sp_dg (w 0) code) 0) := sp_sum_eq 10 (fun f f0 f1 => hL0 f f0 (by omega))
    have h7 := wa_ss (w := w) (w 0).toNat (by omega)
    have h8 : sp_sum (w 0).toNat (fun i => sp_sl (w (1 + (w 0 - ((w 0).toNat : Int) + i))) 0) = sp_sum (w 0).toNat (fun i => sp_sl (w (1 + i)) 0) := sp_sum_eq _ (fun i _ _ => by rw [show w 0 - ((w 0).toNat : Int) + i = i by omega])
    omega
theorem fd_dg {N : Nat} (hN : N ≤ 6) {x : Int} {j : Nat} (hj : j < N) : x / sp_p6 (N - (j + 1)) = x / sp_p6 (N - j) * 6 + sp_dg (N : Int) x j := by
  have h1 := sp_dg_at (N : Int) x (N - (j + 1))
  rw [show (N : Int) - 1 - ((N - (j + 1) : Nat) : Int) = (j : Int) by omega] at h1
  have h2 := sp_p6_div x (N - (j + 1)) (by omega)
  rw [show N - (j + 1) + 1 = N - j by omega] at h2
  rw [h1, ← h2]
  omega
