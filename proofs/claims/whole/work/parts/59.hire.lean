/-! hired: the state behind all codes below one -/
abbrev wa_A (w : Int → Int) : Int := fr_shl 1 (w 43) - 1
abbrev wa_ok (w : Int → Int) (t u c : Int) : Prop := sp_v1 w (fr_shl 1 (w 43) - 1) 0 t c u
def hi_st (w it : Int → Int) (j wg : Int) (fd : Int → Int) : Prop := (wg = 1000 ∧ ∀ c, 0 ≤ c → c < j → ¬ sp_Hk w it (wa_A w) c) ∨ (∃ bc, (0 ≤ bc ∧ bc < j) ∧ sp_Hk w it (wa_A w) bc ∧ sp_W w bc = wg ∧ (∀ t, 0 ≤ t → t < w 0 → fd t = sp_dg (w 0) bc t) ∧ (∀ c, 0 ≤ c → c < j → sp_Hk w it (wa_A w) c → wg ≤ sp_W w c) ∧ ∀ c, 0 ≤ c → c < bc → sp_Hk w it (wa_A w) c → wg < sp_W w c)
theorem hi_skip {w it : Int → Int} {j j' wg : Int} {fd : Int → Int} (h : hi_st w it j wg fd) (hj : 0 ≤ j ∧ j ≤ j') (hs : ∀ c, j ≤ c → c < j' → sp_Hk w it (wa_A w) c → wg ≤ sp_W w c ∧ wg ≠ 1000) : hi_st w it j' wg fd := by
  rcases h with ⟨a, b⟩ | ⟨bc, a, b, c, d, e, f⟩
  · refine Or.inl ⟨a, fun c c0 c1 hc => ?_⟩
    rcases (by omega : c < j ∨ j ≤ c) with q | q
    · exact b c c0 q hc
    · exact (hs c q c1 hc).2 a
  · refine Or.inr ⟨bc, ⟨a.1, by omega⟩, b, c, d, fun c c0 c1 hc => ?_, f⟩
    rcases (by omega : c < j ∨ j ≤ c) with q | q
    · exact e c c0 q hc
    · exact (hs c q c1 hc).1
theorem hi_up {w it : Int → Int} {j wg : Int} {fd fd' : Int → Int} (h : hi_st w it j wg fd) (hj : 0 ≤ j) (hk : sp_Hk w it (wa_A w) j) (hw : sp_W w j < wg) (hf : ∀ t, 0 ≤ t → t < w 0 → fd' t = sp_dg (w 0) j t) : hi_st w it (j + 1) (sp_W w j) fd' := by
  refine Or.inr ⟨j, ⟨hj, by omega⟩, hk, rfl, hf, fun c c0 c1 hc => ?_, fun c c0 c1 hc => ?_⟩
  · rcases h with ⟨a, b⟩ | ⟨bc, a, b, d, e, f, g⟩
    · rcases (by omega : c < j ∨ c = j) with q | q
      · exact absurd hc (b c c0 q)
      · subst q; exact Int.le_refl _
    · rcases (by omega : c < j ∨ c = j) with q | q
      · have := f c c0 q hc; omega
      · subst q; exact Int.le_refl _
  · rcases h with ⟨a, b⟩ | ⟨bc, a, b, d, e, f, g⟩
    · exact absurd hc (b c c0 c1)
    · have := f c c0 c1 hc; omega
/-- what holds where a beginning p of t steps stands in the row -/
def hi_pf (w it : Int → Int) (t i : Nat) (p u : Int) (la ro : Int → Int) : Prop := ((t + i : Nat) : Int) = w 0 ∧ (0 ≤ p ∧ p < sp_p6 t) ∧ u = nt_u (sp_dg t p) t ∧ nt_q (wa_ok w) (sp_dg t p) t ∧ (∀ s, 0 ≤ s → s < (t : Int) → ro s = sp_dg t p s) ∧ ∀ f, 0 ≤ f → f < 10 → la f = wa_L w it (sp_dg t p) t f
theorem hi_dg {w it : Int → Int} (hI : fr_I w) {t i : Nat} {p u : Int} {la ro : Int → Int} (h : hi_pf w it t i p u la ro) {c : Int} (hc : p * sp_p6 i ≤ c ∧ c < (p + 1) * sp_p6 i) : ∀ s : Int, 0 ≤ s → s < t → sp_dg (w 0) c s = sp_dg t p s := by
  have hN := hI.n
  intro s s0 s1
  have h1 := h.1
  have h2 := wa_dg (N := t + i) (by omega) c i (by omega) s s0 (by omega)
  rw [h1, wa_blk (by omega) hc, show t + i - i = t by omega] at h2
  exact h2
theorem hi_u {w it : Int → Int} (hI : fr_I w) {t i : Nat} {p u : Int} {la ro : Int → Int} (h : hi_pf w it t i p u la ro) {c : Int} (hc : p * sp_p6 i ≤ c ∧ c < (p + 1) * sp_p6 i) : nt_u (sp_dg (w 0) c) t = u := by
  rw [nt_u_eq t (hi_dg hI h hc)]; exact h.2.2.1.symm
theorem hi_le {w it : Int → Int} (hI : fr_I w) {t i : Nat} {p u : Int} {la ro : Int → Int} (h : hi_pf w it t i p u la ro) {c : Int} (hc : p * sp_p6 i ≤ c ∧ c < (p + 1) * sp_p6 i) : sp_wg w u ≤ sp_W w c := by
  have h1 := h.1
  rw [wa_W hI, ← hi_u hI h hc, show (w 0).toNat = t + i by omega]
  exact wa_wg_le hI (sp_dg_rg _ _) i
theorem hi_a {w it : Int → Int} (hI : fr_I w) {t i : Nat} {p u wg : Int} {la ro fd : Int → Int} (h : hi_pf w it t i p u la ro) (hs : hi_st w it (p * sp_p6 i) wg fd) (hw : wg ≤ sp_wg w u) : hi_st w it ((p + 1) * sp_p6 i) wg fd := by
  have hN := hI.n
  have h1 := h.1
  have h6 := sp_p6_rg i (by omega)
  have hr := sp_wg_rg hI u
  refine hi_skip hs ⟨Int.mul_nonneg h.2.1.1 (by omega), by rw [Int.add_mul]; omega⟩ (fun c c0 c1 _ => ⟨?_, by omega⟩)
  have := hi_le hI h ⟨c0, c1⟩
  omega
theorem wa_Lf {w it : Int → Int} {t : Nat} {p : Int} {la : Int → Int} (h : ∀ f, 0 ≤ f → f < 10 → la f = wa_L w it (sp_dg t p) t f) : sp_sum 10 (fun f => if 0 < la f then la f else 0) = wa_S (wa_L w it (sp_dg t p) t) := by
  unfold wa_S
  exact sp_sum_eq _ (fun f f0 f1 => by rw [h f f0 (by omega)])
theorem hi_b {w it : Int → Int} (hI : fr_I w) {t i : Nat} {p u wg : Int} {la ro fd : Int → Int} (h : hi_pf w it t i p u la ro) (hs : hi_st w it (p * sp_p6 i) wg fd) (hl : pl_ss w i < wa_S (wa_L w it (sp_dg t p) t)) : hi_st w it ((p + 1) * sp_p6 i) wg fd := by
  have hN := hI.n
  have h1 := h.1
  have h6 := sp_p6_rg i (by omega)
  refine hi_skip hs ⟨Int.mul_nonneg h.2.1.1 (by omega), by rw [Int.add_mul]; omega⟩ (fun c c0 c1 hk => ?_)
  exfalso
  have e : wa_L w it (sp_dg t p) t = wa_L w it (sp_dg (w 0) c) t := funext (fun f => (wa_L_eq (hi_dg hI h ⟨c0, c1⟩) f).symm)
  rw [e] at hl
  exact wa_prune hI h1 hl ((wa_Hk hI).mp hk).2
theorem hi_c {w it : Int → Int} (hI : fr_I w) {t : Nat} {p u wg : Int} {la ro fd fd' : Int → Int} (h : hi_pf w it t 0 p u la ro) (hs : hi_st w it (p * sp_p6 0) wg fd) (hl : wa_S (wa_L w it (sp_dg t p) t) ≤ 0) (hw : sp_wg w u < wg) (hf : ∀ s, 0 ≤ s → s < w 0 → fd' s = ro s) : hi_st w it ((p + 1) * sp_p6 0) (sp_wg w u) fd' := by
  have hN := hI.n
  obtain ⟨h1, h2, h3, h4, h5, h6⟩ := h
  have e1 : (t : Int) = w 0 := by omega
  have e2 : (w 0).toNat = t := by omega
  have hW : sp_W w p = sp_wg w u := by rw [wa_W hI, e2, h3, e1]
  simp only [sp_p6, Int.mul_one] at hs ⊢
  rw [← hW]
  refine hi_up hs h2.1 ((wa_Hk hI).mpr ⟨?_, ?_⟩) (by omega) (fun s s0 s1 => ?_)
  · rw [nt_V hI, e2, ← e1]; exact h4
  · rw [e2, ← e1]; exact wa_S_0.mp hl
  · rw [hf s s0 s1, h5 s s0 (by omega), e1]
theorem hi_pp (p c : Int) (i : Nat) : (6 * p + c) * sp_p6 i = p * sp_p6 (i + 1) + c * sp_p6 i ∧ (6 * p + c + 1) * sp_p6 i = p * sp_p6 (i + 1) + (c + 1) * sp_p6 i := by
  simp only [sp_p6]
  rw [show p * (sp_p6 i * 6) = 6 * p * sp_p6 i by rw [Int.mul_comm (sp_p6 i) 6, ← Int.mul_assoc, Int.mul_comm p 6]]
  refine ⟨Int.add_mul _ _ _, ?_⟩
  rw [show 6 * p + c + 1 = 6 * p + (c + 1) by omega]
  exact Int.add_mul _ _ _
theorem hi_dgc {t : Nat} (ht : t < 6) {p c : Int} (hc : 0 ≤ c ∧ c < 6) : (∀ s : Int, 0 ≤ s → s < t → sp_dg ((t + 1 : Nat) : Int) (6 * p + c) s = sp_dg t p s) ∧ sp_dg ((t + 1 : Nat) : Int) (6 * p + c) t = c := by
  have h := nt_dg t ht (6 * p + c)
  rw [show (6 * p + c) / 6 = p by omega, show (6 * p + c) % 6 = c by omega] at h
  exact h
/-- the next step of a beginning -/
theorem hi_nx {w it : Int → Int} (hI : fr_I w) {t i : Nat} {p u c : Int} {la ro la' ro' : Int → Int} (h : hi_pf w it t (i + 1) p u la ro) (hc : 0 ≤ c ∧ c < 6) (ho : wa_ok w t u c) (hla : ∀ f, 0 ≤ f → f < 10 → la' f = la f - (if sp_br w c = f then sp_sl (w (1 + (t : Int))) 0 else 0)) (hro : ∀ s, 0 ≤ s → s < (t : Int) → ro' s = ro s) (hrt : ro' t = c) : hi_pf w it (t + 1) i (6 * p + c) (od_j u c) la' ro' := by
  have hN := hI.n
  obtain ⟨h1, h2, h3, h4, h5, h6⟩ := h
  obtain ⟨e1, e2⟩ := hi_dgc (t := t) (by omega) (p := p) hc
  refine ⟨by omega, ⟨by omega, by simp only [sp_p6]; omega⟩, ?_, ?_, fun s s0 s1 => ?_, fun f f0 f1 => ?_⟩
  · simp only [nt_u]; rw [nt_u_eq t e1, e2, h3]
  · simp only [nt_q]; rw [nt_q_eq t e1, nt_u_eq t e1, e2, ← h3]; exact ⟨h4, ho⟩
  · rcases (by omega : s < (t : Int) ∨ s = (t : Int)) with q | q
    · rw [hro s s0 q, h5 s s0 q, e1 s s0 q]
    · rw [q, hrt, e2]
  · rw [hla f f0 f1, h6 f f0 f1, wa_L_s, wa_L_eq e1, e2]
/-- who may not climb there: no code of that beginning counts -/
theorem hi_bar {w it : Int → Int} (hI : fr_I w) {t i : Nat} {p u c : Int} {la ro : Int → Int} (h : hi_pf w it t (i + 1) p u la ro) (hc : 0 ≤ c ∧ c < 6) (ho : ¬ wa_ok w t u c) {code : Int} (hb : (6 * p + c) * sp_p6 i ≤ code ∧ code < (6 * p + c + 1) * sp_p6 i) : ¬ sp_V w (wa_A w) 0 code := by
  have hN := hI.n
  have h1 := h.1
  intro hv
  rw [nt_V hI, show (w 0).toNat = (t + 1) + i by omega] at hv
  have h2 := nt_q_le i hv
  simp only [nt_q] at h2
  have h6 := sp_p6_rg i (by omega)
  have hp := hi_pp p c i
  have hcm : c * sp_p6 i ≤ 5 * sp_p6 i := Int.mul_le_mul_of_nonneg_right (by omega) (by omega)
  have hc0 : 0 ≤ c * sp_p6 i := Int.mul_nonneg hc.1 (by omega)
  have e3 : (c + 1) * sp_p6 i = c * sp_p6 i + sp_p6 i := by rw [Int.add_mul]; omega
  have e4 : (p + 1) * sp_p6 (i + 1) = p * sp_p6 (i + 1) + sp_p6 (i + 1) := by rw [Int.add_mul]; omega
  have e5 : sp_p6 (i + 1) = sp_p6 i * 6 := rfl
  have hu := hi_u hI h (c := code) ⟨by omega, by omega⟩
  have hd := wa_dg (N := t + 1 + i) (by omega) code i (by omega) t (by omega) (by omega)
  rw [show ((t + 1 + i : Nat) : Int) = w 0 by omega, wa_blk (by omega) hb, show t + 1 + i - i = t + 1 by omega, (hi_dgc (t := t) (by omega) (p := p) hc).2] at hd
  rw [hd, hu] at h2
  exact ho h2.2
theorem hi_sk {w it : Int → Int} (hI : fr_I w) {t i : Nat} {p u c wg : Int} {la ro fd : Int → Int} (h : hi_pf w it t (i + 1) p u la ro) (hs : hi_st w it ((6 * p + c) * sp_p6 i) wg fd) (hc : 0 ≤ c ∧ c < 6) (ho : ¬ wa_ok w t u c) : hi_st w it ((6 * p + c + 1) * sp_p6 i) wg fd := by
  have hN := hI.n
  have h1 := h.1
  have h6 := sp_p6_rg i (by omega)
  refine hi_skip hs ⟨Int.mul_nonneg (by have := h.2.1.1; omega) (by omega), by rw [Int.add_mul (6 * p + c)]; omega⟩ (fun code c0 c1 hk => ?_)
  exact absurd hk.1 (hi_bar hI h hc ho ⟨c0, c1⟩)
theorem hi_0 {w it : Int → Int} (hI : fr_I w) {la ro fd : Int → Int} (hl : ∀ f, 0 ≤ f → f < 10 → la f = wa_w it f - wa_k w (w 0).toNat f) : hi_pf w it 0 (w 0).toNat 0 0 la ro ∧ hi_st w it (0 * sp_p6 (w 0).toNat) 1000 fd := by
  have hN := hI.n
  refine ⟨⟨by omega, by simp [sp_p6], rfl, trivial, fun s s0 s1 => by omega, fun f f0 f1 => ?_⟩, Or.inl ⟨rfl, fun c c0 c1 => by omega⟩⟩
  rw [hl f f0 f1]
  unfold wa_L wa_g
  simp [sp_sum]
theorem hi_end {w it : Int → Int} (hI : fr_I w) {wg : Int} {fd : Int → Int} (h : hi_st w it ((0 + 1) * sp_p6 (w 0).toNat) wg fd) : ∃ least found, sp_bi (sp_Hk w it (wa_A w)) (fun c => -sp_W w c) (sp_p6 (w 0).toNat) (-least) found ∧ ((wg = 1000 ∧ least = 1000000000) ∨ (wg < 1000 ∧ least = wg ∧ ∀ t, 0 ≤ t → t < w 0 → fd t = sp_dg (w 0) found t)) ∧ 0 ≤ wg := by
  rw [show (0 + 1) * sp_p6 (w 0).toNat = sp_p6 (w 0).toNat by omega] at h
  rcases h with ⟨a, b⟩ | ⟨bc, a, b, c, d, e, f⟩
  · exact ⟨1000000000, 0, Or.inl ⟨rfl, rfl, b⟩, Or.inl ⟨a, rfl⟩, by omega⟩
  · have hr := sp_wg_rg hI (nt_u (sp_dg (w 0) bc) (w 0).toNat)
    rw [wa_W hI] at c
    refine ⟨wg, bc, Or.inr ⟨a.1, a.2, b, ?_, fun c c0 c1 hc => ?_, fun c c0 c1 hc => ?_⟩, Or.inr ⟨by omega, rfl, d⟩, by omega⟩
    · show -sp_W w bc = -wg
      rw [wa_W hI, c]
    · have := e c c0 c1 hc
      show -sp_W w c ≤ -wg
      omega
    · have := f c c0 c1 hc
      show -sp_W w c < -wg
      omega
