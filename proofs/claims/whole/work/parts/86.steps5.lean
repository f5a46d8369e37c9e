/-! steps: texts that become trees, images -/
theorem cm_u {M : Int} {tp : Int → Int} {n : Int} {i j : Nat} (hi : i < 6) (hj : j < 6) (ci : ∀ q : Nat, q < i → sp_cm M tp n q) (cj : ∀ q : Nat, q < j → sp_cm M tp n q) (ei : (∃ x, sp_out0 M tp n i x) ∨ sp_se M tp n i = n) (ej : (∃ x, sp_out0 M tp n j x) ∨ sp_se M tp n j = n) : i = j := by
  have key : ∀ {i j : Nat}, j < 6 → (∀ q : Nat, q < j → sp_cm M tp n q) → ((∃ x, sp_out0 M tp n i x) ∨ sp_se M tp n i = n) → ¬ i < j := by
    intro i j hj cj ei hij
    have hc := cj i hij
    rcases ei with ⟨x, hx⟩ | hx
    · rcases hx with ⟨h1, _⟩ | ⟨_, _, h2, _⟩
      · have := hc.1; unfold sp_ok1 at this; omega
      · rcases h2 with h2 | h2
        · exact h2 hc.2
        · omega
    · have h1 := hc.2
      rw [hx] at h1
      unfold sp_ch at h1
      rw [if_neg (by omega)] at h1
      omega
  have h1 := key (i := i) (j := j) hj cj ei
  have h2 := key (i := j) (j := i) hi ci ej
  omega
theorem out0_u {M : Int} {tp : Int → Int} {n : Int} {i : Nat} {x y : Int} (hx : sp_out0 M tp n i x) (hy : sp_out0 M tp n i y) : x = y := by
  rcases hx with ⟨a, b⟩ | ⟨a, b, c, d⟩ <;> rcases hy with ⟨a', b'⟩ | ⟨a', b', c', d'⟩
  · rw [b, b']
  · unfold sp_ok1 at a'; omega
  · unfold sp_ok1 at a; omega
  · rw [d, d']
theorem out0_n {M : Int} {tp : Int → Int} {n : Int} {i : Nat} {x : Int} (hx : sp_out0 M tp n i x) (h : sp_ok1 M tp n i) (h2 : sp_se M tp n i = n) : False := by
  rcases hx with ⟨a, b⟩ | ⟨a, b, c, d⟩
  · unfold sp_ok1 at h; omega
  · omega
theorem st_commons {μ m m' : fr_Me} {z z' : Int} (h : fr_St μ) (h1 : c_commons μ z m) (h2 : r_commons m z' m') : z = z' ∧ fr_St m' := by
  obtain ⟨hI, hG, hK, hT, hS, hQ⟩ := id h
  obtain ⟨t1, t2, t3, t4⟩ := hT
  have iM := hI.many
  obtain ⟨a1, a2, i, hi, ci, h1⟩ := h1
  obtain ⟨f1, f2, f3, j, hj, cj, h2⟩ := h2
  have hx : ∀ c, (c = 0 ∨ c = 5 ∨ c = 8 ∨ c = 10 ∨ (42 ≤ c ∧ c < 48) ∨ 53 ≤ c) → m c = μ c := by
    intro c hc
    rcases h1 with ⟨_, e⟩ | ⟨_, _, _, _, e, _⟩
    · exact e c (by omega) (by omega) (by omega) (by omega)
    · exact e c (by omega) (by omega) (by omega) (by omega) (by omega) (by omega)
  have x67 := hx 67 (by omega)
  have x68 := hx 68 (by omega)
  have x66 := hx 66 (by omega)
  have x10 := hx 10 (by omega)
  rw [x67, x68, x66] at cj h2
  rw [t1, t2] at ci h1
  have ei : (∃ x, sp_out0 (μ 67 43) (μ 68) (μ 66 3) i x) ∨ sp_se (μ 67 43) (μ 68) (μ 66 3) i = μ 66 3 := by
    rcases h1 with ⟨⟨x, hx, _⟩, _⟩ | ⟨_, hx, _⟩
    · exact Or.inl ⟨x, hx⟩
    · exact Or.inr hx
  have ej : (∃ x, sp_out0 (μ 67 43) (μ 68) (μ 66 3) j x) ∨ sp_se (μ 67 43) (μ 68) (μ 66 3) j = μ 66 3 := by
    rcases h2 with ⟨x, hx, _⟩ | ⟨_, hx, _⟩
    · exact Or.inl ⟨x, hx⟩
    · exact Or.inr hx
  have eij := cm_u hi hj ci cj ei ej
  subst eij
  have hTq : fr_Tq m' := ⟨by rw [f3 10 (by omega) (by omega) (by omega), f3 68 (by omega) (by omega) (by omega), x10, x68]; exact t1, by rw [f3 9 (by omega) (by omega) (by omega), a1, f2], by rw [f2]; exact ⟨by omega, fun k k0 k1 => by omega⟩, fun i i0 i1 => by rw [f3 68 (by omega) (by omega) (by omega), x68]; exact t4 i i0 i1⟩
  have hrest : ∀ (w : Int → Int), fr_I w → fr_G w m → m' 67 = w → fr_kw w = fr_kw (μ 67) → fr_St m' := fun w w1 w2 w3 w4 => ⟨by rw [w3]; exact w1, by rw [w3]; exact w2.keep (fun c hc => f3 c (by omega) (by omega) (by omega)), hK.keep (fun c hc => (f3 c (by omega) (by omega) (by omega)).trans (hx c (by omega))) (by rw [f3 0 (by omega) (by omega) (by omega), hx 0 (by omega)]) (by rw [f1 1 (by omega) (by omega) (by omega), x66]) (by rw [w3]; exact w4), hTq, hS.keep ((f3 75 (by omega) (by omega) (by omega)).trans (hx 75 (by omega))) ((f3 76 (by omega) (by omega) (by omega)).trans (hx 76 (by omega))) ((f3 77 (by omega) (by omega) (by omega)).trans (hx 77 (by omega))), hQ.keep (fun c hc => (f3 c (by omega) (by omega) (by omega)).trans (hx c (by omega))) ((f3 75 (by omega) (by omega) (by omega)).trans (hx 75 (by omega))) ((f3 76 (by omega) (by omega) (by omega)).trans (hx 76 (by omega))) ((f3 77 (by omega) (by omega) (by omega)).trans (hx 77 (by omega)))⟩
  rcases h1 with ⟨⟨x, ox, hz⟩, e⟩ | ⟨ok, se, hz, e1, e2, e3, e4⟩
  · rcases h2 with ⟨y, oy, hz2, w67⟩ | ⟨ok2, se2, _⟩
    · exact ⟨by rw [hz, hz2, out0_u ox oy], hrest (μ 67) hI (hG.keep (fun c hc => e c (by omega) (by omega) (by omega) (by omega))) w67 rfl⟩
    · exact (out0_n ox ok2 se2).elim
  · rcases h2 with ⟨y, oy, _⟩ | ⟨_, _, hz2, w67⟩
    · exact (out0_n oy ok se).elim
    · have hk : ∀ q : Nat, q < i + 1 → 0 ≤ sp_tk (μ 68) (μ 66 3) (sp_po (μ 67 43) (μ 68) (μ 66 3) q) := fun q hq => by
        rcases (by omega : q < i ∨ q = i) with r | r
        · exact (ci q r).1
        · subst r; exact ok
      obtain ⟨b0, b1, b2⟩ := cw_at hI (i + 1) (by omega) hk
      exact ⟨by rw [hz, hz2], hrest _ b0 (G_cw hI hG (by omega) hk (fun q hq => e1 q (by omega)) (fun c hc => e2 c (by omega) (by omega) (by omega) (by omega) (by omega) (by omega)) (by rw [e3]; omega) e4) w67 (kw_e (fun k hk => b2 k (by omega)))⟩
theorem st_image {μ m m' : fr_Me} {z z' : Int} (h : fr_St μ) (h1 : c_image μ z m) (h2 : r_image m z' m') : z = z' ∧ fr_St m' := by
  obtain ⟨hI, hG, hK, hT, hS, hQ⟩ := id h
  obtain ⟨hz, n, ⟨p1, p2, p3, p4, p5⟩, hm⟩ := h1
  obtain ⟨hz2, hm2⟩ := h2
  have ec : ∀ c, c ≠ 0 → c ≠ 5 → c ≠ 8 → (c < 42 ∨ 48 ≤ c) → (c < 53 ∨ 58 ≤ c) → c ≠ 66 → c ≠ 67 → m' c = μ c := fun c c1 c2 c3 c4 c5 c6 c7 => by rw [hm2, gm_uc c6, sp_cpy_nc _ _ _ _ _ c7, hm, gm_uc c1]; exact p5 c ⟨c2, c3, by omega, by omega⟩
  have n67 : m 67 = μ 67 := by rw [hm, gm_uc (by omega)]; exact p5 67 (by omega)
  have n66 : m 66 = μ 66 := by rw [hm, gm_uc (by omega)]; exact p5 66 (by omega)
  have d67 : ∀ k, m' 67 k = if 77 ≤ k ∧ k < 154 then μ 67 (k - 77) else μ 67 k := fun k => by
    rw [hm2, gm_uc (by omega)]
    unfold sp_cpy
    rw [n67]
    by_cases q : 77 ≤ k ∧ k < 154
    · rw [if_pos q, if_pos ⟨rfl, by omega, by omega⟩]; congr 1; omega
    · rw [if_neg q, if_neg (by omega)]
  have lo : ∀ k, 0 ≤ k → k < 77 → m' 67 k = μ 67 k := fun k k0 k1 => by rw [d67, if_neg (by omega)]
  have hi : ∀ k, 0 ≤ k → k < 77 → fr_kw (m' 67) k = μ 67 k := fun k k0 k1 => by
    unfold fr_kw
    rw [if_pos k0, d67, if_pos (by omega)]; congr 1; omega
  have kc : ∀ c, (c = 5 ∨ c = 8 ∨ (42 ≤ c ∧ c < 48) ∨ (53 ≤ c ∧ c < 58)) → m' c = n c := fun c hc => by rw [hm2, gm_uc (by omega), sp_cpy_nc _ _ _ _ _ (by omega), hm, gm_uc (by omega)]
  have g2 := fr_G_iff.mp hG
  refine ⟨by rw [hz, hz2], I_cg hI lo, (G_cg hG lo).keep (fun c hc => ec c (by omega) (by omega) (by omega) (by omega) (by omega) (by omega) (by omega)), ⟨Or.inr (by rw [hm2, gm_uk]), ?_, fun _ => ⟨I_cg hI hi, ?_⟩⟩, hT.keep (ec 10 (by omega) (by omega) (by omega) (by omega) (by omega) (by omega) (by omega)) (by rw [ec 9 (by omega) (by omega) (by omega) (by omega) (by omega) (by omega) (by omega)]) (ec 68 (by omega) (by omega) (by omega) (by omega) (by omega) (by omega) (by omega)) (by rw [hm2, gm_un (by omega), sp_cpy_nc _ _ _ _ _ (by omega), n66]), hS.keep (ec 75 (by omega) (by omega) (by omega) (by omega) (by omega) (by omega) (by omega)) (ec 76 (by omega) (by omega) (by omega) (by omega) (by omega) (by omega) (by omega)) (ec 77 (by omega) (by omega) (by omega) (by omega) (by omega) (by omega) (by omega)), hQ.keep (fun c hc => ec c (by omega) (by omega) (by omega) (by omega) (by omega) (by omega) (by omega)) (ec 75 (by omega) (by omega) (by omega) (by omega) (by omega) (by omega) (by omega)) (ec 76 (by omega) (by omega) (by omega) (by omega) (by omega) (by omega) (by omega)) (ec 77 (by omega) (by omega) (by omega) (by omega) (by omega) (by omega) (by omega))⟩
  · rw [hm2, gm_uk, gm_uc (by omega), sp_cpy_nc _ _ _ _ _ (by omega), hm, gm_uk]
  · refine ⟨?_, fun t g t0 t1 g0 g1 => ?_, fun c g c0 c1 g0 g1 => ?_, fun f f0 f1 => ?_⟩
    · rw [kc 5 (by omega), p4 3 (by omega) (by omega), p4 4 (by omega) (by omega), p4 5 (by omega) (by omega), p4 6 (by omega) (by omega), p4 7 (by omega) (by omega), hi 0 (by omega) (by omega), hi 43 (by omega) (by omega), hi 74 (by omega) (by omega), hi 75 (by omega) (by omega), hi 76 (by omega) (by omega)]; exact g2.1
    · rw [kc _ (by omega), p1 t t0 t1 g g0 g1, hi _ (by omega) (by omega)]; exact g2.2.1 t g t0 t1 g0 g1
    · rw [kc _ (by omega), p2 c c0 c1 g g0 g1, hi _ (by omega) (by omega)]; exact g2.2.2.1 c g c0 c1 g0 g1
    · rw [kc 8 (by omega), p3 f f0 f1, hi _ (by omega) (by omega)]; exact g2.2.2.2 f f0 f1
theorem st_restore {μ m m' : fr_Me} {z z' : Int} (h : fr_St μ) (h1 : c_restore μ z m) (h2 : r_restore m z' m') : z = z' ∧ fr_St m' := by
  obtain ⟨hI, hG, hK, hT, hS, hQ⟩ := id h
  obtain ⟨k1, k2, k3⟩ := id hK
  rcases h1 with ⟨a, rfl, rfl⟩ | ⟨a, hz, p1, p2, p3, p4, p5⟩
  · rcases h2 with ⟨_, rfl, rfl⟩ | ⟨g, _⟩
    · exact ⟨rfl, h⟩
    · omega
  · have e66 : m 66 = μ 66 := p5 66 (by omega)
    have e67 : m 67 = μ 67 := p5 67 (by omega)
    unfold r_restore at h2
    rw [e66] at h2
    rcases h2 with ⟨g, _⟩ | ⟨_, hz2, hm2⟩
    · omega
    · obtain ⟨q1, q2⟩ := k3 (by omega)
      have ec : ∀ c, c ≠ 67 → m' c = m c := fun c hc => by rw [hm2]; exact sp_cpy_nc _ _ _ _ _ hc
      have d67 : ∀ k, m' 67 k = if 0 ≤ k ∧ k < 77 then μ 67 (77 + k) else μ 67 k := fun k => by
        rw [hm2]
        unfold sp_cpy
        rw [e67]
        by_cases q : 0 ≤ k ∧ k < 77
        · rw [if_pos q, if_pos ⟨rfl, by omega, by omega⟩]; congr 1; omega
        · rw [if_neg q, if_neg (by omega)]
      have lo : ∀ k, 0 ≤ k → k < 77 → m' 67 k = fr_kw (μ 67) k := fun k k0 k1 => by
        unfold fr_kw
        rw [d67, if_pos ⟨k0, k1⟩, if_pos k0]
      have hkw : fr_kw (m' 67) = fr_kw (μ 67) := kw_e (fun k hk => by rw [d67, if_neg (by omega)])
      have hGm : fr_G (fr_kw (μ 67)) m := by
        rw [fr_G_iff]
        refine ⟨?_, fun t g t0 t1 g0 g1 => ?_, fun c g c0 c1 g0 g1 => ?_, fun f f0 f1 => ?_⟩
        · rw [p4 3 (by omega) (by omega), p4 4 (by omega) (by omega), p4 5 (by omega) (by omega), p4 6 (by omega) (by omega), p4 7 (by omega) (by omega)]; exact q2.1
        · rw [p1 t t0 t1 g g0 g1]; exact q2.2.1 t g t0 t1 g0 g1
        · rw [p2 c c0 c1 g g0 g1]; exact q2.2.2.1 c g c0 c1 g0 g1
        · rw [p3 f f0 f1]; exact q2.2.2.2 f f0 f1
      exact ⟨by rw [hz, hz2], I_cg q1 lo, G_cg (hGm.keep (fun c hc => ec c (by omega))) lo, hK.keep (fun c hc => (ec c (by omega)).trans (p5 c (by omega))) (by rw [ec 0 (by omega), p5 0 (by omega)]) (by rw [ec 66 (by omega), e66]) hkw, hT.keep ((ec 10 (by omega)).trans (p5 10 (by omega))) (by rw [ec 9 (by omega), p5 9 (by omega)]) ((ec 68 (by omega)).trans (p5 68 (by omega))) (by rw [ec 66 (by omega), e66]), hS.keep ((ec 75 (by omega)).trans (p5 75 (by omega))) ((ec 76 (by omega)).trans (p5 76 (by omega))) ((ec 77 (by omega)).trans (p5 77 (by omega))), hQ.keep (fun c hc => (ec c (by omega)).trans (p5 c (by omega))) ((ec 75 (by omega)).trans (p5 75 (by omega))) ((ec 76 (by omega)).trans (p5 76 (by omega))) ((ec 77 (by omega)).trans (p5 77 (by omega)))⟩
