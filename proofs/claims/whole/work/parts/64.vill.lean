/-! two villages: states, and what a game is worth whoever of the monks climbed -/
theorem vi_if {p q : Prop} [Decidable p] [Decidable q] (h : p ↔ q) {a b : Int} : (if p then a else b) = (if q then a else b) := by
  by_cases hp : p
  · rw [if_pos hp, if_pos (h.mp hp)]
  · rw [if_neg hp, if_neg (fun x => hp (h.mpr x))]
def vi_eq (w : Int → Int) (st st' : Int) : Prop := (∀ t, 0 ≤ t → t < 6 → (sp_in (fr_and st 63) t ↔ sp_in (fr_and st' 63) t)) ∧ (∀ d, 0 ≤ d → d < 5 → w (44 + d) ≠ 2 → (sp_in (fr_and (fr_shr st 6) 31) d ↔ sp_in (fr_and (fr_shr st' 6) 31) d)) ∧ (st < 2048 ↔ st' < 2048)
theorem vi_cs {w : Int → Int} {set st st' y : Int} (h : vi_eq w st st') (hy : 0 ≤ y ∧ y < 30) : sp_cs w set st y ↔ sp_cs w set st' y := by
  obtain ⟨d1, d2, d3, d4⟩ := fr_d5 (y := y) (by omega)
  have d5 := d4 hy.2
  obtain ⟨a, b, c⟩ := h
  unfold sp_cs sp_own
  rw [c, a (y.tdiv 5) (by omega) (by omega)]
  by_cases q : w (44 + y.tmod 5) = 2
  · constructor
    · rintro ⟨x1, x2, x3, x4, x5⟩; exact ⟨x1, x2, x3, x4, Or.inl q⟩
    · rintro ⟨x1, x2, x3, x4, x5⟩; exact ⟨x1, x2, x3, x4, Or.inl q⟩
  · rw [b (y.tmod 5) (by omega) (by omega) q]
theorem vi_ca {w : Int → Int} {set st st' : Int} (h : vi_eq w st st') : sp_ca w set st ↔ sp_ca w set st' := by
  constructor
  · rintro ⟨y, a, b, c⟩; exact ⟨y, a, b, (vi_cs h ⟨a, b⟩).mp c⟩
  · rintro ⟨y, a, b, c⟩; exact ⟨y, a, b, (vi_cs h ⟨a, b⟩).mpr c⟩
theorem vi_bh {w : Int → Int} {st st' y : Int} (h : vi_eq w st st') (hs : 0 ≤ st ∧ st < 4096) (hs' : 0 ≤ st' ∧ st' < 4096) (hy : 0 ≤ y ∧ y < 30) : vi_eq w (sp_bh st y) (sp_bh st' y) := by
  obtain ⟨_, a1, a2, a3⟩ := gm_beh hs hy
  obtain ⟨_, b1, b2, b3⟩ := gm_beh hs' hy
  refine ⟨fun t t0 t1 => ?_, fun d d0 d1 hd => ?_, ?_⟩
  · rw [a1 t t0 t1, b1 t t0 t1, h.1 t t0 t1]
  · rw [a2 d d0 d1, b2 d d0 d1, h.2.1 d d0 d1 hd]
  · rw [a3, b3, h.2.2]
theorem vi_ps {w : Int → Int} {st st' : Int} (h : vi_eq w st st') (hs : 0 ≤ st ∧ st < 4096) (hs' : 0 ≤ st' ∧ st' < 4096) : vi_eq w (sp_bh st 30) (sp_bh st' 30) := by
  obtain ⟨_, a1, a2, a3⟩ := gm_pas hs
  obtain ⟨_, b1, b2, b3⟩ := gm_pas hs'
  refine ⟨fun t t0 t1 => ?_, fun d d0 d1 hd => ?_, ?_⟩
  · rw [a1 t t0 t1, b1 t t0 t1, h.1 t t0 t1]
  · rw [a2 d d0 d1, b2 d d0 d1, h.2.1 d d0 d1 hd]
  · rw [a3, b3, h.2.2]
theorem vi_gw {w : Int → Int} {set st st' : Int} {g : Int → Int} (h : vi_eq w st st') (hg : ∀ y : Int, 0 ≤ y → y < 30 → g (sp_bh st y) = g (sp_bh st' y)) : ∀ n : Nat, n ≤ 30 → sp_gw w set g st n = sp_gw w set g st' n := by
  intro n
  induction n with
  | zero => intro _; simp only [sp_gw]; rw [vi_if h.2.2]
  | succ n ih =>
    intro hn
    simp only [sp_gw]
    have hc := vi_cs (set := set) h (y := n) (by omega)
    have e1 : sp_sv w st n = sp_sv w st' n := by unfold sp_sv; rw [vi_if h.2.2]
    by_cases q : sp_cs w set st n
    · rw [if_pos q, if_pos (hc.mp q), ih (by omega), e1, hg n (by omega) (by omega)]
      unfold sp_mm
      rw [vi_if h.2.2]
    · rw [if_neg q, if_neg (fun x => q (hc.mpr x)), ih (by omega)]
theorem vi_gv {w : Int → Int} {set : Int} : ∀ (k : Nat) (st st' : Int), vi_eq w st st' → 0 ≤ st ∧ st < 4096 → 0 ≤ st' ∧ st' < 4096 → sp_gv w set k st = sp_gv w set k st' := by
  intro k
  induction k with
  | zero => intro st st' _ _ _; rfl
  | succ k ih =>
    intro st st' h hs hs'
    simp only [sp_gv]
    have hc := vi_ca (set := set) h
    have hp := vi_ca (set := set) (vi_ps h hs hs')
    rw [vi_gw h (fun y y0 y1 => ih _ _ (vi_bh h hs hs' ⟨y0, y1⟩) (gm_beh hs ⟨y0, y1⟩).1 (gm_beh hs' ⟨y0, y1⟩).1) 30 (by omega), ih _ _ (vi_ps h hs hs') (gm_pas hs).1 (gm_pas hs').1]
    by_cases q : sp_ca w set st
    · rw [if_pos q, if_pos (hc.mp q)]
    · rw [if_neg q, if_neg (fun x => q (hc.mpr x))]
      by_cases r : sp_ca w set (sp_bh st 30)
      · rw [if_pos r, if_pos (hp.mp r)]
      · rw [if_neg r, if_neg (fun x => r (hp.mpr x))]
theorem vi_G {w : Int → Int} {set st st' : Int} (h : vi_eq w st st') (hs : 0 ≤ st ∧ st < 4096) (hs' : 0 ≤ st' ∧ st' < 4096) : sp_G w set st = sp_G w set st' := vi_gv 14 st st' h hs hs'
theorem vi_lf {w : Int → Int} {st st' : Int} (h : vi_eq w st st') : sp_lf st = sp_lf st' := by
  unfold sp_lf
  exact sp_sum_eq 6 (fun i i0 i1 => fr_bc (not_congr (h.1 i i0 (by omega))))
theorem vi_rk {w : Int → Int} {set st st' : Int} (h : vi_eq w st st') : sp_rk w set st = sp_rk w set st' := by
  unfold sp_rk
  rw [vi_lf h, fr_bc (vi_ca h)]
/-- the state of what is taken, who climbed, whose turn -/
def vi_st (a c s : Int) : Int := a + 64 * c + 2048 * s
def vi_r (a c s : Int) : Prop := (0 ≤ a ∧ a < 64) ∧ (0 ≤ c ∧ c < 32) ∧ (s = 0 ∨ s = 1)
theorem vi_st_rg {a c s : Int} (h : vi_r a c s) : 0 ≤ vi_st a c s ∧ vi_st a c s < 4096 := by
  unfold vi_r at h; unfold vi_st; omega
theorem vi_st_b {a c s : Int} (h : vi_r a c s) : fr_and (vi_st a c s) 63 = a ∧ fr_and (fr_shr (vi_st a c s) 6) 31 = c ∧ (vi_st a c s < 2048 ↔ s = 0) := by
  have hr := vi_st_rg h
  obtain ⟨n, e, hn⟩ := gm_cast hr
  have hh := h
  unfold vi_r at hh
  have e2 : (n : Int) = a + 64 * c + 2048 * s := by rw [← e]; rfl
  rw [e]
  refine ⟨?_, ?_, by omega⟩
  · rw [show (63 : Int) = ((63 : Nat) : Int) from rfl, nb_and (gm_small hn) (by decide), show n &&& 63 = n % 64 from Nat.and_two_pow_sub_one_eq_mod n 6]
    omega
  · rw [show (6 : Int) = ((6 : Nat) : Int) from rfl, nb_shr (gm_small hn) (by omega), show (31 : Int) = ((31 : Nat) : Int) from rfl, nb_and (Nat.lt_of_le_of_lt (Nat.shiftRight_le n 6) (gm_small hn)) (by decide), show (n >>> 6) &&& 31 = (n >>> 6) % 32 from Nat.and_two_pow_sub_one_eq_mod _ 5, Nat.shiftRight_eq_div_pow]
    omega
theorem vi_o6 {a t : Int} (ha : 0 ≤ a ∧ a < 64) (ht : 0 ≤ t ∧ t < 6) : 0 ≤ fr_or a (fr_shl 1 t) ∧ fr_or a (fr_shl 1 t) < 64 := by
  have e : ∀ a : Fin 64, ∀ t : Fin 6, 0 ≤ fr_or (a.val : Nat) (fr_shl 1 (t.val : Nat)) ∧ fr_or (a.val : Nat) (fr_shl 1 (t.val : Nat)) < 64 := by decide +kernel
  have := e ⟨a.toNat, by omega⟩ ⟨t.toNat, by omega⟩
  simp only [Int.toNat_of_nonneg ha.1, Int.toNat_of_nonneg ht.1] at this
  exact this
theorem bx_31 {a : Int} (hr : -2147483648 ≤ a ∧ a ≤ 2147483647) (h : ∀ k, 5 ≤ k → k < 32 → ¬ sp_in a k) : 0 ≤ a ∧ a ≤ 31 := by
  have e : fr_and a 31 = a := by
    refine bx_ext (fr_and_rg _ _) hr (fun k k0 k1 => ?_)
    rw [bx_and _ _ ⟨k0, k1⟩]
    have hb := bx_all (c := 5) (k := k) (by omega) ⟨k0, k1⟩
    rw [show fr_shl 1 5 - 1 = 31 from by decide] at hb
    rw [hb]
    constructor
    · exact fun x => x.1
    · intro x
      refine ⟨x, ?_⟩
      rcases (by omega : k < 5 ∨ 5 ≤ k) with q | q
      · exact q
      · exact absurd x (h k q k1)
  have e2 : ∀ b : Int, 0 ≤ fr_and b 31 ∧ fr_and b 31 ≤ 31 := by
    intro b
    unfold fr_and
    have h3 : ((Int32.ofInt b &&& Int32.ofInt 31).toBitVec).toNat = (Int32.ofInt b).toBitVec.toNat % 32 := by
      rw [Int32.toBitVec_and, BitVec.toNat_and, show (Int32.ofInt 31).toBitVec.toNat = 31 from by decide]
      exact Nat.and_two_pow_sub_one_eq_mod _ 5
    have h4 : (Int32.ofInt b &&& Int32.ofInt 31).toInt = (((Int32.ofInt b &&& Int32.ofInt 31).toBitVec).toNat : Int) := nb_ti (by omega)
    rw [h4]; omega
  have := e2 a
  omega
theorem vi_nx {w : Int → Int} {a c s t d : Int} (h : vi_r a c s) (ht : 0 ≤ t ∧ t < 6) (hd : 0 ≤ d ∧ d < 5) : vi_r (fr_or a (fr_shl 1 t)) (fr_or c (fr_and (fr_shl 1 d) (fr_xor (sp_mk w 6) (-1)))) (1 - s) ∧ vi_eq w (sp_bh (vi_st a c s) (5 * t + d)) (vi_st (fr_or a (fr_shl 1 t)) (fr_or c (fr_and (fr_shl 1 d) (fr_xor (sp_mk w 6) (-1)))) (1 - s)) := by
  have h1 := vi_o6 h.1 ht
  have h2 : 0 ≤ fr_or c (fr_and (fr_shl 1 d) (fr_xor (sp_mk w 6) (-1))) ∧ fr_or c (fr_and (fr_shl 1 d) (fr_xor (sp_mk w 6) (-1))) ≤ 31 := by
    refine bx_31 (fr_or_rg _ _) (fun k k0 k1 => ?_)
    rw [bx_or _ _ (by omega), bx_and _ _ (by omega), bx_one (by omega) (by omega)]
    rintro (x | x)
    · exact bx_hi (by have := h.2.1; omega) ⟨k0, k1⟩ x
    · omega
  have hr : vi_r (fr_or a (fr_shl 1 t)) (fr_or c (fr_and (fr_shl 1 d) (fr_xor (sp_mk w 6) (-1)))) (1 - s) := ⟨h1, by omega, by have := h.2.2; omega⟩
  refine ⟨hr, ?_⟩
  obtain ⟨g1, g2, g3⟩ := vi_st_b h
  obtain ⟨k1, k2, k3⟩ := vi_st_b hr
  obtain ⟨_, b1, b2, b3⟩ := gm_beh (vi_st_rg h) (y := 5 * t + d) (by omega)
  have et : (5 * t + d).tdiv 5 = t := by
    obtain ⟨d1, d2, d3, d4⟩ := fr_d5 (y := 5 * t + d) (by omega)
    omega
  have ed : (5 * t + d).tmod 5 = d := by
    obtain ⟨d1, d2, d3, d4⟩ := fr_d5 (y := 5 * t + d) (by omega)
    omega
  refine ⟨fun u u0 u1 => ?_, fun x x0 x1 hx => ?_, ?_⟩
  · rw [b1 u u0 u1, g1, k1, et, bx_or _ _ (by omega), bx_one (by omega) (by omega)]
  · rw [b2 x x0 x1, g2, k2, ed, bx_or _ _ (by omega), bx_and _ _ (by omega), bx_one (by omega) (by omega), bx_not _ (by omega), sp_mk_in (by omega) 6 (by omega)]
    constructor
    · rintro (q | q)
      · exact Or.inl q
      · exact Or.inr ⟨q, fun r => hx r.2.2⟩
    · rintro (q | q)
      · exact Or.inl q
      · exact Or.inr q.1
  · rw [b3, g3, k3]
    have := h.2.2
    omega
theorem vi_ps2 {w : Int → Int} {a c s : Int} (h : vi_r a c s) : vi_r a c (1 - s) ∧ vi_eq w (sp_bh (vi_st a c s) 30) (vi_st a c (1 - s)) := by
  have hr : vi_r a c (1 - s) := ⟨h.1, h.2.1, by have := h.2.2; omega⟩
  obtain ⟨g1, g2, g3⟩ := vi_st_b h
  obtain ⟨k1, k2, k3⟩ := vi_st_b hr
  obtain ⟨_, b1, b2, b3⟩ := gm_pas (vi_st_rg h)
  refine ⟨hr, fun u u0 u1 => ?_, fun x x0 x1 hx => ?_, ?_⟩
  · rw [b1 u u0 u1, g1, k1]
  · rw [b2 x x0 x1, g2, k2]
  · rw [b3, g3, k3]
    have := h.2.2
    omega
/-- who of a side may be sent where -/
theorem vi_fr {w : Int → Int} (hI : fr_I w) {set a c s t d : Int} (h : vi_r a c s) (ht : 0 ≤ t ∧ t < w 0) (hd : 0 ≤ d ∧ d < 5) : sp_cs w set (vi_st a c s) (5 * t + d) ↔ ¬ sp_in a t ∧ sp_in (sp_frc (fr_and (fr_shl 1 (w 43) - 1) (fr_xor (w (37 + t)) (-1))) (sp_mk w 6) c) d ∧ (sp_in set d ↔ s = 0) := by
  have hN := hI.n
  obtain ⟨g1, g2, g3⟩ := vi_st_b h
  have et : (5 * t + d).tdiv 5 = t := by
    obtain ⟨d1, d2, d3, d4⟩ := fr_d5 (y := 5 * t + d) (by omega)
    omega
  have ed : (5 * t + d).tmod 5 = d := by
    obtain ⟨d1, d2, d3, d4⟩ := fr_d5 (y := 5 * t + d) (by omega)
    omega
  unfold sp_cs sp_own
  rw [et, ed, g1, g2, g3, sp_frc_in hI hd]
  constructor
  · rintro ⟨⟨x1, x2⟩, x3, x4, x5, x6⟩
    exact ⟨x4, ⟨x1.2, x5, x6.symm⟩, x2⟩
  · rintro ⟨x4, ⟨x1, x5, x6⟩, x2⟩
    exact ⟨⟨⟨hd.1, x1⟩, x2⟩, ht.2, x4, x5, x6.symm⟩
def vi_b (w : Int → Int) (set st : Int) (y : Nat) (v : Int) : Prop := ((¬ ∃ x : Int, 0 ≤ x ∧ x < (y : Int) ∧ sp_cs w set st x) ∧ v = -1000000) ∨ ((∃ x : Int, 0 ≤ x ∧ x < (y : Int) ∧ sp_cs w set st x) ∧ v = sp_gw w set (sp_G w set) st y ∧ -50000 ≤ v ∧ v ≤ 50000)
theorem vi_b_s {w : Int → Int} {set st : Int} {y : Nat} {v : Int} (h : vi_b w set st y v) (hn : ¬ sp_cs w set st y) : vi_b w set st (y + 1) v := by
  have e : ∀ x : Int, x < ((y + 1 : Nat) : Int) → sp_cs w set st x → x < (y : Int) := fun x x1 hx => by
    rcases (by omega : x < (y : Int) ∨ x = (y : Int)) with q | q
    · exact q
    · subst q; exact absurd hx hn
  rcases h with ⟨a, b⟩ | ⟨⟨x, x0, x1, x2⟩, b, c⟩
  · exact Or.inl ⟨fun ⟨x, x0, x1, x2⟩ => a ⟨x, x0, e x x1 x2, x2⟩, b⟩
  · refine Or.inr ⟨⟨x, x0, by omega, x2⟩, ?_, c⟩
    simp only [sp_gw]
    rw [if_neg hn]; exact b
theorem vi_b_t {w : Int → Int} (hI : fr_I w) {set st : Int} (hs : 0 ≤ st ∧ st < 4096) {y : Nat} {v z : Int} (hy : y < 30) (h : vi_b w set st y v) (hn : sp_cs w set st y) (hz : z = sp_sv w st y + sp_G w set (sp_bh st y)) : vi_b w set st (y + 1) (if v = -1000000 then z else if st < 2048 then (if v < z then z else v) else (if z < v then z else v)) := by
  have hN := hI.n
  have r1 := sp_sv_rg hI st y
  have r2 := sp_G_rg hI hN.2 (set := set) (gm_beh hs (y := y) (by omega)).1
  refine Or.inr ⟨⟨y, by omega, by omega, hn⟩, ?_, ?_⟩
  · simp only [sp_gw]
    rw [if_pos hn, ← hz]
    unfold sp_mm
    rcases h with ⟨a, b⟩ | ⟨a, b, c⟩
    · have hg := sp_gw_rg (w := w) (set := set) (st := st) (g := sp_G w set) (B := 50000) (by omega) (fun x x0 x1 hx => by
        have := sp_sv_rg hI st x
        have := sp_G_rg hI hN.2 (set := set) (gm_beh hs (y := x) ⟨x0, x1⟩).1
        omega) y (by omega)
      rcases hg with ⟨_, e⟩ | ⟨e, _⟩
      · rw [if_pos b, e]
        split <;> split <;> omega
      · exact absurd e a
    · rw [if_neg (by omega), ← b]
  · rcases h with ⟨a, b⟩ | ⟨a, b, c⟩
    · rw [if_pos b]; omega
    · rw [if_neg (by omega)]
      split <;> split <;> omega
theorem vi_b_rg {w : Int → Int} {set st : Int} {y : Nat} {v : Int} (h : vi_b w set st y v) : -1000000 ≤ v ∧ v ≤ 50000 := by
  rcases h with ⟨_, b⟩ | ⟨_, _, c⟩ <;> omega
theorem vi_b_e {w : Int → Int} (hI : fr_I w) {set st : Int} {v : Int} : ∀ k : Nat, 5 * (w 0).toNat + k ≤ 30 → vi_b w set st (5 * (w 0).toNat) v → vi_b w set st (5 * (w 0).toNat + k) v := by
  have hN := hI.n
  intro k
  induction k with
  | zero => intro _ h; exact h
  | succ k ih =>
    intro hk h
    refine vi_b_s (ih (by omega) h) (fun hc => ?_)
    obtain ⟨d1, d2, d3, d4⟩ := fr_d5 (y := ((5 * (w 0).toNat + k : Nat) : Int)) (by omega)
    have h2 : (((5 * (w 0).toNat + k : Nat) : Int)).tdiv 5 < w 0 := hc.2.1
    omega
theorem vi_b_f {w : Int → Int} (hI : fr_I w) {set st : Int} {v : Int} (h : vi_b w set st (5 * (w 0).toNat) v) : (¬ sp_ca w set st ∧ v = -1000000) ∨ (sp_ca w set st ∧ v = sp_gw w set (sp_G w set) st 30 ∧ -50000 ≤ v ∧ v ≤ 50000) := by
  have hN := hI.n
  have h1 := vi_b_e hI (30 - 5 * (w 0).toNat) (by omega) h
  rw [show 5 * (w 0).toNat + (30 - 5 * (w 0).toNat) = 30 by omega] at h1
  rcases h1 with ⟨a, b⟩ | ⟨a, b⟩
  · exact Or.inl ⟨fun ⟨x, x0, x1, x2⟩ => a ⟨x, x0, x1, x2⟩, b⟩
  · exact Or.inr ⟨a, b⟩
def vi_i (a c s : Int) : Int := (a * 32 + c) * 2 + s
def vi_M (w : Int → Int) (set : Int) (T : Int → Int) : Prop := ∀ a c s, vi_r a c s → T (vi_i a c s) = -1000000 ∨ T (vi_i a c s) = sp_G w set (vi_st a c s)
theorem vi_inj {a c s a' c' s' : Int} (h : vi_r a c s) (h' : vi_r a' c' s') (e : vi_i a c s = vi_i a' c' s') : a = a' ∧ c = c' ∧ s = s' := by
  unfold vi_r at h h'
  unfold vi_i at e
  omega
theorem vi_sv {w : Int → Int} (hI : fr_I w) {set a c s t d : Int} (h : vi_r a c s) (ht : 0 ≤ t ∧ t < w 0) (hd : 0 ≤ d ∧ d < 5) (hc : sp_cs w set (vi_st a c s) (5 * t + d)) : sp_sv w (vi_st a c s) (5 * t + d) = if s = 0 then pl_v w t d else -pl_v w t d := by
  have hN := hI.n
  obtain ⟨g1, g2, g3⟩ := vi_st_b h
  have et : (5 * t + d).tdiv 5 = t := by
    obtain ⟨d1, d2, d3, d4⟩ := fr_d5 (y := 5 * t + d) (by omega)
    omega
  have ed : (5 * t + d).tmod 5 = d := by
    obtain ⟨d1, d2, d3, d4⟩ := fr_d5 (y := 5 * t + d) (by omega)
    omega
  have hcl := hc.1.1
  rw [ed] at hcl
  unfold sp_sv sp_wt
  rw [et, ed, if_pos (Or.inr hcl), od_wn hI, vi_if g3]
