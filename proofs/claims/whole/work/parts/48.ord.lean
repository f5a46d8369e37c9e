/-! orders from the left: who may, what they bring, the gain; the same as the reference reads codes -/
def od_j (u c : Int) : Int := if c = 5 then u else fr_or u (fr_shl 1 c)
def od_nw (w : Int → Int) (u c : Int) : Int := if fr_and (fr_shr u c) 1 = 1 then 0 else sp_pw w c
theorem od_j_rg {u c : Int} (hu : 0 ≤ u ∧ u ≤ 31) (hc : 0 ≤ c ∧ c ≤ 5) : 0 ≤ od_j u c ∧ od_j u c ≤ 31 := by
  unfold od_j; split
  · exact hu
  · exact fr_or_rg5 hu (by omega)
theorem od_j_in {u c k : Int} (hc : 0 ≤ c ∧ c ≤ 5) (hk : 0 ≤ k ∧ k < 5) : sp_in (od_j u c) k ↔ sp_in u k ∨ k = c := by
  unfold od_j; split
  · constructor
    · intro h; exact Or.inl h
    · rintro (h | h)
      · exact h
      · omega
  · rw [bx_or _ _ (by omega), bx_one (by omega) (by omega)]
theorem od_v1j {w : Int → Int} {S sh t c u d : Int} (hd : 0 ≤ d ∧ d ≤ 5) (hM : w 43 ≤ 5) : sp_v1 w S sh t c (od_j u d) ↔ sp_v1 w S sh t c u ∧ (c = d → c ≠ 5 → w (44 + c) = 2) := by
  unfold sp_v1
  constructor
  · rintro (h | ⟨h1, h2, h3, h4, h5⟩)
    · exact ⟨Or.inl h, fun _ h' => absurd h h'⟩
    · rw [od_j_in hd (by omega)] at h5
      refine ⟨Or.inr ⟨h1, h2, h3, h4, ?_⟩, fun e _ => ?_⟩
      · rcases h5 with h5 | h5
        · exact Or.inl (fun h => h5 (Or.inl h))
        · exact Or.inr h5
      · rcases h5 with h5 | h5
        · exact absurd (Or.inr e) h5
        · exact h5
  · rintro ⟨h | ⟨h1, h2, h3, h4, h5⟩, h6⟩
    · exact Or.inl h
    · refine Or.inr ⟨h1, h2, h3, h4, ?_⟩
      rw [od_j_in hd (by omega)]
      rcases h5 with h5 | h5
      · by_cases e : c = d
        · exact Or.inr (h6 e (by omega))
        · exact Or.inl (fun h => h.elim h5 e)
      · exact Or.inr h5
def od_pr (w o : Int → Int) (j : Nat) : Prop := ∀ t t', w 0 - j ≤ t → t < t' → t' < w 0 → o t = o t' → o t ≠ 5 → w (44 + o t) = 2
def od_vl (w : Int → Int) (S sh : Int) (o : Int → Int) : Nat → Int → Prop
  | 0, _ => True
  | j + 1, u => sp_v1 w S sh (w 0 - 1 - j) (o (w 0 - 1 - j)) u ∧ od_vl w S sh o j (od_j u (o (w 0 - 1 - j)))
theorem od_vl_c {w : Int → Int} {S sh : Int} {o : Int → Int} (ho : ∀ t, 0 ≤ o t ∧ o t ≤ 5) (hM : w 43 ≤ 5) : ∀ (j : Nat) (u : Int), od_vl w S sh o j u ↔ (∀ t, w 0 - j ≤ t → t < w 0 → sp_v1 w S sh t (o t) u) ∧ od_pr w o j := by
  intro j
  induction j with
  | zero => intro u; simp only [od_vl, true_iff]; exact ⟨fun t h0 h1 => by omega, fun t t' h0 h1 h2 => by omega⟩
  | succ j ih =>
    intro u
    simp only [od_vl]
    rw [ih]
    constructor
    · rintro ⟨h1, h2, h3⟩
      have h2' := fun t a b => (od_v1j (ho _) hM).mp (h2 t a b)
      refine ⟨fun t t0 t1 => ?_, fun t t' a b c d e => ?_⟩
      · rcases (by omega : t = w 0 - 1 - j ∨ w 0 - j ≤ t) with q | q
        · rw [q]; exact h1
        · exact (h2' t q t1).1
      · rcases (by omega : t = w 0 - 1 - j ∨ w 0 - j ≤ t) with q | q
        · have := (h2' t' (by omega) c).2 (by rw [← q]; exact d.symm) (by rw [← d]; exact e)
          rw [d]; exact this
        · exact h3 t t' q b c d e
    · rintro ⟨h1, h2⟩
      refine ⟨h1 _ (by omega) (by omega), fun t a b => (od_v1j (ho _) hM).mpr ⟨h1 t (by omega) b, fun e f => ?_⟩, fun t t' a b c d e => h2 t t' (by omega) b c d e⟩
      rw [e]; exact h2 _ t (by omega) (by omega) b e.symm (by rw [← e]; exact f)
theorem od_vr_c {w : Int → Int} {S sh : Int} {o : Int → Int} (ho : ∀ t, 0 ≤ o t ∧ o t ≤ 5) (hM : w 43 ≤ 5) : ∀ (j : Nat), (∀ t c, sp_v1 w S sh t c (sp_cr o (w 0) j) ↔ sp_v1 w S sh t c 0 ∧ ∀ t', w 0 - j ≤ t' → t' < w 0 → c = o t' → c ≠ 5 → w (44 + c) = 2) ∧ (sp_vr w S sh o j ↔ (∀ t, w 0 - j ≤ t → t < w 0 → sp_v1 w S sh t (o t) 0) ∧ od_pr w o j) := by
  intro j
  induction j with
  | zero =>
    refine ⟨fun t c => ?_, ?_⟩
    · simp only [sp_cr]; exact ⟨fun h => ⟨h, fun t' a b => by omega⟩, fun h => h.1⟩
    · simp only [sp_vr, true_iff]; exact ⟨fun t h0 h1 => by omega, fun t t' h0 h1 h2 => by omega⟩
  | succ j ih =>
    have e : sp_cr o (w 0) (j + 1) = od_j (sp_cr o (w 0) j) (o (w 0 - 1 - j)) := rfl
    refine ⟨fun t c => ?_, ?_⟩
    · rw [e, od_v1j (ho _) hM, ih.1 t c]
      constructor
      · rintro ⟨⟨h1, h2⟩, h3⟩
        refine ⟨h1, fun t' a b f g => ?_⟩
        rcases (by omega : t' = w 0 - 1 - j ∨ w 0 - j ≤ t') with q | q
        · exact h3 (by rw [f, q]) g
        · exact h2 t' q b f g
      · rintro ⟨h1, h2⟩
        exact ⟨⟨h1, fun t' a b f g => h2 t' (by omega) b f g⟩, fun f g => h2 _ (by omega) (by omega) f g⟩
    · simp only [sp_vr]
      rw [ih.2, ih.1]
      constructor
      · rintro ⟨⟨h1, h2⟩, h3, h4⟩
        refine ⟨fun t t0 t1 => ?_, fun t t' a b c d f => ?_⟩
        · rcases (by omega : t = w 0 - 1 - j ∨ w 0 - j ≤ t) with q | q
          · rw [q]; exact h3
          · exact h1 t q t1
        · rcases (by omega : t = w 0 - 1 - j ∨ w 0 - j ≤ t) with q | q
          · subst q; exact h4 t' (by omega) c d f
          · exact h2 t t' q b c d f
      · rintro ⟨h1, h2⟩
        exact ⟨⟨fun t a b => h1 t (by omega) b, fun t t' a b c d f => h2 t t' (by omega) b c d f⟩, h1 _ (by omega) (by omega), fun t' a b c d => h2 _ t' (by omega) (by omega) b c d⟩
theorem od_vlr {w : Int → Int} {S sh : Int} {o : Int → Int} (ho : ∀ t, 0 ≤ o t ∧ o t ≤ 5) (hM : w 43 ≤ 5) (j : Nat) : od_vl w S sh o j 0 ↔ sp_vr w S sh o j := by
  rw [od_vl_c ho hM, (od_vr_c ho hM j).2]
def od_uf (w o : Int → Int) : Nat → Int → Int
  | 0, u => u
  | j + 1, u => od_uf w o j (od_j u (o (w 0 - 1 - j)))
theorem od_uf_rg {w o : Int → Int} (ho : ∀ t, 0 ≤ o t ∧ o t ≤ 5) : ∀ (j : Nat) (u : Int), 0 ≤ u ∧ u ≤ 31 → 0 ≤ od_uf w o j u ∧ od_uf w o j u ≤ 31 := by
  intro j
  induction j with
  | zero => intro u hu; exact hu
  | succ j ih => intro u hu; exact ih _ (od_j_rg hu (ho _))
theorem od_uf_in {w o : Int → Int} (ho : ∀ t, 0 ≤ o t ∧ o t ≤ 5) {k : Int} (hk : 0 ≤ k ∧ k < 5) : ∀ (j : Nat) (u : Int), sp_in (od_uf w o j u) k ↔ sp_in u k ∨ ∃ t, w 0 - j ≤ t ∧ t < w 0 ∧ k = o t := by
  intro j
  induction j with
  | zero => intro u; exact ⟨fun h => Or.inl h, fun h => h.elim id (fun ⟨t, a, b, _⟩ => by omega)⟩
  | succ j ih =>
    intro u
    simp only [od_uf]
    rw [ih, od_j_in (ho _) hk]
    constructor
    · rintro ((h | h) | ⟨t, a, b, c⟩)
      · exact Or.inl h
      · exact Or.inr ⟨_, by omega, by omega, h⟩
      · exact Or.inr ⟨t, by omega, b, c⟩
    · rintro (h | ⟨t, a, b, c⟩)
      · exact Or.inl (Or.inl h)
      · rcases (by omega : t = w 0 - 1 - j ∨ w 0 - j ≤ t) with q | q
        · subst q; exact Or.inl (Or.inr c)
        · exact Or.inr ⟨t, q, b, c⟩
theorem od_cr_in {w o : Int → Int} (ho : ∀ t, 0 ≤ o t ∧ o t ≤ 5) {k : Int} (hk : 0 ≤ k ∧ k < 5) : ∀ (j : Nat), sp_in (sp_cr o (w 0) j) k ↔ ∃ t, w 0 - j ≤ t ∧ t < w 0 ∧ k = o t := by
  intro j
  induction j with
  | zero => exact ⟨fun h => absurd h (bx_zero (by omega)), fun ⟨t, a, b, _⟩ => by omega⟩
  | succ j ih =>
    have e : sp_cr o (w 0) (j + 1) = od_j (sp_cr o (w 0) j) (o (w 0 - 1 - j)) := rfl
    rw [e, od_j_in (ho _) hk, ih]
    constructor
    · rintro (⟨t, a, b, c⟩ | h)
      · exact ⟨t, by omega, b, c⟩
      · exact ⟨_, by omega, by omega, h⟩
    · rintro ⟨t, a, b, c⟩
      rcases (by omega : t = w 0 - 1 - j ∨ w 0 - j ≤ t) with q | q
      · subst q; exact Or.inr c
      · exact Or.inl ⟨t, q, b, c⟩
theorem od_ucr {w o : Int → Int} (ho : ∀ t, 0 ≤ o t ∧ o t ≤ 5) (j : Nat) : od_uf w o j 0 = sp_cr o (w 0) j := by
  have h1 := od_uf_rg (w := w) ho j 0 (by omega)
  have h2 := sp_cr_rg (N := w 0) ho j
  refine bx_ext (by omega) (by omega) (fun k k0 k1 => ?_)
  rcases (by omega : k < 5 ∨ 5 ≤ k) with q | q
  · rw [od_uf_in ho ⟨k0, q⟩, od_cr_in ho ⟨k0, q⟩]
    exact ⟨fun h => h.elim (fun h => absurd h (bx_zero (by omega))) id, Or.inr⟩
  · exact ⟨fun h => absurd h (bx_hi h1 ⟨q, k1⟩), fun h => absurd h (bx_hi h2 ⟨q, k1⟩)⟩
theorem sp_sum_if (p : Int → Int) (a x : Int) : ∀ n : Nat, sp_sum n (fun f => p f * (if a = f then x else 0)) = if 0 ≤ a ∧ a < n then p a * x else 0 := by
  intro n
  induction n with
  | zero => rw [if_neg (by omega)]; rfl
  | succ n ih =>
    simp only [sp_sum]
    rw [ih]
    by_cases h : a = (n : Int)
    · subst h; rw [if_neg (by omega), if_pos rfl, if_pos (by omega)]; omega
    · rw [if_neg h]
      by_cases h2 : 0 ≤ a ∧ a < n
      · rw [if_pos h2, if_pos (by omega)]; simp
      · rw [if_neg h2, if_neg (by omega)]; simp
theorem sp_sum_add (F G : Int → Int) : ∀ n : Nat, sp_sum n (fun f => F f + G f) = sp_sum n F + sp_sum n G := by
  intro n
  induction n with
  | zero => rfl
  | succ n ih => simp only [sp_sum]; rw [ih]; omega
theorem od_wn {w : Int → Int} (hI : fr_I w) (t c : Int) : sp_wn w t c 0 = pl_v w t c := by
  have h1 := sp_br_rg hI c
  have h2 := sp_br_rg hI (w (13 + t))
  unfold sp_wn sp_nxt sp_bn pl_v
  have e : ∀ f : Int, w (64 + f) * ((if sp_br w c = f then sp_sl (w (1 + t)) 0 else 0) + (if sp_br w (w (13 + t)) = f then sp_sb (w (1 + t)) (w (25 + t)) else 0)) = (fun f => w (64 + f) * (if sp_br w c = f then sp_sl (w (1 + t)) 0 else 0)) f + (fun f => w (64 + f) * (if sp_br w (w (13 + t)) = f then sp_sb (w (1 + t)) (w (25 + t)) else 0)) f := fun f => Int.mul_add _ _ _
  rw [funext e, sp_sum_add, sp_sum_if (fun f => w (64 + f)), sp_sum_if (fun f => w (64 + f)), if_pos (by omega), if_pos (by omega), Int.mul_comm, Int.mul_comm (w (64 + sp_br w (w (13 + t))))]
theorem od_wgs {u c : Int} (hc : 0 ≤ c ∧ c ≤ 5) (W : Int → Int) : ∀ n : Nat, n ≤ 5 → sp_sum n (fun k => if fr_and (fr_shr (od_j u c) k) 1 = 1 then W k else 0) = sp_sum n (fun k => if fr_and (fr_shr u k) 1 = 1 then W k else 0) + (if c < n then (if fr_and (fr_shr u c) 1 = 1 then 0 else W c) else 0) := by
  intro n
  induction n with
  | zero => intro _; simp only [sp_sum]; rw [if_neg (by omega)]; rfl
  | succ n ih =>
    intro hn
    simp only [sp_sum]
    rw [ih (by omega)]
    have hb := od_j_in (u := u) hc (k := (n : Int)) (by omega)
    unfold sp_in at hb
    have e1 : (if fr_and (fr_shr (od_j u c) n) 1 = 1 then W n else 0) = (if fr_and (fr_shr u n) 1 = 1 then W n else 0) + (if c = n then (if fr_and (fr_shr u c) 1 = 1 then 0 else W c) else 0) := by
      by_cases h : c = (n : Int)
      · rw [if_pos (hb.mpr (Or.inr h.symm)), if_pos h, h]; split <;> simp
      · by_cases h2 : fr_and (fr_shr u n) 1 = 1
        · rw [if_pos (hb.mpr (Or.inl h2)), if_pos h2, if_neg h]; simp
        · rw [if_neg (fun h4 => (hb.mp h4).elim h2 (fun e => h e.symm)), if_neg h2, if_neg h]; simp
    have e2 : ∀ X : Int, (if c < ((n + 1 : Nat) : Int) then X else 0) = (if c < (n : Int) then X else 0) + (if c = (n : Int) then X else 0) := by
      intro X
      (repeat' split) <;> omega
    rw [e1, e2]
    omega
theorem od_wgj {w : Int → Int} (hI : fr_I w) {u c : Int} (hc : 0 ≤ c ∧ c ≤ 5) : sp_wg w (od_j u c) = sp_wg w u + od_nw w u c := by
  have hM := hI.many
  unfold sp_wg
  rw [od_wgs hc (fun c => w (54 + c)) _ (by omega)]
  congr 1
  unfold od_nw sp_pw
  by_cases h : c < w 43
  · rw [if_pos (by omega), if_pos h]
  · rw [if_neg (by omega), if_neg h]; split <;> rfl
def od_gl (w o : Int → Int) : Nat → Int → Int
  | 0, _ => 0
  | j + 1, u => pl_v w (w 0 - 1 - j) (o (w 0 - 1 - j)) - od_nw w u (o (w 0 - 1 - j)) + od_gl w o j (od_j u (o (w 0 - 1 - j)))
def od_sr (N : Int) (F : Int → Int) : Nat → Int
  | 0 => 0
  | j + 1 => F (N - 1 - j) + od_sr N F j
theorem od_sr_eq (F : Int → Int) (N : Nat) : ∀ j : Nat, j ≤ N → sp_sum (N - j) F + od_sr N F j = sp_sum N F := by
  intro j
  induction j with
  | zero => intro _; simp [od_sr]
  | succ j ih =>
    intro hj
    have e : N - j = (N - (j + 1)) + 1 := by omega
    have h := ih (by omega)
    rw [e] at h
    simp only [sp_sum] at h
    simp only [od_sr]
    rw [show ((N : Int) - 1 - (j : Int)) = ((N - (j + 1) : Nat) : Int) by omega]
    omega
theorem od_gl_eq {w o : Int → Int} (hI : fr_I w) (ho : ∀ t, 0 ≤ o t ∧ o t ≤ 5) : ∀ (j : Nat) (u : Int), od_gl w o j u = od_sr (w 0) (fun t => pl_v w t (o t)) j + sp_wg w u - sp_wg w (od_uf w o j u) := by
  intro j
  induction j with
  | zero => intro u; simp only [od_gl, od_sr, od_uf]; omega
  | succ j ih =>
    intro u
    simp only [od_gl, od_sr, od_uf]
    rw [ih, od_wgj hI (ho _)]
    omega
theorem sp_wg_0 (w : Int → Int) (hM : w 43 ≤ 5) : sp_wg w 0 = 0 := by
  unfold sp_wg
  have : ∀ n : Nat, n ≤ 5 → sp_sum n (fun c => if fr_and (fr_shr 0 c) 1 = 1 then w (54 + c) else 0) = 0 := by
    intro n
    induction n with
    | zero => intro _; rfl
    | succ n ih => intro h; simp only [sp_sum]; have q : ¬ (fr_and (fr_shr 0 (n : Int)) 1 = 1) := bx_zero (k := (n : Int)) (by omega); rw [ih (by omega), if_neg q]; rfl
  exact this _ (by omega)
theorem od_Gn {w : Int → Int} (hI : fr_I w) {S sh code : Int} (hv : sp_V w S sh code) : sp_Gn w code = od_gl w (sp_dg (w 0) code) (w 0).toNat 0 := by
  have hn := hI.n
  have hM := hI.many
  have ho : ∀ t, 0 ≤ sp_dg (w 0) code t ∧ sp_dg (w 0) code t ≤ 5 := sp_dg_rg (w 0) code
  rw [od_gl_eq hI ho, od_ucr ho, sp_wg_0 w hM.2]
  unfold sp_Gn
  have e := od_sr_eq (fun t => pl_v w t (sp_dg (w 0) code t)) (w 0).toNat (w 0).toNat (by omega)
  rw [Nat.sub_self, Int.toNat_of_nonneg hn.1] at e
  simp only [sp_sum] at e
  have e2 : sp_sum (w 0).toNat (fun t => sp_wt w t (sp_dg (w 0) code t)) = sp_sum (w 0).toNat (fun t => pl_v w t (sp_dg (w 0) code t)) := by
    refine sp_sum_eq _ (fun t t0 t1 => ?_)
    have hf := sp_V_folk hn.1 hv t t0 (by omega)
    unfold sp_wt
    rw [if_pos hf, od_wn hI]
  rw [e2]
  omega
