/-! counting orders from the left -/
theorem ct_s (P : Int → Prop) (n : Nat) : sp_cnt P (n + 1) = sp_cnt P n + fr_b (P n) := rfl
theorem ct_eq {P Q : Int → Prop} : ∀ n : Nat, (∀ i : Int, 0 ≤ i → i < n → (P i ↔ Q i)) → sp_cnt P n = sp_cnt Q n := by
  intro n h
  unfold sp_cnt
  exact sp_sum_eq n (fun i h0 h1 => by rw [propext (h i h0 h1)])
theorem ct_or {P Q : Int → Prop} : ∀ n : Nat, (∀ i : Int, 0 ≤ i → i < n → ¬ (P i ∧ Q i)) → sp_cnt (fun i => P i ∨ Q i) n = sp_cnt P n + sp_cnt Q n := by
  intro n
  induction n with
  | zero => intro _; rfl
  | succ n ih =>
    intro h
    rw [ct_s, ct_s, ct_s, ih (fun i h0 h1 => h i h0 (by omega))]
    have h1 := h n (by omega) (by omega)
    by_cases hp : P n
    · have hq : ¬ Q n := fun hq => h1 ⟨hp, hq⟩
      rw [fr_bT (Or.inl hp), fr_bT hp, fr_bF hq]; omega
    · by_cases hq : Q n
      · rw [fr_bT (Or.inr hq), fr_bF hp, fr_bT hq]; omega
      · rw [fr_bF (fun x => x.elim hp hq), fr_bF hp, fr_bF hq]; omega
theorem ct_no {P : Int → Prop} : ∀ n : Nat, (∀ i : Int, 0 ≤ i → i < n → ¬ P i) → sp_cnt P n = 0 := by
  intro n
  induction n with
  | zero => intro _; rfl
  | succ n ih => intro h; rw [ct_s, ih (fun i h0 h1 => h i h0 (by omega)), fr_bF (h n (by omega) (by omega))]; rfl
theorem ct_pos {P : Int → Prop} : ∀ n : Nat, 0 < sp_cnt P n → ∃ i : Int, 0 ≤ i ∧ i < n ∧ P i := by
  intro n
  induction n with
  | zero => intro h; exact absurd h (by unfold sp_cnt sp_sum; omega)
  | succ n ih =>
    intro h
    rw [ct_s] at h
    by_cases hp : P n
    · exact ⟨n, by omega, by omega, hp⟩
    · rw [fr_bF hp] at h
      obtain ⟨i, a, b, c⟩ := ih (by omega)
      exact ⟨i, a, by omega, c⟩
theorem ct_mem {P : Int → Prop} {n : Nat} {i : Int} (h0 : 0 ≤ i) (h1 : i < n) (h : P i) : 0 < sp_cnt P n := by
  by_cases q : 0 < sp_cnt P n
  · exact q
  · exfalso
    have hr := sp_cnt_rg P n
    have e : ∀ m : Nat, m ≤ n → (i < m → 0 < sp_cnt P m) := by
      intro m
      induction m with
      | zero => intro _ _; omega
      | succ m ih =>
        intro hm hi
        rw [ct_s]
        have hb := fr_bR (P m)
        rcases (by omega : i < m ∨ i = m) with r | r
        · have := ih (by omega) r; omega
        · subst r
          have := sp_cnt_rg P m
          rw [fr_bT h]; omega
    exact q (e n (Nat.le_refl _) h1)
theorem ct_6 (R : Int → Prop) {c : Int} (hc : 0 ≤ c ∧ c < 6) : ∀ n : Nat, sp_cnt (fun p => p % 6 = c ∧ R (p / 6)) (n * 6) = sp_cnt R n := by
  intro n
  induction n with
  | zero => rfl
  | succ n ih =>
    rw [show (n + 1) * 6 = n * 6 + 1 + 1 + 1 + 1 + 1 + 1 by omega, ct_s, ct_s, ct_s, ct_s, ct_s, ct_s, ih, ct_s]
    have f : ∀ (q : Int) (d : Int), q % 6 = d → q / 6 = n → fr_b (q % 6 = c ∧ R (q / 6)) = if d = c then fr_b (R n) else 0 := by
      intro q d e1 e2
      split
      · rename_i h
        rw [e1, e2]
        by_cases hr : R n
        · rw [fr_bT ⟨h, hr⟩, fr_bT hr]
        · rw [fr_bF (fun x => hr x.2), fr_bF hr]
      · rename_i h
        rw [e1, fr_bF (fun x => h x.1)]
    rw [f _ 0 (by omega) (by omega), f _ 1 (by omega) (by omega), f _ 2 (by omega) (by omega), f _ 3 (by omega) (by omega), f _ 4 (by omega) (by omega), f _ 5 (by omega) (by omega)]
    rcases (by omega : c = 0 ∨ c = 1 ∨ c = 2 ∨ c = 3 ∨ c = 4 ∨ c = 5) with h | h | h | h | h | h <;> subst h <;> simp <;> omega
/-- from the left: who is in trees behind t steps; whether all steps may be -/
def nt_u (o : Int → Int) : Nat → Int
  | 0 => 0
  | t + 1 => od_j (nt_u o t) (o t)
def nt_q (ok : Int → Int → Int → Prop) (o : Int → Int) : Nat → Prop
  | 0 => True
  | t + 1 => nt_q ok o t ∧ ok t (nt_u o t) (o t)
theorem nt_u_eq {o o' : Int → Int} : ∀ t : Nat, (∀ i : Int, 0 ≤ i → i < t → o i = o' i) → nt_u o t = nt_u o' t := by
  intro t
  induction t with
  | zero => intro _; rfl
  | succ t ih => intro h; simp only [nt_u]; rw [ih (fun i a b => h i a (by omega)), h t (by omega) (by omega)]
theorem nt_q_eq {ok : Int → Int → Int → Prop} {o o' : Int → Int} : ∀ t : Nat, (∀ i : Int, 0 ≤ i → i < t → o i = o' i) → (nt_q ok o t ↔ nt_q ok o' t) := by
  intro t
  induction t with
  | zero => intro _; exact Iff.rfl
  | succ t ih => intro h; simp only [nt_q]; rw [ih (fun i a b => h i a (by omega)), nt_u_eq t (fun i a b => h i a (by omega)), h t (by omega) (by omega)]
theorem nt_u_rg {o : Int → Int} (ho : ∀ t, 0 ≤ o t ∧ o t ≤ 5) : ∀ t : Nat, 0 ≤ nt_u o t ∧ nt_u o t ≤ 31 := by
  intro t
  induction t with
  | zero => simp [nt_u]
  | succ t ih => exact od_j_rg ih (ho _)
theorem nt_vl {w : Int → Int} {S sh : Int} {o : Int → Int} {N : Nat} (hN : w 0 = N) : ∀ j : Nat, j ≤ N → (od_vl w S sh o N 0 ↔ nt_q (fun t u c => sp_v1 w S sh t c u) o j ∧ od_vl w S sh o (N - j) (nt_u o j)) ∧ od_uf w o N 0 = od_uf w o (N - j) (nt_u o j) := by
  intro j
  induction j with
  | zero => intro _; exact ⟨⟨fun h => ⟨trivial, h⟩, fun h => h.2⟩, rfl⟩
  | succ j ih =>
    intro hj
    obtain ⟨h1, h2⟩ := ih (by omega)
    have e : N - j = (N - (j + 1)) + 1 := by omega
    rw [h1, h2, e]
    simp only [od_vl, od_uf, nt_q, nt_u]
    rw [show w 0 - 1 - ((N - (j + 1) : Nat) : Int) = (j : Int) by omega]
    exact ⟨⟨fun ⟨a, b, c⟩ => ⟨⟨a, b⟩, c⟩, fun ⟨⟨a, b⟩, c⟩ => ⟨a, b, c⟩⟩, rfl⟩
theorem nt_V {w : Int → Int} (hI : fr_I w) {S sh code : Int} : sp_V w S sh code ↔ nt_q (fun t u c => sp_v1 w S sh t c u) (sp_dg (w 0) code) (w 0).toNat := by
  have hN := hI.n
  have h := (nt_vl (w := w) (S := S) (sh := sh) (o := sp_dg (w 0) code) (N := (w 0).toNat) (by omega) (w 0).toNat (Nat.le_refl _)).1
  rw [Nat.sub_self] at h
  unfold sp_V
  rw [← od_vlr (sp_dg_rg (w 0) code) hI.many.2, h]
  exact ⟨fun x => x.1, fun x => ⟨x, trivial⟩⟩
theorem nt_cr {w : Int → Int} (hI : fr_I w) {code : Int} : sp_cr (sp_dg (w 0) code) (w 0) (w 0).toNat = nt_u (sp_dg (w 0) code) (w 0).toNat := by
  have hN := hI.n
  have h := (nt_vl (w := w) (S := 0) (sh := 0) (o := sp_dg (w 0) code) (N := (w 0).toNat) (by omega) (w 0).toNat (Nat.le_refl _)).2
  rw [Nat.sub_self] at h
  rw [← od_ucr (sp_dg_rg (w 0) code), h]
  rfl
theorem nt_dg (t : Nat) (ht : t < 6) (p : Int) : (∀ i : Int, 0 ≤ i → i < t → sp_dg ((t + 1 : Nat) : Int) p i = sp_dg (t : Int) (p / 6) i) ∧ sp_dg ((t + 1 : Nat) : Int) p t = p % 6 := by
  constructor
  · intro i i0 i1
    unfold sp_dg
    rw [show ((t + 1 : Nat) : Int) - 1 - i = ((((t : Int) - 1 - i).toNat + 1 : Nat) : Int) by omega, Int.toNat_natCast]
    generalize hk : ((t : Int) - 1 - i).toNat = k
    have hk6 : k < 6 := by omega
    rcases (by omega : k = 0 ∨ k = 1 ∨ k = 2 ∨ k = 3 ∨ k = 4 ∨ k = 5) with h | h | h | h | h | h <;> subst h <;> simp only [sp_p6] <;> omega
  · unfold sp_dg
    rw [show ((t + 1 : Nat) : Int) - 1 - t = 0 by omega]
    simp [sp_p6]
/-- rows of t steps that end with the set u -/
def nt_E (ok : Int → Int → Int → Prop) (t : Nat) (u p : Int) : Prop := nt_q ok (sp_dg t p) t ∧ nt_u (sp_dg t p) t = u
theorem nt_E_s {ok : Int → Int → Int → Prop} {t : Nat} (ht : t < 6) {v p : Int} : nt_E ok (t + 1) v p ↔ ∃ u, nt_E ok t u (p / 6) ∧ ok t u (p % 6) ∧ od_j u (p % 6) = v := by
  obtain ⟨h1, h2⟩ := nt_dg t ht p
  unfold nt_E
  simp only [nt_q, nt_u]
  rw [nt_q_eq t h1, nt_u_eq t h1, h2]
  constructor
  · rintro ⟨⟨a, b⟩, c⟩; exact ⟨_, ⟨a, rfl⟩, b, c⟩
  · rintro ⟨u, ⟨a, b⟩, c, d⟩; subst b; exact ⟨⟨a, c⟩, d⟩
noncomputable def nt_T (ok : Int → Int → Int → Prop) (t : Nat) (u : Int) : Int := sp_cnt (nt_E ok t u) (sp_p6 t).toNat
/-- those of the next step whose set before is below k, or is k and whose last is below c -/
def nt_D (ok : Int → Int → Int → Prop) (t : Nat) (v k c p : Int) : Prop := nt_E ok (t + 1) v p ∧ (nt_u (sp_dg t (p / 6)) t < k ∨ (nt_u (sp_dg t (p / 6)) t = k ∧ p % 6 < c))
noncomputable def nt_S (ok : Int → Int → Int → Prop) (t : Nat) (v k c : Int) : Int := sp_cnt (nt_D ok t v k c) (sp_p6 (t + 1)).toNat
theorem nt_S_c {ok : Int → Int → Int → Prop} {t : Nat} (ht : t < 6) {v k c : Int} (hc : 0 ≤ c ∧ c < 6) : nt_S ok t v k (c + 1) = nt_S ok t v k c + (@ite Int (ok t k c ∧ od_j k c = v) (Classical.propDecidable _) (nt_T ok t k) 0) := by
  have h1 : nt_S ok t v k (c + 1) = sp_cnt (fun p => nt_D ok t v k c p ∨ (p % 6 = c ∧ (nt_E ok t k (p / 6) ∧ ok t k c ∧ od_j k c = v))) (sp_p6 (t + 1)).toNat := by
    unfold nt_S
    refine ct_eq _ (fun p p0 p1 => ?_)
    unfold nt_D
    rw [nt_E_s ht]
    constructor
    · rintro ⟨⟨u, a, b, d⟩, e⟩
      by_cases q : nt_u (sp_dg t (p / 6)) t < k ∨ (nt_u (sp_dg t (p / 6)) t = k ∧ p % 6 < c)
      · exact Or.inl ⟨⟨u, a, b, d⟩, q⟩
      · have e1 : nt_u (sp_dg t (p / 6)) t = k := by omega
        have e2 : p % 6 = c := by omega
        have e3 : u = k := a.2.symm.trans e1
        subst e3
        rw [e2] at b d
        exact Or.inr ⟨e2, a, b, d⟩
    · rintro (⟨⟨u, a, b, d⟩, e⟩ | ⟨e2, a, b, d⟩)
      · exact ⟨⟨u, a, b, d⟩, by omega⟩
      · refine ⟨⟨k, a, by rw [e2]; exact b, by rw [e2]; exact d⟩, Or.inr ⟨a.2, by omega⟩⟩
  rw [h1, ct_or _ (fun p p0 p1 h => by
    obtain ⟨⟨_, e⟩, e2, a, _⟩ := h
    have := a.2
    omega)]
  have h2 : (sp_p6 (t + 1)).toNat = (sp_p6 t).toNat * 6 := by
    have := sp_p6_rg t (by omega)
    simp only [sp_p6]; omega
  have h3 := ct_6 (fun q => nt_E ok t k q ∧ ok t k c ∧ od_j k c = v) hc (sp_p6 t).toNat
  rw [h2, h3]
  unfold nt_S
  rw [h2]
  congr 1
  by_cases q : ok t k c ∧ od_j k c = v
  · rw [if_pos q]; unfold nt_T
    exact ct_eq _ (fun i _ _ => ⟨fun x => x.1, fun x => ⟨x, q⟩⟩)
  · rw [if_neg q]
    exact ct_no _ (fun i _ _ x => q x.2)
theorem nt_S_6 {ok : Int → Int → Int → Prop} {t : Nat} {v k : Int} : nt_S ok t v k 6 = nt_S ok t v (k + 1) 0 := by
  unfold nt_S
  refine ct_eq _ (fun p p0 p1 => ?_)
  unfold nt_D
  constructor
  · rintro ⟨a, b⟩; exact ⟨a, by omega⟩
  · rintro ⟨a, b⟩; exact ⟨a, by omega⟩
theorem nt_S_0 {ok : Int → Int → Int → Prop} {t : Nat} {v : Int} : nt_S ok t v 0 0 = 0 := by
  unfold nt_S
  refine ct_no _ (fun p p0 p1 h => ?_)
  have := nt_u_rg (o := sp_dg t (p / 6)) (sp_dg_rg _ _) t
  unfold nt_D at h
  omega
theorem nt_S_all {ok : Int → Int → Int → Prop} {t : Nat} {v k : Int} (ht : t < 6) (h : ∀ u p, nt_E ok t u p → u < k) : nt_S ok t v k 0 = nt_T ok (t + 1) v := by
  unfold nt_S nt_T
  refine ct_eq _ (fun p p0 p1 => ?_)
  unfold nt_D
  constructor
  · exact fun x => x.1
  · intro x
    refine ⟨x, Or.inl ?_⟩
    obtain ⟨u, a, _⟩ := (nt_E_s ht).mp x
    have h1 := h u _ a
    rw [a.2]; exact h1
theorem nt_T_0 {ok : Int → Int → Int → Prop} (u : Int) : nt_T ok 0 u = if u = 0 then 1 else 0 := by
  unfold nt_T
  rw [show (sp_p6 0).toNat = 0 + 1 from rfl, ct_s]
  split
  · rename_i h; rw [fr_bT ⟨trivial, h.symm⟩]; rfl
  · rename_i h; rw [fr_bF (fun x => h x.2.symm)]; rfl
