/-! wants: what lacks, codes of one beginning -/
def wa_w (it : Int → Int) (f : Int) : Int := if 0 < sp_nr (it f) 1000 then sp_nr (it f) 1000 else 0
def wa_k (w : Int → Int) (n : Nat) (f : Int) : Int := sp_sum n (fun t => if sp_br w (w (13 + t)) = f then sp_sb (w (1 + t)) (w (25 + t)) else 0)
def wa_g (w o : Int → Int) (n : Nat) (f : Int) : Int := sp_sum n (fun t => if sp_br w (o t) = f then sp_sl (w (1 + t)) 0 else 0)
def wa_L (w it o : Int → Int) (t : Nat) (f : Int) : Int := wa_w it f - wa_k w (w 0).toNat f - wa_g w o t f
theorem wa_nx (w : Int → Int) (code f : Int) : sp_nx w code f = wa_k w (w 0).toNat f + wa_g w (sp_dg (w 0) code) (w 0).toNat f := by
  unfold sp_nx wa_k wa_g
  rw [← sp_sum_add]
  refine sp_sum_eq _ (fun t _ _ => ?_)
  unfold sp_nxt sp_bn
  omega
theorem wa_w_c {it : Int → Int} {f x : Int} (hx : 0 ≤ x ∧ x ≤ 36) : (sp_wd it f ≤ x ↔ wa_w it f ≤ x) ∧ (x = sp_wd it f ↔ wa_w it f = x) := by
  unfold sp_wd wa_w sp_nr
  constructor <;> ((repeat' split) <;> omega)
theorem wa_Hk {w it : Int → Int} (hI : fr_I w) {ev code : Int} : sp_Hk w it ev code ↔ sp_V w ev 0 code ∧ ∀ f, 0 ≤ f → f < 10 → wa_L w it (sp_dg (w 0) code) (w 0).toNat f ≤ 0 := by
  unfold sp_Hk wa_L
  constructor
  · rintro ⟨a, b⟩
    refine ⟨a, fun f f0 f1 => ?_⟩
    have h := (wa_w_c (it := it) (f := f) (sp_nx_rg hI code f)).1.mp (b f f0 f1)
    rw [wa_nx] at h
    omega
  · rintro ⟨a, b⟩
    refine ⟨a, fun f f0 f1 => (wa_w_c (sp_nx_rg hI code f)).1.mpr ?_⟩
    have := b f f0 f1
    rw [wa_nx]
    omega
theorem wa_Pk {w it : Int → Int} (hI : fr_I w) {ev code : Int} : sp_Pk w it ev code ↔ sp_V w ev 0 code ∧ ∀ f, 0 ≤ f → f < 10 → wa_L w it (sp_dg (w 0) code) (w 0).toNat f = 0 := by
  unfold sp_Pk wa_L
  constructor
  · rintro ⟨a, b⟩
    refine ⟨a, fun f f0 f1 => ?_⟩
    have h := (wa_w_c (it := it) (f := f) (sp_nx_rg hI code f)).2.mp (b f f0 f1)
    rw [wa_nx] at h
    omega
  · rintro ⟨a, b⟩
    refine ⟨a, fun f f0 f1 => (wa_w_c (sp_nx_rg hI code f)).2.mpr ?_⟩
    have := b f f0 f1
    rw [wa_nx]
    omega
theorem wa_g_s (w o : Int → Int) (t : Nat) (f : Int) : wa_g w o (t + 1) f = wa_g w o t f + (if sp_br w (o t) = f then sp_sl (w (1 + (t : Int))) 0 else 0) := rfl
theorem wa_g_eq {w o o' : Int → Int} {t : Nat} (h : ∀ i : Int, 0 ≤ i → i < t → o i = o' i) (f : Int) : wa_g w o t f = wa_g w o' t f := by
  unfold wa_g
  exact sp_sum_eq _ (fun i i0 i1 => by rw [h i i0 i1])
theorem wa_L_eq {w it o o' : Int → Int} {t : Nat} (h : ∀ i : Int, 0 ≤ i → i < t → o i = o' i) (f : Int) : wa_L w it o t f = wa_L w it o' t f := by
  unfold wa_L; rw [wa_g_eq h]
theorem wa_L_s (w it o : Int → Int) (t : Nat) (f : Int) : wa_L w it o (t + 1) f = wa_L w it o t f - (if sp_br w (o t) = f then sp_sl (w (1 + (t : Int))) 0 else 0) := by
  unfold wa_L; rw [wa_g_s]; omega
theorem wa_L_le {w it o : Int → Int} {t : Nat} {f : Int} : ∀ k : Nat, wa_L w it o (t + k) f ≤ wa_L w it o t f := by
  intro k
  induction k with
  | zero => exact Int.le_refl _
  | succ k ih =>
    rw [show t + (k + 1) = (t + k) + 1 by omega, wa_L_s]
    have := sp_sl_rg (w (1 + ((t + k : Nat) : Int))) 0
    split <;> omega
def wa_S (L : Int → Int) : Int := sp_sum 10 (fun f => if 0 < L f then L f else 0)
theorem sp_sum_one {F G : Int → Int} {a : Int} : ∀ n : Nat, 0 ≤ a → a < n → (∀ f, f ≠ a → F f = G f) → sp_sum n F = sp_sum n G - G a + F a := by
  intro n
  induction n with
  | zero => intro _ h; omega
  | succ n ih =>
    intro h0 h1 h
    simp only [sp_sum]
    rcases (by omega : a < n ∨ a = n) with q | q
    · rw [ih h0 q h, h n (by omega)]; omega
    · subst q
      rw [sp_sum_eq n (fun i i0 i1 => h i (by omega))]; omega
theorem wa_S_s {L M : Int → Int} {a x : Int} (ha : 0 ≤ a ∧ a < 10) (h : ∀ f, M f = L f - (if a = f then x else 0)) : wa_S M = wa_S L - (if 0 < L a then L a else 0) + (if 0 < L a - x then L a - x else 0) := by
  unfold wa_S
  rw [sp_sum_one (F := fun f => if 0 < M f then M f else 0) (G := fun f => if 0 < L f then L f else 0) (a := a) 10 ha.1 (by omega) (fun f hf => by have e : M f = L f := (by have := h f; rw [if_neg (show ¬ a = f from fun e => hf e.symm)] at this; omega); rw [e])]
  rw [h a, if_pos rfl]
theorem wa_S_ge {L M : Int → Int} {a x : Int} (ha : 0 ≤ a ∧ a < 10) (hx : 0 ≤ x) (h : ∀ f, M f = L f - (if a = f then x else 0)) : wa_S L - x ≤ wa_S M := by
  rw [wa_S_s ha h]
  (repeat' split) <;> omega
theorem wa_S_0 {L : Int → Int} : (wa_S L ≤ 0 ↔ ∀ f, 0 ≤ f → f < 10 → L f ≤ 0) := by
  have : ∀ n : Nat, (0 ≤ sp_sum n (fun f => if 0 < L f then L f else 0)) ∧ (sp_sum n (fun f => if 0 < L f then L f else 0) ≤ 0 ↔ ∀ f : Int, 0 ≤ f → f < n → L f ≤ 0) := by
    intro n
    induction n with
    | zero => exact ⟨by simp [sp_sum], fun _ f a b => by omega, fun _ => by simp [sp_sum]⟩
    | succ n ih =>
      simp only [sp_sum]
      refine ⟨by have := ih.1; split <;> omega, fun h f f0 f1 => ?_, fun h => ?_⟩
      · have h1 := ih.1
        rcases (by omega : f < n ∨ f = n) with q | q
        · refine ih.2.mp ?_ f f0 q
          split at h <;> omega
        · subst q
          split at h <;> omega
      · have h1 := ih.2.mpr (fun f a b => h f a (by omega))
        have h2 := h n (by omega) (by omega)
        split <;> omega
  exact (this 10).2
theorem wa_S_run {w it o : Int → Int} (hI : fr_I w) : ∀ (k t : Nat), wa_S (wa_L w it o t) - sp_sum k (fun i => sp_sl (w (1 + ((t : Int) + i))) 0) ≤ wa_S (wa_L w it o (t + k)) := by
  intro k
  induction k with
  | zero => intro t; simp [sp_sum]
  | succ k ih =>
    intro t
    simp only [sp_sum]
    have h := ih t
    have hb := sp_br_rg hI (o ((t + k : Nat) : Int))
    have h2 := wa_S_ge (L := wa_L w it o (t + k)) (M := wa_L w it o (t + k + 1)) (a := sp_br w (o ((t + k : Nat) : Int))) (x := sp_sl (w (1 + ((t + k : Nat) : Int))) 0) (by omega) (sp_sl_rg _ _).1 (fun f => wa_L_s w it o (t + k) f)
    rw [show t + (k + 1) = t + k + 1 by omega]
    rw [show ((t + k : Nat) : Int) = (t : Int) + k by omega] at h2
    omega
theorem wa_ss {w : Int → Int} : ∀ k : Nat, (k : Int) ≤ w 0 → sp_sum k (fun i => sp_sl (w (1 + (w 0 - k + i))) 0) = pl_ss w k := by
  intro k
  induction k with
  | zero => intro _; rfl
  | succ k ih =>
    intro hk
    have h := ih (by omega)
    simp only [pl_ss]
    rw [← h]
    have : ∀ (n : Nat) (F : Int → Int), sp_sum (n + 1) F = F 0 + sp_sum n (fun i => F (i + 1)) := by
      intro n F
      induction n with
      | zero => simp [sp_sum]
      | succ n ih2 =>
        rw [show sp_sum (n + 1 + 1) F = sp_sum (n + 1) F + F ((n + 1 : Nat) : Int) from rfl, ih2]
        simp only [sp_sum]
        rw [show ((n + 1 : Nat) : Int) = (n : Int) + 1 by omega]
        omega
    rw [this]
    have e1 : w 0 - ((k + 1 : Nat) : Int) + 0 = w 0 - 1 - (k : Int) := by omega
    have e2 : sp_sum k (fun i => sp_sl (w (1 + (w 0 - ((k + 1 : Nat) : Int) + (i + 1)))) 0) = sp_sum k (fun i => sp_sl (w (1 + (w 0 - (k : Int) + i))) 0) := sp_sum_eq _ (fun i _ _ => by rw [show w 0 - ((k + 1 : Nat) : Int) + (i + 1) = w 0 - (k : Int) + i by omega])
    rw [e1, e2]
    omega
theorem wa_prune {w it o : Int → Int} (hI : fr_I w) {t i : Nat} (hti : ((t + i : Nat) : Int) = w 0) (h : pl_ss w i < wa_S (wa_L w it o t)) : ¬ ∀ f, 0 ≤ f → f < 10 → wa_L w it o (w 0).toNat f ≤ 0 := by
  intro hh
  have h1 := wa_S_0.mpr hh
  have h2 := wa_S_run (it := it) (o := o) hI i t
  have h3 := wa_ss (w := w) i (by omega)
  rw [show w 0 - (i : Int) = (t : Int) by omega] at h3
  rw [show (w 0).toNat = t + i by omega] at h1
  omega
/-- codes of one beginning p of t steps -/
theorem wa_dg {N : Nat} (hN : N ≤ 6) (c : Int) : ∀ i : Nat, i ≤ N → ∀ s : Int, 0 ≤ s → s < ((N - i : Nat) : Int) → sp_dg (N : Int) c s = sp_dg ((N - i : Nat) : Int) (c / sp_p6 i) s := by
  intro i
  induction i with
  | zero => intro _ s _ _; simp [sp_p6]
  | succ i ih =>
    intro hi s s0 s1
    rw [ih (by omega) s s0 (by omega)]
    have h := (nt_dg (N - (i + 1)) (by omega) (c / sp_p6 i)).1 s s0 s1
    rw [show N - (i + 1) + 1 = N - i by omega] at h
    rw [h, sp_p6_div c i (by omega)]
theorem wa_blk {i : Nat} (hi : i ≤ 6) {p c : Int} (h : p * sp_p6 i ≤ c ∧ c < (p + 1) * sp_p6 i) : c / sp_p6 i = p := by
  have h6 := sp_p6_rg i hi
  rw [Int.add_mul] at h
  have h1 : p ≤ c / sp_p6 i := (Int.le_ediv_iff_mul_le (by omega)).mpr h.1
  have h2 : c / sp_p6 i < p + 1 := (Int.ediv_lt_iff_lt_mul (by omega)).mpr (by rw [Int.add_mul]; exact h.2)
  omega
theorem nt_q_le {ok : Int → Int → Int → Prop} {o : Int → Int} {t : Nat} : ∀ k : Nat, nt_q ok o (t + k) → nt_q ok o t := by
  intro k
  induction k with
  | zero => exact id
  | succ k ih => intro h; exact ih h.1
theorem wa_wg_le {w : Int → Int} (hI : fr_I w) {o : Int → Int} (ho : ∀ t, 0 ≤ o t ∧ o t ≤ 5) {t : Nat} : ∀ k : Nat, sp_wg w (nt_u o t) ≤ sp_wg w (nt_u o (t + k)) := by
  intro k
  induction k with
  | zero => exact Int.le_refl _
  | succ k ih =>
    have h := od_wgj hI (u := nt_u o (t + k)) (ho ((t + k : Nat) : Int))
    have h2 := od_nw_rg hI (u := nt_u o (t + k)) (ho ((t + k : Nat) : Int))
    have e : nt_u o (t + (k + 1)) = od_j (nt_u o (t + k)) (o ((t + k : Nat) : Int)) := rfl
    rw [e, h]; omega
theorem wa_W {w : Int → Int} (hI : fr_I w) (code : Int) : sp_W w code = sp_wg w (nt_u (sp_dg (w 0) code) (w 0).toNat) := by
  unfold sp_W; rw [nt_cr hI]
