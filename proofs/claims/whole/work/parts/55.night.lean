/-! nights: how many, and who is sure -/
theorem nt_u_lt {w : Int → Int} (hI : fr_I w) {ok : Int → Int → Int → Prop} (hok : ∀ i u c, ok i u c → c = 5 ∨ (0 ≤ c ∧ c < w 43)) {o : Int → Int} : ∀ t : Nat, nt_q ok o t → 0 ≤ nt_u o t ∧ nt_u o t ≤ fr_shl 1 (w 43) - 1 := by
  have hM := hI.many
  have hA := fr_shl1_rg (m := w 43) (by omega)
  intro t
  induction t with
  | zero => intro _; simp only [nt_u]; omega
  | succ t ih =>
    intro h
    simp only [nt_q] at h
    simp only [nt_u]
    exact od_j_lt hI (ih h.1) (hok _ _ _ h.2)
theorem nt_qand {A B : Int → Int → Int → Prop} {D : Int → Int → Prop} {o : Int → Int} (h : ∀ i u c, B i u c ↔ A i u c ∧ D i c) : ∀ t : Nat, nt_q B o t ↔ nt_q A o t ∧ ∀ i : Int, 0 ≤ i → i < t → D i (o i) := by
  intro t
  induction t with
  | zero => exact ⟨fun _ => ⟨trivial, fun i a b => by omega⟩, fun _ => trivial⟩
  | succ t ih =>
    simp only [nt_q]
    rw [ih, h]
    constructor
    · rintro ⟨⟨a, b⟩, c, d⟩
      refine ⟨⟨a, c⟩, fun i i0 i1 => ?_⟩
      rcases (by omega : i < t ∨ i = t) with q | q
      · exact b i i0 q
      · subst q; exact d
    · rintro ⟨⟨a, b⟩, c⟩
      exact ⟨⟨a, fun i i0 i1 => c i i0 (by omega)⟩, b, c t (by omega) (by omega)⟩
def nt_ok (w it : Int → Int) (ev t u c : Int) : Prop := sp_v1 w ev 0 t c u ∧ (it t < 0 ∨ (it t < 10 ∧ 0 < sp_nxt w t (it t) c 0))
theorem nt_Nk {w it : Int → Int} (hI : fr_I w) {ev code : Int} : sp_Nk w it ev code ↔ nt_q (nt_ok w it ev) (sp_dg (w 0) code) (w 0).toNat := by
  have hN := hI.n
  unfold sp_Nk
  rw [nt_V hI, nt_qand (A := fun t u c => sp_v1 w ev 0 t c u) (B := nt_ok w it ev) (D := fun t c => it t < 0 ∨ (it t < 10 ∧ 0 < sp_nxt w t (it t) c 0)) (fun i u c => Iff.rfl)]
  constructor
  · rintro ⟨a, b⟩; exact ⟨a, fun i i0 i1 => b i i0 (by omega)⟩
  · rintro ⟨a, b⟩; exact ⟨a, fun i i0 i1 => b i i0 (by omega)⟩
theorem nt_ok_f {w it : Int → Int} {ev : Int} : ∀ i u c, nt_ok w it ev i u c → c = 5 ∨ (0 ≤ c ∧ c < w 43) := by
  intro i u c h
  rcases h.1 with q | q
  · exact Or.inl q
  · exact Or.inr q.1
theorem nt_sum {ok : Int → Int → Int → Prop} {t : Nat} : ∀ k : Nat, sp_sum k (fun u => nt_T ok t u) = sp_cnt (fun p => nt_q ok (sp_dg t p) t ∧ nt_u (sp_dg t p) t < k) (sp_p6 t).toNat := by
  intro k
  induction k with
  | zero =>
    symm
    refine ct_no _ (fun p p0 p1 h => ?_)
    have := nt_u_rg (o := sp_dg t p) (sp_dg_rg _ _) t
    omega
  | succ k ih =>
    simp only [sp_sum]
    rw [ih]
    unfold nt_T
    rw [← ct_or _ (fun p p0 p1 h => by
      obtain ⟨a, b⟩ := h
      have := b.2
      omega)]
    refine ct_eq _ (fun p p0 p1 => ?_)
    unfold nt_E
    constructor
    · rintro (⟨a, b⟩ | ⟨a, b⟩)
      · exact ⟨a, by omega⟩
      · exact ⟨a, by omega⟩
    · rintro ⟨a, b⟩
      rcases (by omega : nt_u (sp_dg t p) t < k ∨ nt_u (sp_dg t p) t = k) with q | q
      · exact Or.inl ⟨a, q⟩
      · exact Or.inr ⟨a, q⟩
theorem nt_tot {w it : Int → Int} (hI : fr_I w) : sp_sum (fr_shl 1 (w 43)).toNat (fun u => nt_T (nt_ok w it (fr_shl 1 (w 43) - 1)) (w 0).toNat u) = sp_cnt (sp_Nk w it (fr_shl 1 (w 43) - 1)) (sp_p6 (w 0).toNat).toNat := by
  have hN := hI.n
  rw [nt_sum]
  refine ct_eq _ (fun p p0 p1 => ?_)
  rw [nt_Nk hI, Int.toNat_of_nonneg hN.1]
  constructor
  · exact fun x => x.1
  · intro x
    have := nt_u_lt hI nt_ok_f _ x
    exact ⟨x, by omega⟩
noncomputable def nt_sr (A : Int) (T : Int → Int) : Nat → Int
  | 0 => A
  | k + 1 => fr_and (nt_sr A T k) (if 0 < T k then (k : Int) else A)
theorem nt_sr_in {A : Int} {T : Int → Int} {b : Int} (hb : 0 ≤ b ∧ b < 32) : ∀ k : Nat, sp_in (nt_sr A T k) b ↔ sp_in A b ∧ ∀ u : Int, 0 ≤ u → u < k → 0 < T u → sp_in u b := by
  intro k
  induction k with
  | zero => exact ⟨fun h => ⟨h, fun u a b => by omega⟩, fun h => h.1⟩
  | succ k ih =>
    simp only [nt_sr]
    rw [bx_and _ _ hb, ih]
    split
    · rename_i h
      constructor
      · rintro ⟨⟨a, c⟩, d⟩
        refine ⟨a, fun u u0 u1 hu => ?_⟩
        rcases (by omega : u < k ∨ u = k) with q | q
        · exact c u u0 q hu
        · subst q; exact d
      · rintro ⟨a, c⟩
        exact ⟨⟨a, fun u u0 u1 hu => c u u0 (by omega) hu⟩, c k (by omega) (by omega) h⟩
    · rename_i h
      constructor
      · rintro ⟨⟨a, c⟩, d⟩
        refine ⟨a, fun u u0 u1 hu => ?_⟩
        rcases (by omega : u < k ∨ u = k) with q | q
        · exact c u u0 q hu
        · subst q; exact absurd hu h
      · rintro ⟨a, c⟩
        exact ⟨⟨a, fun u u0 u1 hu => c u u0 (by omega) hu⟩, a⟩
theorem bx_m1 {k : Int} (h : 0 ≤ k ∧ k < 32) : sp_in (-1) k := by
  have e : ∀ k : Fin 32, sp_in (-1) (k.val : Nat) := by unfold sp_in; decide +kernel
  have := e ⟨k.toNat, by omega⟩
  simp only [Int.toNat_of_nonneg h.1] at this
  exact this
theorem sp_sr_in {P : Int → Prop} {cl : Int → Int} {ev b : Int} (hb : 0 ≤ b ∧ b < 32) : ∀ j : Nat, sp_in (sp_sr P cl ev j) b ↔ sp_in ev b ∧ ∀ c : Int, 0 ≤ c → c < j → P c → sp_in (cl c) b := by
  intro j
  induction j with
  | zero => exact ⟨fun h => ⟨h, fun u a b => by omega⟩, fun h => h.1⟩
  | succ j ih =>
    by_cases hp : P j
    · rw [sp_sr_T hp, bx_and _ _ hb, ih]
      constructor
      · rintro ⟨⟨a, c⟩, d⟩
        refine ⟨a, fun u u0 u1 hu => ?_⟩
        rcases (by omega : u < j ∨ u = j) with q | q
        · exact c u u0 q hu
        · subst q; exact d
      · rintro ⟨a, c⟩
        exact ⟨⟨a, fun u u0 u1 hu => c u u0 (by omega) hu⟩, c j (by omega) (by omega) hp⟩
    · rw [sp_sr_F hp, bx_and _ _ hb, ih]
      constructor
      · rintro ⟨⟨a, c⟩, d⟩
        refine ⟨a, fun u u0 u1 hu => ?_⟩
        rcases (by omega : u < j ∨ u = j) with q | q
        · exact c u u0 q hu
        · subst q; exact absurd hu hp
      · rintro ⟨a, c⟩
        exact ⟨⟨a, fun u u0 u1 hu => c u u0 (by omega) hu⟩, bx_m1 hb⟩
theorem nt_sr_rg {A : Int} {T : Int → Int} (hA : -2147483648 ≤ A ∧ A ≤ 2147483647) : ∀ k : Nat, -2147483648 ≤ nt_sr A T k ∧ nt_sr A T k ≤ 2147483647 := by
  intro k
  cases k with
  | zero => exact hA
  | succ k => exact fr_and_rg _ _
theorem sp_sr_rg {P : Int → Prop} {cl : Int → Int} {A : Int} (hA : -2147483648 ≤ A ∧ A ≤ 2147483647) : ∀ k : Nat, -2147483648 ≤ sp_sr P cl A k ∧ sp_sr P cl A k ≤ 2147483647 := by
  intro k
  cases k with
  | zero => exact hA
  | succ k => exact fr_and_rg _ _
theorem nt_sure {w it : Int → Int} (hI : fr_I w) : nt_sr (fr_shl 1 (w 43) - 1) (fun u => nt_T (nt_ok w it (fr_shl 1 (w 43) - 1)) (w 0).toNat u) (fr_shl 1 (w 43)).toNat = sp_sr (sp_Nk w it (fr_shl 1 (w 43) - 1)) (fun c => sp_cr (sp_dg (w 0) c) (w 0) (w 0).toNat) (fr_shl 1 (w 43) - 1) (sp_p6 (w 0).toNat).toNat := by
  have hN := hI.n
  have hM := hI.many
  have hA := fr_shl1_rg (m := w 43) (by omega)
  refine bx_ext (nt_sr_rg (by omega) _) (sp_sr_rg (by omega) _) (fun b b0 b1 => ?_)
  rw [nt_sr_in ⟨b0, b1⟩, sp_sr_in ⟨b0, b1⟩]
  constructor
  · rintro ⟨a, h⟩
    refine ⟨a, fun c c0 c1 hc => ?_⟩
    rw [nt_cr hI]
    rw [nt_Nk hI] at hc
    have hu := nt_u_lt hI nt_ok_f _ hc
    refine h _ hu.1 (by omega) ?_
    unfold nt_T
    refine ct_mem c0 c1 ?_
    unfold nt_E
    rw [Int.toNat_of_nonneg hN.1]
    exact ⟨hc, rfl⟩
  · rintro ⟨a, h⟩
    refine ⟨a, fun u u0 u1 hu => ?_⟩
    obtain ⟨p, p0, p1, hp⟩ := ct_pos _ hu
    unfold nt_E at hp
    rw [Int.toNat_of_nonneg hN.1] at hp
    have := h p p0 p1 ((nt_Nk hI).mpr hp.1)
    rw [nt_cr hI, hp.2] at this
    exact this
theorem nt_T_rg {ok : Int → Int → Int → Prop} {t : Nat} (ht : t ≤ 6) (u : Int) : 0 ≤ nt_T ok t u ∧ nt_T ok t u ≤ 46656 := by
  have h := sp_cnt_rg (nt_E ok t u) (sp_p6 t).toNat
  have h2 := sp_p6_rg t ht
  unfold nt_T
  omega
theorem nt_S_rg {ok : Int → Int → Int → Prop} {t : Nat} (ht : t < 6) (v k c : Int) : 0 ≤ nt_S ok t v k c ∧ nt_S ok t v k c ≤ 46656 := by
  have h := sp_cnt_rg (nt_D ok t v k c) (sp_p6 (t + 1)).toNat
  have h2 := sp_p6_rg (t + 1) (by omega)
  unfold nt_S
  omega
