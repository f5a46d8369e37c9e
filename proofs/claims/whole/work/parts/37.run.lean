/-! the game: the pile's run -/
theorem gm_uc {μ : fr_Me} {c d k z : Int} (h : c ≠ d) : fr_up μ d k z c = μ c := by
  funext i
  unfold fr_up
  rw [if_neg (fun e => h e.1)]
theorem gm_uk {μ : fr_Me} {d k z : Int} : fr_up μ d k z d k = z := by
  unfold fr_up
  rw [if_pos ⟨rfl, rfl⟩]
theorem gm_un {μ : fr_Me} {d k z i : Int} (h : i ≠ k) : fr_up μ d k z d i = μ d i := by
  unfold fr_up
  rw [if_neg (fun e => h e.2)]
theorem gm_sle {F G : Int → Int} : ∀ n : Nat, (∀ i : Int, 0 ≤ i → i < n → G i ≤ F i) → sp_sum n G ≤ sp_sum n F := by
  intro n
  induction n with
  | zero => intro _; exact Int.le_refl _
  | succ n ih =>
    intro h
    have h1 := ih (fun i i0 i1 => h i i0 (by omega))
    have h2 := h n (by omega) (by omega)
    simp only [sp_sum]
    omega
theorem gm_slt {F G : Int → Int} {t : Int} : ∀ n : Nat, 0 ≤ t → t < n → (∀ i : Int, 0 ≤ i → i < n → G i ≤ F i) → G t ≤ F t - 1 → sp_sum n G ≤ sp_sum n F - 1 := by
  intro n
  induction n with
  | zero => intro h0 h1; omega
  | succ n ih =>
    intro h0 h1 h2 h3
    have hn := h2 n (by omega) (by omega)
    simp only [sp_sum]
    rcases (by omega : t < n ∨ t = n) with e | e
    · have := ih h0 e (fun i i0 i1 => h2 i i0 (by omega)) h3
      omega
    · subst e
      have := gm_sle (F := F) (G := G) n (fun i i0 i1 => h2 i i0 (by omega))
      omega
/-- how many states aren't known -/
noncomputable def gm_ct (μ : fr_Me) : Int := sp_sum 4096 (fun s => fr_b (μ 73 s = 0))
theorem gm_ct0 (μ : fr_Me) : 0 ≤ gm_ct μ := by
  have h := sp_sum_rg (F := fun s => fr_b (μ 73 s = 0)) (a := 0) (b := 1) 4096 (fun i _ _ => fr_bR _)
  unfold gm_ct
  omega
theorem gm_ctlt {μ ν : fr_Me} {z : Int} (hz : 0 ≤ z ∧ z < 4096) (h0 : μ 73 z = 0) (h1 : ν 73 z = 1) (hm : ∀ s, 0 ≤ s → s < 4096 → ν 73 s = 0 → μ 73 s = 0) : gm_ct ν < gm_ct μ := by
  have h := gm_slt (F := fun s => fr_b (μ 73 s = 0)) (G := fun s => fr_b (ν 73 s = 0)) (t := z) 4096 hz.1 (by omega) (fun i i0 i1 => by
    by_cases hc : ν 73 i = 0
    · have a1 := fr_bT hc
      have a2 := fr_bT (hm i i0 (by omega) hc)
      simp only [a1, a2]
      exact Int.le_refl _
    · have a1 := fr_bF hc
      have a2 := fr_bR (μ 73 i = 0)
      simp only [a1]
      exact a2.1) (by
    have a1 := fr_bT h0
    have a2 : fr_b (ν 73 z = 0) = 0 := fr_bF (by omega)
    simp only [a1, a2]
    decide)
  unfold gm_ct
  omega
def gm_ok (μ0 : fr_Me) (set : Int) (μ : fr_Me) : Prop := (∀ c, c ≠ 72 → c ≠ 73 → c ≠ 74 → μ c = μ0 c) ∧ ∀ s, 0 ≤ s → s < 4096 → (μ 73 s = 0 ∨ μ 73 s = 1) ∧ (μ 73 s = 1 → μ 72 s = sp_G (μ0 67) set s)
theorem gm_ok1 {μ0 μ : fr_Me} {set st : Int} (h : gm_ok μ0 set μ) : gm_ok μ0 set (fr_up (fr_up μ 72 st (sp_G (μ0 67) set st)) 73 st 1) := by
  refine ⟨fun c c1 c2 c3 => ?_, fun s s0 s1 => ?_⟩
  · rw [gm_uc c2, gm_uc c1]
    exact h.1 c c1 c2 c3
  · rw [gm_uc (c := 72) (d := 73) (by decide)]
    by_cases e : s = st
    · subst e
      rw [gm_uk, gm_uk]
      exact ⟨Or.inr rfl, fun _ => rfl⟩
    · rw [gm_un e, gm_un e, gm_uc (c := 73) (d := 72) (by decide)]
      exact h.2 s s0 s1
theorem gm_ok2 {μ0 μ : fr_Me} {set p z : Int} (h : gm_ok μ0 set μ) : gm_ok μ0 set (fr_up μ 74 p z) := by
  refine ⟨fun c c1 c2 c3 => ?_, fun s s0 s1 => ?_⟩
  · rw [gm_uc c3]
    exact h.1 c c1 c2 c3
  · rw [gm_uc (c := 72) (d := 74) (by decide), gm_uc (c := 73) (d := 74) (by decide)]
    exact h.2 s s0 s1
def gm_A (l : Launch) (κ : fr_Ka) (Q : Option Value → fr_Me → Prop) (set p : Int) (μ : fr_Me) : Prop := fr_A l κ fmX11_gameOf 6 Q 35 [some (fr_r κ 66), some (fr_i set), some (fr_i p), none] [] μ
theorem gm_tn {a : Int} (h : 0 ≤ a) : a < ((a.toNat + 1 : Nat) : Int) := by omega
theorem gm_tr {a b : Int} {u : Nat} (h : a < b) (h2 : b < ((u + 1 : Nat) : Int)) : a < u := by omega
theorem gm_run {l : Launch} {κ : fr_Ka} {Q : Option Value → fr_Me → Prop} {μ0 : fr_Me} (hI : fr_I (μ0 67)) {set : Int} (hW : ∀ t c, 0 ≤ t → t < μ0 67 0 → 0 ≤ c → c < 6 → μ0 71 (6 * t + c) = sp_wt (μ0 67) t c) : ∀ (r u : Nat) (p st : Int) (μ : fr_Me), gm_ok μ0 set μ → 0 ≤ p → p + r ≤ 15 → (0 ≤ st ∧ st < 4096) → μ 74 p = st → sp_rk (μ0 67) set st ≤ r → gm_ct μ < u → (∀ ν, gm_ok μ0 set ν → (∀ i, i < p → ν 74 i = μ 74 i) → (∀ s, 0 ≤ s → s < 4096 → μ 73 s = 1 → ν 73 s = 1) → ν 73 st = 1 → gm_A l κ Q set (p + -1) ν) → gm_A l κ Q set p μ := by
  intro r
  induction r with
  | zero =>
    intro u p st μ ok hp hpr hst e hr
    have := sp_rk_rg (μ0 67) set st
    omega
  | succ r ihr =>
    intro u
    induction u with
    | zero =>
      intro p st μ ok hp hpr hst e hr hu
      have := gm_ct0 μ
      omega
    | succ u ihu =>
      intro p st μ ok hp hpr hst e hr hu k
      have e67 : μ 67 = μ0 67 := ok.1 67 (by decide) (by decide) (by decide)
      have e71 : μ 71 = μ0 71 := ok.1 71 (by decide) (by decide) (by decide)
      refine gm_step (by rw [e67]; exact hI) ⟨hp, by omega⟩ hst e (by rw [e67, e71]; exact hW) (by rw [e67]; exact ok.2) ?_ ?_
      · rw [e67]
        refine k _ (gm_ok1 ok) (fun i _ => ?_) (fun s s0 s1 hs => ?_) gm_uk
        · rw [gm_uc (c := 74) (d := 73) (by decide), gm_uc (c := 74) (d := 72) (by decide)]
        · by_cases es : s = st
          · subst es
            exact gm_uk
          · rw [gm_un es, gm_uc (c := 73) (d := 72) (by decide)]
            exact hs
      · intro z z0 z1 hz0 hzr
        rw [e67] at hzr
        refine ihr ((gm_ct (fr_up μ 74 (p + 1) z)).toNat + 1) (p + 1) z _ (gm_ok2 ok) (by omega) (by omega) ⟨z0, z1⟩ gm_uk (by omega) (gm_tn (gm_ct0 _)) (fun ν okν hi hm hz1 => ?_)
        have ep : p + 1 + -1 = p := by omega
        rw [ep]
        have hm' : ∀ s, 0 ≤ s → s < 4096 → μ 73 s = 1 → ν 73 s = 1 := fun s s0 s1 hs => hm s s0 s1 (by rw [gm_uc (c := 73) (d := 74) (by decide)]; exact hs)
        have hi' : ∀ i, i < p + 1 → ν 74 i = μ 74 i := fun i hip => by rw [hi i hip, gm_un (by omega)]
        have hlt : gm_ct ν < gm_ct μ := gm_ctlt ⟨z0, z1⟩ hz0 hz1 (fun s s0 s1 hs => by
          have a := (ok.2 s s0 s1).1
          have b := hm' s s0 s1
          omega)
        refine ihu p st ν okν hp hpr hst (by rw [hi' p (by omega)]; exact e) hr (gm_tr hlt hu) (fun ν' ok' hi2 hm2 hz2 => ?_)
        exact k ν' ok' (fun i hip => by rw [hi2 i hip, hi' i (by omega)]) (fun s s0 s1 hs => hm2 s s0 s1 (hm' s s0 s1 hs)) hz2
