/-! the class: the tape -/
theorem pk_mem {μ n : fr_Me} {q : Int} (h5 : n 9 5 = q) (h9 : ∀ k, k ≠ 5 → n 9 k = μ 9 k) (hc : ∀ c, c ≠ 9 → n c = μ c) : n = fr_up μ 9 5 q := by
  funext c k
  by_cases e : c = 9
  · subst e
    by_cases ek : k = 5
    · subst ek
      rw [gm_uk]
      exact h5
    · rw [gm_un ek]
      exact h9 k ek
  · rw [gm_uc e, hc c e]
set_option maxRecDepth 20000 in
theorem kcX6_peek {l : Launch} {κ : fr_Ka} {μ : fr_Me} (hP : 0 ≤ μ 9 5 ∧ μ 9 5 ≤ μ 9 4 ∧ μ 9 4 ≤ 60) (hT : ∀ i, 0 ≤ i → i < 60 → 0 ≤ μ 10 i ∧ μ 10 i ≤ 1000)  : fr_C l κ fmX6_peek 1 [fr_r κ 9] μ (fr_Pi (fun z m => z = (if sp_skp (μ 10) (μ 9 4) (μ 9 5) < μ 9 4 then μ 10 (sp_skp (μ 10) (μ 9 4) (μ 9 5)) else 0) ∧ m = fr_up μ 9 5 (sp_skp (μ 10) (μ 9 4) (μ 9 5)))) := by
  obtain ⟨q1, q2, q3, q4⟩ := sp_skp_ok (μ 10) hP.2.1
  obtain ⟨q, hq⟩ : ∃ q, q = sp_skp (μ 10) (μ 9 4) (μ 9 5) := ⟨_, rfl⟩
  rw [← hq] at q1 q2 q3 q4
  refine fr_enter (by decide +kernel) (ls := [some (fr_r κ 9)]) rfl (Nat.le_of_ble_eq_true rfl) ?_
  refine fr_wk ?_ (ls := [some (fr_r κ 9)]) ⟨rfl, trivial⟩
  refine (fr_down (P := fun j : Nat => ∀ (n : fr_Me), (n 9 5 = μ 9 5 + (j : Int) ∧ (∀ k, k ≠ 5 → n 9 k = μ 9 k) ∧ ∀ c, c ≠ 9 → n c = μ c) → fr_A l κ fmX6_peek 1 (fr_Pi (fun z m => z = (if sp_skp (μ 10) (μ 9 4) (μ 9 5) < μ 9 4 then μ 10 (sp_skp (μ 10) (μ 9 4) (μ 9 5)) else 0) ∧ m = fr_up μ 9 5 (sp_skp (μ 10) (μ 9 4) (μ 9 5)))) 0 [some (fr_r κ 9)] [] n) (q - μ 9 5).toNat ?_ (fun j hj0 ih0 => ?_)) _ (⟨by omega, fun k _ => rfl, fun c _ => rfl⟩)
  · skip
    intro n hn
    have eq : n 9 5 = q := by have := hn.1; omega
    have e33 : n 9 5 < μ 9 4 → μ 10 (n 9 5) ≠ 32 := by rw [eq]; exact q4
    have e4 := hn.2.1 4 (by decide)
    have e5 := hn.1
    have e10 : n 10 (n 9 5) = μ 10 (n 9 5) := by rw [hn.2.2 10 (by decide)]
    have eT := hT (n 9 5)
    refine fr_al0 dX6_peek_0 ?_
    refine fr_geti (kz := 5) dX6_peek_1 flX6_28 ⟨by decide, by decide, rfl⟩ rfl rfl ?_
    refine fr_al0 dX6_peek_4 ?_
    refine fr_geti (kz := 4) dX6_peek_5 flX6_24 ⟨by decide, by decide, rfl⟩ rfl rfl ?_
    refine fr_icmp_ge (tgt := 38) dX6_peek_8 (by decide) (by omega) (by omega) (fun h1 => ?_) (fun h1 => ?_)
    · skip
      refine fr_al0 dX6_peek_38 ?_
      refine fr_geti (kz := 5) dX6_peek_39 flX6_28 ⟨by decide, by decide, rfl⟩ rfl rfl ?_
      refine fr_al0 dX6_peek_42 ?_
      refine fr_geti (kz := 4) dX6_peek_43 flX6_24 ⟨by decide, by decide, rfl⟩ rfl rfl ?_
      refine fr_icmp_ge (tgt := 61) dX6_peek_46 (by decide) (by omega) (by omega) (fun h2 => ?_) (fun h2 => ?_)
      · skip
        refine fr_iconst dX6_peek_61 ?_
        exact fr_iret dX6_peek_62 rfl (fr_pi ⟨by rw [← hq, ← eq]; first | (rw [if_pos (by omega)]; exact e10) | rw [if_neg (by omega)], by rw [← hq]; exact pk_mem eq hn.2.1 hn.2.2⟩)
      · skip
        refine fr_al0 dX6_peek_49 ?_
        refine fr_getr (cz := 10) dX6_peek_50 flX6_9 ⟨by decide, by decide, rfl⟩ rfl rfl ?_
        refine fr_al0 dX6_peek_53 ?_
        refine fr_geti (kz := 5) dX6_peek_54 flX6_28 ⟨by decide, by decide, rfl⟩ rfl rfl ?_
        refine fr_iald dX6_peek_57 ⟨by decide, by decide, rfl, by decide⟩ (by omega) (by omega) ?_
        refine fr_goto (tgt := 62) dX6_peek_58 (by decide) ?_
        exact fr_iret dX6_peek_62 rfl (fr_pi ⟨by rw [← hq, ← eq]; first | (rw [if_pos (by omega)]; exact e10) | rw [if_neg (by omega)], by rw [← hq]; exact pk_mem eq hn.2.1 hn.2.2⟩)
    · skip
      refine fr_al0 dX6_peek_11 ?_
      refine fr_getr (cz := 10) dX6_peek_12 flX6_9 ⟨by decide, by decide, rfl⟩ rfl rfl ?_
      refine fr_al0 dX6_peek_15 ?_
      refine fr_geti (kz := 5) dX6_peek_16 flX6_28 ⟨by decide, by decide, rfl⟩ rfl rfl ?_
      refine fr_iald dX6_peek_19 ⟨by decide, by decide, rfl, by decide⟩ (by omega) (by omega) ?_
      have eT2 := hT (n 9 5) (by omega) (by omega)
      refine fr_bipush dX6_peek_20 (by decide) ?_
      refine fr_icmp_ne (tgt := 38) dX6_peek_22 (by decide) (by omega) (by omega) (fun h3 => ?_) (fun h3 => ?_)
      · skip
        refine fr_al0 dX6_peek_38 ?_
        refine fr_geti (kz := 5) dX6_peek_39 flX6_28 ⟨by decide, by decide, rfl⟩ rfl rfl ?_
        refine fr_al0 dX6_peek_42 ?_
        refine fr_geti (kz := 4) dX6_peek_43 flX6_24 ⟨by decide, by decide, rfl⟩ rfl rfl ?_
        refine fr_icmp_ge (tgt := 61) dX6_peek_46 (by decide) (by omega) (by omega) (fun h4 => ?_) (fun h4 => ?_)
        · skip
          refine fr_iconst dX6_peek_61 ?_
          exact fr_iret dX6_peek_62 rfl (fr_pi ⟨by rw [← hq, ← eq]; first | (rw [if_pos (by omega)]; exact e10) | rw [if_neg (by omega)], by rw [← hq]; exact pk_mem eq hn.2.1 hn.2.2⟩)
        · skip
          refine fr_al0 dX6_peek_49 ?_
          refine fr_getr (cz := 10) dX6_peek_50 flX6_9 ⟨by decide, by decide, rfl⟩ rfl rfl ?_
          refine fr_al0 dX6_peek_53 ?_
          refine fr_geti (kz := 5) dX6_peek_54 flX6_28 ⟨by decide, by decide, rfl⟩ rfl rfl ?_
          refine fr_iald dX6_peek_57 ⟨by decide, by decide, rfl, by decide⟩ (by omega) (by omega) ?_
          refine fr_goto (tgt := 62) dX6_peek_58 (by decide) ?_
          exact fr_iret dX6_peek_62 rfl (fr_pi ⟨by rw [← hq, ← eq]; first | (rw [if_pos (by omega)]; exact e10) | rw [if_neg (by omega)], by rw [← hq]; exact pk_mem eq hn.2.1 hn.2.2⟩)
      · skip
        exfalso; omega
  · skip
    intro n hn
    have e32 := q3 (n 9 5) (by omega) (by omega)
    have e4 := hn.2.1 4 (by decide)
    have e5 := hn.1
    have e10 : n 10 (n 9 5) = μ 10 (n 9 5) := by rw [hn.2.2 10 (by decide)]
    have eT := hT (n 9 5)
    refine fr_al0 dX6_peek_0 ?_
    refine fr_geti (kz := 5) dX6_peek_1 flX6_28 ⟨by decide, by decide, rfl⟩ rfl rfl ?_
    refine fr_al0 dX6_peek_4 ?_
    refine fr_geti (kz := 4) dX6_peek_5 flX6_24 ⟨by decide, by decide, rfl⟩ rfl rfl ?_
    refine fr_icmp_ge (tgt := 38) dX6_peek_8 (by decide) (by omega) (by omega) (fun h5 => ?_) (fun h5 => ?_)
    · skip
      exfalso; omega
    · skip
      refine fr_al0 dX6_peek_11 ?_
      refine fr_getr (cz := 10) dX6_peek_12 flX6_9 ⟨by decide, by decide, rfl⟩ rfl rfl ?_
      refine fr_al0 dX6_peek_15 ?_
      refine fr_geti (kz := 5) dX6_peek_16 flX6_28 ⟨by decide, by decide, rfl⟩ rfl rfl ?_
      refine fr_iald dX6_peek_19 ⟨by decide, by decide, rfl, by decide⟩ (by omega) (by omega) ?_
      have eT2 := hT (n 9 5) (by omega) (by omega)
      refine fr_bipush dX6_peek_20 (by decide) ?_
      refine fr_icmp_ne (tgt := 38) dX6_peek_22 (by decide) (by omega) (by omega) (fun h6 => ?_) (fun h6 => ?_)
      · skip
        exfalso; omega
      · skip
        refine fr_al0 dX6_peek_25 ?_
        refine fr_dup dX6_peek_26 rfl ?_
        refine fr_geti (kz := 5) dX6_peek_27 flX6_28 ⟨by decide, by decide, rfl⟩ rfl rfl ?_
        refine fr_iconst dX6_peek_30 ?_
        refine fr_iadd dX6_peek_31 ?_
        refine fr_put (kz := 5) dX6_peek_32 fpX6_28 ⟨by decide, by decide, rfl⟩ rfl rfl (fun h => by cases h) ?_
        refine fr_goto (tgt := 0) dX6_peek_35 (by decide) ?_
        exact fr_wk (ih0 _ (⟨by rw [gm_uk]; omega, fun k hk => (gm_un hk).trans (hn.2.1 k hk), fun c hc => (gm_uc hc).trans (hn.2.2 c hc)⟩)) ⟨rfl, trivial⟩
